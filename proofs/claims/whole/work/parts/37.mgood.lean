/-! the reference: good ones -/
def pourP (rs cs : List Int32) (i : Nat) : List Int32 × Nat × Nat := pourF rs 0 i (cs, 0, 0)
theorem pourF_sr {rs : List Int32} : ∀ (i c : Nat) (q : List Int32 × Nat × Nat), pourF rs c (i + 1) q = pour1 rs (c + i) (pourF rs c i q)
  | 0, _, _ => rfl
  | i + 1, c, q => by
    rw [pourF, pourF_sr i (c + 1), pourF, show c + 1 + i = c + (i + 1) by omega]
theorem pourP_s (rs cs : List Int32) (i : Nat) : pourP rs cs (i + 1) = pour1 rs i (pourP rs cs i) := by
  unfold pourP
  rw [pourF_sr, Nat.zero_add]
section PP
variable {rs cs : List Int32}
theorem pourP_out {c : Nat} : ∀ i, i ≤ c → (pourP rs cs i).1.getD c 0 = cs.getD c 0
  | 0, _ => rfl
  | i + 1, h => by
    rw [pourP_s]
    unfold pour1
    split
    · simp only
      rw [getD_set, if_neg (by omega), pourP_out i (by omega)]
    · exact pourP_out i (by omega)
theorem pourP_nx (h0 : 0 < rs.length) : ∀ i, (pourP rs cs i).2.1 = (pourP rs cs i).2.2 % rs.length
  | 0 => by
    show 0 = 0 % rs.length
    rw [Nat.zero_mod]
  | i + 1 => by
    rw [pourP_s]
    have ih := pourP_nx h0 i
    unfold pour1
    split
    · simp only
      have hlt := Nat.mod_lt (pourP rs cs i).2.2 h0
      rw [ih]
      split
      · rename_i h1
        rw [Nat.add_mod, show (pourP rs cs i).2.2 % rs.length = rs.length - 1 by omega]
        by_cases h2 : rs.length = 1
        · rw [h2]
        · rw [Nat.mod_eq_of_lt (show 1 < rs.length by omega), show rs.length - 1 + 1 = rs.length by omega, Nat.mod_self]
      · rename_i h1
        rw [Nat.add_mod, Nat.mod_eq_of_lt (show 1 < rs.length by omega), Nat.mod_eq_of_lt (show (pourP rs cs i).2.2 % rs.length + 1 < rs.length by omega)]
    · exact ih
theorem pourP_n : ∀ i, (pourP rs cs i).2.2 ≤ i
  | 0 => Nat.le_refl 0
  | i + 1 => by
    rw [pourP_s]
    have := pourP_n i
    unfold pour1
    split
    · simp only; omega
    · omega
theorem pourP_len (i : Nat) : (pourP rs cs i).1.length = cs.length := pourF_len i 0 _
theorem pourP_keep {c : Nat} (i : Nat) (h : c < i) : (pourP rs cs (i + 1)).1.getD c 0 = (pourP rs cs i).1.getD c 0 := by
  rw [pourP_s]
  unfold pour1
  split
  · simp only
    rw [getD_set, if_neg (by omega)]
  · rfl
end PP
def goodB (g : gG) (fl : List Int32) : Bool := (g.2.2.2.1.all fun w => decide (cnt (sh g.1 fl w) (8 * g.1 * g.1) = 0)) && (g.2.2.1.all fun w => decide (cnt (sh g.1 fl w) (8 * g.1 * g.1) = if pal w = true then 2 else 1))
def FG (g : gG) (X : mX) (A B C : Nat) (cs _ : List Int32) : mX := if goodB g (pourP g.2.2.2.2 cs (g.1 * g.1)).1 = true then (if X.2.2.2.1 = 0 then (X.1, X.2.1, X.2.2.1, X.2.2.2.1 + 1, [nI A, nI B, nI C]) else (X.1, X.2.1, X.2.2.1, X.2.2.2.1 + 1, X.2.2.2.2)) else X
section MD9
variable {h h' h0 : aH} {g g' i0 i1 : gG} {P P' S I PD SQ CV FP : List Int32} {a b : Bool} {n l m k t f : Int32} {lo hi d : Nat} {F : mX → Nat → Nat → Nat → List Int32 → List Int32 → mX} {X : mX} {cs cv : List Int32}
/-- fillRest -/
theorem o108 (G : GW g) (E : Enc (fun j => S.getD j 0) g) (M : ML h S I PD SQ CV FP a b n l m k t f) (A : SecAt SQ 3 cs) : ∃ h' SQ', go (d + 1) 108 0 [.ref 96, aU, aU, aU] [] h = some (some (.int (nI (pourP g.2.2.2.2 cs (g.1 * g.1)).2.2)), h') ∧ ML h' S I PD SQ' CV FP a b n l m k t f ∧ Low SQ SQ' 4 ∧ (∀ c, c < g.1 * g.1 → SQ'.getD (64 + c) 0 = (pourP g.2.2.2.2 cs (g.1 * g.1)).1.getD c 0) ∧ Off h h' 96 104 := by
  have hq := (sq_lt G.1.1).1
  have h9 := G.1.2.2.2.2.2.2.1
  have h1r := G.1.2.2.2.2.2.1
  have hl16 := A.1
  have lp := go_iter (d := d + 1) (M := 108) (pc := 4) (fun i ls h' => ∃ SQ' l3, ls = [.ref 96, .int (nI (pourP g.2.2.2.2 cs i).2.2), .int (nI i), l3] ∧ ML h' S I PD SQ' CV FP a b n l m k t f ∧ Low SQ SQ' 4 ∧ (∀ c, c < i → SQ'.getD (64 + c) 0 = (pourP g.2.2.2.2 cs i).1.getD c 0) ∧ Off h h' 96 104) (g.1 * g.1) (by
    rintro i ls h2 hi ⟨SQ2, l3, rfl, M2, L1, q1, O2⟩
    have e66 := o66 (d := d) M2 E.s.1
    have n1 : ¬ nI (g.1 * g.1) ≤ nI i := nI_nle2 (by omega) (by omega) hi
    have x48 : (48 : Int32) + nI i = nI (48 + i) := xI 48 i
    have x64 : (64 : Int32) + nI i = nI (64 + i) := xI 64 i
    have r48 := M2.r101 (j := 48 + i) (by omega)
    rw [show 48 + i = 16 * 3 + i from rfl, L1 _ (by omega), A.2 i (by omega), ← pourP_out (rs := g.2.2.2.2) (cs := cs) i (Nat.le_refl i)] at r48
    have hnx := pourP_nx (rs := g.2.2.2.2) (cs := cs) h1r i
    have hn := pourP_n (rs := g.2.2.2.2) (cs := cs) i
    have hlen := pourP_len (rs := g.2.2.2.2) (cs := cs) i
    have ps := pourP_s g.2.2.2.2 cs i
    have kp := fun c (hc : c < i) => pourP_keep (rs := g.2.2.2.2) (cs := cs) i hc
    generalize pourP g.2.2.2.2 cs i = q at *
    by_cases hz : q.1.getD i 0 = 0
    · have hmod := Nat.mod_lt q.2.2 h1r
      have r26 := M2.r97 (j := 26) (by decide)
      rw [E.s.2.2.1.1] at r26
      have r26' : ia h2 97 26 = some (nI g.2.2.2.2.length) := r26
      have ny : ¬ nI g.2.2.2.2.length = 0 := nI_ne0 h1r (by omega)
      have xr : nI q.2.2 - nI q.2.2 / nI g.2.2.2.2.length * nI g.2.2.2.2.length = nI (q.2.2 % g.2.2.2.2.length) := pk_rem (by omega) h1r (by omega)
      have x17 : (17 : Int32) + nI (q.2.2 % g.2.2.2.2.length) = nI (17 + q.2.2 % g.2.2.2.2.length) := xI 17 _
      have r17 := M2.r97 (j := 17 + q.2.2 % g.2.2.2.2.length) (by omega)
      rw [E.s.2.2.1.2 _ hmod] at r17
      obtain ⟨h3, w3, M3, O3⟩ := M2.w101 (j := 64 + i) (g.2.2.2.2.getD (q.2.2 % g.2.2.2.2.length) 0) (by omega)
      have ps' : pourP g.2.2.2.2 cs (i + 1) = (q.1.set i (g.2.2.2.2.getD q.2.1 0), (if g.2.2.2.2.length ≤ q.2.1 + 1 then 0 else q.2.1 + 1), q.2.2 + 1) := by
        rw [ps, pour1, if_pos hz]
      refine ⟨[.ref 96, .int (nI (q.2.2 + 1)), .int (nI (i + 1)), .int (g.2.2.2.2.getD (q.2.2 % g.2.2.2.2.length) 0)], h3, ?_, _, _, by rw [ps'], M3, fun j hj => by rw [getD_set, if_neg (by omega)]; exact L1 j hj, fun c hc => ?_, O2.trans O3⟩
      · rw [ee_108_4]
        simp only [ee_108_0, ee_108_1, ee_108_2, ee_108_3, ee_108_5, ee_108_5N, ee_108_6, ee_108_9, ee_108_12, ee_108_12N, ee_108_13, ee_108_16, ee_108_18, ee_108_19, ee_108_20, ee_108_21, ee_108_22, ee_108_23, ee_108_26, ee_108_26N, ee_108_27, ee_108_30, ee_108_32, ee_108_33, ee_108_33N, ee_108_34, ee_108_37, ee_108_39, ee_108_40, ee_108_41, ee_108_42, ee_108_43, ee_108_44, ee_108_47, ee_108_47N, ee_108_48, ee_108_51, ee_108_53, ee_108_54, ee_108_55, ee_108_56, ee_108_57, ee_108_60, ee_108_63, ee_108_64, M2.F, KK, e66, n1, x48, r48, hz, r26', ny, xr, x17, r17, x64, w3, nI_1, Option.bind_some, Option.toList, List.cons_append, List.nil_append, List.append_nil, if_true, if_false, Bool.false_eq_true, eq_self, not_true_eq_false, not_false_eq_true]
      · rw [ps', getD_set]
        by_cases hc2 : c = i
        · subst hc2
          rw [if_pos ⟨rfl, by rw [M2.2.2.2.2.2.1.2]; omega⟩, getD_set, if_pos ⟨rfl, by omega⟩, hnx]
        · rw [if_neg (by omega), getD_set, if_neg (by omega)]; exact q1 c (by omega)
    · obtain ⟨h3, w3, M3, O3⟩ := M2.w101 (j := 64 + i) (q.1.getD i 0) (by omega)
      have ps' : pourP g.2.2.2.2 cs (i + 1) = q := by rw [ps, pour1, if_neg hz]
      refine ⟨[.ref 96, .int (nI q.2.2), .int (nI (i + 1)), .int (q.1.getD i 0)], h3, ?_, _, _, by rw [ps'], M3, fun j hj => by rw [getD_set, if_neg (by omega)]; exact L1 j hj, fun c hc => ?_, O2.trans O3⟩
      · rw [ee_108_4]
        simp only [ee_108_0, ee_108_1, ee_108_2, ee_108_3, ee_108_5, ee_108_5N, ee_108_6, ee_108_9, ee_108_12, ee_108_12N, ee_108_13, ee_108_16, ee_108_18, ee_108_19, ee_108_20, ee_108_21, ee_108_22, ee_108_23, ee_108_26, ee_108_26N, ee_108_27, ee_108_30, ee_108_32, ee_108_33, ee_108_33N, ee_108_34, ee_108_37, ee_108_39, ee_108_40, ee_108_41, ee_108_42, ee_108_43, ee_108_44, ee_108_47, ee_108_47N, ee_108_48, ee_108_51, ee_108_53, ee_108_54, ee_108_55, ee_108_56, ee_108_57, ee_108_60, ee_108_63, ee_108_64, M2.F, KK, e66, n1, x48, r48, hz, x64, w3, nI_1, Option.bind_some, Option.toList, List.cons_append, List.nil_append, List.append_nil, if_true, if_false, Bool.false_eq_true, eq_self, not_true_eq_false, not_false_eq_true]
      · rw [ps', getD_set]
        by_cases hc2 : c = i
        · subst hc2
          rw [if_pos ⟨rfl, by rw [M2.2.2.2.2.2.1.2]; omega⟩]
        · rw [if_neg (by omega)]; exact q1 c (by omega))
  obtain ⟨ls, h3, e3, SQ3, l3, rfl, M3, L1, q1, O3⟩ := lp [.ref 96, .int (nI 0), .int (nI 0), aU] h ⟨SQ, aU, rfl, M, Low.rf, fun c hc => absurd hc (Nat.not_lt_zero c), Off.rf⟩
  refine ⟨h3, SQ3, ?_, M3, L1, q1, O3⟩
  rw [nI_0] at e3
  have e66 := o66 (d := d) M3 E.s.1
  have nn : nI (g.1 * g.1) ≤ nI (g.1 * g.1) := Int32.le_refl _
  simp only [ee_108_0, ee_108_1, ee_108_2, ee_108_3, ee_108_5, ee_108_5N, ee_108_6, ee_108_9, ee_108_12, ee_108_12N, ee_108_13, ee_108_16, ee_108_18, ee_108_19, ee_108_20, ee_108_21, ee_108_22, ee_108_23, ee_108_26, ee_108_26N, ee_108_27, ee_108_30, ee_108_32, ee_108_33, ee_108_33N, ee_108_34, ee_108_37, ee_108_39, ee_108_40, ee_108_41, ee_108_42, ee_108_43, ee_108_44, ee_108_47, ee_108_47N, ee_108_48, ee_108_51, ee_108_53, ee_108_54, ee_108_55, ee_108_56, ee_108_57, ee_108_60, ee_108_63, ee_108_64, e3, Option.bind_some, Option.toList, List.cons_append, List.nil_append, List.append_nil, if_true, if_false, Bool.false_eq_true, eq_self, not_true_eq_false, not_false_eq_true]
  rw [ee_108_4]
  simp only [ee_108_0, ee_108_1, ee_108_2, ee_108_3, ee_108_5, ee_108_5N, ee_108_6, ee_108_9, ee_108_12, ee_108_12N, ee_108_13, ee_108_16, ee_108_18, ee_108_19, ee_108_20, ee_108_21, ee_108_22, ee_108_23, ee_108_26, ee_108_26N, ee_108_27, ee_108_30, ee_108_32, ee_108_33, ee_108_33N, ee_108_34, ee_108_37, ee_108_39, ee_108_40, ee_108_41, ee_108_42, ee_108_43, ee_108_44, ee_108_47, ee_108_47N, ee_108_48, ee_108_51, ee_108_53, ee_108_54, ee_108_55, ee_108_56, ee_108_57, ee_108_60, ee_108_63, ee_108_64, M3.F, e66, nn, Option.bind_some, Option.toList, List.cons_append, List.nil_append, List.append_nil, if_true, if_false, Bool.false_eq_true, eq_self, not_true_eq_false, not_false_eq_true]
/-- isSame -/
theorem palB_s (w : List Int32) (i : Nat) : palB w 0 (i + 1) = (palB w 0 i && decide (w.getD i 0 = w.getD (w.length - 1 - i) 0)) := by
  unfold palB
  rw [List.range'_1_concat, List.all_append, List.all_cons, List.all_nil, Bool.and_true, Nat.zero_add]
theorem o109 {j : Nat} {w : List Int32} (W : WordAt S 0 j w) (M : ML h S I PD SQ CV FP a b n l m k t f) : go (d + 1) 109 0 [.ref 96, .int (nI j), aU, aU, aU] [] h = some (some (.int (bI (pal w))), h) := by
  have hl4 := W.1.2.2.2
  have e71 := W.long (d := d) M
  rw [nI_0] at e71
  have lp : go (d + 1) 109 12 [.ref 96, .int (nI j), .int (nI w.length), .int (bI (palB w 0 0)), .int (nI 0)] [] h = go (d + 1) 109 12 [.ref 96, .int (nI j), .int (nI w.length), .int (bI (palB w 0 w.length)), .int (nI w.length)] [] h := by
    refine go_loop (fun i => [.ref 96, .int (nI j), .int (nI w.length), .int (bI (palB w 0 i)), .int (nI i)]) (fun _ => h) w.length ?_
    intro i hi
    have n1 : ¬ nI w.length ≤ nI i := nI_nle2 (by omega) (by omega) hi
    have x1 : nI w.length - 1 - nI i = nI (w.length - 1 - i) := by
      rw [show (1 : Int32) = nI 1 by decide, pk_sub (by omega), pk_sub (by omega)]
    have e1 := W.let (d := d) (i := i) M hi
    have e2 := W.let (d := d) (i := w.length - 1 - i) M (by omega)
    rw [nI_0] at e1 e2
    rw [ee_109_12, palB_s]
    by_cases hb : palB w 0 i = true
    · rw [hb, bI_t]
      by_cases hz : w.getD i 0 = w.getD (w.length - 1 - i) 0
      · rw [decide_eq_true hz, Bool.and_self, bI_t]
        simp only [ee_109_0, ee_109_0N, ee_109_1, ee_109_2, ee_109_3, ee_109_6, ee_109_7, ee_109_8, ee_109_9, ee_109_10, ee_109_14, ee_109_15, ee_109_18, ee_109_19, ee_109_22, ee_109_22N, ee_109_23, ee_109_24, ee_109_25, ee_109_27, ee_109_30, ee_109_30N, ee_109_31, ee_109_32, ee_109_33, ee_109_34, ee_109_35, ee_109_36, ee_109_38, ee_109_39, ee_109_42, ee_109_45, ee_109_46, ee_109_49, ee_109_50, ee_109_51, ee_109_54, ee_109_57, ee_109_58, ee_109_58T, M.F, KK, n1, x1, e1, e2, hz, nI_1, Option.bind_some, Option.toList, List.cons_append, List.nil_append, List.append_nil, if_true, if_false, Bool.false_eq_true, eq_self, not_true_eq_false, not_false_eq_true]
      · rw [decide_eq_false hz, Bool.and_false, bI_f]
        simp only [ee_109_0, ee_109_0N, ee_109_1, ee_109_2, ee_109_3, ee_109_6, ee_109_7, ee_109_8, ee_109_9, ee_109_10, ee_109_14, ee_109_15, ee_109_18, ee_109_19, ee_109_22, ee_109_22N, ee_109_23, ee_109_24, ee_109_25, ee_109_27, ee_109_30, ee_109_30N, ee_109_31, ee_109_32, ee_109_33, ee_109_34, ee_109_35, ee_109_36, ee_109_38, ee_109_39, ee_109_42, ee_109_45, ee_109_46, ee_109_49, ee_109_50, ee_109_51, ee_109_54, ee_109_57, ee_109_58, ee_109_58T, M.F, KK, n1, x1, e1, e2, hz, nI_1, Option.bind_some, Option.toList, List.cons_append, List.nil_append, List.append_nil, if_true, if_false, Bool.false_eq_true, eq_self, not_true_eq_false, not_false_eq_true]
    · have hb' : palB w 0 i = false := by simpa using hb
      rw [hb', Bool.false_and, bI_f]
      simp only [ee_109_0, ee_109_0N, ee_109_1, ee_109_2, ee_109_3, ee_109_6, ee_109_7, ee_109_8, ee_109_9, ee_109_10, ee_109_14, ee_109_15, ee_109_18, ee_109_19, ee_109_22, ee_109_22N, ee_109_23, ee_109_24, ee_109_25, ee_109_27, ee_109_30, ee_109_30N, ee_109_31, ee_109_32, ee_109_33, ee_109_34, ee_109_35, ee_109_36, ee_109_38, ee_109_39, ee_109_42, ee_109_45, ee_109_46, ee_109_49, ee_109_50, ee_109_51, ee_109_54, ee_109_57, ee_109_58, ee_109_58T, M.F, KK, n1, nI_1, Option.bind_some, Option.toList, List.cons_append, List.nil_append, List.append_nil, if_true, if_false, Bool.false_eq_true, eq_self, not_true_eq_false, not_false_eq_true]
  rw [show palB w 0 0 = true from rfl, bI_t, nI_0] at lp
  have nn : nI w.length ≤ nI w.length := Int32.le_refl _
  simp only [ee_109_0, ee_109_0N, ee_109_1, ee_109_2, ee_109_3, ee_109_6, ee_109_7, ee_109_8, ee_109_9, ee_109_10, ee_109_14, ee_109_15, ee_109_18, ee_109_19, ee_109_22, ee_109_22N, ee_109_23, ee_109_24, ee_109_25, ee_109_27, ee_109_30, ee_109_30N, ee_109_31, ee_109_32, ee_109_33, ee_109_34, ee_109_35, ee_109_36, ee_109_38, ee_109_39, ee_109_42, ee_109_45, ee_109_46, ee_109_49, ee_109_50, ee_109_51, ee_109_54, ee_109_57, ee_109_58, ee_109_58T, M.F, e71, lp, Option.bind_some, Option.toList, List.cons_append, List.nil_append, List.append_nil, if_true, if_false, Bool.false_eq_true, eq_self, not_true_eq_false, not_false_eq_true]
  rw [ee_109_12]
  unfold pal
  by_cases hb : palB w 0 w.length = true
  · rw [hb, bI_t]
    simp only [ee_109_0, ee_109_0N, ee_109_1, ee_109_2, ee_109_3, ee_109_6, ee_109_7, ee_109_8, ee_109_9, ee_109_10, ee_109_14, ee_109_15, ee_109_18, ee_109_19, ee_109_22, ee_109_22N, ee_109_23, ee_109_24, ee_109_25, ee_109_27, ee_109_30, ee_109_30N, ee_109_31, ee_109_32, ee_109_33, ee_109_34, ee_109_35, ee_109_36, ee_109_38, ee_109_39, ee_109_42, ee_109_45, ee_109_46, ee_109_49, ee_109_50, ee_109_51, ee_109_54, ee_109_57, ee_109_58, ee_109_58T, nn, Option.bind_some, Option.toList, List.cons_append, List.nil_append, List.append_nil, if_true, if_false, Bool.false_eq_true, eq_self, not_true_eq_false, not_false_eq_true]
  · have hb' : palB w 0 w.length = false := by simpa using hb
    rw [hb', bI_f]
    simp only [ee_109_0, ee_109_0N, ee_109_1, ee_109_2, ee_109_3, ee_109_6, ee_109_7, ee_109_8, ee_109_9, ee_109_10, ee_109_14, ee_109_15, ee_109_18, ee_109_19, ee_109_22, ee_109_22N, ee_109_23, ee_109_24, ee_109_25, ee_109_27, ee_109_30, ee_109_30N, ee_109_31, ee_109_32, ee_109_33, ee_109_34, ee_109_35, ee_109_36, ee_109_38, ee_109_39, ee_109_42, ee_109_45, ee_109_46, ee_109_49, ee_109_50, ee_109_51, ee_109_54, ee_109_57, ee_109_58, ee_109_58T, nn, Option.bind_some, Option.toList, List.cons_append, List.nil_append, List.append_nil, if_true, if_false, Bool.false_eq_true, eq_self, not_true_eq_false, not_false_eq_true]
/-- isGood -/
theorem o110_w {fl : List Int32} (G : GW g) (E : Enc (fun j => S.getD j 0) g) (M : ML h S I PD SQ CV FP a b n l m k t f) (hsq : ∀ c, c < g.1 * g.1 → SQ.getD (64 + c) 0 = fl.getD c 0) : ∀ r j, j + r = g.2.2.1.length → go (d + 6) 110 39 [.ref 96, .int (nI j)] [] h = some (some (.int (bI ((g.2.2.1.drop j).all fun w => decide (cnt (sh g.1 fl w) (8 * g.1 * g.1) = if pal w = true then 2 else 1)))), h)
  | 0, j, hj => by
    have r27 := M.r97 (j := 27) (by decide)
    rw [E.s.2.2.2.1.1] at r27
    have r27' : ia h 97 27 = some (nI g.2.2.1.length) := r27
    have nn : nI g.2.2.1.length ≤ nI j := by rw [← hj]; exact Int32.le_refl _
    rw [ee_110_39, List.drop_eq_nil_of_le (by omega), List.all_nil, bI_t]
    simp only [ee_110_0, ee_110_0N, ee_110_1, ee_110_4, ee_110_5, ee_110_6, ee_110_8, ee_110_8N, ee_110_9, ee_110_12, ee_110_14, ee_110_15, ee_110_18, ee_110_18N, ee_110_19, ee_110_21, ee_110_22, ee_110_23, ee_110_26, ee_110_29, ee_110_30, ee_110_30T, ee_110_31, ee_110_34, ee_110_37, ee_110_38, ee_110_40, ee_110_40N, ee_110_41, ee_110_44, ee_110_46, ee_110_47, ee_110_50, ee_110_50N, ee_110_51, ee_110_53, ee_110_54, ee_110_55, ee_110_58, ee_110_58N, ee_110_59, ee_110_60, ee_110_63, ee_110_66, ee_110_67, ee_110_70, ee_110_71, ee_110_74, ee_110_75, ee_110_75T, ee_110_76, ee_110_79, ee_110_82, ee_110_83, ee_110_83T, M.F, r27', nn, Option.bind_some, Option.toList, List.cons_append, List.nil_append, List.append_nil, if_true, if_false, Bool.false_eq_true, eq_self, not_true_eq_false, not_false_eq_true]
  | r + 1, j, hj => by
    have h3 := G.2.2.1
    have hq := (sq_lt G.1.1).2
    have r27 := M.r97 (j := 27) (by decide)
    rw [E.s.2.2.2.1.1] at r27
    have r27' : ia h 97 27 = some (nI g.2.2.1.length) := r27
    have n1 : ¬ nI g.2.2.1.length ≤ nI j := nI_nle2 (by omega) (by omega) (by omega)
    have W := E.w0 G (show j < g.2.2.1.length by omega)
    have e93 := o93 (d := d) (fr := 64) G.1.1 (by decide) hsq W M E.s.1
    have e93' : go (d + 5) 93 0 [.ref 96, .int 64, .int 0, .int (nI j), aU, aU] [] h = some (some (.int (nI (cnt (sh g.1 fl (g.2.2.1.getD j [])) (8 * g.1 * g.1)))), h) := e93
    have e109 := o109 (d := d + 4) W M
    have e := o110_w G E M hsq r (j + 1) (by omega)
    have hcl := cnt_le (sh g.1 fl (g.2.2.1.getD j [])) (8 * g.1 * g.1)
    rw [ee_110_39, drop_k (show j < g.2.2.1.length by omega), List.all_cons]
    generalize g.2.2.1.getD j [] = w at *
    generalize cnt (sh g.1 fl w) (8 * g.1 * g.1) = N at *
    by_cases hp : pal w = true
    · rw [hp, bI_t] at e109
      by_cases hN : N = 2
      · have c : nI N = 2 := by rw [hN]; rfl
        rw [decide_eq_true (by rw [if_pos hp]; exact hN), Bool.true_and]
        simp only [ee_110_0, ee_110_0N, ee_110_1, ee_110_4, ee_110_5, ee_110_6, ee_110_8, ee_110_8N, ee_110_9, ee_110_12, ee_110_14, ee_110_15, ee_110_18, ee_110_18N, ee_110_19, ee_110_21, ee_110_22, ee_110_23, ee_110_26, ee_110_29, ee_110_30, ee_110_30T, ee_110_31, ee_110_34, ee_110_37, ee_110_38, ee_110_40, ee_110_40N, ee_110_41, ee_110_44, ee_110_46, ee_110_47, ee_110_50, ee_110_50N, ee_110_51, ee_110_53, ee_110_54, ee_110_55, ee_110_58, ee_110_58N, ee_110_59, ee_110_60, ee_110_63, ee_110_66, ee_110_67, ee_110_70, ee_110_71, ee_110_74, ee_110_75, ee_110_75T, ee_110_76, ee_110_79, ee_110_82, ee_110_83, ee_110_83T, M.F, KK, r27', n1, e93', e109, c, nI_1, e, Option.bind_some, Option.toList, List.cons_append, List.nil_append, List.append_nil, if_true, if_false, Bool.false_eq_true, eq_self, not_true_eq_false, not_false_eq_true]
      · have c : ¬ nI N = 2 := by rw [show (2 : Int32) = nI 2 by decide, nI_eq (by omega) (by omega)]; exact hN
        rw [decide_eq_false (by rw [if_pos hp]; exact hN), Bool.false_and, bI_f]
        simp only [ee_110_0, ee_110_0N, ee_110_1, ee_110_4, ee_110_5, ee_110_6, ee_110_8, ee_110_8N, ee_110_9, ee_110_12, ee_110_14, ee_110_15, ee_110_18, ee_110_18N, ee_110_19, ee_110_21, ee_110_22, ee_110_23, ee_110_26, ee_110_29, ee_110_30, ee_110_30T, ee_110_31, ee_110_34, ee_110_37, ee_110_38, ee_110_40, ee_110_40N, ee_110_41, ee_110_44, ee_110_46, ee_110_47, ee_110_50, ee_110_50N, ee_110_51, ee_110_53, ee_110_54, ee_110_55, ee_110_58, ee_110_58N, ee_110_59, ee_110_60, ee_110_63, ee_110_66, ee_110_67, ee_110_70, ee_110_71, ee_110_74, ee_110_75, ee_110_75T, ee_110_76, ee_110_79, ee_110_82, ee_110_83, ee_110_83T, M.F, KK, r27', n1, e93', e109, c, Option.bind_some, Option.toList, List.cons_append, List.nil_append, List.append_nil, if_true, if_false, Bool.false_eq_true, eq_self, not_true_eq_false, not_false_eq_true]
    · have hp' : pal w = false := by simpa using hp
      rw [hp', bI_f] at e109
      by_cases hN : N = 1
      · have c : nI N = 1 := by rw [hN]; rfl
        rw [decide_eq_true (by rw [if_neg hp]; exact hN), Bool.true_and]
        simp only [ee_110_0, ee_110_0N, ee_110_1, ee_110_4, ee_110_5, ee_110_6, ee_110_8, ee_110_8N, ee_110_9, ee_110_12, ee_110_14, ee_110_15, ee_110_18, ee_110_18N, ee_110_19, ee_110_21, ee_110_22, ee_110_23, ee_110_26, ee_110_29, ee_110_30, ee_110_30T, ee_110_31, ee_110_34, ee_110_37, ee_110_38, ee_110_40, ee_110_40N, ee_110_41, ee_110_44, ee_110_46, ee_110_47, ee_110_50, ee_110_50N, ee_110_51, ee_110_53, ee_110_54, ee_110_55, ee_110_58, ee_110_58N, ee_110_59, ee_110_60, ee_110_63, ee_110_66, ee_110_67, ee_110_70, ee_110_71, ee_110_74, ee_110_75, ee_110_75T, ee_110_76, ee_110_79, ee_110_82, ee_110_83, ee_110_83T, M.F, KK, r27', n1, e93', e109, c, nI_1, e, Option.bind_some, Option.toList, List.cons_append, List.nil_append, List.append_nil, if_true, if_false, Bool.false_eq_true, eq_self, not_true_eq_false, not_false_eq_true]
      · have c : ¬ nI N = 1 := by rw [show (1 : Int32) = nI 1 by decide, nI_eq (by omega) (by omega)]; exact hN
        rw [decide_eq_false (by rw [if_neg hp]; exact hN), Bool.false_and, bI_f]
        simp only [ee_110_0, ee_110_0N, ee_110_1, ee_110_4, ee_110_5, ee_110_6, ee_110_8, ee_110_8N, ee_110_9, ee_110_12, ee_110_14, ee_110_15, ee_110_18, ee_110_18N, ee_110_19, ee_110_21, ee_110_22, ee_110_23, ee_110_26, ee_110_29, ee_110_30, ee_110_30T, ee_110_31, ee_110_34, ee_110_37, ee_110_38, ee_110_40, ee_110_40N, ee_110_41, ee_110_44, ee_110_46, ee_110_47, ee_110_50, ee_110_50N, ee_110_51, ee_110_53, ee_110_54, ee_110_55, ee_110_58, ee_110_58N, ee_110_59, ee_110_60, ee_110_63, ee_110_66, ee_110_67, ee_110_70, ee_110_71, ee_110_74, ee_110_75, ee_110_75T, ee_110_76, ee_110_79, ee_110_82, ee_110_83, ee_110_83T, M.F, KK, r27', n1, e93', e109, c, Option.bind_some, Option.toList, List.cons_append, List.nil_append, List.append_nil, if_true, if_false, Bool.false_eq_true, eq_self, not_true_eq_false, not_false_eq_true]
theorem o110_b {fl : List Int32} (G : GW g) (E : Enc (fun j => S.getD j 0) g) (M : ML h S I PD SQ CV FP a b n l m k t f) (hsq : ∀ c, c < g.1 * g.1 → SQ.getD (64 + c) 0 = fl.getD c 0) : ∀ r j, j + r = g.2.2.2.1.length → go (d + 6) 110 7 [.ref 96, .int (nI j)] [] h = some (some (.int (bI (((g.2.2.2.1.drop j).all fun w => decide (cnt (sh g.1 fl w) (8 * g.1 * g.1) = 0)) && (g.2.2.1.all fun w => decide (cnt (sh g.1 fl w) (8 * g.1 * g.1) = if pal w = true then 2 else 1))))), h)
  | 0, j, hj => by
    have r28 := M.r97 (j := 28) (by decide)
    rw [E.s.2.2.2.1.2] at r28
    have r28' : ia h 97 28 = some (nI g.2.2.2.1.length) := r28
    have nn : nI g.2.2.2.1.length ≤ nI j := by rw [← hj]; exact Int32.le_refl _
    have e := o110_w (d := d) G E M hsq g.2.2.1.length 0 (by omega)
    rw [nI_0, List.drop_zero] at e
    rw [ee_110_7, List.drop_eq_nil_of_le (by omega), List.all_nil, Bool.true_and]
    simp only [ee_110_0, ee_110_0N, ee_110_1, ee_110_4, ee_110_5, ee_110_6, ee_110_8, ee_110_8N, ee_110_9, ee_110_12, ee_110_14, ee_110_15, ee_110_18, ee_110_18N, ee_110_19, ee_110_21, ee_110_22, ee_110_23, ee_110_26, ee_110_29, ee_110_30, ee_110_30T, ee_110_31, ee_110_34, ee_110_37, ee_110_38, ee_110_40, ee_110_40N, ee_110_41, ee_110_44, ee_110_46, ee_110_47, ee_110_50, ee_110_50N, ee_110_51, ee_110_53, ee_110_54, ee_110_55, ee_110_58, ee_110_58N, ee_110_59, ee_110_60, ee_110_63, ee_110_66, ee_110_67, ee_110_70, ee_110_71, ee_110_74, ee_110_75, ee_110_75T, ee_110_76, ee_110_79, ee_110_82, ee_110_83, ee_110_83T, M.F, r28', nn, e, Option.bind_some, Option.toList, List.cons_append, List.nil_append, List.append_nil, if_true, if_false, Bool.false_eq_true, eq_self, not_true_eq_false, not_false_eq_true]
  | r + 1, j, hj => by
    have h3 := G.2.2.2
    have hq := (sq_lt G.1.1).2
    have r28 := M.r97 (j := 28) (by decide)
    rw [E.s.2.2.2.1.2] at r28
    have r28' : ia h 97 28 = some (nI g.2.2.2.1.length) := r28
    have n1 : ¬ nI g.2.2.2.1.length ≤ nI j := nI_nle2 (by omega) (by omega) (by omega)
    have W := E.w1 G (show j < g.2.2.2.1.length by omega)
    have e93 := o93 (d := d) (fr := 64) G.1.1 (by decide) hsq W M E.s.1
    have e93' : go (d + 5) 93 0 [.ref 96, .int 64, .int 1, .int (nI j), aU, aU] [] h = some (some (.int (nI (cnt (sh g.1 fl (g.2.2.2.1.getD j [])) (8 * g.1 * g.1)))), h) := e93
    have e := o110_b G E M hsq r (j + 1) (by omega)
    have hcl := cnt_le (sh g.1 fl (g.2.2.2.1.getD j [])) (8 * g.1 * g.1)
    rw [ee_110_7, drop_k (show j < g.2.2.2.1.length by omega), List.all_cons]
    generalize g.2.2.2.1.getD j [] = w at *
    generalize cnt (sh g.1 fl w) (8 * g.1 * g.1) = N at *
    by_cases hN : N = 0
    · have c : nI N ≤ 0 := by rw [hN]; decide
      rw [decide_eq_true hN, Bool.true_and]
      simp only [ee_110_0, ee_110_0N, ee_110_1, ee_110_4, ee_110_5, ee_110_6, ee_110_8, ee_110_8N, ee_110_9, ee_110_12, ee_110_14, ee_110_15, ee_110_18, ee_110_18N, ee_110_19, ee_110_21, ee_110_22, ee_110_23, ee_110_26, ee_110_29, ee_110_30, ee_110_30T, ee_110_31, ee_110_34, ee_110_37, ee_110_38, ee_110_40, ee_110_40N, ee_110_41, ee_110_44, ee_110_46, ee_110_47, ee_110_50, ee_110_50N, ee_110_51, ee_110_53, ee_110_54, ee_110_55, ee_110_58, ee_110_58N, ee_110_59, ee_110_60, ee_110_63, ee_110_66, ee_110_67, ee_110_70, ee_110_71, ee_110_74, ee_110_75, ee_110_75T, ee_110_76, ee_110_79, ee_110_82, ee_110_83, ee_110_83T, M.F, KK, r28', n1, e93', c, nI_1, e, Option.bind_some, Option.toList, List.cons_append, List.nil_append, List.append_nil, if_true, if_false, Bool.false_eq_true, eq_self, not_true_eq_false, not_false_eq_true]
    · have c : ¬ nI N ≤ 0 := nI_nle (by omega) (by omega)
      rw [decide_eq_false hN, Bool.false_and, Bool.false_and, bI_f]
      simp only [ee_110_0, ee_110_0N, ee_110_1, ee_110_4, ee_110_5, ee_110_6, ee_110_8, ee_110_8N, ee_110_9, ee_110_12, ee_110_14, ee_110_15, ee_110_18, ee_110_18N, ee_110_19, ee_110_21, ee_110_22, ee_110_23, ee_110_26, ee_110_29, ee_110_30, ee_110_30T, ee_110_31, ee_110_34, ee_110_37, ee_110_38, ee_110_40, ee_110_40N, ee_110_41, ee_110_44, ee_110_46, ee_110_47, ee_110_50, ee_110_50N, ee_110_51, ee_110_53, ee_110_54, ee_110_55, ee_110_58, ee_110_58N, ee_110_59, ee_110_60, ee_110_63, ee_110_66, ee_110_67, ee_110_70, ee_110_71, ee_110_74, ee_110_75, ee_110_75T, ee_110_76, ee_110_79, ee_110_82, ee_110_83, ee_110_83T, M.F, KK, r28', n1, e93', c, Option.bind_some, Option.toList, List.cons_append, List.nil_append, List.append_nil, if_true, if_false, Bool.false_eq_true, eq_self, not_true_eq_false, not_false_eq_true]
theorem o110 (G : GW g) (E : Enc (fun j => S.getD j 0) g) (M : ML h S I PD SQ CV FP a b n l m k t f) (A : SecAt SQ 3 cs) : ∃ h' SQ', go (d + 6) 110 0 [.ref 96, aU] [] h = some (some (.int (bI (goodB g (pourP g.2.2.2.2 cs (g.1 * g.1)).1))), h') ∧ ML h' S I PD SQ' CV FP a b n l m k t f ∧ Low SQ SQ' 4 ∧ Off h h' 96 104 := by
  obtain ⟨h1, SQ1, e1, M1, L1, q1, O1⟩ := o108 (d := d + 4) G E M A
  have e := o110_b (d := d) G E M1 q1 g.2.2.2.1.length 0 (by omega)
  rw [nI_0, List.drop_zero] at e
  refine ⟨h1, SQ1, ?_, M1, L1, O1⟩
  unfold goodB
  simp only [ee_110_0, ee_110_0N, ee_110_1, ee_110_4, ee_110_5, ee_110_6, ee_110_8, ee_110_8N, ee_110_9, ee_110_12, ee_110_14, ee_110_15, ee_110_18, ee_110_18N, ee_110_19, ee_110_21, ee_110_22, ee_110_23, ee_110_26, ee_110_29, ee_110_30, ee_110_30T, ee_110_31, ee_110_34, ee_110_37, ee_110_38, ee_110_40, ee_110_40N, ee_110_41, ee_110_44, ee_110_46, ee_110_47, ee_110_50, ee_110_50N, ee_110_51, ee_110_53, ee_110_54, ee_110_55, ee_110_58, ee_110_58N, ee_110_59, ee_110_60, ee_110_63, ee_110_66, ee_110_67, ee_110_70, ee_110_71, ee_110_74, ee_110_75, ee_110_75T, ee_110_76, ee_110_79, ee_110_82, ee_110_83, ee_110_83T, M.F, e1, e, Option.bind_some, Option.toList, List.cons_append, List.nil_append, List.append_nil, if_true, if_false, Bool.false_eq_true, eq_self, not_true_eq_false, not_false_eq_true]
theorem see_g (G : GW g) (E : Enc (fun j => S.getD j 0) g) : SeeOk d (FG g) S I PD a b n 1 := by
  intro h SQ CV X A B C cs cv M A3 B3
  obtain ⟨h1, SQ1, e1, M1, L1, O1⟩ := o110 (d := d) G E M A3
  unfold FG
  by_cases hg : goodB g (pourP g.2.2.2.2 cs (g.1 * g.1)).1 = true
  · rw [hg, bI_t] at e1
    rw [if_pos hg]
    by_cases ht : X.2.2.2.1 = 0
    · rw [if_pos ht]
      obtain ⟨h3, e3, M3, O3⟩ := o100 (d := d + 6) (x := nI A) (y := nI B) (z := nI C) M1
      obtain ⟨h4, p4, M4, O4⟩ := M3.p10 (X.2.2.2.1 + 1)
      refine ⟨h4, SQ1, ?_, M4, L1, (O1.trans O3).trans O4⟩
      rw [ht] at p4
      simp only [ee_101_0, ee_101_0N, ee_101_1, ee_101_4, ee_101_7, ee_101_7N, ee_101_8, ee_101_11, ee_101_14, ee_101_14N, ee_101_15, ee_101_18, ee_101_21, ee_101_21N, ee_101_22, ee_101_23, ee_101_24, ee_101_25, ee_101_28, ee_101_28N, ee_101_29, ee_101_30, ee_101_33, ee_101_34, ee_101_35, ee_101_38, ee_101_39, ee_101_39N, ee_101_40, ee_101_43, ee_101_45, ee_101_45N, ee_101_46, ee_101_49, ee_101_52, ee_101_54, ee_101_54N, ee_101_55, ee_101_58, ee_101_61, ee_101_61N, ee_101_62, ee_101_64, ee_101_67, ee_101_67N, ee_101_68, ee_101_69, ee_101_72, ee_101_72N, ee_101_73, ee_101_74, ee_101_75, ee_101_76, ee_101_79, ee_101_79N, ee_101_80, ee_101_81, ee_101_84, ee_101_86, ee_101_86N, ee_101_87, ee_101_90, ee_101_93, ee_101_94, ee_101_97, ee_101_98, ee_101_99, ee_101_102, ee_101_102N, ee_101_103, ee_101_104, ee_101_107, ee_101_108, ee_101_109, ee_101_112, ML.F M, M1.F, M3.F, KK, e1, ht, e3, p4, Option.bind_some, Option.toList, List.cons_append, List.nil_append, List.append_nil, if_true, if_false, Bool.false_eq_true, eq_self, not_true_eq_false, not_false_eq_true]
    · rw [if_neg ht]
      obtain ⟨h4, p4, M4, O4⟩ := M1.p10 (X.2.2.2.1 + 1)
      refine ⟨h4, SQ1, ?_, M4, L1, O1.trans O4⟩
      simp only [ee_101_0, ee_101_0N, ee_101_1, ee_101_4, ee_101_7, ee_101_7N, ee_101_8, ee_101_11, ee_101_14, ee_101_14N, ee_101_15, ee_101_18, ee_101_21, ee_101_21N, ee_101_22, ee_101_23, ee_101_24, ee_101_25, ee_101_28, ee_101_28N, ee_101_29, ee_101_30, ee_101_33, ee_101_34, ee_101_35, ee_101_38, ee_101_39, ee_101_39N, ee_101_40, ee_101_43, ee_101_45, ee_101_45N, ee_101_46, ee_101_49, ee_101_52, ee_101_54, ee_101_54N, ee_101_55, ee_101_58, ee_101_61, ee_101_61N, ee_101_62, ee_101_64, ee_101_67, ee_101_67N, ee_101_68, ee_101_69, ee_101_72, ee_101_72N, ee_101_73, ee_101_74, ee_101_75, ee_101_76, ee_101_79, ee_101_79N, ee_101_80, ee_101_81, ee_101_84, ee_101_86, ee_101_86N, ee_101_87, ee_101_90, ee_101_93, ee_101_94, ee_101_97, ee_101_98, ee_101_99, ee_101_102, ee_101_102N, ee_101_103, ee_101_104, ee_101_107, ee_101_108, ee_101_109, ee_101_112, ML.F M, M1.F, KK, e1, ht, p4, Option.bind_some, Option.toList, List.cons_append, List.nil_append, List.append_nil, if_true, if_false, Bool.false_eq_true, eq_self, not_true_eq_false, not_false_eq_true]
  · have hg' : goodB g (pourP g.2.2.2.2 cs (g.1 * g.1)).1 = false := by simpa using hg
    rw [hg', bI_f] at e1
    rw [if_neg hg]
    refine ⟨h1, SQ1, ?_, M1, L1, O1⟩
    simp only [ee_101_0, ee_101_0N, ee_101_1, ee_101_4, ee_101_7, ee_101_7N, ee_101_8, ee_101_11, ee_101_14, ee_101_14N, ee_101_15, ee_101_18, ee_101_21, ee_101_21N, ee_101_22, ee_101_23, ee_101_24, ee_101_25, ee_101_28, ee_101_28N, ee_101_29, ee_101_30, ee_101_33, ee_101_34, ee_101_35, ee_101_38, ee_101_39, ee_101_39N, ee_101_40, ee_101_43, ee_101_45, ee_101_45N, ee_101_46, ee_101_49, ee_101_52, ee_101_54, ee_101_54N, ee_101_55, ee_101_58, ee_101_61, ee_101_61N, ee_101_62, ee_101_64, ee_101_67, ee_101_67N, ee_101_68, ee_101_69, ee_101_72, ee_101_72N, ee_101_73, ee_101_74, ee_101_75, ee_101_76, ee_101_79, ee_101_79N, ee_101_80, ee_101_81, ee_101_84, ee_101_86, ee_101_86N, ee_101_87, ee_101_90, ee_101_93, ee_101_94, ee_101_97, ee_101_98, ee_101_99, ee_101_102, ee_101_102N, ee_101_103, ee_101_104, ee_101_107, ee_101_108, ee_101_109, ee_101_112, ML.F M, M1.F, KK, e1, Option.bind_some, Option.toList, List.cons_append, List.nil_append, List.append_nil, if_true, if_false, Bool.false_eq_true, eq_self, not_true_eq_false, not_false_eq_true]
/-- fillFirst -/
def Chain (g : gG) (A B C : Nat) (cs3 : List Int32) : Prop := (A < plN g 0 ∧ stOk g.1 g.2.2.1 0 g.2.1 A = true) ∧ (B < plN g 1 ∧ stOk g.1 g.2.2.1 1 (stCs g.1 g.2.2.1 0 g.2.1 A) B = true) ∧ (C < plN g 2 ∧ stOk g.1 g.2.2.1 2 (stCs g.1 g.2.2.1 1 (stCs g.1 g.2.2.1 0 g.2.1 A) B) C = true) ∧ cs3 = stCs g.1 g.2.2.1 2 (stCs g.1 g.2.2.1 1 (stCs g.1 g.2.2.1 0 g.2.1 A) B) C
theorem o111 {A B C : Nat} {cs3 : List Int32} (G : GW g) (E : Enc (fun j => S.getD j 0) g) (hc : Chain g A B C cs3) (M : ML h S I PD SQ CV [nI A, nI B, nI C] a b n l m k t f) : ∃ h' SQ' CV', go (d + 6) 111 0 [.ref 96, aU] [] h = some (some (.int (nI (pourP g.2.2.2.2 cs3 (g.1 * g.1)).2.2)), h') ∧ ML h' S I PD SQ' CV' [nI A, nI B, nI C] a b n l m k t f ∧ (∀ c, c < g.1 * g.1 → SQ'.getD (64 + c) 0 = (pourP g.2.2.2.2 cs3 (g.1 * g.1)).1.getD c 0) ∧ Off h h' 96 104 := by
  obtain ⟨⟨k1, k2⟩, ⟨k3, k4⟩, ⟨k5, k6⟩, rfl⟩ := hc
  obtain ⟨h1, e87, M1, O1⟩ := o87 (d := d + 5) M
  obtain ⟨A1, B1⟩ := begin_sec G E M
  generalize updR SQ 0 (fun c => S.getD (1 + c) 0) 16 = SQ1 at *
  generalize updR CV 0 (fun _ => 0) 16 = CV1 at *
  obtain ⟨h2, SQ2, CV2, e2, M2, -, -, O2, q2⟩ := o91 (d := d) (st := 0) (p := A) G (by decide) E (plN_in k1) M1 A1 B1
  obtain ⟨A2, B2⟩ := q2 k2
  rw [k2, bI_t] at e2
  have e2' : go (d + 5) 91 0 [.ref 96, .int 0, .int (nI A)] [] h1 = some (some (.int 1), h2) := e2
  obtain ⟨h3, SQ3, CV3, e3, M3, -, -, O3, q3⟩ := o91 (d := d) (st := 1) (p := B) G (by decide) E (plN_in k3) M2 A2 B2
  obtain ⟨A3, B3⟩ := q3 k4
  rw [k4, bI_t] at e3
  have e3' : go (d + 5) 91 0 [.ref 96, .int 1, .int (nI B)] [] h2 = some (some (.int 1), h3) := e3
  obtain ⟨h4, SQ4, CV4, e4, M4, -, -, O4, q4⟩ := o91 (d := d) (st := 2) (p := C) G (by decide) E (plN_in k5) M3 A3 B3
  obtain ⟨A4, B4⟩ := q4 k6
  rw [k6, bI_t] at e4
  have e4' : go (d + 5) 91 0 [.ref 96, .int 2, .int (nI C)] [] h3 = some (some (.int 1), h4) := e4
  obtain ⟨h5, SQ5, e5, M5, L5, q5, O5⟩ := o108 (d := d + 4) G E M4 A4
  refine ⟨h5, SQ5, CV4, ?_, M5, q5, (((O1.trans O2).trans O3).trans O4).trans O5⟩
  have r1 : ia h1 103 0 = some (nI A) := M1.r103 (j := 0) (by decide)
  have r2 : ia h2 103 1 = some (nI B) := M2.r103 (j := 1) (by decide)
  have r3 : ia h3 103 2 = some (nI C) := M3.r103 (j := 2) (by decide)
  have c0 : ¬ (3 : Int32) ≤ 0 ∧ ¬ (3 : Int32) ≤ 1 ∧ ¬ (3 : Int32) ≤ 2 ∧ (3 : Int32) ≤ 3 ∧ (0 : Int32) + 1 = 1 ∧ (1 : Int32) + 1 = 2 ∧ (2 : Int32) + 1 = 3 := by decide
  simp only [ee_111_0, ee_111_0N, ee_111_1, ee_111_4, ee_111_5, ee_111_6, ee_111_7, ee_111_8, ee_111_11, ee_111_11N, ee_111_12, ee_111_13, ee_111_13N, ee_111_14, ee_111_17, ee_111_18, ee_111_19, ee_111_22, ee_111_23, ee_111_26, ee_111_29, ee_111_29N, ee_111_30, ee_111_33, M.F, M1.F, M2.F, M3.F, M4.F, e87, c0, r1, r2, r3, e2', e3', e4', e5, Option.bind_some, Option.toList, List.cons_append, List.nil_append, List.append_nil, if_true, if_false, Bool.false_eq_true, eq_self, not_true_eq_false, not_false_eq_true]
/-- good -/
def ansOG (s n : Nat) (X : mX) (fl : List Int32) (x : Int32) : Int32 := if x = 0 then X.2.2.2.1 else if 10 ≤ x ∧ x < 13 then (if ¬ X.2.2.2.1 ≤ 0 ∧ (x - 10).toNatClampNeg < n then X.2.2.2.2.getD (x - 10).toNatClampNeg 0 else -6) else if 100 ≤ x ∧ x < 116 then (if X.2.2.2.1 = 0 then -6 else if (x - 100).toNatClampNeg < s * s then fl.getD (x - 100).toNatClampNeg 0 else -6) else -2
theorem in100 (x : Int32) : (¬ (x < 100 ∨ 115 < x)) ↔ (100 ≤ x ∧ x < 116) := by
  have e1 : (100 : Int32).toInt = 100 := by decide
  have e2 : (115 : Int32).toInt = 115 := by decide
  have e3 : (116 : Int32).toInt = 116 := by decide
  rw [Int32.lt_iff_toInt_lt, Int32.lt_iff_toInt_lt, Int32.lt_iff_toInt_lt, Int32.le_iff_toInt_le]
  omega
theorem o_good {x : Int32} (G : GW g) (hch : ∀ FP0 : List Int32, FP0.length = 3 → (mw g (FG g) g.2.1 (List.replicate 16 0) (0, -6, -6, 0, FP0)).2.2.2.1 = 0 ∨ ∃ A B C cs3, Chain g A B C cs3 ∧ (mw g (FG g) g.2.1 (List.replicate 16 0) (0, -6, -6, 0, FP0)).2.2.2.2 = [nI A, nI B, nI C]) (M : MI h g P i0 i1 a b) :
    ∃ FP0 : List Int32, ∃ fl h', FP0.length = 3 ∧ ((mw g (FG g) g.2.1 (List.replicate 16 0) (0, -6, -6, 0, FP0)).2.2.2.1 = 0 ∨ ∃ A B C cs3, Chain g A B C cs3 ∧ (mw g (FG g) g.2.1 (List.replicate 16 0) (0, -6, -6, 0, FP0)).2.2.2.2 = [nI A, nI B, nI C] ∧ fl = (pourP g.2.2.2.2 cs3 (g.1 * g.1)).1) ∧ go (d + 12) 112 0 [.ref 96, .int x] [] h = some (some (.int (ansOG g.1 g.2.2.1.length (mw g (FG g) g.2.1 (List.replicate 16 0) (0, -6, -6, 0, FP0)) fl x)), h') ∧ MI h' g P i0 i1 a b ∧ Off h h' 96 104 := by
  obtain ⟨S, I, PD, SQ, CV, FP, l, m, k, t, f, M0, E, r⟩ := id M
  have hFP := M0.2.2.2.2.2.2.2.2
  have hq := (sq_lt G.1.1).1
  have e1 := o65 (d := d + 11) (h := h) (v := x) (x := 10) (y := 12)
  have e2 := o65 (d := d + 11) (h := h) (v := x) (x := 100) (y := 115)
  obtain ⟨h1, SQ1, CV1, e102, M1, O1⟩ := o102 (d := d + 2) (fg := true) G E (see_g G E) M0
  have e102' : go (d + 11) 102 0 [.ref 96, .int 1, aU, aU] [] h = some (none, h1) := e102
  have MI1 : MI h1 g P i0 i1 a b := ⟨S, I, PD, SQ1, CV1, _, _, _, _, _, _, M1, E, r⟩
  have hc := hch FP hFP
  refine ⟨FP, ?_⟩
  generalize mw g (FG g) g.2.1 (List.replicate 16 0) (0, -6, -6, 0, FP) = X at *
  obtain ⟨fl, hfl⟩ : ∃ fl : List Int32, X.2.2.2.1 = 0 ∨ ∃ A B C cs3, Chain g A B C cs3 ∧ X.2.2.2.2 = [nI A, nI B, nI C] ∧ fl = (pourP g.2.2.2.2 cs3 (g.1 * g.1)).1 := by
    rcases hc with hc | ⟨A, B, C, cs3, c1, c2⟩
    · exact ⟨[], Or.inl hc⟩
    · exact ⟨_, Or.inr ⟨A, B, C, cs3, c1, c2, rfl⟩⟩
  refine ⟨fl, ?_⟩
  unfold ansOG
  by_cases x0 : x = 0
  · subst x0
    refine ⟨h1, hFP, hfl, ?_, MI1, O1⟩
    simp only [ee_112_0, ee_112_1, ee_112_4, ee_112_5, ee_112_7, ee_112_9, ee_112_12, ee_112_15, ee_112_16, ee_112_18, ee_112_20, ee_112_23, ee_112_26, ee_112_28, ee_112_29, ee_112_29N, ee_112_30, ee_112_31, ee_112_34, ee_112_35, ee_112_38, ee_112_38N, ee_112_39, ee_112_42, ee_112_43, ee_112_44, ee_112_46, ee_112_49, ee_112_49N, ee_112_50, ee_112_53, ee_112_56, ee_112_57, ee_112_59, ee_112_62, ee_112_62N, ee_112_63, ee_112_64, ee_112_66, ee_112_67, ee_112_67N, ee_112_68, ee_112_71, ee_112_74, ee_112_75, ee_112_78, ee_112_79, ee_112_82, ee_112_85, ee_112_87, ee_112_88, ee_112_88N, ee_112_89, ee_112_92, ee_112_93, ee_112_93N, ee_112_94, ee_112_95, ee_112_97, ee_112_98, ee_112_101, ee_112_104, ee_112_104N, ee_112_105, ee_112_108, ee_112_110, ee_112_111, ee_112_112, ee_112_114, ee_112_115, ee_112_116, ee_112_119, ee_112_121, M0.F, ML.F M1, KK, e102', Option.bind_some, Option.toList, List.cons_append, List.nil_append, List.append_nil, if_true, if_false, Bool.false_eq_true, eq_self, not_true_eq_false, not_false_eq_true]
  · rcases b1013 x with hx | ⟨j, hj, hx, hx2⟩
    · have hx' : x < 10 ∨ 12 < x := Decidable.byContradiction (fun z => hx ((in1012 x).mp z))
      rw [if_pos hx'] at e1
      rcases b100 x with ⟨y1, y2⟩ | ⟨y1, y2, y3⟩ | ⟨y1, y2, y3, j, hj, hx2, hx3⟩
      · have hy : x < 100 ∨ 115 < x := Or.inl y1
        rw [if_pos hy] at e2
        refine ⟨h, hFP, hfl, ?_, M, Off.rf⟩
        simp only [ee_112_0, ee_112_1, ee_112_4, ee_112_5, ee_112_7, ee_112_9, ee_112_12, ee_112_15, ee_112_16, ee_112_18, ee_112_20, ee_112_23, ee_112_26, ee_112_28, ee_112_29, ee_112_29N, ee_112_30, ee_112_31, ee_112_34, ee_112_35, ee_112_38, ee_112_38N, ee_112_39, ee_112_42, ee_112_43, ee_112_44, ee_112_46, ee_112_49, ee_112_49N, ee_112_50, ee_112_53, ee_112_56, ee_112_57, ee_112_59, ee_112_62, ee_112_62N, ee_112_63, ee_112_64, ee_112_66, ee_112_67, ee_112_67N, ee_112_68, ee_112_71, ee_112_74, ee_112_75, ee_112_78, ee_112_79, ee_112_82, ee_112_85, ee_112_87, ee_112_88, ee_112_88N, ee_112_89, ee_112_92, ee_112_93, ee_112_93N, ee_112_94, ee_112_95, ee_112_97, ee_112_98, ee_112_101, ee_112_104, ee_112_104N, ee_112_105, ee_112_108, ee_112_110, ee_112_111, ee_112_112, ee_112_114, ee_112_115, ee_112_116, ee_112_119, ee_112_121, M0.F, KK, e1, e2, x0, hx, y2, Option.bind_some, Option.toList, List.cons_append, List.nil_append, List.append_nil, if_true, if_false, Bool.false_eq_true, eq_self, not_true_eq_false, not_false_eq_true]
      · have hy : x < 100 ∨ 115 < x := Decidable.byContradiction (fun z => y3 ((in100 x).mp z))
        rw [if_pos hy] at e2
        refine ⟨h, hFP, hfl, ?_, M, Off.rf⟩
        simp only [ee_112_0, ee_112_1, ee_112_4, ee_112_5, ee_112_7, ee_112_9, ee_112_12, ee_112_15, ee_112_16, ee_112_18, ee_112_20, ee_112_23, ee_112_26, ee_112_28, ee_112_29, ee_112_29N, ee_112_30, ee_112_31, ee_112_34, ee_112_35, ee_112_38, ee_112_38N, ee_112_39, ee_112_42, ee_112_43, ee_112_44, ee_112_46, ee_112_49, ee_112_49N, ee_112_50, ee_112_53, ee_112_56, ee_112_57, ee_112_59, ee_112_62, ee_112_62N, ee_112_63, ee_112_64, ee_112_66, ee_112_67, ee_112_67N, ee_112_68, ee_112_71, ee_112_74, ee_112_75, ee_112_78, ee_112_79, ee_112_82, ee_112_85, ee_112_87, ee_112_88, ee_112_88N, ee_112_89, ee_112_92, ee_112_93, ee_112_93N, ee_112_94, ee_112_95, ee_112_97, ee_112_98, ee_112_101, ee_112_104, ee_112_104N, ee_112_105, ee_112_108, ee_112_110, ee_112_111, ee_112_112, ee_112_114, ee_112_115, ee_112_116, ee_112_119, ee_112_121, M0.F, KK, e1, e2, x0, hx, y3, Option.bind_some, Option.toList, List.cons_append, List.nil_append, List.append_nil, if_true, if_false, Bool.false_eq_true, eq_self, not_true_eq_false, not_false_eq_true]
      · rw [if_neg ((in100 x).mpr y1)] at e2
        have hcl : (x - 100).toNatClampNeg = j := by rw [hx2]; exact nI_clamp (by omega)
        rw [hcl]
        have y1a := y1.1
        by_cases ht : X.2.2.2.1 = 0
        · refine ⟨h1, hFP, hfl, ?_, MI1, O1⟩
          simp only [ee_112_0, ee_112_1, ee_112_4, ee_112_5, ee_112_7, ee_112_9, ee_112_12, ee_112_15, ee_112_16, ee_112_18, ee_112_20, ee_112_23, ee_112_26, ee_112_28, ee_112_29, ee_112_29N, ee_112_30, ee_112_31, ee_112_34, ee_112_35, ee_112_38, ee_112_38N, ee_112_39, ee_112_42, ee_112_43, ee_112_44, ee_112_46, ee_112_49, ee_112_49N, ee_112_50, ee_112_53, ee_112_56, ee_112_57, ee_112_59, ee_112_62, ee_112_62N, ee_112_63, ee_112_64, ee_112_66, ee_112_67, ee_112_67N, ee_112_68, ee_112_71, ee_112_74, ee_112_75, ee_112_78, ee_112_79, ee_112_82, ee_112_85, ee_112_87, ee_112_88, ee_112_88N, ee_112_89, ee_112_92, ee_112_93, ee_112_93N, ee_112_94, ee_112_95, ee_112_97, ee_112_98, ee_112_101, ee_112_104, ee_112_104N, ee_112_105, ee_112_108, ee_112_110, ee_112_111, ee_112_112, ee_112_114, ee_112_115, ee_112_116, ee_112_119, ee_112_121, M0.F, ML.F M1, KK, e1, e2, e102', x0, hx, y1a, y1, y2, ht, and_self, Option.bind_some, Option.toList, List.cons_append, List.nil_append, List.append_nil, if_true, if_false, Bool.false_eq_true, eq_self, not_true_eq_false, not_false_eq_true]
        · obtain ⟨A, B, C, cs3, c1, c2, c3⟩ := hfl.resolve_left ht
          have M1' : ML h1 S I PD SQ1 CV1 X.2.2.2.2 a b (nI P.length) X.1 X.2.1 X.2.2.1 X.2.2.2.1 (bI true) := M1
          rw [c2] at M1'
          obtain ⟨h2, SQ2, CV2, e111, M2, q2, O2⟩ := o111 (d := d + 5) G E c1 M1'
          have MI2 : MI h2 g P i0 i1 a b := ⟨S, I, PD, SQ2, CV2, _, _, _, _, _, _, M2, E, r⟩
          have e67 := o67 (d := d + 10) (x := x - 100) G.1.1 M2 E.s.1
          have n1 : ¬ x - 100 < 0 := by rw [hx2]; exact nI_pos (by omega)
          have xx : (64 : Int32) + x - 100 = nI (64 + j) := by
            rw [hx3, show (64 : Int32) = nI 64 by decide, show (100 : Int32) = nI 100 by decide, nI_add, pk_sub (by omega)]
            congr 1
            omega
          by_cases hjs : j < g.1 * g.1
          · have n2 : ¬ nI (g.1 * g.1) ≤ x - 100 := by rw [hx2]; exact nI_nle2 (by omega) (by omega) hjs
            simp only [n1, n2, or_self, if_false] at e67
            have r64 := M2.r101 (j := 64 + j) (by omega)
            rw [q2 j hjs, ← c3] at r64
            refine ⟨h2, hFP, hfl, ?_, MI2, O1.trans O2⟩
            simp only [ee_112_0, ee_112_1, ee_112_4, ee_112_5, ee_112_7, ee_112_9, ee_112_12, ee_112_15, ee_112_16, ee_112_18, ee_112_20, ee_112_23, ee_112_26, ee_112_28, ee_112_29, ee_112_29N, ee_112_30, ee_112_31, ee_112_34, ee_112_35, ee_112_38, ee_112_38N, ee_112_39, ee_112_42, ee_112_43, ee_112_44, ee_112_46, ee_112_49, ee_112_49N, ee_112_50, ee_112_53, ee_112_56, ee_112_57, ee_112_59, ee_112_62, ee_112_62N, ee_112_63, ee_112_64, ee_112_66, ee_112_67, ee_112_67N, ee_112_68, ee_112_71, ee_112_74, ee_112_75, ee_112_78, ee_112_79, ee_112_82, ee_112_85, ee_112_87, ee_112_88, ee_112_88N, ee_112_89, ee_112_92, ee_112_93, ee_112_93N, ee_112_94, ee_112_95, ee_112_97, ee_112_98, ee_112_101, ee_112_104, ee_112_104N, ee_112_105, ee_112_108, ee_112_110, ee_112_111, ee_112_112, ee_112_114, ee_112_115, ee_112_116, ee_112_119, ee_112_121, M0.F, ML.F M1, M2.F, KK, e1, e2, e102', e111, e67, x0, hx, y1a, y1, y2, ht, hjs, xx, r64, and_self, Option.bind_some, Option.toList, List.cons_append, List.nil_append, List.append_nil, if_true, if_false, Bool.false_eq_true, eq_self, not_true_eq_false, not_false_eq_true]
          · have n2 : nI (g.1 * g.1) ≤ x - 100 := by rw [hx2]; exact nI_le (by omega) (by omega)
            simp only [n2, or_true, if_true] at e67
            refine ⟨h2, hFP, hfl, ?_, MI2, O1.trans O2⟩
            simp only [ee_112_0, ee_112_1, ee_112_4, ee_112_5, ee_112_7, ee_112_9, ee_112_12, ee_112_15, ee_112_16, ee_112_18, ee_112_20, ee_112_23, ee_112_26, ee_112_28, ee_112_29, ee_112_29N, ee_112_30, ee_112_31, ee_112_34, ee_112_35, ee_112_38, ee_112_38N, ee_112_39, ee_112_42, ee_112_43, ee_112_44, ee_112_46, ee_112_49, ee_112_49N, ee_112_50, ee_112_53, ee_112_56, ee_112_57, ee_112_59, ee_112_62, ee_112_62N, ee_112_63, ee_112_64, ee_112_66, ee_112_67, ee_112_67N, ee_112_68, ee_112_71, ee_112_74, ee_112_75, ee_112_78, ee_112_79, ee_112_82, ee_112_85, ee_112_87, ee_112_88, ee_112_88N, ee_112_89, ee_112_92, ee_112_93, ee_112_93N, ee_112_94, ee_112_95, ee_112_97, ee_112_98, ee_112_101, ee_112_104, ee_112_104N, ee_112_105, ee_112_108, ee_112_110, ee_112_111, ee_112_112, ee_112_114, ee_112_115, ee_112_116, ee_112_119, ee_112_121, M0.F, ML.F M1, M2.F, KK, e1, e2, e102', e111, e67, x0, hx, y1a, y1, y2, ht, hjs, and_self, Option.bind_some, Option.toList, List.cons_append, List.nil_append, List.append_nil, if_true, if_false, Bool.false_eq_true, eq_self, not_true_eq_false, not_false_eq_true]
    · have hb : 10 ≤ x ∧ x < 13 := by
        subst hx
        exact ⟨by rw [show (10 : Int32) = nI 10 by decide]; exact nI_le (by omega) (by omega), by rw [show (13 : Int32) = nI 13 by decide]; exact nI_lt (by omega) (by omega)⟩
      rw [if_neg ((in1012 x).mpr hb)] at e1
      have n2 : x < 100 := by rw [hx, show (100 : Int32) = nI 100 by decide]; exact nI_lt (by omega) (by omega)
      have n3 : ¬ 100 ≤ x := Int32.not_le.mpr n2
      have e104a := o104 (d := d + 11) (q := 1) G E hj M1
      have e104b := o104 (d := d + 11) (q := 0) G E hj M1
      rw [← hx2] at e104a e104b
      have hcl : (x - 10).toNatClampNeg = j := by rw [hx2]; exact nI_clamp (by omega)
      rw [hcl]
      refine ⟨h1, hFP, hfl, ?_, MI1, O1⟩
      by_cases hl : X.2.2.2.1 ≤ 0
      · simp only [not_true_eq_false, false_and, if_false] at e104b
        simp only [ee_112_0, ee_112_1, ee_112_4, ee_112_5, ee_112_7, ee_112_9, ee_112_12, ee_112_15, ee_112_16, ee_112_18, ee_112_20, ee_112_23, ee_112_26, ee_112_28, ee_112_29, ee_112_29N, ee_112_30, ee_112_31, ee_112_34, ee_112_35, ee_112_38, ee_112_38N, ee_112_39, ee_112_42, ee_112_43, ee_112_44, ee_112_46, ee_112_49, ee_112_49N, ee_112_50, ee_112_53, ee_112_56, ee_112_57, ee_112_59, ee_112_62, ee_112_62N, ee_112_63, ee_112_64, ee_112_66, ee_112_67, ee_112_67N, ee_112_68, ee_112_71, ee_112_74, ee_112_75, ee_112_78, ee_112_79, ee_112_82, ee_112_85, ee_112_87, ee_112_88, ee_112_88N, ee_112_89, ee_112_92, ee_112_93, ee_112_93N, ee_112_94, ee_112_95, ee_112_97, ee_112_98, ee_112_101, ee_112_104, ee_112_104N, ee_112_105, ee_112_108, ee_112_110, ee_112_111, ee_112_112, ee_112_114, ee_112_115, ee_112_116, ee_112_119, ee_112_121, M0.F, ML.F M1, KK, e1, e102', e104b, x0, n2, n3, hb, and_self, hl, false_and, Option.bind_some, Option.toList, List.cons_append, List.nil_append, List.append_nil, if_true, if_false, Bool.false_eq_true, eq_self, not_true_eq_false, not_false_eq_true]
      · simp only [KK, not_false_eq_true, true_and] at e104a
        simp only [ee_112_0, ee_112_1, ee_112_4, ee_112_5, ee_112_7, ee_112_9, ee_112_12, ee_112_15, ee_112_16, ee_112_18, ee_112_20, ee_112_23, ee_112_26, ee_112_28, ee_112_29, ee_112_29N, ee_112_30, ee_112_31, ee_112_34, ee_112_35, ee_112_38, ee_112_38N, ee_112_39, ee_112_42, ee_112_43, ee_112_44, ee_112_46, ee_112_49, ee_112_49N, ee_112_50, ee_112_53, ee_112_56, ee_112_57, ee_112_59, ee_112_62, ee_112_62N, ee_112_63, ee_112_64, ee_112_66, ee_112_67, ee_112_67N, ee_112_68, ee_112_71, ee_112_74, ee_112_75, ee_112_78, ee_112_79, ee_112_82, ee_112_85, ee_112_87, ee_112_88, ee_112_88N, ee_112_89, ee_112_92, ee_112_93, ee_112_93N, ee_112_94, ee_112_95, ee_112_97, ee_112_98, ee_112_101, ee_112_104, ee_112_104N, ee_112_105, ee_112_108, ee_112_110, ee_112_111, ee_112_112, ee_112_114, ee_112_115, ee_112_116, ee_112_119, ee_112_121, M0.F, ML.F M1, KK, e1, e102', e104a, x0, n2, n3, hb, and_self, hl, true_and, Option.bind_some, Option.toList, List.cons_append, List.nil_append, List.append_nil, if_true, if_false, Bool.false_eq_true, eq_self, not_true_eq_false, not_false_eq_true]
/-- hide -/
theorem o_hide (G : GW g) (hch : ∀ FP0 : List Int32, FP0.length = 3 → (mw g (FG g) g.2.1 (List.replicate 16 0) (0, -6, -6, 0, FP0)).2.2.2.1 = 0 ∨ ∃ A B C cs3, Chain g A B C cs3 ∧ (mw g (FG g) g.2.1 (List.replicate 16 0) (0, -6, -6, 0, FP0)).2.2.2.2 = [nI A, nI B, nI C]) (M : MI h g P i0 i1 a b) :
    ∃ FP0 : List Int32, FP0.length = 3 ∧ (((mw g (FG g) g.2.1 (List.replicate 16 0) (0, -6, -6, 0, FP0)).2.2.2.1 = 0 ∧ ∃ h', go (d + 12) 113 0 [.ref 96, aU, aU] [] h = some (some (.int (-5)), h') ∧ MI h' g P i0 i1 a b ∧ Off h h' 96 104) ∨
      (¬ (mw g (FG g) g.2.1 (List.replicate 16 0) (0, -6, -6, 0, FP0)).2.2.2.1 = 0 ∧ ∃ A B C cs3, Chain g A B C cs3 ∧ (mw g (FG g) g.2.1 (List.replicate 16 0) (0, -6, -6, 0, FP0)).2.2.2.2 = [nI A, nI B, nI C] ∧ ∃ h', go (d + 12) 113 0 [.ref 96, aU, aU] [] h = some (some (.int (nI (pourP g.2.2.2.2 cs3 (g.1 * g.1)).2.2)), h') ∧ (∀ cs', (∀ c, c < 16 → cs'.getD c 0 = if c < g.1 * g.1 then (pourP g.2.2.2.2 cs3 (g.1 * g.1)).1.getD c 0 else g.2.1.getD c 0) → MI h' (g.1, cs', g.2.2) P i0 i1 a b) ∧ Off h h' 96 104)) := by
  obtain ⟨S, I, PD, SQ, CV, FP, l, m, k, t, f, M0, E, r⟩ := id M
  have hFP := M0.2.2.2.2.2.2.2.2
  have hq := (sq_lt G.1.1).1
  obtain ⟨h1, SQ1, CV1, e102, M1, O1⟩ := o102 (d := d + 2) (fg := true) G E (see_g G E) M0
  have e102' : go (d + 11) 102 0 [.ref 96, .int 1, aU, aU] [] h = some (none, h1) := e102
  have MI1 : MI h1 g P i0 i1 a b := ⟨S, I, PD, SQ1, CV1, _, _, _, _, _, _, M1, E, r⟩
  have hc := hch FP hFP
  refine ⟨FP, hFP, ?_⟩
  generalize mw g (FG g) g.2.1 (List.replicate 16 0) (0, -6, -6, 0, FP) = X at *
  by_cases ht : X.2.2.2.1 = 0
  · refine Or.inl ⟨ht, h1, ?_, MI1, O1⟩
    simp only [ee_113_0, ee_113_0N, ee_113_1, ee_113_2, ee_113_5, ee_113_5N, ee_113_6, ee_113_9, ee_113_12, ee_113_14, ee_113_15, ee_113_15N, ee_113_16, ee_113_19, ee_113_20, ee_113_21, ee_113_23, ee_113_23N, ee_113_24, ee_113_27, ee_113_30, ee_113_30N, ee_113_31, ee_113_34, ee_113_35, ee_113_36, ee_113_37, ee_113_37N, ee_113_38, ee_113_41, ee_113_43, ee_113_44, ee_113_45, ee_113_46, ee_113_47, ee_113_50, ee_113_53, ee_113_54, M0.F, ML.F M1, KK, e102', ht, Option.bind_some, Option.toList, List.cons_append, List.nil_append, List.append_nil, if_true, if_false, Bool.false_eq_true, eq_self, not_true_eq_false, not_false_eq_true]
  · obtain ⟨A, B, C, cs3, c1, c2⟩ := hc.resolve_left ht
    refine Or.inr ⟨ht, A, B, C, cs3, c1, c2, ?_⟩
    have M1' : ML h1 S I PD SQ1 CV1 X.2.2.2.2 a b (nI P.length) X.1 X.2.1 X.2.2.1 X.2.2.2.1 (bI true) := M1
    have M1F := ML.F M1
    rw [c2] at M1'
    obtain ⟨h2, SQ2, CV2, e111, M2, q2, O2⟩ := o111 (d := d + 5) G E c1 M1'
    generalize pourP g.2.2.2.2 cs3 (g.1 * g.1) = Z at *
    have hl : S.length = 59 := M0.2.1.2
    have lp := go_iter (d := d + 12) (M := 113) (pc := 22) (fun i ls h' => ls = [.ref 96, .int (nI Z.2.2), .int (nI i)] ∧ ML h' (updR S 1 (fun c => Z.1.getD c 0) i) I PD SQ2 CV2 [nI A, nI B, nI C] a b (nI P.length) X.1 X.2.1 X.2.2.1 X.2.2.2.1 (bI true) ∧ Off h h' 96 104) (g.1 * g.1) (by
      rintro i ls h3 hi ⟨rfl, M3, O3⟩
      have e0 : (updR S 1 (fun c => Z.1.getD c 0) i).getD 0 0 = nI g.1 := by rw [updR_at _ _ _ _ _ (by omega), if_neg (by omega)]; exact E.s.1
      have e66 := o66 (d := d + 11) M3 e0
      have n1 : ¬ nI (g.1 * g.1) ≤ nI i := nI_nle2 (by omega) (by omega) hi
      have x1 : (1 : Int32) + nI i = nI (1 + i) := xI 1 i
      have x64 : (64 : Int32) + nI i = nI (64 + i) := xI 64 i
      have r64 := M3.r101 (j := 64 + i) (by omega)
      rw [q2 i hi] at r64
      obtain ⟨h4, w4, M4, O4⟩ := M3.w97 (j := 1 + i) (Z.1.getD i 0) (by omega)
      refine ⟨_, h4, ?_, rfl, M4, O3.trans O4⟩
      rw [ee_113_22]
      simp only [ee_113_0, ee_113_0N, ee_113_1, ee_113_2, ee_113_5, ee_113_5N, ee_113_6, ee_113_9, ee_113_12, ee_113_14, ee_113_15, ee_113_15N, ee_113_16, ee_113_19, ee_113_20, ee_113_21, ee_113_23, ee_113_23N, ee_113_24, ee_113_27, ee_113_30, ee_113_30N, ee_113_31, ee_113_34, ee_113_35, ee_113_36, ee_113_37, ee_113_37N, ee_113_38, ee_113_41, ee_113_43, ee_113_44, ee_113_45, ee_113_46, ee_113_47, ee_113_50, ee_113_53, ee_113_54, M3.F, e66, n1, x1, x64, r64, w4, nI_1, Option.bind_some, Option.toList, List.cons_append, List.nil_append, List.append_nil, if_true, if_false, Bool.false_eq_true, eq_self, not_true_eq_false, not_false_eq_true])
    obtain ⟨ls, h3, e3, rfl, M3, O3⟩ := lp [.ref 96, .int (nI Z.2.2), .int (nI 0)] h2 ⟨rfl, M2, O1.trans O2⟩
    rw [nI_0] at e3
    refine ⟨h3, ?_, ?_, O3⟩
    · have e0 : (updR S 1 (fun c => Z.1.getD c 0) (g.1 * g.1)).getD 0 0 = nI g.1 := by rw [updR_at _ _ _ _ _ (by omega), if_neg (by omega)]; exact E.s.1
      have e66 := o66 (d := d + 11) M3 e0
      have nn : nI (g.1 * g.1) ≤ nI (g.1 * g.1) := Int32.le_refl _
      simp only [ee_113_0, ee_113_0N, ee_113_1, ee_113_2, ee_113_5, ee_113_5N, ee_113_6, ee_113_9, ee_113_12, ee_113_14, ee_113_15, ee_113_15N, ee_113_16, ee_113_19, ee_113_20, ee_113_21, ee_113_23, ee_113_23N, ee_113_24, ee_113_27, ee_113_30, ee_113_30N, ee_113_31, ee_113_34, ee_113_35, ee_113_36, ee_113_37, ee_113_37N, ee_113_38, ee_113_41, ee_113_43, ee_113_44, ee_113_45, ee_113_46, ee_113_47, ee_113_50, ee_113_53, ee_113_54, M0.F, M1F, KK, e102', ht, e111, e3, Option.bind_some, Option.toList, List.cons_append, List.nil_append, List.append_nil, if_true, if_false, Bool.false_eq_true, eq_self, not_true_eq_false, not_false_eq_true]
      rw [ee_113_22]
      simp only [ee_113_0, ee_113_0N, ee_113_1, ee_113_2, ee_113_5, ee_113_5N, ee_113_6, ee_113_9, ee_113_12, ee_113_14, ee_113_15, ee_113_15N, ee_113_16, ee_113_19, ee_113_20, ee_113_21, ee_113_23, ee_113_23N, ee_113_24, ee_113_27, ee_113_30, ee_113_30N, ee_113_31, ee_113_34, ee_113_35, ee_113_36, ee_113_37, ee_113_37N, ee_113_38, ee_113_41, ee_113_43, ee_113_44, ee_113_45, ee_113_46, ee_113_47, ee_113_50, ee_113_53, ee_113_54, M3.F, e66, nn, Option.bind_some, Option.toList, List.cons_append, List.nil_append, List.append_nil, if_true, if_false, Bool.false_eq_true, eq_self, not_true_eq_false, not_false_eq_true]
    · intro cs' hcs
      refine ⟨_, I, PD, SQ2, CV2, _, _, _, _, _, _, M3, E.cells G (fun j hj h1 => by rw [updR_at _ _ _ _ _ (by omega), if_neg (by omega)]) (fun c hc => ?_), r⟩
      rw [updR_at _ _ _ _ _ (by omega), hcs c hc]
      by_cases h1 : c < g.1 * g.1
      · rw [if_pos (by omega), if_pos h1, Nat.add_sub_cancel_left]
      · rw [if_neg (by omega), if_neg h1]; exact E.s.2.1 c hc
end MD9
