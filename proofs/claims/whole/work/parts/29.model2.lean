/-! the reference: take, drop, fill, letter, images, count -/
section MD2
variable {h h' h0 : aH} {g g' i0 i1 : gG} {P P' S I PD SQ CV FP : List Int32} {a b : Bool} {n l m k t f : Int32} {lo hi d : Nat}
theorem xI (c j : Nat) : nI c + nI j = nI (c + j) := nI_add c j
theorem Enc.s (E : Enc (fun j => S.getD j 0) g) : S.getD 0 0 = nI g.1 ∧ (∀ c, c < 16 → S.getD (1 + c) 0 = g.2.1.getD c 0) ∧ (S.getD 26 0 = nI g.2.2.2.2.length ∧ ∀ i, i < g.2.2.2.2.length → S.getD (17 + i) 0 = g.2.2.2.2.getD i 0) ∧ (S.getD 27 0 = nI g.2.2.1.length ∧ S.getD 28 0 = nI g.2.2.2.1.length) ∧ (∀ k, k < g.2.2.1.length → S.getD (53 + k) 0 = nI (g.2.2.1.getD k []).length ∧ ∀ i, i < (g.2.2.1.getD k []).length → S.getD (29 + 4 * k + i) 0 = (g.2.2.1.getD k []).getD i 0) ∧ (∀ k, k < g.2.2.2.1.length → S.getD (56 + k) 0 = nI (g.2.2.2.1.getD k []).length ∧ ∀ i, i < (g.2.2.2.1.getD k []).length → S.getD (41 + 4 * k + i) 0 = (g.2.2.2.1.getD k []).getD i 0) := E
theorem mem4 {ws : List (List Int32)} {j q : Nat} (k : ∀ w ∈ ws, q ≤ w.length ∧ w.length ≤ 4 ∧ ∀ x ∈ w, isL x) (hj : j < ws.length) : (ws.getD j []).length ≤ 4 := (k _ (by rw [List.getD_eq_getElem?_getD, List.getElem?_eq_getElem hj]; exact List.getElem_mem hj)).2.1
theorem Enc.rest {f f' : Nat → Int32} (E : Enc f g) (G : GW g) (h9 : P.length ≤ 9) (e26 : f' 26 = nI P.length) (eP : ∀ i, i < P.length → f' (17 + i) = P.getD i 0) (e : ∀ j, j < 59 → (j < 17 ∨ 27 ≤ j) → f' j = f j) : Enc f' (g.1, g.2.1, g.2.2.1, g.2.2.2.1, P) := by
  obtain ⟨e1, e2, ⟨e3, e4⟩, ⟨e5, e6⟩, e7, e8⟩ := E
  obtain ⟨kk, k1, k2, k3⟩ := G
  refine ⟨by rw [e _ (by omega) (by omega)]; exact e1, fun c hc => by rw [e _ (by omega) (by omega)]; exact e2 c hc, ⟨e26, eP⟩, ⟨by rw [e _ (by omega) (by omega)]; exact e5, by rw [e _ (by omega) (by omega)]; exact e6⟩, ?_, ?_⟩
  · intro j hj
    simp only at hj ⊢
    have hm := mem4 kk.2.2.2.1 hj
    exact ⟨by rw [e _ (by omega) (by omega)]; exact (e7 j hj).1, fun i hi => by rw [e _ (by omega) (by omega)]; exact (e7 j hj).2 i hi⟩
  · intro j hj
    simp only at hj ⊢
    have hm := mem4 kk.2.2.2.2.1 hj
    exact ⟨by rw [e _ (by omega) (by omega)]; exact (e8 j hj).1, fun i hi => by rw [e _ (by omega) (by omega)]; exact (e8 j hj).2 i hi⟩
theorem app_getD {ws : List (List Int32)} {k : Nat} (hk : k < ws.length) : (ws ++ [P]).getD k [] = ws.getD k [] := by
  simp [List.getD_eq_getElem?_getD, List.getElem?_append_left hk]
theorem app_last {ws : List (List Int32)} : (ws ++ [P]).getD ws.length [] = P := by
  simp [List.getD_eq_getElem?_getD]
theorem Enc.word0 {f f' : Nat → Int32} {j0 : Nat} (E : Enc f g) (G : GW g) (hj0 : g.2.2.1.length = j0) (hj : j0 < 3) (h4 : P.length ≤ 4) (e27 : f' 27 = nI (j0 + 1)) (e53 : f' (53 + j0) = nI P.length) (eP : ∀ i, i < P.length → f' (29 + 4 * j0 + i) = P.getD i 0) (e : ∀ j, j < 59 → j ≠ 27 → j ≠ 53 + j0 → ¬ (29 + 4 * j0 ≤ j ∧ j < 29 + 4 * j0 + P.length) → f' j = f j) : Enc f' (g.1, g.2.1, g.2.2.1 ++ [P], g.2.2.2) := by
  obtain ⟨e1, e2, ⟨e3, e4⟩, ⟨e5, e6⟩, e7, e8⟩ := E
  obtain ⟨kk, k1, k2, k3⟩ := G
  have h9 := kk.2.2.2.2.2.2.1
  refine ⟨by rw [e _ (by omega) (by omega) (by omega) (by omega)]; exact e1, fun c hc => by rw [e _ (by omega) (by omega) (by omega) (by omega)]; exact e2 c hc, ⟨by rw [e _ (by omega) (by omega) (by omega) (by omega)]; exact e3, fun i hi => by simp only at hi; rw [e _ (by omega) (by omega) (by omega) (by omega)]; exact e4 i hi⟩, ⟨by rw [e27, List.length_append, List.length_singleton, hj0], by rw [e _ (by omega) (by omega) (by omega) (by omega)]; exact e6⟩, ?_, ?_⟩
  · intro j hj
    simp only [List.length_append, List.length_singleton] at hj ⊢
    by_cases hz : j < g.2.2.1.length
    · rw [app_getD hz]
      have hm := mem4 kk.2.2.2.1 hz
      exact ⟨by rw [e _ (by omega) (by omega) (by omega) (by omega)]; exact (e7 j hz).1, fun i hi => by rw [e _ (by omega) (by omega) (by omega) (by omega)]; exact (e7 j hz).2 i hi⟩
    · have hj' : j = j0 := by omega
      subst hj'
      rw [← hj0, app_last, hj0]
      exact ⟨e53, eP⟩
  · intro j hj
    simp only at hj ⊢
    have hm := mem4 kk.2.2.2.2.1 hj
    exact ⟨by rw [e _ (by omega) (by omega) (by omega) (by omega)]; exact (e8 j hj).1, fun i hi => by rw [e _ (by omega) (by omega) (by omega) (by omega)]; exact (e8 j hj).2 i hi⟩
theorem Enc.word1 {f f' : Nat → Int32} {j0 : Nat} (E : Enc f g) (G : GW g) (hj0 : g.2.2.2.1.length = j0) (hj : j0 < 3) (h4 : P.length ≤ 4) (e28 : f' 28 = nI (j0 + 1)) (e56 : f' (56 + j0) = nI P.length) (eP : ∀ i, i < P.length → f' (41 + 4 * j0 + i) = P.getD i 0) (e : ∀ j, j < 59 → j ≠ 28 → j ≠ 56 + j0 → ¬ (41 + 4 * j0 ≤ j ∧ j < 41 + 4 * j0 + P.length) → f' j = f j) : Enc f' (g.1, g.2.1, g.2.2.1, g.2.2.2.1 ++ [P], g.2.2.2.2) := by
  obtain ⟨e1, e2, ⟨e3, e4⟩, ⟨e5, e6⟩, e7, e8⟩ := E
  obtain ⟨kk, k1, k2, k3⟩ := G
  have h9 := kk.2.2.2.2.2.2.1
  refine ⟨by rw [e _ (by omega) (by omega) (by omega) (by omega)]; exact e1, fun c hc => by rw [e _ (by omega) (by omega) (by omega) (by omega)]; exact e2 c hc, ⟨by rw [e _ (by omega) (by omega) (by omega) (by omega)]; exact e3, fun i hi => by simp only at hi; rw [e _ (by omega) (by omega) (by omega) (by omega)]; exact e4 i hi⟩, ⟨by rw [e _ (by omega) (by omega) (by omega) (by omega)]; exact e5, by rw [e28, List.length_append, List.length_singleton, hj0]⟩, ?_, ?_⟩
  · intro j hj
    simp only at hj ⊢
    have hm := mem4 kk.2.2.2.1 hj
    exact ⟨by rw [e _ (by omega) (by omega) (by omega) (by omega)]; exact (e7 j hj).1, fun i hi => by rw [e _ (by omega) (by omega) (by omega) (by omega)]; exact (e7 j hj).2 i hi⟩
  · intro j hj
    simp only [List.length_append, List.length_singleton] at hj ⊢
    by_cases hz : j < g.2.2.2.1.length
    · rw [app_getD hz]
      have hm := mem4 kk.2.2.2.2.1 hz
      exact ⟨by rw [e _ (by omega) (by omega) (by omega) (by omega)]; exact (e8 j hz).1, fun i hi => by rw [e _ (by omega) (by omega) (by omega) (by omega)]; exact (e8 j hz).2 i hi⟩
    · have hj' : j = j0 := by omega
      subst hj'
      rw [← hj0, app_last, hj0]
      exact ⟨e56, eP⟩
/-- takeRest -/
theorem o78 (G : GW g) (h1 : 1 ≤ P.length) (h9 : P.length ≤ 9) (M : MI h g P i0 i1 a b) : ∃ h', go d 78 0 [.ref 96, aU] [] h = some (some (.int (nI P.length)), h') ∧ MI h' (g.1, g.2.1, g.2.2.1, g.2.2.2.1, P) [] i0 i1 a b ∧ Off h h' 96 104 := by
  obtain ⟨S, I, PD, SQ, CV, FP, l, m, k, t, f, M0, E, r1, r2, hP, r3⟩ := id M
  have lp := go_iter (d := d) (M := 78) (pc := 2) (fun i ls h' => ls = [.ref 96, .int (nI i)] ∧ ML h' (updR S 17 (fun i => P.getD i 0) i) I PD SQ CV FP a b (nI P.length) l m k t f ∧ Off h h' 96 104) P.length (by
    rintro i ls h2 hi ⟨rfl, M2, O2⟩
    obtain ⟨h3, w3, M3, O3⟩ := M2.w97 (j := 17 + i) (P.getD i 0) (by omega)
    refine ⟨_, h3, ?_, rfl, M3, O2.trans O3⟩
    have n1 : ¬ nI P.length ≤ nI i := nI_nle2 (by omega) (by omega) hi
    have x1 : (17 : Int32) + nI i = nI (17 + i) := xI 17 i
    have r := M2.r100 (j := i) (by omega)
    rw [r3 i hi] at r
    rw [ee_78_2]
    simp only [ee_78_0, ee_78_1, ee_78_3, ee_78_3N, ee_78_4, ee_78_7, ee_78_10, ee_78_10N, ee_78_11, ee_78_14, ee_78_16, ee_78_17, ee_78_18, ee_78_18N, ee_78_19, ee_78_22, ee_78_23, ee_78_24, ee_78_25, ee_78_28, ee_78_31, ee_78_31N, ee_78_32, ee_78_35, ee_78_37, ee_78_37N, ee_78_38, ee_78_41, ee_78_42, ee_78_42N, ee_78_43, ee_78_44, ee_78_47, ee_78_47N, ee_78_48, ee_78_51, ee_78_53, ee_78_54, M2.F, n1, x1, r, w3, nI_1, Option.bind_some, Option.toList, List.cons_append, List.nil_append, List.append_nil, if_true, if_false, Bool.false_eq_true, eq_self, not_true_eq_false, not_false_eq_true])
  obtain ⟨ls, h3, e3, rfl, M3, O3⟩ := lp _ h ⟨rfl, M0, Off.rf⟩
  obtain ⟨h4, w4, M4, O4⟩ := M3.w97 (j := 26) (nI P.length) (by decide)
  obtain ⟨h5, w5, M5, O5⟩ := M4.p4 0
  have r5 := M5.r97 (j := 26) (by decide)
  have hl : S.length = 59 := M0.2.1.2
  rw [getD_set, if_pos ⟨rfl, by rw [updR_len, hl]; decide⟩] at r5
  have at' : ∀ j, j < 59 → ((updR S 17 (fun i => P.getD i 0) P.length).set 26 (nI P.length)).getD j 0 = if j = 26 then nI P.length else if 17 ≤ j ∧ j < 17 + P.length then P.getD (j - 17) 0 else S.getD j 0 := by
    intro j hj
    rw [getD_set, updR_len, updR_at _ _ _ _ _ (by omega)]
    by_cases h1 : j = 26
    · rw [if_pos ⟨h1.symm, by omega⟩, if_pos h1]
    · rw [if_neg (by omega), if_neg h1]
  refine ⟨h5, ?_, ⟨_, I, PD, SQ, CV, FP, l, m, k, t, f, M5, ?_, r1, r2, by decide, fun i hi => absurd hi (Nat.not_lt_zero i)⟩, (O3.trans O4).trans O5⟩
  · rw [nI_0] at e3
    have n1 : nI P.length ≤ nI P.length := Int32.le_refl _
    have w4' : is_ h3 97 26 (nI P.length) = some h4 := w4
    have r5' : ia h5 97 26 = some (nI P.length) := r5
    simp only [ee_78_0, ee_78_1, ee_78_3, ee_78_3N, ee_78_4, ee_78_7, ee_78_10, ee_78_10N, ee_78_11, ee_78_14, ee_78_16, ee_78_17, ee_78_18, ee_78_18N, ee_78_19, ee_78_22, ee_78_23, ee_78_24, ee_78_25, ee_78_28, ee_78_31, ee_78_31N, ee_78_32, ee_78_35, ee_78_37, ee_78_37N, ee_78_38, ee_78_41, ee_78_42, ee_78_42N, ee_78_43, ee_78_44, ee_78_47, ee_78_47N, ee_78_48, ee_78_51, ee_78_53, ee_78_54, e3, Option.bind_some, Option.toList, List.cons_append, List.nil_append, List.append_nil, if_true, if_false, Bool.false_eq_true, eq_self, not_true_eq_false, not_false_eq_true]
    rw [ee_78_2]
    simp only [ee_78_0, ee_78_1, ee_78_3, ee_78_3N, ee_78_4, ee_78_7, ee_78_10, ee_78_10N, ee_78_11, ee_78_14, ee_78_16, ee_78_17, ee_78_18, ee_78_18N, ee_78_19, ee_78_22, ee_78_23, ee_78_24, ee_78_25, ee_78_28, ee_78_31, ee_78_31N, ee_78_32, ee_78_35, ee_78_37, ee_78_37N, ee_78_38, ee_78_41, ee_78_42, ee_78_42N, ee_78_43, ee_78_44, ee_78_47, ee_78_47N, ee_78_48, ee_78_51, ee_78_53, ee_78_54, M3.F, M4.F, M5.F, n1, w4', w5, r5', Option.bind_some, Option.toList, List.cons_append, List.nil_append, List.append_nil, if_true, if_false, Bool.false_eq_true, eq_self, not_true_eq_false, not_false_eq_true]
  · exact E.rest G h9 (by rw [at' _ (by omega), if_pos rfl]) (fun i hi => by rw [at' _ (by omega), if_neg (by omega), if_pos (by omega), Nat.add_sub_cancel_left]) (fun j hj h1 => by rw [at' _ hj, if_neg (by omega), if_neg (by omega)])
/-- take: from where the number is read -/
theorem o79_w {kd j : Nat} (hk : kd < 2) (hj : j < 3) (h4 : P.length ≤ 4) (e0 : S.getD (27 + kd) 0 = nI j) (hP : ∀ i, i < P.length → PD.getD i 0 = P.getD i 0) (M0 : ML h S I PD SQ CV FP a b (nI P.length) l m k t f) : ∃ h', go d 79 64 [.ref 96, .int (nI kd), aU, aU] [] h = some (some (.int (nI j)), h') ∧ ML h' (((updR S (29 + 12 * kd + 4 * j) (fun i => P.getD i 0) P.length).set (53 + 3 * kd + j) (nI P.length)).set (27 + kd) (nI (j + 1))) I PD SQ CV FP a b 0 l m k t f ∧ Off h h' 96 104 := by
  have lp := go_iter (d := d) (M := 79) (pc := 84) (fun i ls h' => ls = [.ref 96, .int (nI kd), .int (nI j), .int (nI i)] ∧ ML h' (updR S (29 + 12 * kd + 4 * j) (fun i => P.getD i 0) i) I PD SQ CV FP a b (nI P.length) l m k t f ∧ Off h h' 96 104) P.length (by
    rintro i ls h2 hi ⟨rfl, M2, O2⟩
    obtain ⟨h3, w3, M3, O3⟩ := M2.w97 (j := 29 + 12 * kd + 4 * j + i) (P.getD i 0) (by omega)
    refine ⟨_, h3, ?_, rfl, M3, O2.trans O3⟩
    have n1 : ¬ nI P.length ≤ nI i := nI_nle2 (by omega) (by omega) hi
    have x1 : (29 : Int32) + 12 * nI kd + 4 * nI j + nI i = nI (29 + 12 * kd + 4 * j + i) := by rw [show (29 : Int32) = nI 29 by decide, show (12 : Int32) = nI 12 by decide, show (4 : Int32) = nI 4 by decide, pk_mul, pk_mul, nI_add, nI_add, nI_add]
    have r := M2.r100 (j := i) (by omega)
    rw [hP i hi] at r
    rw [ee_79_84]
    simp only [ee_79_0, ee_79_1, ee_79_2, ee_79_3, ee_79_6, ee_79_9, ee_79_11, ee_79_12, ee_79_12N, ee_79_13, ee_79_16, ee_79_17, ee_79_20, ee_79_21, ee_79_24, ee_79_25, ee_79_26, ee_79_29, ee_79_30, ee_79_33, ee_79_34, ee_79_35, ee_79_36, ee_79_39, ee_79_41, ee_79_44, ee_79_45, ee_79_48, ee_79_51, ee_79_53, ee_79_54, ee_79_55, ee_79_56, ee_79_59, ee_79_59N, ee_79_60, ee_79_63, ee_79_64, ee_79_64N, ee_79_65, ee_79_68, ee_79_70, ee_79_71, ee_79_72, ee_79_73, ee_79_74, ee_79_75, ee_79_76, ee_79_79, ee_79_81, ee_79_82, ee_79_83, ee_79_85, ee_79_85N, ee_79_86, ee_79_89, ee_79_92, ee_79_92N, ee_79_93, ee_79_96, ee_79_98, ee_79_100, ee_79_101, ee_79_102, ee_79_103, ee_79_104, ee_79_105, ee_79_106, ee_79_107, ee_79_108, ee_79_109, ee_79_109N, ee_79_110, ee_79_113, ee_79_114, ee_79_115, ee_79_116, ee_79_119, ee_79_122, ee_79_122N, ee_79_123, ee_79_126, ee_79_128, ee_79_129, ee_79_130, ee_79_131, ee_79_132, ee_79_133, ee_79_134, ee_79_134N, ee_79_135, ee_79_138, ee_79_139, ee_79_139N, ee_79_140, ee_79_143, ee_79_145, ee_79_146, ee_79_147, ee_79_148, ee_79_149, ee_79_150, ee_79_151, ee_79_152, ee_79_152N, ee_79_153, ee_79_154, ee_79_157, ee_79_158, M2.F, n1, x1, r, w3, nI_1, Option.bind_some, Option.toList, List.cons_append, List.nil_append, List.append_nil, if_true, if_false, Bool.false_eq_true, eq_self, not_true_eq_false, not_false_eq_true])
  obtain ⟨ls, h3, e3, rfl, M3, O3⟩ := lp _ h ⟨rfl, M0, Off.rf⟩
  obtain ⟨h4', w4, M4, O4⟩ := M3.w97 (j := 53 + 3 * kd + j) (nI P.length) (by omega)
  have r4 := M4.r97 (j := 27 + kd) (by omega)
  have hl : S.length = 59 := M0.2.1.2
  rw [getD_set, if_neg (by omega), updR_at _ _ _ _ _ (by omega), if_neg (by omega), e0] at r4
  obtain ⟨h5, w5, M5, O5⟩ := M4.w97 (j := 27 + kd) (nI (j + 1)) (by omega)
  obtain ⟨h6, w6, M6, O6⟩ := M5.p4 0
  refine ⟨h6, ?_, M6, ((O3.trans O4).trans O5).trans O6⟩
  have r0 := M0.r97 (j := 27 + kd) (by omega)
  rw [e0] at r0
  have x1 : (27 : Int32) + nI kd = nI (27 + kd) := xI 27 kd
  have x2 : (53 : Int32) + 3 * nI kd + nI j = nI (53 + 3 * kd + j) := by rw [show (53 : Int32) = nI 53 by decide, show (3 : Int32) = nI 3 by decide, pk_mul, nI_add, nI_add]
  have n3 : ¬ nI j = 3 := by rw [show (3 : Int32) = nI 3 by decide, nI_eq (by omega) (by omega)]; omega
  have n1 : nI P.length ≤ nI P.length := Int32.le_refl _
  rw [nI_0] at e3
  simp only [ee_79_0, ee_79_1, ee_79_2, ee_79_3, ee_79_6, ee_79_9, ee_79_11, ee_79_12, ee_79_12N, ee_79_13, ee_79_16, ee_79_17, ee_79_20, ee_79_21, ee_79_24, ee_79_25, ee_79_26, ee_79_29, ee_79_30, ee_79_33, ee_79_34, ee_79_35, ee_79_36, ee_79_39, ee_79_41, ee_79_44, ee_79_45, ee_79_48, ee_79_51, ee_79_53, ee_79_54, ee_79_55, ee_79_56, ee_79_59, ee_79_59N, ee_79_60, ee_79_63, ee_79_64, ee_79_64N, ee_79_65, ee_79_68, ee_79_70, ee_79_71, ee_79_72, ee_79_73, ee_79_74, ee_79_75, ee_79_76, ee_79_79, ee_79_81, ee_79_82, ee_79_83, ee_79_85, ee_79_85N, ee_79_86, ee_79_89, ee_79_92, ee_79_92N, ee_79_93, ee_79_96, ee_79_98, ee_79_100, ee_79_101, ee_79_102, ee_79_103, ee_79_104, ee_79_105, ee_79_106, ee_79_107, ee_79_108, ee_79_109, ee_79_109N, ee_79_110, ee_79_113, ee_79_114, ee_79_115, ee_79_116, ee_79_119, ee_79_122, ee_79_122N, ee_79_123, ee_79_126, ee_79_128, ee_79_129, ee_79_130, ee_79_131, ee_79_132, ee_79_133, ee_79_134, ee_79_134N, ee_79_135, ee_79_138, ee_79_139, ee_79_139N, ee_79_140, ee_79_143, ee_79_145, ee_79_146, ee_79_147, ee_79_148, ee_79_149, ee_79_150, ee_79_151, ee_79_152, ee_79_152N, ee_79_153, ee_79_154, ee_79_157, ee_79_158, M0.F, x1, r0, n3, e3, Option.bind_some, Option.toList, List.cons_append, List.nil_append, List.append_nil, if_true, if_false, Bool.false_eq_true, eq_self, not_true_eq_false, not_false_eq_true]
  rw [ee_79_84]
  simp only [ee_79_0, ee_79_1, ee_79_2, ee_79_3, ee_79_6, ee_79_9, ee_79_11, ee_79_12, ee_79_12N, ee_79_13, ee_79_16, ee_79_17, ee_79_20, ee_79_21, ee_79_24, ee_79_25, ee_79_26, ee_79_29, ee_79_30, ee_79_33, ee_79_34, ee_79_35, ee_79_36, ee_79_39, ee_79_41, ee_79_44, ee_79_45, ee_79_48, ee_79_51, ee_79_53, ee_79_54, ee_79_55, ee_79_56, ee_79_59, ee_79_59N, ee_79_60, ee_79_63, ee_79_64, ee_79_64N, ee_79_65, ee_79_68, ee_79_70, ee_79_71, ee_79_72, ee_79_73, ee_79_74, ee_79_75, ee_79_76, ee_79_79, ee_79_81, ee_79_82, ee_79_83, ee_79_85, ee_79_85N, ee_79_86, ee_79_89, ee_79_92, ee_79_92N, ee_79_93, ee_79_96, ee_79_98, ee_79_100, ee_79_101, ee_79_102, ee_79_103, ee_79_104, ee_79_105, ee_79_106, ee_79_107, ee_79_108, ee_79_109, ee_79_109N, ee_79_110, ee_79_113, ee_79_114, ee_79_115, ee_79_116, ee_79_119, ee_79_122, ee_79_122N, ee_79_123, ee_79_126, ee_79_128, ee_79_129, ee_79_130, ee_79_131, ee_79_132, ee_79_133, ee_79_134, ee_79_134N, ee_79_135, ee_79_138, ee_79_139, ee_79_139N, ee_79_140, ee_79_143, ee_79_145, ee_79_146, ee_79_147, ee_79_148, ee_79_149, ee_79_150, ee_79_151, ee_79_152, ee_79_152N, ee_79_153, ee_79_154, ee_79_157, ee_79_158, M3.F, M4.F, M5.F, x1, x2, n1, w4, w5, w6, r4, nI_1, Option.bind_some, Option.toList, List.cons_append, List.nil_append, List.append_nil, if_true, if_false, Bool.false_eq_true, eq_self, not_true_eq_false, not_false_eq_true]
theorem rng2 {n lo hi : Nat} (h1 : n < 100) (h2 : lo < 100) (h3 : hi < 100) : ((lo ≤ n ∧ n ≤ hi) ∧ ¬ (nI n < nI lo ∨ nI hi < nI n)) ∨ (¬ (lo ≤ n ∧ n ≤ hi) ∧ (nI n < nI lo ∨ nI hi < nI n)) := by
  rw [nI_ltI (by omega) (by omega), nI_ltI (by omega) (by omega)]
  omega
theorem o_take {x : Int32} (G : GW g) (M : MI h g P i0 i1 a b) : ∃ h', go (d + 12) 79 0 [.ref 96, .int x, aU, aU] [] h = some (some (.int (q_take g P x).1), h') ∧ MI h' (q_take g P x).2.1 (q_take g P x).2.2 i0 i1 a b ∧ Off h h' 96 104 := by
  obtain ⟨S, I, PD, SQ, CV, FP, l, m, k, t, f, M0, E, r1, r2, hP, r3⟩ := id M
  have hl : S.length = 59 := M0.2.1.2
  unfold q_take
  rcases kk3 x with rfl | rfl | rfl | ⟨hk, z0, z1, z2⟩ | ⟨hk, hk2, hk3, z0, z1, z2⟩
  · have e1 := o65 (d := d + 11) (h := h) (v := 0) (x := 0) (y := 2)
    rw [if_neg (by decide)] at e1
    have e2 := o65 (d := d + 11) (h := h) (v := nI P.length) (x := nI 3) (y := nI 4)
    rcases rng2 (n := P.length) (lo := 3) (hi := 4) (by omega) (by decide) (by decide) with ⟨y1, y2⟩ | ⟨y1, y2⟩
    · rw [if_neg y2] at e2
      by_cases hn : g.2.2.1.length < 3
      · obtain ⟨h', e, M', O'⟩ := o79_w (d := d + 12) (kd := 0) (j := g.2.2.1.length) (by decide) hn y1.2 E.2.2.2.1.1 r3 M0
        have at' : ∀ j, j < 59 → (((updR S (29 + 12 * 0 + 4 * g.2.2.1.length) (fun i => P.getD i 0) P.length).set (53 + 3 * 0 + g.2.2.1.length) (nI P.length)).set (27 + 0) (nI (g.2.2.1.length + 1))).getD j 0 = if j = 27 then nI (g.2.2.1.length + 1) else if j = 53 + g.2.2.1.length then nI P.length else if 29 + 4 * g.2.2.1.length ≤ j ∧ j < 29 + 4 * g.2.2.1.length + P.length then P.getD (j - (29 + 4 * g.2.2.1.length)) 0 else S.getD j 0 := by
          intro j hj
          rw [getD_set, getD_set, List.length_set, updR_len, updR_at _ _ _ _ _ (by omega)]
          simp only [Nat.mul_zero, Nat.add_zero]
          by_cases h1 : j = 27
          · rw [if_pos ⟨h1.symm, by omega⟩, if_pos h1]
          · rw [if_neg (by omega), if_neg h1]
            by_cases h2 : j = 53 + g.2.2.1.length
            · rw [if_pos ⟨h2.symm, by omega⟩, if_pos h2]
            · rw [if_neg (by omega), if_neg h2]
        refine ⟨h', ?_, ?_, O'⟩
        · have e' : go (d + 12) 79 64 [.ref 96, .int 0, aU, aU] [] h = some (some (.int (nI g.2.2.1.length)), h') := e
          have e2' : go (d + 11) 65 0 [.int (nI P.length), .int 3, .int 4] [] h = some (some (.int 1), h) := e2
          simp only [ee_79_0, ee_79_1, ee_79_2, ee_79_3, ee_79_6, ee_79_9, ee_79_11, ee_79_12, ee_79_12N, ee_79_13, ee_79_16, ee_79_17, ee_79_20, ee_79_21, ee_79_24, ee_79_25, ee_79_26, ee_79_29, ee_79_30, ee_79_33, ee_79_34, ee_79_35, ee_79_36, ee_79_39, ee_79_41, ee_79_44, ee_79_45, ee_79_48, ee_79_51, ee_79_53, ee_79_54, ee_79_55, ee_79_56, ee_79_59, ee_79_59N, ee_79_60, ee_79_63, ee_79_65, ee_79_68, ee_79_70, ee_79_71, ee_79_72, ee_79_73, ee_79_74, ee_79_75, ee_79_76, ee_79_79, ee_79_81, ee_79_82, ee_79_83, ee_79_85, ee_79_85N, ee_79_86, ee_79_89, ee_79_92, ee_79_92N, ee_79_93, ee_79_96, ee_79_98, ee_79_100, ee_79_101, ee_79_102, ee_79_103, ee_79_104, ee_79_105, ee_79_106, ee_79_107, ee_79_108, ee_79_109, ee_79_109N, ee_79_110, ee_79_113, ee_79_114, ee_79_115, ee_79_116, ee_79_119, ee_79_122, ee_79_122N, ee_79_123, ee_79_126, ee_79_128, ee_79_129, ee_79_130, ee_79_131, ee_79_132, ee_79_133, ee_79_134, ee_79_134N, ee_79_135, ee_79_138, ee_79_139, ee_79_139N, ee_79_140, ee_79_143, ee_79_145, ee_79_146, ee_79_147, ee_79_148, ee_79_149, ee_79_150, ee_79_151, ee_79_152, ee_79_152N, ee_79_153, ee_79_154, ee_79_157, ee_79_158, M0.F, KK, e1, e2', e', y1, hn, and_self, Option.bind_some, Option.toList, List.cons_append, List.nil_append, List.append_nil, if_true, if_false, Bool.false_eq_true, eq_self, not_true_eq_false, not_false_eq_true]
        · simp only [eq_self, if_true, y1, and_self, hn]
          refine ⟨_, I, PD, SQ, CV, FP, l, m, k, t, f, M', ?_, r1, r2, by decide, fun i hi => absurd hi (Nat.not_lt_zero i)⟩
          exact E.word0 G rfl hn y1.2 (by rw [at' _ (by omega), if_pos rfl]) (by rw [at' _ (by omega), if_neg (by omega), if_pos rfl]) (fun i hi => by rw [at' _ (by omega), if_neg (by omega), if_neg (by omega), if_pos (by omega), Nat.add_sub_cancel_left]) (fun j hj h1 h2 h3 => by rw [at' _ hj, if_neg h1, if_neg h2, if_neg h3])
      · have n3 : nI g.2.2.1.length = 3 := by rw [show g.2.2.1.length = 3 by have := G.2.2.1; omega]; rfl
        refine ⟨h, ?_, by simp only [eq_self, if_true, y1, and_self, hn, if_false]; exact M, Off.rf⟩
        have r0 := M0.r97 (j := 27) (by omega)
        rw [E.s.2.2.2.1.1, n3] at r0
        have r0' : ia h 97 (27 + 0) = some 3 := r0
        have e2' : go (d + 11) 65 0 [.int (nI P.length), .int 3, .int 4] [] h = some (some (.int 1), h) := e2
        simp only [ee_79_0, ee_79_1, ee_79_2, ee_79_3, ee_79_6, ee_79_9, ee_79_11, ee_79_12, ee_79_12N, ee_79_13, ee_79_16, ee_79_17, ee_79_20, ee_79_21, ee_79_24, ee_79_25, ee_79_26, ee_79_29, ee_79_30, ee_79_33, ee_79_34, ee_79_35, ee_79_36, ee_79_39, ee_79_41, ee_79_44, ee_79_45, ee_79_48, ee_79_51, ee_79_53, ee_79_54, ee_79_55, ee_79_56, ee_79_59, ee_79_59N, ee_79_60, ee_79_63, ee_79_64, ee_79_64N, ee_79_65, ee_79_68, ee_79_70, ee_79_71, ee_79_72, ee_79_73, ee_79_74, ee_79_75, ee_79_76, ee_79_79, ee_79_81, ee_79_82, ee_79_83, ee_79_85, ee_79_85N, ee_79_86, ee_79_89, ee_79_92, ee_79_92N, ee_79_93, ee_79_96, ee_79_98, ee_79_100, ee_79_101, ee_79_102, ee_79_103, ee_79_104, ee_79_105, ee_79_106, ee_79_107, ee_79_108, ee_79_109, ee_79_109N, ee_79_110, ee_79_113, ee_79_114, ee_79_115, ee_79_116, ee_79_119, ee_79_122, ee_79_122N, ee_79_123, ee_79_126, ee_79_128, ee_79_129, ee_79_130, ee_79_131, ee_79_132, ee_79_133, ee_79_134, ee_79_134N, ee_79_135, ee_79_138, ee_79_139, ee_79_139N, ee_79_140, ee_79_143, ee_79_145, ee_79_146, ee_79_147, ee_79_148, ee_79_149, ee_79_150, ee_79_151, ee_79_152, ee_79_152N, ee_79_153, ee_79_154, ee_79_157, ee_79_158, M0.F, KK, e1, e2', r0', y1, hn, and_self, Option.bind_some, Option.toList, List.cons_append, List.nil_append, List.append_nil, if_true, if_false, Bool.false_eq_true, eq_self, not_true_eq_false, not_false_eq_true]
    · rw [if_pos y2] at e2
      refine ⟨h, ?_, by simp only [eq_self, if_true, y1, if_false]; exact M, Off.rf⟩
      have e2' : go (d + 11) 65 0 [.int (nI P.length), .int 3, .int 4] [] h = some (some (.int 0), h) := e2
      simp only [ee_79_0, ee_79_1, ee_79_2, ee_79_3, ee_79_6, ee_79_9, ee_79_11, ee_79_12, ee_79_12N, ee_79_13, ee_79_16, ee_79_17, ee_79_20, ee_79_21, ee_79_24, ee_79_25, ee_79_26, ee_79_29, ee_79_30, ee_79_33, ee_79_34, ee_79_35, ee_79_36, ee_79_39, ee_79_41, ee_79_44, ee_79_45, ee_79_48, ee_79_51, ee_79_53, ee_79_54, ee_79_55, ee_79_56, ee_79_59, ee_79_59N, ee_79_60, ee_79_63, ee_79_65, ee_79_68, ee_79_70, ee_79_71, ee_79_72, ee_79_73, ee_79_74, ee_79_75, ee_79_76, ee_79_79, ee_79_81, ee_79_82, ee_79_83, ee_79_85, ee_79_85N, ee_79_86, ee_79_89, ee_79_92, ee_79_92N, ee_79_93, ee_79_96, ee_79_98, ee_79_100, ee_79_101, ee_79_102, ee_79_103, ee_79_104, ee_79_105, ee_79_106, ee_79_107, ee_79_108, ee_79_109, ee_79_109N, ee_79_110, ee_79_113, ee_79_114, ee_79_115, ee_79_116, ee_79_119, ee_79_122, ee_79_122N, ee_79_123, ee_79_126, ee_79_128, ee_79_129, ee_79_130, ee_79_131, ee_79_132, ee_79_133, ee_79_134, ee_79_134N, ee_79_135, ee_79_138, ee_79_139, ee_79_139N, ee_79_140, ee_79_143, ee_79_145, ee_79_146, ee_79_147, ee_79_148, ee_79_149, ee_79_150, ee_79_151, ee_79_152, ee_79_152N, ee_79_153, ee_79_154, ee_79_157, ee_79_158, M0.F, KK, e1, e2', y1, Option.bind_some, Option.toList, List.cons_append, List.nil_append, List.append_nil, if_true, if_false, Bool.false_eq_true, eq_self, not_true_eq_false, not_false_eq_true]
  · have e1 := o65 (d := d + 11) (h := h) (v := 1) (x := 0) (y := 2)
    rw [if_neg (by decide)] at e1
    have e2 := o65 (d := d + 11) (h := h) (v := nI P.length) (x := nI 2) (y := nI 4)
    rcases rng2 (n := P.length) (lo := 2) (hi := 4) (by omega) (by decide) (by decide) with ⟨y1, y2⟩ | ⟨y1, y2⟩
    · rw [if_neg y2] at e2
      by_cases hn : g.2.2.2.1.length < 3
      · obtain ⟨h', e, M', O'⟩ := o79_w (d := d + 12) (kd := 1) (j := g.2.2.2.1.length) (by decide) hn y1.2 E.2.2.2.1.2 r3 M0
        have at' : ∀ j, j < 59 → (((updR S (29 + 12 * 1 + 4 * g.2.2.2.1.length) (fun i => P.getD i 0) P.length).set (53 + 3 * 1 + g.2.2.2.1.length) (nI P.length)).set (27 + 1) (nI (g.2.2.2.1.length + 1))).getD j 0 = if j = 28 then nI (g.2.2.2.1.length + 1) else if j = 56 + g.2.2.2.1.length then nI P.length else if 41 + 4 * g.2.2.2.1.length ≤ j ∧ j < 41 + 4 * g.2.2.2.1.length + P.length then P.getD (j - (41 + 4 * g.2.2.2.1.length)) 0 else S.getD j 0 := by
          intro j hj
          rw [getD_set, getD_set, List.length_set, updR_len, updR_at _ _ _ _ _ (by omega)]
          by_cases h1 : j = 28
          · rw [if_pos ⟨h1.symm, by omega⟩, if_pos h1]
          · rw [if_neg (by omega), if_neg h1]
            by_cases h2 : j = 56 + g.2.2.2.1.length
            · rw [if_pos ⟨by omega, by omega⟩, if_pos h2]
            · rw [if_neg (by omega), if_neg h2]
        refine ⟨h', ?_, ?_, O'⟩
        · have e' : go (d + 12) 79 64 [.ref 96, .int 1, aU, aU] [] h = some (some (.int (nI g.2.2.2.1.length)), h') := e
          have e2' : go (d + 11) 65 0 [.int (nI P.length), .int 2, .int 4] [] h = some (some (.int 1), h) := e2
          simp only [ee_79_0, ee_79_1, ee_79_2, ee_79_3, ee_79_6, ee_79_9, ee_79_11, ee_79_12, ee_79_12N, ee_79_13, ee_79_16, ee_79_17, ee_79_20, ee_79_21, ee_79_24, ee_79_25, ee_79_26, ee_79_29, ee_79_30, ee_79_33, ee_79_34, ee_79_35, ee_79_36, ee_79_39, ee_79_41, ee_79_44, ee_79_45, ee_79_48, ee_79_51, ee_79_53, ee_79_54, ee_79_55, ee_79_56, ee_79_59, ee_79_59N, ee_79_60, ee_79_63, ee_79_65, ee_79_68, ee_79_70, ee_79_71, ee_79_72, ee_79_73, ee_79_74, ee_79_75, ee_79_76, ee_79_79, ee_79_81, ee_79_82, ee_79_83, ee_79_85, ee_79_85N, ee_79_86, ee_79_89, ee_79_92, ee_79_92N, ee_79_93, ee_79_96, ee_79_98, ee_79_100, ee_79_101, ee_79_102, ee_79_103, ee_79_104, ee_79_105, ee_79_106, ee_79_107, ee_79_108, ee_79_109, ee_79_109N, ee_79_110, ee_79_113, ee_79_114, ee_79_115, ee_79_116, ee_79_119, ee_79_122, ee_79_122N, ee_79_123, ee_79_126, ee_79_128, ee_79_129, ee_79_130, ee_79_131, ee_79_132, ee_79_133, ee_79_134, ee_79_134N, ee_79_135, ee_79_138, ee_79_139, ee_79_139N, ee_79_140, ee_79_143, ee_79_145, ee_79_146, ee_79_147, ee_79_148, ee_79_149, ee_79_150, ee_79_151, ee_79_152, ee_79_152N, ee_79_153, ee_79_154, ee_79_157, ee_79_158, M0.F, KK, e1, e2', e', y1, hn, and_self, Option.bind_some, Option.toList, List.cons_append, List.nil_append, List.append_nil, if_true, if_false, Bool.false_eq_true, eq_self, not_true_eq_false, not_false_eq_true]
        · simp only [KK, eq_self, if_true, if_false, y1, and_self, hn]
          refine ⟨_, I, PD, SQ, CV, FP, l, m, k, t, f, M', ?_, r1, r2, by decide, fun i hi => absurd hi (Nat.not_lt_zero i)⟩
          exact E.word1 G rfl hn y1.2 (by rw [at' _ (by omega), if_pos rfl]) (by rw [at' _ (by omega), if_neg (by omega), if_pos rfl]) (fun i hi => by rw [at' _ (by omega), if_neg (by omega), if_neg (by omega), if_pos (by omega), Nat.add_sub_cancel_left]) (fun j hj h1 h2 h3 => by rw [at' _ hj, if_neg h1, if_neg h2, if_neg h3])
      · have n3 : nI g.2.2.2.1.length = 3 := by rw [show g.2.2.2.1.length = 3 by have := G.2.2.2; omega]; rfl
        refine ⟨h, ?_, by simp only [KK, eq_self, if_true, y1, and_self, hn, if_false]; exact M, Off.rf⟩
        have r0 := M0.r97 (j := 28) (by omega)
        rw [E.s.2.2.2.1.2, n3] at r0
        have r0' : ia h 97 (27 + 1) = some 3 := r0
        have e2' : go (d + 11) 65 0 [.int (nI P.length), .int 2, .int 4] [] h = some (some (.int 1), h) := e2
        simp only [ee_79_0, ee_79_1, ee_79_2, ee_79_3, ee_79_6, ee_79_9, ee_79_11, ee_79_12, ee_79_12N, ee_79_13, ee_79_16, ee_79_17, ee_79_20, ee_79_21, ee_79_24, ee_79_25, ee_79_26, ee_79_29, ee_79_30, ee_79_33, ee_79_34, ee_79_35, ee_79_36, ee_79_39, ee_79_41, ee_79_44, ee_79_45, ee_79_48, ee_79_51, ee_79_53, ee_79_54, ee_79_55, ee_79_56, ee_79_59, ee_79_59N, ee_79_60, ee_79_63, ee_79_64, ee_79_64N, ee_79_65, ee_79_68, ee_79_70, ee_79_71, ee_79_72, ee_79_73, ee_79_74, ee_79_75, ee_79_76, ee_79_79, ee_79_81, ee_79_82, ee_79_83, ee_79_85, ee_79_85N, ee_79_86, ee_79_89, ee_79_92, ee_79_92N, ee_79_93, ee_79_96, ee_79_98, ee_79_100, ee_79_101, ee_79_102, ee_79_103, ee_79_104, ee_79_105, ee_79_106, ee_79_107, ee_79_108, ee_79_109, ee_79_109N, ee_79_110, ee_79_113, ee_79_114, ee_79_115, ee_79_116, ee_79_119, ee_79_122, ee_79_122N, ee_79_123, ee_79_126, ee_79_128, ee_79_129, ee_79_130, ee_79_131, ee_79_132, ee_79_133, ee_79_134, ee_79_134N, ee_79_135, ee_79_138, ee_79_139, ee_79_139N, ee_79_140, ee_79_143, ee_79_145, ee_79_146, ee_79_147, ee_79_148, ee_79_149, ee_79_150, ee_79_151, ee_79_152, ee_79_152N, ee_79_153, ee_79_154, ee_79_157, ee_79_158, M0.F, KK, e1, e2', r0', y1, hn, and_self, Option.bind_some, Option.toList, List.cons_append, List.nil_append, List.append_nil, if_true, if_false, Bool.false_eq_true, eq_self, not_true_eq_false, not_false_eq_true]
    · rw [if_pos y2] at e2
      refine ⟨h, ?_, by simp only [KK, eq_self, if_true, y1, if_false]; exact M, Off.rf⟩
      have e2' : go (d + 11) 65 0 [.int (nI P.length), .int 2, .int 4] [] h = some (some (.int 0), h) := e2
      simp only [ee_79_0, ee_79_1, ee_79_2, ee_79_3, ee_79_6, ee_79_9, ee_79_11, ee_79_12, ee_79_12N, ee_79_13, ee_79_16, ee_79_17, ee_79_20, ee_79_21, ee_79_24, ee_79_25, ee_79_26, ee_79_29, ee_79_30, ee_79_33, ee_79_34, ee_79_35, ee_79_36, ee_79_39, ee_79_41, ee_79_44, ee_79_45, ee_79_48, ee_79_51, ee_79_53, ee_79_54, ee_79_55, ee_79_56, ee_79_59, ee_79_59N, ee_79_60, ee_79_63, ee_79_65, ee_79_68, ee_79_70, ee_79_71, ee_79_72, ee_79_73, ee_79_74, ee_79_75, ee_79_76, ee_79_79, ee_79_81, ee_79_82, ee_79_83, ee_79_85, ee_79_85N, ee_79_86, ee_79_89, ee_79_92, ee_79_92N, ee_79_93, ee_79_96, ee_79_98, ee_79_100, ee_79_101, ee_79_102, ee_79_103, ee_79_104, ee_79_105, ee_79_106, ee_79_107, ee_79_108, ee_79_109, ee_79_109N, ee_79_110, ee_79_113, ee_79_114, ee_79_115, ee_79_116, ee_79_119, ee_79_122, ee_79_122N, ee_79_123, ee_79_126, ee_79_128, ee_79_129, ee_79_130, ee_79_131, ee_79_132, ee_79_133, ee_79_134, ee_79_134N, ee_79_135, ee_79_138, ee_79_139, ee_79_139N, ee_79_140, ee_79_143, ee_79_145, ee_79_146, ee_79_147, ee_79_148, ee_79_149, ee_79_150, ee_79_151, ee_79_152, ee_79_152N, ee_79_153, ee_79_154, ee_79_157, ee_79_158, M0.F, KK, e1, e2', y1, Option.bind_some, Option.toList, List.cons_append, List.nil_append, List.append_nil, if_true, if_false, Bool.false_eq_true, eq_self, not_true_eq_false, not_false_eq_true]
  · have e1 := o65 (d := d + 11) (h := h) (v := 2) (x := 0) (y := 2)
    rw [if_neg (by decide)] at e1
    have e2 := o65 (d := d + 11) (h := h) (v := nI P.length) (x := nI 1) (y := nI 9)
    rcases rng2 (n := P.length) (lo := 1) (hi := 9) (by omega) (by decide) (by decide) with ⟨y1, y2⟩ | ⟨y1, y2⟩
    · rw [if_neg y2] at e2
      have e2' : go (d + 11) 65 0 [.int (nI P.length), .int 1, .int 9] [] h = some (some (.int 1), h) := e2
      obtain ⟨h', e, M', O'⟩ := o78 (d := d + 11) G y1.1 y1.2 M
      refine ⟨h', ?_, by simp only [KK, eq_self, if_true, y1, if_false, and_self]; exact M', O'⟩
      simp only [ee_79_0, ee_79_1, ee_79_2, ee_79_3, ee_79_6, ee_79_9, ee_79_11, ee_79_12, ee_79_12N, ee_79_13, ee_79_16, ee_79_17, ee_79_20, ee_79_21, ee_79_24, ee_79_25, ee_79_26, ee_79_29, ee_79_30, ee_79_33, ee_79_34, ee_79_35, ee_79_36, ee_79_39, ee_79_41, ee_79_44, ee_79_45, ee_79_48, ee_79_51, ee_79_53, ee_79_54, ee_79_55, ee_79_56, ee_79_59, ee_79_59N, ee_79_60, ee_79_63, ee_79_65, ee_79_68, ee_79_70, ee_79_71, ee_79_72, ee_79_73, ee_79_74, ee_79_75, ee_79_76, ee_79_79, ee_79_81, ee_79_82, ee_79_83, ee_79_85, ee_79_85N, ee_79_86, ee_79_89, ee_79_92, ee_79_92N, ee_79_93, ee_79_96, ee_79_98, ee_79_100, ee_79_101, ee_79_102, ee_79_103, ee_79_104, ee_79_105, ee_79_106, ee_79_107, ee_79_108, ee_79_109, ee_79_109N, ee_79_110, ee_79_113, ee_79_114, ee_79_115, ee_79_116, ee_79_119, ee_79_122, ee_79_122N, ee_79_123, ee_79_126, ee_79_128, ee_79_129, ee_79_130, ee_79_131, ee_79_132, ee_79_133, ee_79_134, ee_79_134N, ee_79_135, ee_79_138, ee_79_139, ee_79_139N, ee_79_140, ee_79_143, ee_79_145, ee_79_146, ee_79_147, ee_79_148, ee_79_149, ee_79_150, ee_79_151, ee_79_152, ee_79_152N, ee_79_153, ee_79_154, ee_79_157, ee_79_158, M0.F, KK, e1, e2', e, y1, and_self, Option.bind_some, Option.toList, List.cons_append, List.nil_append, List.append_nil, if_true, if_false, Bool.false_eq_true, eq_self, not_true_eq_false, not_false_eq_true]
    · rw [if_pos y2] at e2
      have e2' : go (d + 11) 65 0 [.int (nI P.length), .int 1, .int 9] [] h = some (some (.int 0), h) := e2
      refine ⟨h, ?_, by simp only [KK, eq_self, if_true, y1, if_false]; exact M, Off.rf⟩
      simp only [ee_79_0, ee_79_1, ee_79_2, ee_79_3, ee_79_6, ee_79_9, ee_79_11, ee_79_12, ee_79_12N, ee_79_13, ee_79_16, ee_79_17, ee_79_20, ee_79_21, ee_79_24, ee_79_25, ee_79_26, ee_79_29, ee_79_30, ee_79_33, ee_79_34, ee_79_35, ee_79_36, ee_79_39, ee_79_41, ee_79_44, ee_79_45, ee_79_48, ee_79_51, ee_79_53, ee_79_54, ee_79_55, ee_79_56, ee_79_59, ee_79_59N, ee_79_60, ee_79_63, ee_79_65, ee_79_68, ee_79_70, ee_79_71, ee_79_72, ee_79_73, ee_79_74, ee_79_75, ee_79_76, ee_79_79, ee_79_81, ee_79_82, ee_79_83, ee_79_85, ee_79_85N, ee_79_86, ee_79_89, ee_79_92, ee_79_92N, ee_79_93, ee_79_96, ee_79_98, ee_79_100, ee_79_101, ee_79_102, ee_79_103, ee_79_104, ee_79_105, ee_79_106, ee_79_107, ee_79_108, ee_79_109, ee_79_109N, ee_79_110, ee_79_113, ee_79_114, ee_79_115, ee_79_116, ee_79_119, ee_79_122, ee_79_122N, ee_79_123, ee_79_126, ee_79_128, ee_79_129, ee_79_130, ee_79_131, ee_79_132, ee_79_133, ee_79_134, ee_79_134N, ee_79_135, ee_79_138, ee_79_139, ee_79_139N, ee_79_140, ee_79_143, ee_79_145, ee_79_146, ee_79_147, ee_79_148, ee_79_149, ee_79_150, ee_79_151, ee_79_152, ee_79_152N, ee_79_153, ee_79_154, ee_79_157, ee_79_158, M0.F, KK, e1, e2', y1, Option.bind_some, Option.toList, List.cons_append, List.nil_append, List.append_nil, if_true, if_false, Bool.false_eq_true, eq_self, not_true_eq_false, not_false_eq_true]
  · have e1 := o65 (d := d + 11) (h := h) (v := x) (x := 0) (y := 2)
    rw [if_pos (Or.inl hk)] at e1
    refine ⟨h, ?_, by simp only [z0, z1, z2, if_false]; exact M, Off.rf⟩
    simp only [ee_79_0, ee_79_1, ee_79_2, ee_79_3, ee_79_6, ee_79_9, ee_79_11, ee_79_12, ee_79_12N, ee_79_13, ee_79_16, ee_79_17, ee_79_20, ee_79_21, ee_79_24, ee_79_25, ee_79_26, ee_79_29, ee_79_30, ee_79_33, ee_79_34, ee_79_35, ee_79_36, ee_79_39, ee_79_41, ee_79_44, ee_79_45, ee_79_48, ee_79_51, ee_79_53, ee_79_54, ee_79_55, ee_79_56, ee_79_59, ee_79_59N, ee_79_60, ee_79_63, ee_79_65, ee_79_68, ee_79_70, ee_79_71, ee_79_72, ee_79_73, ee_79_74, ee_79_75, ee_79_76, ee_79_79, ee_79_81, ee_79_82, ee_79_83, ee_79_85, ee_79_85N, ee_79_86, ee_79_89, ee_79_92, ee_79_92N, ee_79_93, ee_79_96, ee_79_98, ee_79_100, ee_79_101, ee_79_102, ee_79_103, ee_79_104, ee_79_105, ee_79_106, ee_79_107, ee_79_108, ee_79_109, ee_79_109N, ee_79_110, ee_79_113, ee_79_114, ee_79_115, ee_79_116, ee_79_119, ee_79_122, ee_79_122N, ee_79_123, ee_79_126, ee_79_128, ee_79_129, ee_79_130, ee_79_131, ee_79_132, ee_79_133, ee_79_134, ee_79_134N, ee_79_135, ee_79_138, ee_79_139, ee_79_139N, ee_79_140, ee_79_143, ee_79_145, ee_79_146, ee_79_147, ee_79_148, ee_79_149, ee_79_150, ee_79_151, ee_79_152, ee_79_152N, ee_79_153, ee_79_154, ee_79_157, ee_79_158, e1, z0, z1, z2, Option.bind_some, Option.toList, List.cons_append, List.nil_append, List.append_nil, if_true, if_false, Bool.false_eq_true, eq_self, not_true_eq_false, not_false_eq_true]
  · have e1 := o65 (d := d + 11) (h := h) (v := x) (x := 0) (y := 2)
    rw [if_pos (Or.inr hk3)] at e1
    refine ⟨h, ?_, by simp only [z0, z1, z2, if_false]; exact M, Off.rf⟩
    simp only [ee_79_0, ee_79_1, ee_79_2, ee_79_3, ee_79_6, ee_79_9, ee_79_11, ee_79_12, ee_79_12N, ee_79_13, ee_79_16, ee_79_17, ee_79_20, ee_79_21, ee_79_24, ee_79_25, ee_79_26, ee_79_29, ee_79_30, ee_79_33, ee_79_34, ee_79_35, ee_79_36, ee_79_39, ee_79_41, ee_79_44, ee_79_45, ee_79_48, ee_79_51, ee_79_53, ee_79_54, ee_79_55, ee_79_56, ee_79_59, ee_79_59N, ee_79_60, ee_79_63, ee_79_65, ee_79_68, ee_79_70, ee_79_71, ee_79_72, ee_79_73, ee_79_74, ee_79_75, ee_79_76, ee_79_79, ee_79_81, ee_79_82, ee_79_83, ee_79_85, ee_79_85N, ee_79_86, ee_79_89, ee_79_92, ee_79_92N, ee_79_93, ee_79_96, ee_79_98, ee_79_100, ee_79_101, ee_79_102, ee_79_103, ee_79_104, ee_79_105, ee_79_106, ee_79_107, ee_79_108, ee_79_109, ee_79_109N, ee_79_110, ee_79_113, ee_79_114, ee_79_115, ee_79_116, ee_79_119, ee_79_122, ee_79_122N, ee_79_123, ee_79_126, ee_79_128, ee_79_129, ee_79_130, ee_79_131, ee_79_132, ee_79_133, ee_79_134, ee_79_134N, ee_79_135, ee_79_138, ee_79_139, ee_79_139N, ee_79_140, ee_79_143, ee_79_145, ee_79_146, ee_79_147, ee_79_148, ee_79_149, ee_79_150, ee_79_151, ee_79_152, ee_79_152N, ee_79_153, ee_79_154, ee_79_157, ee_79_158, e1, z0, z1, z2, Option.bind_some, Option.toList, List.cons_append, List.nil_append, List.append_nil, if_true, if_false, Bool.false_eq_true, eq_self, not_true_eq_false, not_false_eq_true]
/-- drop -/
theorem in01 (x : Int32) : (x = 0 ∨ x = 1) ∧ ¬ (x < 0 ∨ 1 < x) ∨ (¬ x = 0 ∧ ¬ x = 1) ∧ (x < 0 ∨ 1 < x) := by
  by_cases h0 : x = 0
  · subst h0; decide
  · by_cases h1 : x = 1
    · subst h1; decide
    · refine Or.inr ⟨⟨h0, h1⟩, ?_⟩
      have a2 : ¬ x.toInt = 0 := fun z => h0 (Int32.toInt_inj.mp z)
      have a3 : ¬ x.toInt = 1 := fun z => h1 (Int32.toInt_inj.mp z)
      have e3 : (0 : Int32).toInt = 0 := by decide
      have e4 : (1 : Int32).toInt = 1 := by decide
      rw [Int32.lt_iff_toInt_lt, Int32.lt_iff_toInt_lt]
      omega
theorem Enc.drop0 {f f' : Nat → Int32} (E : Enc f g) (G : GW g) (e0 : f' 27 = 0) (e : ∀ j, j ≠ 27 → f' j = f j) : Enc f' (g.1, g.2.1, [], g.2.2.2) := by
  obtain ⟨e1, e2, ⟨e3, e4⟩, ⟨e5, e6⟩, e7, e8⟩ := E
  have h9 := G.1.2.2.2.2.2.2.1
  exact ⟨by rw [e _ (by omega)]; exact e1, fun c hc => by rw [e _ (by omega)]; exact e2 c hc, ⟨by rw [e _ (by omega)]; exact e3, fun i hi => by simp only at hi; rw [e _ (by omega)]; exact e4 i hi⟩, ⟨e0, by rw [e _ (by omega)]; exact e6⟩, fun k hk => absurd hk (Nat.not_lt_zero k), fun k hk => ⟨by rw [e _ (by omega)]; exact (e8 k hk).1, fun i hi => by rw [e _ (by omega)]; exact (e8 k hk).2 i hi⟩⟩
theorem Enc.drop1 {f f' : Nat → Int32} (E : Enc f g) (G : GW g) (e0 : f' 28 = 0) (e : ∀ j, j ≠ 28 → f' j = f j) : Enc f' (g.1, g.2.1, g.2.2.1, [], g.2.2.2.2) := by
  obtain ⟨e1, e2, ⟨e3, e4⟩, ⟨e5, e6⟩, e7, e8⟩ := E
  have h9 := G.1.2.2.2.2.2.2.1
  exact ⟨by rw [e _ (by omega)]; exact e1, fun c hc => by rw [e _ (by omega)]; exact e2 c hc, ⟨by rw [e _ (by omega)]; exact e3, fun i hi => by simp only at hi; rw [e _ (by omega)]; exact e4 i hi⟩, ⟨by rw [e _ (by omega)]; exact e5, e0⟩, fun k hk => ⟨by rw [e _ (by omega)]; exact (e7 k hk).1, fun i hi => by rw [e _ (by omega)]; exact (e7 k hk).2 i hi⟩, fun k hk => absurd hk (Nat.not_lt_zero k)⟩
theorem o_drop {x : Int32} (G : GW g) (M : MI h g P i0 i1 a b) : ∃ h', go (d + 12) 80 0 [.ref 96, .int x, aU] [] h = some (some (.int (q_drop g x).1), h') ∧ MI h' (q_drop g x).2 P i0 i1 a b ∧ Off h h' 96 104 := by
  obtain ⟨S, I, PD, SQ, CV, FP, l, m, k, t, f, M0, E, r⟩ := id M
  have e65 := o65 (d := d + 11) (h := h) (v := x) (x := 0) (y := 1)
  unfold q_drop
  rcases in01 x with ⟨hx, hy⟩ | ⟨⟨z0, z1⟩, hy⟩
  · rw [if_neg hy] at e65
    rcases hx with rfl | rfl
    · have r0 := M0.r97 (j := 27) (by omega)
      rw [E.s.2.2.2.1.1] at r0
      have r0' : ia h 97 (27 + 0) = some (nI g.2.2.1.length) := r0
      obtain ⟨h1, w1, M1, O1⟩ := M0.w97 (j := 27) 0 (by decide)
      have w1' : is_ h 97 (27 + 0) 0 = some h1 := w1
      refine ⟨h1, ?_, ⟨_, I, PD, SQ, CV, FP, l, m, k, t, f, M1, ?_, r⟩, O1⟩
      · simp only [ee_80_0, ee_80_1, ee_80_2, ee_80_3, ee_80_6, ee_80_9, ee_80_11, ee_80_12, ee_80_12N, ee_80_13, ee_80_16, ee_80_18, ee_80_19, ee_80_20, ee_80_21, ee_80_22, ee_80_22N, ee_80_23, ee_80_26, ee_80_28, ee_80_29, ee_80_30, ee_80_31, ee_80_32, ee_80_33, M0.F, KK, e65, r0', w1', Option.bind_some, Option.toList, List.cons_append, List.nil_append, List.append_nil, if_true, if_false, Bool.false_eq_true, eq_self, not_true_eq_false, not_false_eq_true]
      · simp only [eq_self, if_true]
        exact E.drop0 G (by rw [getD_set, if_pos ⟨rfl, by rw [M0.2.1.2]; decide⟩]) (fun j hj => by rw [getD_set, if_neg (by omega)])
    · have r0 := M0.r97 (j := 28) (by omega)
      rw [E.s.2.2.2.1.2] at r0
      have r0' : ia h 97 (27 + 1) = some (nI g.2.2.2.1.length) := r0
      obtain ⟨h1, w1, M1, O1⟩ := M0.w97 (j := 28) 0 (by decide)
      have w1' : is_ h 97 (27 + 1) 0 = some h1 := w1
      refine ⟨h1, ?_, ⟨_, I, PD, SQ, CV, FP, l, m, k, t, f, M1, ?_, r⟩, O1⟩
      · simp only [ee_80_0, ee_80_1, ee_80_2, ee_80_3, ee_80_6, ee_80_9, ee_80_11, ee_80_12, ee_80_12N, ee_80_13, ee_80_16, ee_80_18, ee_80_19, ee_80_20, ee_80_21, ee_80_22, ee_80_22N, ee_80_23, ee_80_26, ee_80_28, ee_80_29, ee_80_30, ee_80_31, ee_80_32, ee_80_33, M0.F, KK, e65, r0', w1', Option.bind_some, Option.toList, List.cons_append, List.nil_append, List.append_nil, if_true, if_false, Bool.false_eq_true, eq_self, not_true_eq_false, not_false_eq_true]
      · simp only [KK, eq_self, if_true, if_false]
        exact E.drop1 G (by rw [getD_set, if_pos ⟨rfl, by rw [M0.2.1.2]; decide⟩]) (fun j hj => by rw [getD_set, if_neg (by omega)])
  · rw [if_pos hy] at e65
    refine ⟨h, ?_, by simp only [z0, z1, if_false]; exact M, Off.rf⟩
    simp only [ee_80_0, ee_80_1, ee_80_2, ee_80_3, ee_80_6, ee_80_9, ee_80_11, ee_80_12, ee_80_12N, ee_80_13, ee_80_16, ee_80_18, ee_80_19, ee_80_20, ee_80_21, ee_80_22, ee_80_22N, ee_80_23, ee_80_26, ee_80_28, ee_80_29, ee_80_30, ee_80_31, ee_80_32, ee_80_33, e65, z0, z1, Option.bind_some, Option.toList, List.cons_append, List.nil_append, List.append_nil, if_true, if_false, Bool.false_eq_true, eq_self, not_true_eq_false, not_false_eq_true]
/-- fill -/
theorem o_fill (G : GW g) (M : MI h g P i0 i1 a b) : ∃ h', go (d + 12) 81 0 [.ref 96, aU, aU] [] h = some (some (.int (q_fill g P).1), h') ∧ MI h' (q_fill g P).2.1 (q_fill g P).2.2 i0 i1 a b ∧ Off h h' 96 104 := by
  obtain ⟨S, I, PD, SQ, CV, FP, l, m, k, t, f, M0, E, r1, r2, hP, r3⟩ := id M
  have hl : S.length = 59 := M0.2.1.2
  have hq := (sq_lt G.1.1).1
  have e66 := o66 (d := d + 11) M0 E.1
  unfold q_fill
  by_cases hz : P.length = g.1 * g.1
  · have lp := go_iter (d := d + 12) (M := 81) (pc := 18) (fun i ls h' => ls = [.ref 96, .int (nI (cnt (dif g.2.1 P) i)), .int (nI i)] ∧ ML h' (updR S 1 (fun i => P.getD i 0) i) I PD SQ CV FP a b (nI P.length) l m k t f ∧ Off h h' 96 104) P.length (by
      rintro i ls h2 hi ⟨rfl, M2, O2⟩
      obtain ⟨h3, w3, M3, O3⟩ := M2.w97 (j := 1 + i) (P.getD i 0) (by omega)
      refine ⟨_, h3, ?_, rfl, M3, O2.trans O3⟩
      have n1 : ¬ nI P.length ≤ nI i := nI_nle2 (by omega) (by omega) hi
      have x1 : (1 : Int32) + nI i = nI (1 + i) := xI 1 i
      have r := M2.r100 (j := i) (by omega)
      rw [r3 i hi] at r
      have r' := M2.r97 (j := 1 + i) (by omega)
      rw [updR_at _ _ _ _ _ (by omega), if_neg (by omega), E.s.2.1 i (by omega)] at r'
      rw [ee_81_18]
      by_cases hd : g.2.1.getD i 0 = P.getD i 0
      · have hd' : dif g.2.1 P i = false := by simp only [dif, hd, not_true_eq_false, decide_false]
        simp only [ee_81_0, ee_81_0N, ee_81_1, ee_81_4, ee_81_4N, ee_81_5, ee_81_8, ee_81_11, ee_81_13, ee_81_14, ee_81_15, ee_81_16, ee_81_17, ee_81_19, ee_81_19N, ee_81_20, ee_81_23, ee_81_26, ee_81_27, ee_81_27N, ee_81_28, ee_81_31, ee_81_32, ee_81_33, ee_81_34, ee_81_35, ee_81_35N, ee_81_36, ee_81_39, ee_81_40, ee_81_41, ee_81_44, ee_81_45, ee_81_48, ee_81_49, ee_81_50, ee_81_51, ee_81_51N, ee_81_52, ee_81_55, ee_81_56, ee_81_57, ee_81_58, ee_81_58N, ee_81_59, ee_81_62, ee_81_63, ee_81_64, ee_81_65, ee_81_68, ee_81_71, ee_81_71N, ee_81_72, ee_81_73, ee_81_76, ee_81_77, M2.F, n1, x1, r, r', hd, w3, nI_1, Int32.add_zero, cnt, hd', Nat.add_zero, Option.bind_some, Option.toList, List.cons_append, List.nil_append, List.append_nil, if_true, if_false, Bool.false_eq_true, eq_self, not_true_eq_false, not_false_eq_true]
      · have hd' : dif g.2.1 P i = true := by simp only [dif, hd, not_false_eq_true, decide_true]
        simp only [ee_81_0, ee_81_0N, ee_81_1, ee_81_4, ee_81_4N, ee_81_5, ee_81_8, ee_81_11, ee_81_13, ee_81_14, ee_81_15, ee_81_16, ee_81_17, ee_81_19, ee_81_19N, ee_81_20, ee_81_23, ee_81_26, ee_81_27, ee_81_27N, ee_81_28, ee_81_31, ee_81_32, ee_81_33, ee_81_34, ee_81_35, ee_81_35N, ee_81_36, ee_81_39, ee_81_40, ee_81_41, ee_81_44, ee_81_45, ee_81_48, ee_81_49, ee_81_50, ee_81_51, ee_81_51N, ee_81_52, ee_81_55, ee_81_56, ee_81_57, ee_81_58, ee_81_58N, ee_81_59, ee_81_62, ee_81_63, ee_81_64, ee_81_65, ee_81_68, ee_81_71, ee_81_71N, ee_81_72, ee_81_73, ee_81_76, ee_81_77, M2.F, n1, x1, r, r', hd, w3, nI_1, cnt, hd', Option.bind_some, Option.toList, List.cons_append, List.nil_append, List.append_nil, if_true, if_false, Bool.false_eq_true, eq_self, not_true_eq_false, not_false_eq_true])
    obtain ⟨ls, h3, e3, rfl, M3, O3⟩ := lp _ h ⟨rfl, M0, Off.rf⟩
    obtain ⟨h4, w4, M4, O4⟩ := M3.p4 0
    refine ⟨h4, ?_, ?_, O3.trans O4⟩
    · rw [show cnt (dif g.2.1 P) 0 = 0 from rfl, nI_0] at e3
      have n0 : nI P.length = nI (g.1 * g.1) := by rw [hz]
      have n1 : nI P.length ≤ nI P.length := Int32.le_refl _
      rw [if_pos hz]
      simp only [ee_81_0, ee_81_0N, ee_81_1, ee_81_4, ee_81_4N, ee_81_5, ee_81_8, ee_81_11, ee_81_13, ee_81_14, ee_81_15, ee_81_16, ee_81_17, ee_81_19, ee_81_19N, ee_81_20, ee_81_23, ee_81_26, ee_81_27, ee_81_27N, ee_81_28, ee_81_31, ee_81_32, ee_81_33, ee_81_34, ee_81_35, ee_81_35N, ee_81_36, ee_81_39, ee_81_40, ee_81_41, ee_81_44, ee_81_45, ee_81_48, ee_81_49, ee_81_50, ee_81_51, ee_81_51N, ee_81_52, ee_81_55, ee_81_56, ee_81_57, ee_81_58, ee_81_58N, ee_81_59, ee_81_62, ee_81_63, ee_81_64, ee_81_65, ee_81_68, ee_81_71, ee_81_71N, ee_81_72, ee_81_73, ee_81_76, ee_81_77, M0.F, e66, n0, Option.bind_some, Option.toList, List.cons_append, List.nil_append, List.append_nil, if_true, if_false, Bool.false_eq_true, eq_self, not_true_eq_false, not_false_eq_true]
      rw [e3, ee_81_18]
      simp only [ee_81_0, ee_81_0N, ee_81_1, ee_81_4, ee_81_4N, ee_81_5, ee_81_8, ee_81_11, ee_81_13, ee_81_14, ee_81_15, ee_81_16, ee_81_17, ee_81_19, ee_81_19N, ee_81_20, ee_81_23, ee_81_26, ee_81_27, ee_81_27N, ee_81_28, ee_81_31, ee_81_32, ee_81_33, ee_81_34, ee_81_35, ee_81_35N, ee_81_36, ee_81_39, ee_81_40, ee_81_41, ee_81_44, ee_81_45, ee_81_48, ee_81_49, ee_81_50, ee_81_51, ee_81_51N, ee_81_52, ee_81_55, ee_81_56, ee_81_57, ee_81_58, ee_81_58N, ee_81_59, ee_81_62, ee_81_63, ee_81_64, ee_81_65, ee_81_68, ee_81_71, ee_81_71N, ee_81_72, ee_81_73, ee_81_76, ee_81_77, M3.F, n1, w4, Option.bind_some, Option.toList, List.cons_append, List.nil_append, List.append_nil, if_true, if_false, Bool.false_eq_true, eq_self, not_true_eq_false, not_false_eq_true]
    · rw [if_pos hz]
      refine ⟨_, I, PD, SQ, CV, FP, l, m, k, t, f, M4, ?_, r1, r2, Nat.zero_le _, fun i hi => absurd hi (Nat.not_lt_zero i)⟩
      exact E.cells G (fun j hj h1 => by rw [updR_at _ _ _ _ _ (by omega), if_neg (by omega)]) (fun c hc => by
        rw [updR_at _ _ _ _ _ (by omega), updR_at _ _ _ _ _ (by rw [G.2.1]; omega)]
        by_cases h1 : c < P.length
        · rw [if_pos (by omega), if_pos (by omega), Nat.add_sub_cancel_left, Nat.sub_zero]
        · rw [if_neg (by omega), if_neg (by omega)]; exact E.2.1 c hc)
  · have n0 : ¬ nI P.length = nI (g.1 * g.1) := by rw [nI_eq (by omega) (by omega)]; exact hz
    refine ⟨h, ?_, by simp only [hz, if_false]; exact M, Off.rf⟩
    simp only [ee_81_0, ee_81_0N, ee_81_1, ee_81_4, ee_81_4N, ee_81_5, ee_81_8, ee_81_11, ee_81_13, ee_81_14, ee_81_15, ee_81_16, ee_81_17, ee_81_19, ee_81_19N, ee_81_20, ee_81_23, ee_81_26, ee_81_27, ee_81_27N, ee_81_28, ee_81_31, ee_81_32, ee_81_33, ee_81_34, ee_81_35, ee_81_35N, ee_81_36, ee_81_39, ee_81_40, ee_81_41, ee_81_44, ee_81_45, ee_81_48, ee_81_49, ee_81_50, ee_81_51, ee_81_51N, ee_81_52, ee_81_55, ee_81_56, ee_81_57, ee_81_58, ee_81_58N, ee_81_59, ee_81_62, ee_81_63, ee_81_64, ee_81_65, ee_81_68, ee_81_71, ee_81_71N, ee_81_72, ee_81_73, ee_81_76, ee_81_77, M0.F, e66, n0, hz, Option.bind_some, Option.toList, List.cons_append, List.nil_append, List.append_nil, if_true, if_false, Bool.false_eq_true, eq_self, not_true_eq_false, not_false_eq_true]
/-- letter -/
theorem o_letter {x y i : Int32} (G : GW g) (M : MI h g P i0 i1 a b) : go (d + 12) 82 0 [.ref 96, .int x, .int y, .int i] [] h = some (some (.int (q_letter g x y i)), h) := by
  obtain ⟨S, I, PD, SQ, CV, FP, l, m, k, t, f, M0, E, r⟩ := id M
  have e65 := o65 (d := d + 11) (h := h) (v := x) (x := 0) (y := 2)
  unfold q_letter
  by_cases hi : -1 ≤ i
  · have word : ∀ (kd : Nat) (ws : List (List Int32)), kd < 2 → ws.length ≤ 3 → x = nI kd → S.getD (27 + kd) 0 = nI ws.length → (∀ k, k < ws.length → S.getD (53 + 3 * kd + k) 0 = nI (ws.getD k []).length ∧ (ws.getD k []).length ≤ 4 ∧ ∀ i, i < (ws.getD k []).length → S.getD (29 + 12 * kd + 4 * k + i) 0 = (ws.getD k []).getD i 0) → go (d + 12) 82 63 [.ref 96, .int x, .int y, .int i] [] h = some (some (.int (q_ln (fnd ws y) i)), h) := by
      intro kd ws hkd hws hx c0 c1
      subst hx
      have e70 := o70 (d := d + 10) (x := y) M0 hkd (by omega) c0
      unfold fnd
      rcases pk_ix y (n := ws.length) (by omega) with hc | hc | ⟨j, hj, rfl⟩
      · simp only [hc, true_or, if_true] at e70 ⊢
        simp only [ee_82_0, ee_82_1, ee_82_2, ee_82_3, ee_82_6, ee_82_9, ee_82_10, ee_82_11, ee_82_14, ee_82_16, ee_82_17, ee_82_18, ee_82_19, ee_82_22, ee_82_23, ee_82_24, ee_82_27, ee_82_27N, ee_82_28, ee_82_31, ee_82_33, ee_82_34, ee_82_37, ee_82_38, ee_82_38N, ee_82_39, ee_82_42, ee_82_44, ee_82_45, ee_82_48, ee_82_48N, ee_82_49, ee_82_52, ee_82_54, ee_82_55, ee_82_56, ee_82_57, ee_82_60, ee_82_62, ee_82_63, ee_82_63N, ee_82_64, ee_82_65, ee_82_66, ee_82_69, ee_82_72, ee_82_73, ee_82_74, ee_82_75, ee_82_76, ee_82_79, ee_82_79N, ee_82_80, ee_82_81, ee_82_82, ee_82_85, ee_82_88, ee_82_89, ee_82_89N, ee_82_90, ee_82_91, ee_82_92, ee_82_95, ee_82_98, ee_82_98N, ee_82_99, ee_82_100, ee_82_101, ee_82_102, ee_82_105, ee_82_108, ee_82_110, M0.F, e70, q_ln, Option.bind_some, Option.toList, List.cons_append, List.nil_append, List.append_nil, if_true, if_false, Bool.false_eq_true, eq_self, not_true_eq_false, not_false_eq_true]
      · simp only [hc, or_true, if_true] at e70 ⊢
        simp only [ee_82_0, ee_82_1, ee_82_2, ee_82_3, ee_82_6, ee_82_9, ee_82_10, ee_82_11, ee_82_14, ee_82_16, ee_82_17, ee_82_18, ee_82_19, ee_82_22, ee_82_23, ee_82_24, ee_82_27, ee_82_27N, ee_82_28, ee_82_31, ee_82_33, ee_82_34, ee_82_37, ee_82_38, ee_82_38N, ee_82_39, ee_82_42, ee_82_44, ee_82_45, ee_82_48, ee_82_48N, ee_82_49, ee_82_52, ee_82_54, ee_82_55, ee_82_56, ee_82_57, ee_82_60, ee_82_62, ee_82_63, ee_82_63N, ee_82_64, ee_82_65, ee_82_66, ee_82_69, ee_82_72, ee_82_73, ee_82_74, ee_82_75, ee_82_76, ee_82_79, ee_82_79N, ee_82_80, ee_82_81, ee_82_82, ee_82_85, ee_82_88, ee_82_89, ee_82_89N, ee_82_90, ee_82_91, ee_82_92, ee_82_95, ee_82_98, ee_82_98N, ee_82_99, ee_82_100, ee_82_101, ee_82_102, ee_82_105, ee_82_108, ee_82_110, M0.F, e70, q_ln, Option.bind_some, Option.toList, List.cons_append, List.nil_append, List.append_nil, if_true, if_false, Bool.false_eq_true, eq_self, not_true_eq_false, not_false_eq_true]
      · have n1 : ¬ nI j < 0 := nI_pos (by omega)
        have n2 : ¬ nI ws.length ≤ nI j := nI_nle2 (by omega) (by omega) hj
        simp only [n1, n2, or_self, if_false] at e70 ⊢
        obtain ⟨d1, d2, d3⟩ := c1 j hj
        have e71 := o71 (d := d + 11) (kd := kd) (j := j) M0 hkd (by omega)
        rw [d1] at e71
        rw [nI_clamp (show j < 2 ^ 31 by omega)]
        unfold q_ln q_lt
        by_cases h1 : i = -1
        · simp only [ee_82_0, ee_82_1, ee_82_2, ee_82_3, ee_82_6, ee_82_9, ee_82_10, ee_82_11, ee_82_14, ee_82_16, ee_82_17, ee_82_18, ee_82_19, ee_82_22, ee_82_23, ee_82_24, ee_82_27, ee_82_27N, ee_82_28, ee_82_31, ee_82_33, ee_82_34, ee_82_37, ee_82_38, ee_82_38N, ee_82_39, ee_82_42, ee_82_44, ee_82_45, ee_82_48, ee_82_48N, ee_82_49, ee_82_52, ee_82_54, ee_82_55, ee_82_56, ee_82_57, ee_82_60, ee_82_62, ee_82_63, ee_82_63N, ee_82_64, ee_82_65, ee_82_66, ee_82_69, ee_82_72, ee_82_73, ee_82_74, ee_82_75, ee_82_76, ee_82_79, ee_82_79N, ee_82_80, ee_82_81, ee_82_82, ee_82_85, ee_82_88, ee_82_89, ee_82_89N, ee_82_90, ee_82_91, ee_82_92, ee_82_95, ee_82_98, ee_82_98N, ee_82_99, ee_82_100, ee_82_101, ee_82_102, ee_82_105, ee_82_108, ee_82_110, M0.F, KK, e70, e71, h1, Option.bind_some, Option.toList, List.cons_append, List.nil_append, List.append_nil, if_true, if_false, Bool.false_eq_true, eq_self, not_true_eq_false, not_false_eq_true]
        · by_cases h2 : nI (ws.getD j []).length ≤ i
          · simp only [ee_82_0, ee_82_1, ee_82_2, ee_82_3, ee_82_6, ee_82_9, ee_82_10, ee_82_11, ee_82_14, ee_82_16, ee_82_17, ee_82_18, ee_82_19, ee_82_22, ee_82_23, ee_82_24, ee_82_27, ee_82_27N, ee_82_28, ee_82_31, ee_82_33, ee_82_34, ee_82_37, ee_82_38, ee_82_38N, ee_82_39, ee_82_42, ee_82_44, ee_82_45, ee_82_48, ee_82_48N, ee_82_49, ee_82_52, ee_82_54, ee_82_55, ee_82_56, ee_82_57, ee_82_60, ee_82_62, ee_82_63, ee_82_63N, ee_82_64, ee_82_65, ee_82_66, ee_82_69, ee_82_72, ee_82_73, ee_82_74, ee_82_75, ee_82_76, ee_82_79, ee_82_79N, ee_82_80, ee_82_81, ee_82_82, ee_82_85, ee_82_88, ee_82_89, ee_82_89N, ee_82_90, ee_82_91, ee_82_92, ee_82_95, ee_82_98, ee_82_98N, ee_82_99, ee_82_100, ee_82_101, ee_82_102, ee_82_105, ee_82_108, ee_82_110, M0.F, KK, e70, e71, h1, h2, Option.bind_some, Option.toList, List.cons_append, List.nil_append, List.append_nil, if_true, if_false, Bool.false_eq_true, eq_self, not_true_eq_false, not_false_eq_true]
          · obtain ⟨c, hc, rfl⟩ : ∃ c, c < (ws.getD j []).length ∧ i = nI c := by
              rcases pk_ix i (n := (ws.getD j []).length) (by omega) with hc | hc | hc
              · exact absurd hc (ge_m1 hi h1)
              · exact absurd hc h2
              · exact hc
            have e72 := o72 (d := d + 11) (kd := kd) (j := j) (i := c) M0 hkd (by omega) (by omega)
            rw [d3 c hc] at e72
            simp only [ee_82_0, ee_82_1, ee_82_2, ee_82_3, ee_82_6, ee_82_9, ee_82_10, ee_82_11, ee_82_14, ee_82_16, ee_82_17, ee_82_18, ee_82_19, ee_82_22, ee_82_23, ee_82_24, ee_82_27, ee_82_27N, ee_82_28, ee_82_31, ee_82_33, ee_82_34, ee_82_37, ee_82_38, ee_82_38N, ee_82_39, ee_82_42, ee_82_44, ee_82_45, ee_82_48, ee_82_48N, ee_82_49, ee_82_52, ee_82_54, ee_82_55, ee_82_56, ee_82_57, ee_82_60, ee_82_62, ee_82_63, ee_82_63N, ee_82_64, ee_82_65, ee_82_66, ee_82_69, ee_82_72, ee_82_73, ee_82_74, ee_82_75, ee_82_76, ee_82_79, ee_82_79N, ee_82_80, ee_82_81, ee_82_82, ee_82_85, ee_82_88, ee_82_89, ee_82_89N, ee_82_90, ee_82_91, ee_82_92, ee_82_95, ee_82_98, ee_82_98N, ee_82_99, ee_82_100, ee_82_101, ee_82_102, ee_82_105, ee_82_108, ee_82_110, M0.F, KK, e70, e71, e72, h1, h2, nI_clamp (show c < 2 ^ 31 by omega), Option.bind_some, Option.toList, List.cons_append, List.nil_append, List.append_nil, if_true, if_false, Bool.false_eq_true, eq_self, not_true_eq_false, not_false_eq_true]
    rcases kk3 x with rfl | rfl | rfl | ⟨hk, z0, z1, z2⟩ | ⟨hk, hk2, hk3, z0, z1, z2⟩
    · rw [if_neg (by decide)] at e65
      have w := word 0 g.2.2.1 (by decide) G.2.2.1 rfl E.2.2.2.1.1 (fun k hk => ⟨(E.2.2.2.2.1 k hk).1, (G.1.2.2.2.1 _ (by rw [List.getD_eq_getElem?_getD, List.getElem?_eq_getElem hk]; exact List.getElem_mem hk)).2.1, fun i hi => (E.2.2.2.2.1 k hk).2 i hi⟩)
      simp only [txt, KK, eq_self, true_or, hi, and_self, if_true, if_false]
      simp only [ee_82_0, ee_82_1, ee_82_2, ee_82_3, ee_82_6, ee_82_9, ee_82_10, ee_82_11, ee_82_14, ee_82_16, ee_82_17, ee_82_18, ee_82_19, ee_82_22, ee_82_23, ee_82_24, ee_82_27, ee_82_27N, ee_82_28, ee_82_31, ee_82_33, ee_82_34, ee_82_37, ee_82_38, ee_82_38N, ee_82_39, ee_82_42, ee_82_44, ee_82_45, ee_82_48, ee_82_48N, ee_82_49, ee_82_52, ee_82_54, ee_82_55, ee_82_56, ee_82_57, ee_82_60, ee_82_62, ee_82_64, ee_82_65, ee_82_66, ee_82_69, ee_82_72, ee_82_73, ee_82_74, ee_82_75, ee_82_76, ee_82_79, ee_82_79N, ee_82_80, ee_82_81, ee_82_82, ee_82_85, ee_82_88, ee_82_89, ee_82_89N, ee_82_90, ee_82_91, ee_82_92, ee_82_95, ee_82_98, ee_82_98N, ee_82_99, ee_82_100, ee_82_101, ee_82_102, ee_82_105, ee_82_108, ee_82_110, M0.F, KK, e65, hi, w, Option.bind_some, Option.toList, List.cons_append, List.nil_append, List.append_nil, if_true, if_false, Bool.false_eq_true, eq_self, not_true_eq_false, not_false_eq_true]
    · rw [if_neg (by decide)] at e65
      have w := word 1 g.2.2.2.1 (by decide) G.2.2.2 rfl E.2.2.2.1.2 (fun k hk => ⟨(E.2.2.2.2.2 k hk).1, (G.1.2.2.2.2.1 _ (by rw [List.getD_eq_getElem?_getD, List.getElem?_eq_getElem hk]; exact List.getElem_mem hk)).2.1, fun i hi => (E.2.2.2.2.2 k hk).2 i hi⟩)
      simp only [txt, KK, eq_self, true_or, or_true, hi, and_self, if_true, if_false]
      simp only [ee_82_0, ee_82_1, ee_82_2, ee_82_3, ee_82_6, ee_82_9, ee_82_10, ee_82_11, ee_82_14, ee_82_16, ee_82_17, ee_82_18, ee_82_19, ee_82_22, ee_82_23, ee_82_24, ee_82_27, ee_82_27N, ee_82_28, ee_82_31, ee_82_33, ee_82_34, ee_82_37, ee_82_38, ee_82_38N, ee_82_39, ee_82_42, ee_82_44, ee_82_45, ee_82_48, ee_82_48N, ee_82_49, ee_82_52, ee_82_54, ee_82_55, ee_82_56, ee_82_57, ee_82_60, ee_82_62, ee_82_64, ee_82_65, ee_82_66, ee_82_69, ee_82_72, ee_82_73, ee_82_74, ee_82_75, ee_82_76, ee_82_79, ee_82_79N, ee_82_80, ee_82_81, ee_82_82, ee_82_85, ee_82_88, ee_82_89, ee_82_89N, ee_82_90, ee_82_91, ee_82_92, ee_82_95, ee_82_98, ee_82_98N, ee_82_99, ee_82_100, ee_82_101, ee_82_102, ee_82_105, ee_82_108, ee_82_110, M0.F, KK, e65, hi, w, Option.bind_some, Option.toList, List.cons_append, List.nil_append, List.append_nil, if_true, if_false, Bool.false_eq_true, eq_self, not_true_eq_false, not_false_eq_true]
    · rw [if_neg (by decide)] at e65
      have h9 := G.1.2.2.2.2.2.2.1
      simp only [txt, KK, eq_self, or_true, hi, and_self, if_true]
      have r26 := M0.r97 (j := 26) (by omega)
      rw [E.s.2.2.1.1] at r26
      have r26' : ia h 97 26 = some (nI g.2.2.2.2.length) := r26
      unfold q_ln q_lt
      by_cases h1 : i = -1
      · simp only [ee_82_0, ee_82_1, ee_82_2, ee_82_3, ee_82_6, ee_82_9, ee_82_10, ee_82_11, ee_82_14, ee_82_16, ee_82_17, ee_82_18, ee_82_19, ee_82_22, ee_82_23, ee_82_24, ee_82_27, ee_82_27N, ee_82_28, ee_82_31, ee_82_33, ee_82_34, ee_82_37, ee_82_38, ee_82_38N, ee_82_39, ee_82_42, ee_82_44, ee_82_45, ee_82_48, ee_82_48N, ee_82_49, ee_82_52, ee_82_54, ee_82_55, ee_82_56, ee_82_57, ee_82_60, ee_82_62, ee_82_63, ee_82_63N, ee_82_64, ee_82_65, ee_82_66, ee_82_69, ee_82_72, ee_82_73, ee_82_74, ee_82_75, ee_82_76, ee_82_79, ee_82_79N, ee_82_80, ee_82_81, ee_82_82, ee_82_85, ee_82_88, ee_82_89, ee_82_89N, ee_82_90, ee_82_91, ee_82_92, ee_82_95, ee_82_98, ee_82_98N, ee_82_99, ee_82_100, ee_82_101, ee_82_102, ee_82_105, ee_82_108, ee_82_110, M0.F, KK, e65, hi, h1, r26', Option.bind_some, Option.toList, List.cons_append, List.nil_append, List.append_nil, if_true, if_false, Bool.false_eq_true, eq_self, not_true_eq_false, not_false_eq_true]
        rw [if_pos (by decide)]
      · by_cases h2 : nI g.2.2.2.2.length ≤ i
        · simp only [ee_82_0, ee_82_1, ee_82_2, ee_82_3, ee_82_6, ee_82_9, ee_82_10, ee_82_11, ee_82_14, ee_82_16, ee_82_17, ee_82_18, ee_82_19, ee_82_22, ee_82_23, ee_82_24, ee_82_27, ee_82_27N, ee_82_28, ee_82_31, ee_82_33, ee_82_34, ee_82_37, ee_82_38, ee_82_38N, ee_82_39, ee_82_42, ee_82_44, ee_82_45, ee_82_48, ee_82_48N, ee_82_49, ee_82_52, ee_82_54, ee_82_55, ee_82_56, ee_82_57, ee_82_60, ee_82_62, ee_82_63, ee_82_63N, ee_82_64, ee_82_65, ee_82_66, ee_82_69, ee_82_72, ee_82_73, ee_82_74, ee_82_75, ee_82_76, ee_82_79, ee_82_79N, ee_82_80, ee_82_81, ee_82_82, ee_82_85, ee_82_88, ee_82_89, ee_82_89N, ee_82_90, ee_82_91, ee_82_92, ee_82_95, ee_82_98, ee_82_98N, ee_82_99, ee_82_100, ee_82_101, ee_82_102, ee_82_105, ee_82_108, ee_82_110, M0.F, KK, e65, hi, h1, h2, r26', Option.bind_some, Option.toList, List.cons_append, List.nil_append, List.append_nil, if_true, if_false, Bool.false_eq_true, eq_self, not_true_eq_false, not_false_eq_true]
        · obtain ⟨c, hc, rfl⟩ : ∃ c, c < g.2.2.2.2.length ∧ i = nI c := by
            rcases pk_ix i (n := g.2.2.2.2.length) (by omega) with hc | hc | hc
            · exact absurd hc (ge_m1 hi h1)
            · exact absurd hc h2
            · exact hc
          have r17 := M0.r97 (j := 17 + c) (by omega)
          rw [E.s.2.2.1.2 c hc] at r17
          have x1 : (17 : Int32) + nI c = nI (17 + c) := xI 17 c
          simp only [ee_82_0, ee_82_1, ee_82_2, ee_82_3, ee_82_6, ee_82_9, ee_82_10, ee_82_11, ee_82_14, ee_82_16, ee_82_17, ee_82_18, ee_82_19, ee_82_22, ee_82_23, ee_82_24, ee_82_27, ee_82_27N, ee_82_28, ee_82_31, ee_82_33, ee_82_34, ee_82_37, ee_82_38, ee_82_38N, ee_82_39, ee_82_42, ee_82_44, ee_82_45, ee_82_48, ee_82_48N, ee_82_49, ee_82_52, ee_82_54, ee_82_55, ee_82_56, ee_82_57, ee_82_60, ee_82_62, ee_82_63, ee_82_63N, ee_82_64, ee_82_65, ee_82_66, ee_82_69, ee_82_72, ee_82_73, ee_82_74, ee_82_75, ee_82_76, ee_82_79, ee_82_79N, ee_82_80, ee_82_81, ee_82_82, ee_82_85, ee_82_88, ee_82_89, ee_82_89N, ee_82_90, ee_82_91, ee_82_92, ee_82_95, ee_82_98, ee_82_98N, ee_82_99, ee_82_100, ee_82_101, ee_82_102, ee_82_105, ee_82_108, ee_82_110, M0.F, KK, e65, hi, h1, h2, r26', x1, r17, nI_clamp (show c < 2 ^ 31 by omega), Option.bind_some, Option.toList, List.cons_append, List.nil_append, List.append_nil, if_true, if_false, Bool.false_eq_true, eq_self, not_true_eq_false, not_false_eq_true]
    · rw [if_pos (Or.inl hk)] at e65
      simp only [ee_82_0, ee_82_1, ee_82_2, ee_82_3, ee_82_6, ee_82_9, ee_82_10, ee_82_11, ee_82_14, ee_82_16, ee_82_17, ee_82_18, ee_82_19, ee_82_22, ee_82_23, ee_82_24, ee_82_27, ee_82_27N, ee_82_28, ee_82_31, ee_82_33, ee_82_34, ee_82_37, ee_82_38, ee_82_38N, ee_82_39, ee_82_42, ee_82_44, ee_82_45, ee_82_48, ee_82_48N, ee_82_49, ee_82_52, ee_82_54, ee_82_55, ee_82_56, ee_82_57, ee_82_60, ee_82_62, ee_82_63, ee_82_63N, ee_82_64, ee_82_65, ee_82_66, ee_82_69, ee_82_72, ee_82_73, ee_82_74, ee_82_75, ee_82_76, ee_82_79, ee_82_79N, ee_82_80, ee_82_81, ee_82_82, ee_82_85, ee_82_88, ee_82_89, ee_82_89N, ee_82_90, ee_82_91, ee_82_92, ee_82_95, ee_82_98, ee_82_98N, ee_82_99, ee_82_100, ee_82_101, ee_82_102, ee_82_105, ee_82_108, ee_82_110, e65, z0, z1, z2, or_self, false_and, Option.bind_some, Option.toList, List.cons_append, List.nil_append, List.append_nil, if_true, if_false, Bool.false_eq_true, eq_self, not_true_eq_false, not_false_eq_true]
    · rw [if_pos (Or.inr hk3)] at e65
      simp only [ee_82_0, ee_82_1, ee_82_2, ee_82_3, ee_82_6, ee_82_9, ee_82_10, ee_82_11, ee_82_14, ee_82_16, ee_82_17, ee_82_18, ee_82_19, ee_82_22, ee_82_23, ee_82_24, ee_82_27, ee_82_27N, ee_82_28, ee_82_31, ee_82_33, ee_82_34, ee_82_37, ee_82_38, ee_82_38N, ee_82_39, ee_82_42, ee_82_44, ee_82_45, ee_82_48, ee_82_48N, ee_82_49, ee_82_52, ee_82_54, ee_82_55, ee_82_56, ee_82_57, ee_82_60, ee_82_62, ee_82_63, ee_82_63N, ee_82_64, ee_82_65, ee_82_66, ee_82_69, ee_82_72, ee_82_73, ee_82_74, ee_82_75, ee_82_76, ee_82_79, ee_82_79N, ee_82_80, ee_82_81, ee_82_82, ee_82_85, ee_82_88, ee_82_89, ee_82_89N, ee_82_90, ee_82_91, ee_82_92, ee_82_95, ee_82_98, ee_82_98N, ee_82_99, ee_82_100, ee_82_101, ee_82_102, ee_82_105, ee_82_108, ee_82_110, e65, z0, z1, z2, or_self, false_and, Option.bind_some, Option.toList, List.cons_append, List.nil_append, List.append_nil, if_true, if_false, Bool.false_eq_true, eq_self, not_true_eq_false, not_false_eq_true]
  · by_cases hx : x < 0 ∨ 2 < x
    · rw [if_pos hx] at e65
      simp only [ee_82_0, ee_82_1, ee_82_2, ee_82_3, ee_82_6, ee_82_9, ee_82_10, ee_82_11, ee_82_14, ee_82_16, ee_82_17, ee_82_18, ee_82_19, ee_82_22, ee_82_23, ee_82_24, ee_82_27, ee_82_27N, ee_82_28, ee_82_31, ee_82_33, ee_82_34, ee_82_37, ee_82_38, ee_82_38N, ee_82_39, ee_82_42, ee_82_44, ee_82_45, ee_82_48, ee_82_48N, ee_82_49, ee_82_52, ee_82_54, ee_82_55, ee_82_56, ee_82_57, ee_82_60, ee_82_62, ee_82_63, ee_82_63N, ee_82_64, ee_82_65, ee_82_66, ee_82_69, ee_82_72, ee_82_73, ee_82_74, ee_82_75, ee_82_76, ee_82_79, ee_82_79N, ee_82_80, ee_82_81, ee_82_82, ee_82_85, ee_82_88, ee_82_89, ee_82_89N, ee_82_90, ee_82_91, ee_82_92, ee_82_95, ee_82_98, ee_82_98N, ee_82_99, ee_82_100, ee_82_101, ee_82_102, ee_82_105, ee_82_108, ee_82_110, e65, hi, and_false, Option.bind_some, Option.toList, List.cons_append, List.nil_append, List.append_nil, if_true, if_false, Bool.false_eq_true, eq_self, not_true_eq_false, not_false_eq_true]
    · rw [if_neg hx] at e65
      simp only [ee_82_0, ee_82_1, ee_82_2, ee_82_3, ee_82_6, ee_82_9, ee_82_10, ee_82_11, ee_82_14, ee_82_16, ee_82_17, ee_82_18, ee_82_19, ee_82_22, ee_82_23, ee_82_24, ee_82_27, ee_82_27N, ee_82_28, ee_82_31, ee_82_33, ee_82_34, ee_82_37, ee_82_38, ee_82_38N, ee_82_39, ee_82_42, ee_82_44, ee_82_45, ee_82_48, ee_82_48N, ee_82_49, ee_82_52, ee_82_54, ee_82_55, ee_82_56, ee_82_57, ee_82_60, ee_82_62, ee_82_63, ee_82_63N, ee_82_64, ee_82_65, ee_82_66, ee_82_69, ee_82_72, ee_82_73, ee_82_74, ee_82_75, ee_82_76, ee_82_79, ee_82_79N, ee_82_80, ee_82_81, ee_82_82, ee_82_85, ee_82_88, ee_82_89, ee_82_89N, ee_82_90, ee_82_91, ee_82_92, ee_82_95, ee_82_98, ee_82_98N, ee_82_99, ee_82_100, ee_82_101, ee_82_102, ee_82_105, ee_82_108, ee_82_110, KK, e65, hi, and_false, Option.bind_some, Option.toList, List.cons_append, List.nil_append, List.append_nil, if_true, if_false, Bool.false_eq_true, eq_self, not_true_eq_false, not_false_eq_true]
end MD2
