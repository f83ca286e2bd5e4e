/-! the reference: images, count, the geometry -/
section MD3
variable {h h' h0 : aH} {g g' i0 i1 : gG} {P P' S I PD SQ CV FP : List Int32} {a b : Bool} {n l m k t f : Int32} {lo hi d : Nat}
theorem ML.z99 (x : Bool) (M : ML h S I PD SQ CV FP a b n l m k t f) : (∃ h', zs h 99 0 1 = some h' ∧ ML h' S I PD SQ CV FP true b n l m k t f ∧ Off h h' 96 104) ∧ (∃ h', zs h 99 1 1 = some h' ∧ ML h' S I PD SQ CV FP a true n l m k t f ∧ Off h h' 96 104) := by
  obtain ⟨a1, ⟨a2, l2⟩, ⟨a3, l3⟩, a4, ⟨a5, l5⟩, ⟨a6, l6⟩, ⟨a7, l7⟩, a8, l8⟩ := M
  have c0 : (0 : Int32).toNatClampNeg = 0 := by decide
  have c1 : (1 : Int32).toNatClampNeg = 1 := by decide
  constructor
  · refine ⟨h.set 99 (.inr (.inl (1, [bI true, bI b]))), ?_, ⟨by rw [set_ne (by decide)]; exact a1, ⟨by rw [set_ne (by decide)]; exact a2, l2⟩, ⟨by rw [set_ne (by decide)]; exact a3, l3⟩, set_at (at_lt a4), ⟨by rw [set_ne (by decide)]; exact a5, l5⟩, ⟨by rw [set_ne (by decide)]; exact a6, l6⟩, ⟨by rw [set_ne (by decide)]; exact a7, l7⟩, by rw [set_ne (by decide)]; exact a8, l8⟩, Off.set (by decide) (by decide)⟩
    unfold zs
    rw [a4]
    have n0 : ¬ (0 : Int32) < 0 := by decide
    simp only [n0, c0, List.length_cons, List.length_nil, not_false_eq_true, true_and, or_true, Nat.zero_lt_succ, and_self, if_true, List.set_cons_zero, bI_t]
  · refine ⟨h.set 99 (.inr (.inl (1, [bI a, bI true]))), ?_, ⟨by rw [set_ne (by decide)]; exact a1, ⟨by rw [set_ne (by decide)]; exact a2, l2⟩, ⟨by rw [set_ne (by decide)]; exact a3, l3⟩, set_at (at_lt a4), ⟨by rw [set_ne (by decide)]; exact a5, l5⟩, ⟨by rw [set_ne (by decide)]; exact a6, l6⟩, ⟨by rw [set_ne (by decide)]; exact a7, l7⟩, by rw [set_ne (by decide)]; exact a8, l8⟩, Off.set (by decide) (by decide)⟩
    unfold zs
    rw [a4]
    have n0 : ¬ (1 : Int32) < 0 := by decide
    have n1 : 1 < 0 + 1 + 1 := by decide
    simp only [n0, c1, n1, List.length_cons, List.length_nil, not_false_eq_true, true_and, or_true, and_self, if_true, List.set_cons_succ, List.set_cons_zero, bI_t]
theorem ML.y99 (M : ML h S I PD SQ CV FP a b n l m k t f) : za h 99 0 = some (bI a) ∧ za h 99 1 = some (bI b) := by
  obtain ⟨a1, ⟨a2, l2⟩, ⟨a3, l3⟩, a4, -⟩ := M
  constructor
  · unfold za; rw [a4]; cases a <;> cases b <;> decide
  · unfold za; rw [a4]; cases a <;> cases b <;> decide
/-- image, restore -/
theorem o114_l {kd : Nat} (hk : kd < 2) (M0 : ML h S I PD SQ CV FP a b n l m k t f) : ∃ h', go d 114 14 [.ref 96, .int (nI kd), .int 0] [] h = go d 114 43 [.ref 96, .int (nI kd), .int (nI 59)] [] h' ∧ ML h' S (updR I (59 * kd) (fun i => S.getD i 0) 59) PD SQ CV FP a b n l m k t f ∧ Off h h' 96 104 := by
  have lp := go_iter (d := d) (M := 114) (pc := 14) (fun i ls h' => ls = [.ref 96, .int (nI kd), .int (nI i)] ∧ ML h' S (updR I (59 * kd) (fun i => S.getD i 0) i) PD SQ CV FP a b n l m k t f ∧ Off h h' 96 104) 59 (by
    rintro i ls h2 hi ⟨rfl, M2, O2⟩
    obtain ⟨h3, w3, M3, O3⟩ := M2.w98 (j := 59 * kd + i) (S.getD i 0) (by omega)
    refine ⟨_, h3, ?_, rfl, M3, O2.trans O3⟩
    have n1 : ¬ (59 : Int32) ≤ nI i := nI_nle2 (a := i) (b := 59) (by omega) (by omega) hi
    have x1 : (59 : Int32) * nI kd + nI i = nI (59 * kd + i) := by rw [show (59 : Int32) = nI 59 by decide, pk_mul, nI_add]
    have r := M2.r97 (j := i) (by omega)
    rw [ee_114_14]
    simp only [ee_114_0, ee_114_1, ee_114_2, ee_114_3, ee_114_6, ee_114_9, ee_114_11, ee_114_12, ee_114_13, ee_114_15, ee_114_17, ee_114_20, ee_114_20N, ee_114_21, ee_114_24, ee_114_26, ee_114_27, ee_114_28, ee_114_29, ee_114_30, ee_114_30N, ee_114_31, ee_114_34, ee_114_35, ee_114_36, ee_114_37, ee_114_40, ee_114_43, ee_114_43N, ee_114_44, ee_114_47, ee_114_48, ee_114_49, ee_114_50, ee_114_51, M2.F, n1, x1, r, w3, nI_1, Option.bind_some, Option.toList, List.cons_append, List.nil_append, List.append_nil, if_true, if_false, Bool.false_eq_true, eq_self, not_true_eq_false, not_false_eq_true])
  obtain ⟨ls, h3, e3, rfl, M3, O3⟩ := lp _ h ⟨rfl, M0, Off.rf⟩
  refine ⟨h3, ?_, M3, O3⟩
  rw [nI_0] at e3
  have n1 : (59 : Int32) ≤ nI 59 := by decide
  rw [e3, ee_114_14]
  simp only [ee_114_0, ee_114_1, ee_114_2, ee_114_3, ee_114_6, ee_114_9, ee_114_11, ee_114_12, ee_114_13, ee_114_15, ee_114_17, ee_114_20, ee_114_20N, ee_114_21, ee_114_24, ee_114_26, ee_114_27, ee_114_28, ee_114_29, ee_114_30, ee_114_30N, ee_114_31, ee_114_34, ee_114_35, ee_114_36, ee_114_37, ee_114_40, ee_114_44, ee_114_47, ee_114_48, ee_114_49, ee_114_50, ee_114_51, n1, Option.bind_some, Option.toList, List.cons_append, List.nil_append, List.append_nil, if_true, if_false, Bool.false_eq_true, eq_self, not_true_eq_false, not_false_eq_true]
theorem o_image {x : Int32} (G : GW g) (G0 : GW i0) (G1 : GW i1) (M : MI h g P i0 i1 a b) : ∃ h', go (d + 12) 114 0 [.ref 96, .int x, aU] [] h = some (some (.int (q_image g i0 i1 a b x).1), h') ∧ MI h' g P (q_image g i0 i1 a b x).2.1 (q_image g i0 i1 a b x).2.2.1 (q_image g i0 i1 a b x).2.2.2.1 (q_image g i0 i1 a b x).2.2.2.2 ∧ Off h h' 96 104 := by
  obtain ⟨S, I, PD, SQ, CV, FP, l, m, k, t, f, M0, E, r1, r2, hP, r3⟩ := id M
  have e65 := o65 (d := d + 11) (h := h) (v := x) (x := 0) (y := 1)
  have hl : I.length = 118 := M0.2.2.1.2
  unfold q_image
  rcases in01 x with ⟨hx, hy⟩ | ⟨⟨z0, z1⟩, hy⟩
  · rw [if_neg hy] at e65
    rcases hx with rfl | rfl
    · obtain ⟨h1, e1, M1, O1⟩ := o114_l (d := d + 12) (kd := 0) (by decide) M0
      obtain ⟨h2, w2, M2, O2⟩ := (M1.z99 true).1
      have e1' : go (d + 12) 114 14 [.ref 96, .int 0, .int 0] [] h = go (d + 12) 114 43 [.ref 96, .int 0, .int (nI 59)] [] h1 := e1
      refine ⟨h2, ?_, ⟨S, _, PD, SQ, CV, FP, l, m, k, t, f, M2, E, fun _ => E.congr G (fun j hj => ?_), fun hb => (r2 hb).congr G1 (fun j hj => ?_), hP, r3⟩, O1.trans O2⟩
      · simp only [ee_114_0, ee_114_1, ee_114_2, ee_114_3, ee_114_6, ee_114_9, ee_114_11, ee_114_12, ee_114_13, ee_114_15, ee_114_17, ee_114_20, ee_114_20N, ee_114_21, ee_114_24, ee_114_26, ee_114_27, ee_114_28, ee_114_29, ee_114_30, ee_114_30N, ee_114_31, ee_114_34, ee_114_35, ee_114_36, ee_114_37, ee_114_40, ee_114_43, ee_114_43N, ee_114_44, ee_114_47, ee_114_48, ee_114_49, ee_114_50, ee_114_51, M0.F, M1.F, KK, e65, e1', w2, Option.bind_some, Option.toList, List.cons_append, List.nil_append, List.append_nil, if_true, if_false, Bool.false_eq_true, eq_self, not_true_eq_false, not_false_eq_true]
      · rw [updR_at _ _ _ _ _ (by omega), if_pos (by omega), Nat.mul_zero, Nat.sub_zero]
      · rw [updR_at _ _ _ _ _ (by omega), if_neg (by omega)]
    · obtain ⟨h1, e1, M1, O1⟩ := o114_l (d := d + 12) (kd := 1) (by decide) M0
      obtain ⟨h2, w2, M2, O2⟩ := (M1.z99 true).2
      have e1' : go (d + 12) 114 14 [.ref 96, .int 1, .int 0] [] h = go (d + 12) 114 43 [.ref 96, .int 1, .int (nI 59)] [] h1 := e1
      refine ⟨h2, ?_, ⟨S, _, PD, SQ, CV, FP, l, m, k, t, f, M2, E, fun ha => (r1 ha).congr G0 (fun j hj => ?_), fun _ => E.congr G (fun j hj => ?_), hP, r3⟩, O1.trans O2⟩
      · simp only [ee_114_0, ee_114_1, ee_114_2, ee_114_3, ee_114_6, ee_114_9, ee_114_11, ee_114_12, ee_114_13, ee_114_15, ee_114_17, ee_114_20, ee_114_20N, ee_114_21, ee_114_24, ee_114_26, ee_114_27, ee_114_28, ee_114_29, ee_114_30, ee_114_30N, ee_114_31, ee_114_34, ee_114_35, ee_114_36, ee_114_37, ee_114_40, ee_114_43, ee_114_43N, ee_114_44, ee_114_47, ee_114_48, ee_114_49, ee_114_50, ee_114_51, M0.F, M1.F, KK, e65, e1', w2, Option.bind_some, Option.toList, List.cons_append, List.nil_append, List.append_nil, if_true, if_false, Bool.false_eq_true, eq_self, not_true_eq_false, not_false_eq_true]
      · rw [updR_at _ _ _ _ _ (by omega), if_neg (by omega)]
      · rw [updR_at _ _ _ _ _ (by omega), if_pos (by omega), Nat.mul_one, Nat.add_sub_cancel_left]
  · rw [if_pos hy] at e65
    refine ⟨h, ?_, by simp only [z0, z1, if_false]; exact M, Off.rf⟩
    simp only [ee_114_0, ee_114_1, ee_114_2, ee_114_3, ee_114_6, ee_114_9, ee_114_11, ee_114_12, ee_114_13, ee_114_15, ee_114_17, ee_114_20, ee_114_20N, ee_114_21, ee_114_24, ee_114_26, ee_114_27, ee_114_28, ee_114_29, ee_114_30, ee_114_30N, ee_114_31, ee_114_34, ee_114_35, ee_114_36, ee_114_37, ee_114_40, ee_114_43, ee_114_43N, ee_114_44, ee_114_47, ee_114_48, ee_114_49, ee_114_50, ee_114_51, e65, z0, z1, Option.bind_some, Option.toList, List.cons_append, List.nil_append, List.append_nil, if_true, if_false, Bool.false_eq_true, eq_self, not_true_eq_false, not_false_eq_true]
theorem o115_l {kd : Nat} (hk : kd < 2) (M0 : ML h S I PD SQ CV FP a b n l m k t f) : ∃ h', go d 115 26 [.ref 96, .int (nI kd), .int 0] [] h = some (some (.int 1), h') ∧ ML h' (updR S 0 (fun i => I.getD (59 * kd + i) 0) 59) I PD SQ CV FP a b n l m k t f ∧ Off h h' 96 104 := by
  have lp := go_iter (d := d) (M := 115) (pc := 26) (fun i ls h' => ls = [.ref 96, .int (nI kd), .int (nI i)] ∧ ML h' (updR S 0 (fun i => I.getD (59 * kd + i) 0) i) I PD SQ CV FP a b n l m k t f ∧ Off h h' 96 104) 59 (by
    rintro i ls h2 hi ⟨rfl, M2, O2⟩
    obtain ⟨h3, w3, M3, O3⟩ := M2.w97 (j := 0 + i) (I.getD (59 * kd + i) 0) (by omega)
    refine ⟨_, h3, ?_, rfl, M3, O2.trans O3⟩
    have n1 : ¬ (59 : Int32) ≤ nI i := nI_nle2 (a := i) (b := 59) (by omega) (by omega) hi
    have x1 : (59 : Int32) * nI kd + nI i = nI (59 * kd + i) := by rw [show (59 : Int32) = nI 59 by decide, pk_mul, nI_add]
    have r := M2.r98 (j := 59 * kd + i) (by omega)
    rw [Nat.zero_add] at w3
    rw [ee_115_26]
    simp only [ee_115_0, ee_115_1, ee_115_2, ee_115_3, ee_115_6, ee_115_9, ee_115_11, ee_115_12, ee_115_12N, ee_115_13, ee_115_16, ee_115_17, ee_115_18, ee_115_21, ee_115_23, ee_115_24, ee_115_25, ee_115_27, ee_115_29, ee_115_32, ee_115_32N, ee_115_33, ee_115_36, ee_115_37, ee_115_37N, ee_115_38, ee_115_41, ee_115_43, ee_115_44, ee_115_45, ee_115_46, ee_115_47, ee_115_48, ee_115_49, ee_115_52, ee_115_55, ee_115_56, M2.F, n1, x1, r, w3, nI_1, Option.bind_some, Option.toList, List.cons_append, List.nil_append, List.append_nil, if_true, if_false, Bool.false_eq_true, eq_self, not_true_eq_false, not_false_eq_true])
  obtain ⟨ls, h3, e3, rfl, M3, O3⟩ := lp _ h ⟨rfl, M0, Off.rf⟩
  refine ⟨h3, ?_, M3, O3⟩
  rw [nI_0] at e3
  have n1 : (59 : Int32) ≤ nI 59 := by decide
  rw [e3, ee_115_26]
  simp only [ee_115_0, ee_115_1, ee_115_2, ee_115_3, ee_115_6, ee_115_9, ee_115_11, ee_115_12, ee_115_12N, ee_115_13, ee_115_16, ee_115_17, ee_115_18, ee_115_21, ee_115_23, ee_115_24, ee_115_25, ee_115_27, ee_115_29, ee_115_32, ee_115_32N, ee_115_33, ee_115_36, ee_115_37, ee_115_37N, ee_115_38, ee_115_41, ee_115_43, ee_115_44, ee_115_45, ee_115_46, ee_115_47, ee_115_48, ee_115_49, ee_115_52, ee_115_55, ee_115_56, n1, Option.bind_some, Option.toList, List.cons_append, List.nil_append, List.append_nil, if_true, if_false, Bool.false_eq_true, eq_self, not_true_eq_false, not_false_eq_true]
theorem o_restore {x : Int32} (G0 : GW i0) (G1 : GW i1) (M : MI h g P i0 i1 a b) : ∃ h', go (d + 12) 115 0 [.ref 96, .int x, aU] [] h = some (some (.int (q_restore g i0 i1 a b x).1), h') ∧ MI h' (q_restore g i0 i1 a b x).2 P i0 i1 a b ∧ Off h h' 96 104 := by
  obtain ⟨S, I, PD, SQ, CV, FP, l, m, k, t, f, M0, E, r1, r2, hP, r3⟩ := id M
  have e65 := o65 (d := d + 11) (h := h) (v := x) (x := 0) (y := 1)
  have hl : S.length = 59 := M0.2.1.2
  obtain ⟨y0, y1⟩ := M0.y99
  unfold q_restore
  rcases in01 x with ⟨hx, hy⟩ | ⟨⟨z0, z1⟩, hy⟩
  · rw [if_neg hy] at e65
    rcases hx with rfl | rfl
    · cases a
      · refine ⟨h, ?_, by simp only [eq_self, if_true, Bool.false_eq_true, if_false]; exact M, Off.rf⟩
        rw [bI_f] at y0
        simp only [ee_115_0, ee_115_1, ee_115_2, ee_115_3, ee_115_6, ee_115_9, ee_115_11, ee_115_12, ee_115_12N, ee_115_13, ee_115_16, ee_115_17, ee_115_18, ee_115_21, ee_115_23, ee_115_24, ee_115_25, ee_115_27, ee_115_29, ee_115_32, ee_115_32N, ee_115_33, ee_115_36, ee_115_37, ee_115_37N, ee_115_38, ee_115_41, ee_115_43, ee_115_44, ee_115_45, ee_115_46, ee_115_47, ee_115_48, ee_115_49, ee_115_52, ee_115_55, ee_115_56, M0.F, KK, e65, y0, Option.bind_some, Option.toList, List.cons_append, List.nil_append, List.append_nil, if_true, if_false, Bool.false_eq_true, eq_self, not_true_eq_false, not_false_eq_true]
      · rw [bI_t] at y0
        obtain ⟨h1, e1, M1, O1⟩ := o115_l (d := d + 12) (kd := 0) (by decide) M0
        have e1' : go (d + 12) 115 26 [.ref 96, .int 0, .int 0] [] h = some (some (.int 1), h1) := e1
        refine ⟨h1, ?_, by simp only [eq_self, if_true]; exact ⟨_, I, PD, SQ, CV, FP, l, m, k, t, f, M1, (r1 rfl).congr G0 (fun j hj => by rw [updR_at _ _ _ _ _ (by omega), if_pos (by omega), Nat.mul_zero, Nat.zero_add, Nat.sub_zero]), r1, r2, hP, r3⟩, O1⟩
        simp only [ee_115_0, ee_115_1, ee_115_2, ee_115_3, ee_115_6, ee_115_9, ee_115_11, ee_115_12, ee_115_12N, ee_115_13, ee_115_16, ee_115_17, ee_115_18, ee_115_21, ee_115_23, ee_115_24, ee_115_25, ee_115_27, ee_115_29, ee_115_32, ee_115_32N, ee_115_33, ee_115_36, ee_115_37, ee_115_37N, ee_115_38, ee_115_41, ee_115_43, ee_115_44, ee_115_45, ee_115_46, ee_115_47, ee_115_48, ee_115_49, ee_115_52, ee_115_55, ee_115_56, M0.F, KK, e65, y0, e1', Option.bind_some, Option.toList, List.cons_append, List.nil_append, List.append_nil, if_true, if_false, Bool.false_eq_true, eq_self, not_true_eq_false, not_false_eq_true]
    · cases b
      · refine ⟨h, ?_, by simp only [KK, eq_self, if_true, Bool.false_eq_true, if_false]; exact M, Off.rf⟩
        rw [bI_f] at y1
        simp only [ee_115_0, ee_115_1, ee_115_2, ee_115_3, ee_115_6, ee_115_9, ee_115_11, ee_115_12, ee_115_12N, ee_115_13, ee_115_16, ee_115_17, ee_115_18, ee_115_21, ee_115_23, ee_115_24, ee_115_25, ee_115_27, ee_115_29, ee_115_32, ee_115_32N, ee_115_33, ee_115_36, ee_115_37, ee_115_37N, ee_115_38, ee_115_41, ee_115_43, ee_115_44, ee_115_45, ee_115_46, ee_115_47, ee_115_48, ee_115_49, ee_115_52, ee_115_55, ee_115_56, M0.F, KK, e65, y1, Option.bind_some, Option.toList, List.cons_append, List.nil_append, List.append_nil, if_true, if_false, Bool.false_eq_true, eq_self, not_true_eq_false, not_false_eq_true]
      · rw [bI_t] at y1
        obtain ⟨h1, e1, M1, O1⟩ := o115_l (d := d + 12) (kd := 1) (by decide) M0
        have e1' : go (d + 12) 115 26 [.ref 96, .int 1, .int 0] [] h = some (some (.int 1), h1) := e1
        refine ⟨h1, ?_, by simp only [KK, eq_self, if_true, if_false]; exact ⟨_, I, PD, SQ, CV, FP, l, m, k, t, f, M1, (r2 rfl).congr G1 (fun j hj => by rw [updR_at _ _ _ _ _ (by omega), if_pos (by omega), Nat.mul_one, Nat.sub_zero]), r1, r2, hP, r3⟩, O1⟩
        simp only [ee_115_0, ee_115_1, ee_115_2, ee_115_3, ee_115_6, ee_115_9, ee_115_11, ee_115_12, ee_115_12N, ee_115_13, ee_115_16, ee_115_17, ee_115_18, ee_115_21, ee_115_23, ee_115_24, ee_115_25, ee_115_27, ee_115_29, ee_115_32, ee_115_32N, ee_115_33, ee_115_36, ee_115_37, ee_115_37N, ee_115_38, ee_115_41, ee_115_43, ee_115_44, ee_115_45, ee_115_46, ee_115_47, ee_115_48, ee_115_49, ee_115_52, ee_115_55, ee_115_56, M0.F, KK, e65, y1, e1', Option.bind_some, Option.toList, List.cons_append, List.nil_append, List.append_nil, if_true, if_false, Bool.false_eq_true, eq_self, not_true_eq_false, not_false_eq_true]
  · rw [if_pos hy] at e65
    refine ⟨h, ?_, by simp only [z0, z1, if_false]; exact M, Off.rf⟩
    simp only [ee_115_0, ee_115_1, ee_115_2, ee_115_3, ee_115_6, ee_115_9, ee_115_11, ee_115_12, ee_115_12N, ee_115_13, ee_115_16, ee_115_17, ee_115_18, ee_115_21, ee_115_23, ee_115_24, ee_115_25, ee_115_27, ee_115_29, ee_115_32, ee_115_32N, ee_115_33, ee_115_36, ee_115_37, ee_115_37N, ee_115_38, ee_115_41, ee_115_43, ee_115_44, ee_115_45, ee_115_46, ee_115_47, ee_115_48, ee_115_49, ee_115_52, ee_115_55, ee_115_56, e65, z0, z1, Option.bind_some, Option.toList, List.cons_append, List.nil_append, List.append_nil, if_true, if_false, Bool.false_eq_true, eq_self, not_true_eq_false, not_false_eq_true]
/-- count -/
theorem o116_l (G : GW g) (M0 : ML h S I PD SQ CV FP a b n l m k t f) (E : Enc (fun j => S.getD j 0) g) : ∀ n X k, X + n = g.1 * g.1 → go (d + 1) 116 4 [.ref 96, .int (nI k), .int (nI X)] [] h = some (some (.int (nI (emF g.2.1 X n k))), h)
  | 0, X, k, hX => by
    have h1 : nI (g.1 * g.1) ≤ nI X := by rw [← hX]; exact Int32.le_refl _
    have e66 := o66 (d := d) M0 E.1
    rw [ee_116_4]
    simp only [ee_116_0, ee_116_1, ee_116_2, ee_116_3, ee_116_5, ee_116_5N, ee_116_6, ee_116_9, ee_116_12, ee_116_13, ee_116_13N, ee_116_14, ee_116_17, ee_116_18, ee_116_19, ee_116_20, ee_116_21, ee_116_24, ee_116_25, ee_116_28, ee_116_29, ee_116_30, ee_116_31, ee_116_34, ee_116_37, ee_116_38, M0.F, e66, h1, emF, Option.bind_some, Option.toList, List.cons_append, List.nil_append, List.append_nil, if_true, if_false, Bool.false_eq_true, eq_self, not_true_eq_false, not_false_eq_true]
  | n + 1, X, k, hX => by
    have hsq := (sq_lt G.1.1).1
    have h1 : ¬ nI (g.1 * g.1) ≤ nI X := nI_nle2 (by omega) (by omega) (by omega)
    have e66 := o66 (d := d) M0 E.1
    have x1 : (1 : Int32) + nI X = nI (1 + X) := xI 1 X
    have r := M0.r97 (j := 1 + X) (by omega)
    rw [E.s.2.1 X (by omega)] at r
    have e := fun k => o116_l G M0 E n (X + 1) k (by omega)
    rw [ee_116_4]
    by_cases hA : g.2.1.getD X 0 = 0
    · simp only [ee_116_0, ee_116_1, ee_116_2, ee_116_3, ee_116_5, ee_116_5N, ee_116_6, ee_116_9, ee_116_12, ee_116_13, ee_116_13N, ee_116_14, ee_116_17, ee_116_18, ee_116_19, ee_116_20, ee_116_21, ee_116_24, ee_116_25, ee_116_28, ee_116_29, ee_116_30, ee_116_31, ee_116_34, ee_116_37, ee_116_38, M0.F, e66, h1, x1, r, hA, nI_1, e, emF, Option.bind_some, Option.toList, List.cons_append, List.nil_append, List.append_nil, if_true, if_false, Bool.false_eq_true, eq_self, not_true_eq_false, not_false_eq_true]
    · simp only [ee_116_0, ee_116_1, ee_116_2, ee_116_3, ee_116_5, ee_116_5N, ee_116_6, ee_116_9, ee_116_12, ee_116_13, ee_116_13N, ee_116_14, ee_116_17, ee_116_18, ee_116_19, ee_116_20, ee_116_21, ee_116_24, ee_116_25, ee_116_28, ee_116_29, ee_116_30, ee_116_31, ee_116_34, ee_116_37, ee_116_38, M0.F, e66, h1, x1, r, hA, Int32.add_zero, nI_1, e, emF, Option.bind_some, Option.toList, List.cons_append, List.nil_append, List.append_nil, if_true, if_false, Bool.false_eq_true, eq_self, not_true_eq_false, not_false_eq_true]
def bsum (m : Int32) : Nat → Int32
  | 0 => 0
  | n + 1 => bsum m n + ((m >>> (nI n &&& 31)) &&& 1)
theorem o117_l (G : GW g) (M0 : ML h S I PD SQ CV FP a b n l m k t f) (E : Enc (fun j => S.getD j 0) g) : ∀ n X m, X + n = g.1 * g.1 → go (d + 1) 117 4 [.ref 96, .int m, .int (nI X), aU] [] h = go (d + 1) 117 49 [.ref 96, .int (mkF g.2.1 X n m), .int (nI (g.1 * g.1)), aU] [] h
  | 0, X, m, hX => by
    have h1 : nI (g.1 * g.1) ≤ nI X := by rw [← hX]; exact Int32.le_refl _
    have e66 := o66 (d := d) M0 E.1
    rw [ee_117_4]
    simp only [ee_117_0, ee_117_1, ee_117_2, ee_117_3, ee_117_5, ee_117_5N, ee_117_6, ee_117_9, ee_117_12, ee_117_13, ee_117_13N, ee_117_14, ee_117_17, ee_117_18, ee_117_19, ee_117_20, ee_117_21, ee_117_24, ee_117_25, ee_117_28, ee_117_29, ee_117_29N, ee_117_30, ee_117_33, ee_117_34, ee_117_35, ee_117_36, ee_117_37, ee_117_39, ee_117_40, ee_117_41, ee_117_42, ee_117_43, ee_117_46, ee_117_50, ee_117_51, ee_117_52, ee_117_54, ee_117_56, ee_117_59, ee_117_60, ee_117_61, ee_117_62, ee_117_63, ee_117_64, ee_117_65, ee_117_66, ee_117_67, ee_117_70, ee_117_73, ee_117_74, M0.F, e66, h1, mkF, Option.bind_some, Option.toList, List.cons_append, List.nil_append, List.append_nil, if_true, if_false, Bool.false_eq_true, eq_self, not_true_eq_false, not_false_eq_true]
    rw [show X = g.1 * g.1 by omega]
  | n + 1, X, m, hX => by
    have hsq := (sq_lt G.1.1).1
    have h1 : ¬ nI (g.1 * g.1) ≤ nI X := nI_nle2 (by omega) (by omega) (by omega)
    have e66 := o66 (d := d) M0 E.1
    have x1 : (1 : Int32) + nI X = nI (1 + X) := xI 1 X
    have r := M0.r97 (j := 1 + X) (by omega)
    rw [E.s.2.1 X (by omega)] at r
    have e := fun m => o117_l G M0 E n (X + 1) m (by omega)
    rw [ee_117_4]
    by_cases hA : g.2.1.getD X 0 = 0
    · simp only [ee_117_0, ee_117_1, ee_117_2, ee_117_3, ee_117_5, ee_117_5N, ee_117_6, ee_117_9, ee_117_12, ee_117_13, ee_117_13N, ee_117_14, ee_117_17, ee_117_18, ee_117_19, ee_117_20, ee_117_21, ee_117_24, ee_117_25, ee_117_28, ee_117_29, ee_117_29N, ee_117_30, ee_117_33, ee_117_34, ee_117_35, ee_117_36, ee_117_37, ee_117_39, ee_117_40, ee_117_41, ee_117_42, ee_117_43, ee_117_46, ee_117_50, ee_117_51, ee_117_52, ee_117_54, ee_117_56, ee_117_59, ee_117_60, ee_117_61, ee_117_62, ee_117_63, ee_117_64, ee_117_65, ee_117_66, ee_117_67, ee_117_70, ee_117_73, ee_117_74, M0.F, e66, h1, x1, r, hA, nI_1, Int32.or_zero, e, mkF, Option.bind_some, Option.toList, List.cons_append, List.nil_append, List.append_nil, if_true, if_false, Bool.false_eq_true, eq_self, not_true_eq_false, not_false_eq_true]
    · simp only [ee_117_0, ee_117_1, ee_117_2, ee_117_3, ee_117_5, ee_117_5N, ee_117_6, ee_117_9, ee_117_12, ee_117_13, ee_117_13N, ee_117_14, ee_117_17, ee_117_18, ee_117_19, ee_117_20, ee_117_21, ee_117_24, ee_117_25, ee_117_28, ee_117_29, ee_117_29N, ee_117_30, ee_117_33, ee_117_34, ee_117_35, ee_117_36, ee_117_37, ee_117_39, ee_117_40, ee_117_41, ee_117_42, ee_117_43, ee_117_46, ee_117_50, ee_117_51, ee_117_52, ee_117_54, ee_117_56, ee_117_59, ee_117_60, ee_117_61, ee_117_62, ee_117_63, ee_117_64, ee_117_65, ee_117_66, ee_117_67, ee_117_70, ee_117_73, ee_117_74, M0.F, e66, h1, x1, r, hA, nI_1, e, mkF, Option.bind_some, Option.toList, List.cons_append, List.nil_append, List.append_nil, if_true, if_false, Bool.false_eq_true, eq_self, not_true_eq_false, not_false_eq_true]
theorem o117_b {m x : Int32} : go d 117 53 [.ref 96, .int m, .int (bsum m 0), .int (nI 0)] [] h = go d 117 53 [.ref 96, .int m, .int (bsum m 26), .int (nI 26)] [] h := by
  refine go_loop (fun i => [.ref 96, .int m, .int (bsum m i), .int (nI i)]) (fun _ => h) 26 ?_
  intro i hi
  have n1 : ¬ (26 : Int32) ≤ nI i := nI_nle2 (a := i) (b := 26) (by omega) (by omega) hi
  rw [ee_117_53]
  simp only [ee_117_0, ee_117_1, ee_117_2, ee_117_3, ee_117_4, ee_117_5, ee_117_5N, ee_117_6, ee_117_9, ee_117_12, ee_117_13, ee_117_13N, ee_117_14, ee_117_17, ee_117_18, ee_117_19, ee_117_20, ee_117_21, ee_117_24, ee_117_25, ee_117_28, ee_117_29, ee_117_29N, ee_117_30, ee_117_33, ee_117_34, ee_117_35, ee_117_36, ee_117_37, ee_117_39, ee_117_40, ee_117_41, ee_117_42, ee_117_43, ee_117_46, ee_117_49, ee_117_50, ee_117_51, ee_117_52, ee_117_54, ee_117_56, ee_117_59, ee_117_60, ee_117_61, ee_117_62, ee_117_63, ee_117_64, ee_117_65, ee_117_66, ee_117_67, ee_117_70, ee_117_73, ee_117_74, n1, nI_1, bsum, Option.bind_some, Option.toList, List.cons_append, List.nil_append, List.append_nil, if_true, if_false, Bool.false_eq_true, eq_self, not_true_eq_false, not_false_eq_true]
theorem o117 (G : GW g) (M0 : ML h S I PD SQ CV FP a b n l m k t f) (E : Enc (fun j => S.getD j 0) g) : go (d + 1) 117 0 [.ref 96, aU, aU, aU] [] h = some (some (.int (bsum (mkF g.2.1 0 (g.1 * g.1) 0) 26)), h) := by
  have e1 := o117_l (d := d) G M0 E (g.1 * g.1) 0 0 (by omega)
  have e2 := o117_b (d := d + 1) (h := h) (m := mkF g.2.1 0 (g.1 * g.1) 0) (x := 0)
  rw [nI_0] at e1
  rw [nI_0, show bsum (mkF g.2.1 0 (g.1 * g.1) 0) 0 = 0 from rfl] at e2
  have n1 : (26 : Int32) ≤ nI 26 := by decide
  simp only [ee_117_0, ee_117_1, ee_117_2, ee_117_3, ee_117_5, ee_117_5N, ee_117_6, ee_117_9, ee_117_12, ee_117_13, ee_117_13N, ee_117_14, ee_117_17, ee_117_18, ee_117_19, ee_117_20, ee_117_21, ee_117_24, ee_117_25, ee_117_28, ee_117_29, ee_117_29N, ee_117_30, ee_117_33, ee_117_34, ee_117_35, ee_117_36, ee_117_37, ee_117_39, ee_117_40, ee_117_41, ee_117_42, ee_117_43, ee_117_46, ee_117_50, ee_117_51, ee_117_52, ee_117_54, ee_117_56, ee_117_59, ee_117_60, ee_117_61, ee_117_62, ee_117_63, ee_117_64, ee_117_65, ee_117_66, ee_117_67, ee_117_70, ee_117_73, ee_117_74, e1, Option.bind_some, Option.toList, List.cons_append, List.nil_append, List.append_nil, if_true, if_false, Bool.false_eq_true, eq_self, not_true_eq_false, not_false_eq_true]
  simp only [ee_117_0, ee_117_1, ee_117_2, ee_117_3, ee_117_5, ee_117_5N, ee_117_6, ee_117_9, ee_117_12, ee_117_13, ee_117_13N, ee_117_14, ee_117_17, ee_117_18, ee_117_19, ee_117_20, ee_117_21, ee_117_24, ee_117_25, ee_117_28, ee_117_29, ee_117_29N, ee_117_30, ee_117_33, ee_117_34, ee_117_35, ee_117_36, ee_117_37, ee_117_39, ee_117_40, ee_117_41, ee_117_42, ee_117_43, ee_117_46, ee_117_49, ee_117_50, ee_117_51, ee_117_52, ee_117_54, ee_117_56, ee_117_59, ee_117_60, ee_117_61, ee_117_62, ee_117_63, ee_117_64, ee_117_65, ee_117_66, ee_117_67, ee_117_70, ee_117_73, ee_117_74, e2, Option.bind_some, Option.toList, List.cons_append, List.nil_append, List.append_nil, if_true, if_false, Bool.false_eq_true, eq_self, not_true_eq_false, not_false_eq_true]
  rw [ee_117_53]
  simp only [ee_117_0, ee_117_1, ee_117_2, ee_117_3, ee_117_4, ee_117_5, ee_117_5N, ee_117_6, ee_117_9, ee_117_12, ee_117_13, ee_117_13N, ee_117_14, ee_117_17, ee_117_18, ee_117_19, ee_117_20, ee_117_21, ee_117_24, ee_117_25, ee_117_28, ee_117_29, ee_117_29N, ee_117_30, ee_117_33, ee_117_34, ee_117_35, ee_117_36, ee_117_37, ee_117_39, ee_117_40, ee_117_41, ee_117_42, ee_117_43, ee_117_46, ee_117_49, ee_117_50, ee_117_51, ee_117_52, ee_117_54, ee_117_56, ee_117_59, ee_117_60, ee_117_61, ee_117_62, ee_117_63, ee_117_64, ee_117_65, ee_117_66, ee_117_67, ee_117_70, ee_117_73, ee_117_74, n1, Option.bind_some, Option.toList, List.cons_append, List.nil_append, List.append_nil, if_true, if_false, Bool.false_eq_true, eq_self, not_true_eq_false, not_false_eq_true]
theorem o116 (G : GW g) (M0 : ML h S I PD SQ CV FP a b n l m k t f) (E : Enc (fun j => S.getD j 0) g) : go (d + 1) 116 0 [.ref 96, aU, aU] [] h = some (some (.int (nI (emF g.2.1 0 (g.1 * g.1) 0))), h) := by
  have e1 := o116_l (d := d) G M0 E (g.1 * g.1) 0 0 (by omega)
  rw [nI_0] at e1
  simp only [ee_116_0, ee_116_1, ee_116_2, ee_116_3, ee_116_5, ee_116_5N, ee_116_6, ee_116_9, ee_116_12, ee_116_13, ee_116_13N, ee_116_14, ee_116_17, ee_116_18, ee_116_19, ee_116_20, ee_116_21, ee_116_24, ee_116_25, ee_116_28, ee_116_29, ee_116_30, ee_116_31, ee_116_34, ee_116_37, ee_116_38, e1, Option.bind_some, Option.toList, List.cons_append, List.nil_append, List.append_nil, if_true, if_false, Bool.false_eq_true, eq_self, not_true_eq_false, not_false_eq_true]
theorem o_count {x : Int32} (hb : bcI (mkF g.2.1 0 (g.1 * g.1) 0) = bsum (mkF g.2.1 0 (g.1 * g.1) 0) 26) (G : GW g) (M : MI h g P i0 i1 a b) : go (d + 12) 118 0 [.ref 96, .int x] [] h = some (some (.int (q_count g P (kI a b) x)), h) := by
  obtain ⟨S, I, PD, SQ, CV, FP, l, m, k, t, f, M0, E, r1, r2, hP, r3⟩ := id M
  have e30 := o116 (d := d + 10) G M0 E
  have e31 := o117 (d := d + 10) G M0 E
  rw [← hb] at e31
  obtain ⟨y0, y1⟩ := M0.y99
  unfold q_count
  rcases pk_ix x (n := 7) (by decide) with hc | hc | ⟨j, hj, rfl⟩
  · have hx : x.toInt < 0 ∨ 6 < x.toInt := by
      have a1 : x.toInt < (0 : Int32).toInt := Int32.lt_iff_toInt_lt.mp hc
      have e0 : (0 : Int32).toInt = 0 := by decide
      omega
    simp only [ee_118_0, ee_118_1_d hx, ee_118_108, ee_118_110, hc, true_or, if_true]
  · have hx : x.toInt < 0 ∨ 6 < x.toInt := by
      have a1 : (nI 7).toInt ≤ x.toInt := Int32.le_iff_toInt_le.mp hc
      have e0 : (nI 7).toInt = 7 := by decide
      omega
    simp only [ee_118_0, ee_118_1_d hx, ee_118_108, ee_118_110, hc, or_true, if_true]
  · have n1 : ¬ nI j < 0 := nI_pos (by omega)
    have n2 : ¬ nI 7 ≤ nI j := nI_nle2 (by omega) (by omega) hj
    simp only [n1, n2, or_self, if_false, nI_clamp (show j < 2 ^ 31 by omega)]
    have : j = 0 ∨ j = 1 ∨ j = 2 ∨ j = 3 ∨ j = 4 ∨ j = 5 ∨ j = 6 := by omega
    rcases this with rfl | rfl | rfl | rfl | rfl | rfl | rfl
    · show go (d + 12) 118 0 [.ref 96, .int 0] [] h = _
      have r0 : ia h 97 0 = some (nI g.1) := by rw [← E.s.1]; exact M0.r97 (j := 0) (by decide)
      simp only [ee_118_0, ee_118_1_0, ee_118_1_1, ee_118_1_2, ee_118_1_3, ee_118_1_4, ee_118_1_5, ee_118_1_6, ee_118_1_d, ee_118_44, ee_118_44N, ee_118_45, ee_118_48, ee_118_49, ee_118_50, ee_118_51, ee_118_51N, ee_118_52, ee_118_55, ee_118_57, ee_118_58, ee_118_59, ee_118_60, ee_118_61, ee_118_62, ee_118_63, ee_118_63N, ee_118_64, ee_118_67, ee_118_68, ee_118_68N, ee_118_69, ee_118_72, ee_118_73, ee_118_73N, ee_118_74, ee_118_77, ee_118_78, ee_118_78N, ee_118_79, ee_118_82, ee_118_83, ee_118_84, ee_118_87, ee_118_88, ee_118_91, ee_118_92, ee_118_92N, ee_118_93, ee_118_96, ee_118_97, ee_118_98, ee_118_101, ee_118_102, ee_118_105, ee_118_106, ee_118_107, ee_118_108, ee_118_110, M0.F, r0, q_cnt, Option.bind_some, Option.toList, List.cons_append, List.nil_append, List.append_nil, if_true, if_false, Bool.false_eq_true, eq_self, not_true_eq_false, not_false_eq_true]
    · show go (d + 12) 118 0 [.ref 96, .int 1] [] h = _
      have r0 : ia h 97 (27 + 1 - 1) = some (nI g.2.2.1.length) := by rw [← E.s.2.2.2.1.1]; exact M0.r97 (j := 27) (by decide)
      simp only [ee_118_0, ee_118_1_0, ee_118_1_1, ee_118_1_2, ee_118_1_3, ee_118_1_4, ee_118_1_5, ee_118_1_6, ee_118_1_d, ee_118_44, ee_118_44N, ee_118_45, ee_118_48, ee_118_49, ee_118_50, ee_118_51, ee_118_51N, ee_118_52, ee_118_55, ee_118_57, ee_118_58, ee_118_59, ee_118_60, ee_118_61, ee_118_62, ee_118_63, ee_118_63N, ee_118_64, ee_118_67, ee_118_68, ee_118_68N, ee_118_69, ee_118_72, ee_118_73, ee_118_73N, ee_118_74, ee_118_77, ee_118_78, ee_118_78N, ee_118_79, ee_118_82, ee_118_83, ee_118_84, ee_118_87, ee_118_88, ee_118_91, ee_118_92, ee_118_92N, ee_118_93, ee_118_96, ee_118_97, ee_118_98, ee_118_101, ee_118_102, ee_118_105, ee_118_106, ee_118_107, ee_118_108, ee_118_110, M0.F, r0, q_cnt, Option.bind_some, Option.toList, List.cons_append, List.nil_append, List.append_nil, if_true, if_false, Bool.false_eq_true, eq_self, not_true_eq_false, not_false_eq_true]
    · show go (d + 12) 118 0 [.ref 96, .int 2] [] h = _
      have r0 : ia h 97 (27 + 2 - 1) = some (nI g.2.2.2.1.length) := by rw [← E.s.2.2.2.1.2]; exact M0.r97 (j := 28) (by decide)
      simp only [ee_118_0, ee_118_1_0, ee_118_1_1, ee_118_1_2, ee_118_1_3, ee_118_1_4, ee_118_1_5, ee_118_1_6, ee_118_1_d, ee_118_44, ee_118_44N, ee_118_45, ee_118_48, ee_118_49, ee_118_50, ee_118_51, ee_118_51N, ee_118_52, ee_118_55, ee_118_57, ee_118_58, ee_118_59, ee_118_60, ee_118_61, ee_118_62, ee_118_63, ee_118_63N, ee_118_64, ee_118_67, ee_118_68, ee_118_68N, ee_118_69, ee_118_72, ee_118_73, ee_118_73N, ee_118_74, ee_118_77, ee_118_78, ee_118_78N, ee_118_79, ee_118_82, ee_118_83, ee_118_84, ee_118_87, ee_118_88, ee_118_91, ee_118_92, ee_118_92N, ee_118_93, ee_118_96, ee_118_97, ee_118_98, ee_118_101, ee_118_102, ee_118_105, ee_118_106, ee_118_107, ee_118_108, ee_118_110, M0.F, r0, q_cnt, Option.bind_some, Option.toList, List.cons_append, List.nil_append, List.append_nil, if_true, if_false, Bool.false_eq_true, eq_self, not_true_eq_false, not_false_eq_true]
    · show go (d + 12) 118 0 [.ref 96, .int 3] [] h = _
      simp only [ee_118_0, ee_118_1_0, ee_118_1_1, ee_118_1_2, ee_118_1_3, ee_118_1_4, ee_118_1_5, ee_118_1_6, ee_118_1_d, ee_118_44, ee_118_44N, ee_118_45, ee_118_48, ee_118_49, ee_118_50, ee_118_51, ee_118_51N, ee_118_52, ee_118_55, ee_118_57, ee_118_58, ee_118_59, ee_118_60, ee_118_61, ee_118_62, ee_118_63, ee_118_63N, ee_118_64, ee_118_67, ee_118_68, ee_118_68N, ee_118_69, ee_118_72, ee_118_73, ee_118_73N, ee_118_74, ee_118_77, ee_118_78, ee_118_78N, ee_118_79, ee_118_82, ee_118_83, ee_118_84, ee_118_87, ee_118_88, ee_118_91, ee_118_92, ee_118_92N, ee_118_93, ee_118_96, ee_118_97, ee_118_98, ee_118_101, ee_118_102, ee_118_105, ee_118_106, ee_118_107, ee_118_108, ee_118_110, M0.F, e30, q_cnt, Option.bind_some, Option.toList, List.cons_append, List.nil_append, List.append_nil, if_true, if_false, Bool.false_eq_true, eq_self, not_true_eq_false, not_false_eq_true]
    · show go (d + 12) 118 0 [.ref 96, .int 4] [] h = _
      simp only [ee_118_0, ee_118_1_0, ee_118_1_1, ee_118_1_2, ee_118_1_3, ee_118_1_4, ee_118_1_5, ee_118_1_6, ee_118_1_d, ee_118_44, ee_118_44N, ee_118_45, ee_118_48, ee_118_49, ee_118_50, ee_118_51, ee_118_51N, ee_118_52, ee_118_55, ee_118_57, ee_118_58, ee_118_59, ee_118_60, ee_118_61, ee_118_62, ee_118_63, ee_118_63N, ee_118_64, ee_118_67, ee_118_68, ee_118_68N, ee_118_69, ee_118_72, ee_118_73, ee_118_73N, ee_118_74, ee_118_77, ee_118_78, ee_118_78N, ee_118_79, ee_118_82, ee_118_83, ee_118_84, ee_118_87, ee_118_88, ee_118_91, ee_118_92, ee_118_92N, ee_118_93, ee_118_96, ee_118_97, ee_118_98, ee_118_101, ee_118_102, ee_118_105, ee_118_106, ee_118_107, ee_118_108, ee_118_110, M0.F, q_cnt, Option.bind_some, Option.toList, List.cons_append, List.nil_append, List.append_nil, if_true, if_false, Bool.false_eq_true, eq_self, not_true_eq_false, not_false_eq_true]
    · show go (d + 12) 118 0 [.ref 96, .int 5] [] h = _
      simp only [ee_118_0, ee_118_1_0, ee_118_1_1, ee_118_1_2, ee_118_1_3, ee_118_1_4, ee_118_1_5, ee_118_1_6, ee_118_1_d, ee_118_44, ee_118_44N, ee_118_45, ee_118_48, ee_118_49, ee_118_50, ee_118_51, ee_118_51N, ee_118_52, ee_118_55, ee_118_57, ee_118_58, ee_118_59, ee_118_60, ee_118_61, ee_118_62, ee_118_63, ee_118_63N, ee_118_64, ee_118_67, ee_118_68, ee_118_68N, ee_118_69, ee_118_72, ee_118_73, ee_118_73N, ee_118_74, ee_118_77, ee_118_78, ee_118_78N, ee_118_79, ee_118_82, ee_118_83, ee_118_84, ee_118_87, ee_118_88, ee_118_91, ee_118_92, ee_118_92N, ee_118_93, ee_118_96, ee_118_97, ee_118_98, ee_118_101, ee_118_102, ee_118_105, ee_118_106, ee_118_107, ee_118_108, ee_118_110, M0.F, e31, q_cnt, Option.bind_some, Option.toList, List.cons_append, List.nil_append, List.append_nil, if_true, if_false, Bool.false_eq_true, eq_self, not_true_eq_false, not_false_eq_true]
    · show go (d + 12) 118 0 [.ref 96, .int 6] [] h = _
      cases a <;> cases b <;> simp only [bI_t, bI_f] at y0 y1 <;> simp only [ee_118_0, ee_118_1_0, ee_118_1_1, ee_118_1_2, ee_118_1_3, ee_118_1_4, ee_118_1_5, ee_118_1_6, ee_118_1_d, ee_118_44, ee_118_44N, ee_118_45, ee_118_48, ee_118_49, ee_118_50, ee_118_51, ee_118_51N, ee_118_52, ee_118_55, ee_118_57, ee_118_58, ee_118_59, ee_118_60, ee_118_61, ee_118_62, ee_118_63, ee_118_63N, ee_118_64, ee_118_67, ee_118_68, ee_118_68N, ee_118_69, ee_118_72, ee_118_73, ee_118_73N, ee_118_74, ee_118_77, ee_118_78, ee_118_78N, ee_118_79, ee_118_82, ee_118_83, ee_118_84, ee_118_87, ee_118_88, ee_118_91, ee_118_92, ee_118_92N, ee_118_93, ee_118_96, ee_118_97, ee_118_98, ee_118_101, ee_118_102, ee_118_105, ee_118_106, ee_118_107, ee_118_108, ee_118_110, M0.F, KK, y0, y1, q_cnt, Option.bind_some, Option.toList, List.cons_append, List.nil_append, List.append_nil, if_true, if_false, Bool.false_eq_true, eq_self, not_true_eq_false, not_false_eq_true] <;> rfl
/-- across, down, cellAt, canLie -/
def acr (x : Int32) : Int32 := if x = 0 then 1 else if x = 1 then 1 else if x = 7 then 1 else if x = 2 then 0 else if x = 6 then 0 else -1
def dwn (x : Int32) : Int32 := if x < 1 ∨ 3 < x then (if x < 5 ∨ 7 < x then 0 else -1) else 1
def colM (s p i : Int32) : Int32 := (p / 8 - p / 8 / s * s) + acr (p - p / 8 * 8) * i
def rowM (s p i : Int32) : Int32 := p / 8 / s + dwn (p - p / 8 * 8) * i
def cAt (s p i : Int32) : Int32 := if colM s p i < 0 ∨ s - 1 < colM s p i then -6 else if rowM s p i < 0 ∨ s - 1 < rowM s p i then -6 else s * rowM s p i + colM s p i
theorem cAt_dec : ∀ s ∈ [3, 4], ∀ p, p < 8 * s * s → ∀ i, i < 4 → cAt (nI s) (nI p) (nI i) = if i < rN s p then nI (cl s p i) else -6 := by decide +kernel
theorem cAt_eq {s p i : Nat} (hs : sideOk s) (hp : p < 8 * s * s) (hi : i < 4) : cAt (nI s) (nI p) (nI i) = if i < rN s p then nI (cl s p i) else -6 := cAt_dec s (by rcases hs with rfl | rfl <;> simp) p hp i hi
theorem K83 : ¬ (7 : Int32) = 0 ∧ ¬ (7 : Int32) = 1 ∧ ¬ (2 : Int32) = 7 ∧ ¬ (6 : Int32) = 0 ∧ ¬ (6 : Int32) = 1 ∧ ¬ (6 : Int32) = 7 ∧ ¬ (6 : Int32) = 2 ∧ ¬ (2 : Int32) = 0 ∧ ¬ (2 : Int32) = 1 := by decide
theorem o83 {x : Int32} : go d 83 0 [.int x] [] h = some (some (.int (acr x)), h) := by
  unfold acr
  by_cases h0 : x = 0
  · simp only [ee_83_0, ee_83_1, ee_83_4, ee_83_5, ee_83_6, ee_83_9, ee_83_10, ee_83_12, ee_83_15, ee_83_16, ee_83_19, ee_83_20, ee_83_21, ee_83_24, ee_83_25, ee_83_27, ee_83_30, ee_83_31, ee_83_34, ee_83_35, h0, Option.bind_some, Option.toList, List.cons_append, List.nil_append, List.append_nil, if_true, if_false, Bool.false_eq_true, eq_self, not_true_eq_false, not_false_eq_true]
  · by_cases h1 : x = 1
    · simp only [ee_83_0, ee_83_1, ee_83_4, ee_83_5, ee_83_6, ee_83_9, ee_83_10, ee_83_12, ee_83_15, ee_83_16, ee_83_19, ee_83_20, ee_83_21, ee_83_24, ee_83_25, ee_83_27, ee_83_30, ee_83_31, ee_83_34, ee_83_35, h0, h1, KK, Option.bind_some, Option.toList, List.cons_append, List.nil_append, List.append_nil, if_true, if_false, Bool.false_eq_true, eq_self, not_true_eq_false, not_false_eq_true]
    · by_cases h7 : x = 7
      · simp only [ee_83_0, ee_83_1, ee_83_4, ee_83_5, ee_83_6, ee_83_9, ee_83_10, ee_83_12, ee_83_15, ee_83_16, ee_83_19, ee_83_20, ee_83_21, ee_83_24, ee_83_25, ee_83_27, ee_83_30, ee_83_31, ee_83_34, ee_83_35, h0, h1, h7, K83, Option.bind_some, Option.toList, List.cons_append, List.nil_append, List.append_nil, if_true, if_false, Bool.false_eq_true, eq_self, not_true_eq_false, not_false_eq_true]
      · by_cases h2 : x = 2
        · simp only [ee_83_0, ee_83_1, ee_83_4, ee_83_5, ee_83_6, ee_83_9, ee_83_10, ee_83_12, ee_83_15, ee_83_16, ee_83_19, ee_83_20, ee_83_21, ee_83_24, ee_83_25, ee_83_27, ee_83_30, ee_83_31, ee_83_34, ee_83_35, h0, h1, h7, h2, K83, Option.bind_some, Option.toList, List.cons_append, List.nil_append, List.append_nil, if_true, if_false, Bool.false_eq_true, eq_self, not_true_eq_false, not_false_eq_true]
        · by_cases h6 : x = 6
          · simp only [ee_83_0, ee_83_1, ee_83_4, ee_83_5, ee_83_6, ee_83_9, ee_83_10, ee_83_12, ee_83_15, ee_83_16, ee_83_19, ee_83_20, ee_83_21, ee_83_24, ee_83_25, ee_83_27, ee_83_30, ee_83_31, ee_83_34, ee_83_35, h0, h1, h7, h2, h6, K83, Option.bind_some, Option.toList, List.cons_append, List.nil_append, List.append_nil, if_true, if_false, Bool.false_eq_true, eq_self, not_true_eq_false, not_false_eq_true]
          · simp only [ee_83_0, ee_83_1, ee_83_4, ee_83_5, ee_83_6, ee_83_9, ee_83_10, ee_83_12, ee_83_15, ee_83_16, ee_83_19, ee_83_20, ee_83_21, ee_83_24, ee_83_25, ee_83_27, ee_83_30, ee_83_31, ee_83_34, ee_83_35, h0, h1, h7, h2, h6, Option.bind_some, Option.toList, List.cons_append, List.nil_append, List.append_nil, if_true, if_false, Bool.false_eq_true, eq_self, not_true_eq_false, not_false_eq_true]
theorem o84 {x : Int32} : go (d + 1) 84 0 [.int x] [] h = some (some (.int (dwn x)), h) := by
  have e1 := o65 (d := d) (h := h) (v := x) (x := 1) (y := 3)
  have e2 := o65 (d := d) (h := h) (v := x) (x := 5) (y := 7)
  unfold dwn
  by_cases h1 : x < 1 ∨ 3 < x
  · rw [if_pos h1] at e1 ⊢
    by_cases h2 : x < 5 ∨ 7 < x
    · rw [if_pos h2] at e2 ⊢
      simp only [ee_84_0, ee_84_1, ee_84_2, ee_84_3, ee_84_6, ee_84_9, ee_84_10, ee_84_13, ee_84_14, ee_84_15, ee_84_17, ee_84_20, ee_84_23, ee_84_24, ee_84_27, ee_84_28, e1, e2, KK, Option.bind_some, Option.toList, List.cons_append, List.nil_append, List.append_nil, if_true, if_false, Bool.false_eq_true, eq_self, not_true_eq_false, not_false_eq_true]
    · rw [if_neg h2] at e2 ⊢
      simp only [ee_84_0, ee_84_1, ee_84_2, ee_84_3, ee_84_6, ee_84_9, ee_84_10, ee_84_13, ee_84_14, ee_84_15, ee_84_17, ee_84_20, ee_84_23, ee_84_24, ee_84_27, ee_84_28, e1, e2, KK, Option.bind_some, Option.toList, List.cons_append, List.nil_append, List.append_nil, if_true, if_false, Bool.false_eq_true, eq_self, not_true_eq_false, not_false_eq_true]
  · rw [if_neg h1] at e1 ⊢
    simp only [ee_84_0, ee_84_1, ee_84_2, ee_84_3, ee_84_6, ee_84_9, ee_84_10, ee_84_13, ee_84_14, ee_84_15, ee_84_17, ee_84_20, ee_84_23, ee_84_24, ee_84_27, ee_84_28, e1, KK, Option.bind_some, Option.toList, List.cons_append, List.nil_append, List.append_nil, if_true, if_false, Bool.false_eq_true, eq_self, not_true_eq_false, not_false_eq_true]
theorem o85 {s : Nat} {p i : Int32} (hs : sideOk s) (M : ML h S I PD SQ CV FP a b n l m k t f) (e0 : S.getD 0 0 = nI s) : go (d + 2) 85 0 [.ref 96, .int p, .int i, aU, aU, aU] [] h = some (some (.int (cAt (nI s) p i)), h) := by
  have r0 : ia h 97 0 = some (nI s) := by rw [← e0]; exact M.r97 (j := 0) (by decide)
  have n8 : ¬ (8 : Int32) = 0 := by decide
  have ns : ¬ nI s = 0 := by rcases hs with rfl | rfl <;> decide
  have e83 := o83 (d := d + 1) (h := h) (x := p - p / 8 * 8)
  have e84 := o84 (d := d) (h := h) (x := p - p / 8 * 8)
  have e1 := o65 (d := d + 1) (h := h) (v := colM (nI s) p i) (x := 0) (y := nI s - 1)
  have e2 := o65 (d := d + 1) (h := h) (v := rowM (nI s) p i) (x := 0) (y := nI s - 1)
  have c1 : (p / 8 - p / 8 / nI s * nI s) + acr (p - p / 8 * 8) * i = colM (nI s) p i := rfl
  have c2 : p / 8 / nI s + dwn (p - p / 8 * 8) * i = rowM (nI s) p i := rfl
  unfold cAt
  by_cases h1 : colM (nI s) p i < 0 ∨ nI s - 1 < colM (nI s) p i
  · rw [if_pos h1] at e1 ⊢
    simp only [ee_85_0, ee_85_0N, ee_85_1, ee_85_4, ee_85_5, ee_85_6, ee_85_7, ee_85_8, ee_85_10, ee_85_11, ee_85_12, ee_85_13, ee_85_14, ee_85_16, ee_85_17, ee_85_20, ee_85_21, ee_85_22, ee_85_23, ee_85_25, ee_85_26, ee_85_28, ee_85_29, ee_85_30, ee_85_31, ee_85_32, ee_85_34, ee_85_35, ee_85_38, ee_85_39, ee_85_40, ee_85_41, ee_85_43, ee_85_45, ee_85_46, ee_85_47, ee_85_48, ee_85_49, ee_85_52, ee_85_55, ee_85_57, ee_85_58, ee_85_59, ee_85_60, ee_85_61, ee_85_64, ee_85_67, ee_85_68, ee_85_70, ee_85_71, ee_85_73, ee_85_74, ee_85_77, ee_85_79, M.F, r0, n8, ns, e83, e84, c1, c2, e1, KK, Option.bind_some, Option.toList, List.cons_append, List.nil_append, List.append_nil, if_true, if_false, Bool.false_eq_true, eq_self, not_true_eq_false, not_false_eq_true]
  · rw [if_neg h1] at e1 ⊢
    by_cases h2 : rowM (nI s) p i < 0 ∨ nI s - 1 < rowM (nI s) p i
    · rw [if_pos h2] at e2 ⊢
      simp only [ee_85_0, ee_85_0N, ee_85_1, ee_85_4, ee_85_5, ee_85_6, ee_85_7, ee_85_8, ee_85_10, ee_85_11, ee_85_12, ee_85_13, ee_85_14, ee_85_16, ee_85_17, ee_85_20, ee_85_21, ee_85_22, ee_85_23, ee_85_25, ee_85_26, ee_85_28, ee_85_29, ee_85_30, ee_85_31, ee_85_32, ee_85_34, ee_85_35, ee_85_38, ee_85_39, ee_85_40, ee_85_41, ee_85_43, ee_85_45, ee_85_46, ee_85_47, ee_85_48, ee_85_49, ee_85_52, ee_85_55, ee_85_57, ee_85_58, ee_85_59, ee_85_60, ee_85_61, ee_85_64, ee_85_67, ee_85_68, ee_85_70, ee_85_71, ee_85_73, ee_85_74, ee_85_77, ee_85_79, M.F, r0, n8, ns, e83, e84, c1, c2, e1, e2, KK, Option.bind_some, Option.toList, List.cons_append, List.nil_append, List.append_nil, if_true, if_false, Bool.false_eq_true, eq_self, not_true_eq_false, not_false_eq_true]
    · rw [if_neg h2] at e2 ⊢
      simp only [ee_85_0, ee_85_0N, ee_85_1, ee_85_4, ee_85_5, ee_85_6, ee_85_7, ee_85_8, ee_85_10, ee_85_11, ee_85_12, ee_85_13, ee_85_14, ee_85_16, ee_85_17, ee_85_20, ee_85_21, ee_85_22, ee_85_23, ee_85_25, ee_85_26, ee_85_28, ee_85_29, ee_85_30, ee_85_31, ee_85_32, ee_85_34, ee_85_35, ee_85_38, ee_85_39, ee_85_40, ee_85_41, ee_85_43, ee_85_45, ee_85_46, ee_85_47, ee_85_48, ee_85_49, ee_85_52, ee_85_55, ee_85_57, ee_85_58, ee_85_59, ee_85_60, ee_85_61, ee_85_64, ee_85_67, ee_85_68, ee_85_70, ee_85_71, ee_85_73, ee_85_74, ee_85_77, ee_85_79, M.F, r0, n8, ns, e83, e84, c1, c2, e1, e2, KK, Option.bind_some, Option.toList, List.cons_append, List.nil_append, List.append_nil, if_true, if_false, Bool.false_eq_true, eq_self, not_true_eq_false, not_false_eq_true]
theorem o85a {s p i : Nat} (hs : sideOk s) (M : ML h S I PD SQ CV FP a b n l m k t f) (e0 : S.getD 0 0 = nI s) (hp : p < 8 * s * s) (hi : i < 4) (hr : i < rN s p) : go (d + 2) 85 0 [.ref 96, .int (nI p), .int (nI i), aU, aU, aU] [] h = some (some (.int (nI (cl s p i))), h) := by
  have e := o85 (d := d) (p := nI p) (i := nI i) hs M e0
  rw [cAt_eq hs hp hi, if_pos hr] at e
  exact e
/-- a word of n letters, 1 to 4 -/
theorem o86 {s p n' : Nat} (hs : sideOk s) (M : ML h S I PD SQ CV FP a b n l m k t f) (e0 : S.getD 0 0 = nI s) (hp : p < 8 * s * s) (h1 : 1 ≤ n') (h4 : n' ≤ 4) : go (d + 3) 86 0 [.ref 96, .int (nI p), .int (nI n')] [] h = some (some (.int (bI (decide (n' ≤ rN s p)))), h) := by
  have e := o85 (d := d) (p := nI p) (i := nI (n' - 1)) hs M e0
  rw [cAt_eq hs hp (by omega)] at e
  have x1 : nI n' - 1 = nI (n' - 1) := pk_sub (b := 1) h1
  have hq := (sq_lt hs).1
  by_cases hr : n' - 1 < rN s p
  · rw [if_pos hr] at e
    have n0 : ¬ nI (cl s p (n' - 1)) < 0 := nI_pos (by have := ((geo hs hp).2.2.2.2 (n' - 1) hr).2; omega)
    rw [decide_eq_true (show n' ≤ rN s p by omega), bI_t]
    simp only [ee_86_0, ee_86_0N, ee_86_1, ee_86_2, ee_86_3, ee_86_4, ee_86_5, ee_86_8, ee_86_11, ee_86_12, ee_86_15, ee_86_16, ee_86_16T, M.F, x1, e, n0, Option.bind_some, Option.toList, List.cons_append, List.nil_append, List.append_nil, if_true, if_false, Bool.false_eq_true, eq_self, not_true_eq_false, not_false_eq_true]
  · rw [if_neg hr] at e
    have n0 : (-6 : Int32) < 0 := by decide
    rw [decide_eq_false (show ¬ n' ≤ rN s p by omega), bI_f]
    simp only [ee_86_0, ee_86_0N, ee_86_1, ee_86_2, ee_86_3, ee_86_4, ee_86_5, ee_86_8, ee_86_11, ee_86_12, ee_86_15, ee_86_16, ee_86_16T, M.F, x1, e, n0, Option.bind_some, Option.toList, List.cons_append, List.nil_append, List.append_nil, if_true, if_false, Bool.false_eq_true, eq_self, not_true_eq_false, not_false_eq_true]
end MD3
