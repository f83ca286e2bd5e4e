/-! the reference: a step of a laying -/
section MD6
variable {h h' h0 : aH} {g g' i0 i1 : gG} {P P' S I PD SQ CV FP : List Int32} {a b : Bool} {n l m k t f : Int32} {lo hi d : Nat}
def SecAt (X : List Int32) (o : Nat) (cs : List Int32) : Prop := cs.length = 16 ∧ ∀ c, c < 16 → X.getD (16 * o + c) 0 = cs.getD c 0
/-- what lies below a step is the same -/
def Low (X X' : List Int32) (o : Nat) : Prop := ∀ j, j < 16 * o → X'.getD j 0 = X.getD j 0
theorem Low.rf {X : List Int32} {o : Nat} : Low X X o := fun _ _ => rfl
theorem Low.trans {X Y Z : List Int32} {o : Nat} (a : Low X Y o) (b : Low Y Z o) : Low X Z o := fun j hj => (b j hj).trans (a j hj)
theorem Low.mono {X Y : List Int32} {o o' : Nat} (a : Low X Y o) (h : o' ≤ o) : Low X Y o' := fun j hj => a j (by omega)
theorem SecAt.low {X Y cs : List Int32} {o o' : Nat} (A : SecAt X o cs) (L : Low X Y o') (h : o < o') : SecAt Y o cs := ⟨A.1, fun c hc => by rw [L _ (by omega)]; exact A.2 c hc⟩
/-- copyStep -/
theorem o88 {st : Nat} (hst : st < 3) (M0 : ML h S I PD SQ CV FP a b n l m k t f) : ∃ h', go d 88 0 [.ref 96, .int (nI st), aU] [] h = some (none, h') ∧ ML h' S I PD (updR SQ (16 * (st + 1)) (fun c => SQ.getD (16 * st + c) 0) 16) (updR CV (16 * (st + 1)) (fun c => CV.getD (16 * st + c) 0) 16) FP a b n l m k t f ∧ Off h h' 96 104 := by
  have hl1 := M0.2.2.2.2.2.1.2
  have hl2 := M0.2.2.2.2.2.2.1.2
  have lp := go_iter (d := d) (M := 88) (pc := 2) (fun i ls h' => ls = [.ref 96, .int (nI st), .int (nI i)] ∧ ML h' S I PD (updR SQ (16 * (st + 1)) (fun c => SQ.getD (16 * st + c) 0) i) (updR CV (16 * (st + 1)) (fun c => CV.getD (16 * st + c) 0) i) FP a b n l m k t f ∧ Off h h' 96 104) 16 (by
    rintro i ls h2 hi ⟨rfl, M2, O2⟩
    obtain ⟨h3, w3, M3, O3⟩ := M2.w101 (j := 16 * (st + 1) + i) (SQ.getD (16 * st + i) 0) (by omega)
    obtain ⟨h4, w4, M4, O4⟩ := M3.w102 (j := 16 * (st + 1) + i) (CV.getD (16 * st + i) 0) (by omega)
    refine ⟨_, h4, ?_, rfl, M4, (O2.trans O3).trans O4⟩
    have n1 : ¬ (16 : Int32) ≤ nI i := nI_nle2 (a := i) (b := 16) (by omega) (by omega) hi
    have x0 : (16 : Int32) * nI st + nI i = nI (16 * st + i) := by rw [show (16 : Int32) = nI 16 by decide, pk_mul, nI_add]
    have x1 : (16 : Int32) * nI (st + 1) + nI i = nI (16 * (st + 1) + i) := by rw [show (16 : Int32) = nI 16 by decide, pk_mul, nI_add]
    have r1 := M2.r101 (j := 16 * st + i) (by omega)
    rw [updR_at _ _ _ _ _ (by omega), if_neg (by omega)] at r1
    have r2 := M3.r102 (j := 16 * st + i) (by omega)
    rw [updR_at _ _ _ _ _ (by omega), if_neg (by omega)] at r2
    rw [ee_88_2]
    simp only [ee_88_0, ee_88_1, ee_88_3, ee_88_5, ee_88_8, ee_88_8N, ee_88_9, ee_88_12, ee_88_14, ee_88_15, ee_88_16, ee_88_17, ee_88_18, ee_88_19, ee_88_20, ee_88_20N, ee_88_21, ee_88_24, ee_88_26, ee_88_27, ee_88_28, ee_88_29, ee_88_30, ee_88_31, ee_88_32, ee_88_32N, ee_88_33, ee_88_36, ee_88_38, ee_88_39, ee_88_40, ee_88_41, ee_88_42, ee_88_43, ee_88_44, ee_88_44N, ee_88_45, ee_88_48, ee_88_50, ee_88_51, ee_88_52, ee_88_53, ee_88_54, ee_88_55, ee_88_56, ee_88_59, ee_88_62, M2.F, M3.F, n1, nI_1, x0, x1, r1, r2, w3, w4, Option.bind_some, Option.toList, List.cons_append, List.nil_append, List.append_nil, if_true, if_false, Bool.false_eq_true, eq_self, not_true_eq_false, not_false_eq_true])
  obtain ⟨ls, h3, e3, rfl, M3, O3⟩ := lp _ h ⟨rfl, M0, Off.rf⟩
  refine ⟨h3, ?_, M3, O3⟩
  rw [nI_0] at e3
  have n1 : (16 : Int32) ≤ nI 16 := by decide
  simp only [ee_88_0, ee_88_1, ee_88_3, ee_88_5, ee_88_8, ee_88_8N, ee_88_9, ee_88_12, ee_88_14, ee_88_15, ee_88_16, ee_88_17, ee_88_18, ee_88_19, ee_88_20, ee_88_20N, ee_88_21, ee_88_24, ee_88_26, ee_88_27, ee_88_28, ee_88_29, ee_88_30, ee_88_31, ee_88_32, ee_88_32N, ee_88_33, ee_88_36, ee_88_38, ee_88_39, ee_88_40, ee_88_41, ee_88_42, ee_88_43, ee_88_44, ee_88_44N, ee_88_45, ee_88_48, ee_88_50, ee_88_51, ee_88_52, ee_88_53, ee_88_54, ee_88_55, ee_88_56, ee_88_59, ee_88_62, e3, Option.bind_some, Option.toList, List.cons_append, List.nil_append, List.append_nil, if_true, if_false, Bool.false_eq_true, eq_self, not_true_eq_false, not_false_eq_true]
  rw [ee_88_2]
  simp only [ee_88_0, ee_88_1, ee_88_3, ee_88_5, ee_88_8, ee_88_8N, ee_88_9, ee_88_12, ee_88_14, ee_88_15, ee_88_16, ee_88_17, ee_88_18, ee_88_19, ee_88_20, ee_88_20N, ee_88_21, ee_88_24, ee_88_26, ee_88_27, ee_88_28, ee_88_29, ee_88_30, ee_88_31, ee_88_32, ee_88_32N, ee_88_33, ee_88_36, ee_88_38, ee_88_39, ee_88_40, ee_88_41, ee_88_42, ee_88_43, ee_88_44, ee_88_44N, ee_88_45, ee_88_48, ee_88_50, ee_88_51, ee_88_52, ee_88_53, ee_88_54, ee_88_55, ee_88_56, ee_88_59, ee_88_62, n1, Option.bind_some, Option.toList, List.cons_append, List.nil_append, List.append_nil, if_true, if_false, Bool.false_eq_true, eq_self, not_true_eq_false, not_false_eq_true]
theorem updR_sec {X cs : List Int32} {st : Nat} (hst : st < 3) (hl : X.length = 80) (A : SecAt X st cs) : SecAt (updR X (16 * (st + 1)) (fun c => X.getD (16 * st + c) 0) 16) (st + 1) cs ∧ Low X (updR X (16 * (st + 1)) (fun c => X.getD (16 * st + c) 0) 16) (st + 1) := by
  constructor
  · refine ⟨A.1, fun c hc => ?_⟩
    rw [updR_at _ _ _ _ _ (by omega), if_pos (by omega), Nat.add_sub_cancel_left]
    exact A.2 c hc
  · intro j hj
    rw [updR_at _ _ _ _ _ (by omega), if_neg (by omega)]
/-- layWord -/
theorem o89_l {s st p : Nat} {cs cv w SQ0 CV0 : List Int32} (hs : sideOk s) (hst : st < 3) (hl : cs.length = 16) (hlv : cv.length = 16) (W : WordAt S 0 st w) (e0 : S.getD 0 0 = nI s) (hp : p < 8 * s * s) (hr : w.length ≤ rN s p) : ∀ n' i h SQ CV (l5 : Value), i + n' = w.length → ML h S I PD SQ CV FP a b n l m k t f → SecAt SQ (st + 1) (putF s w p cs i) → SecAt CV (st + 1) (incF s p cv i) → Low SQ0 SQ (st + 1) → Low CV0 CV (st + 1) →
    ∃ h' SQ' CV', go (d + 4) 89 26 [.ref 96, .int (nI st), .int (nI p), .int 1, .int (nI i), l5] [] h = some (some (.int (bI (accB s cs w p i n'))), h') ∧ ML h' S I PD SQ' CV' FP a b n l m k t f ∧ Low SQ0 SQ' (st + 1) ∧ Low CV0 CV' (st + 1) ∧ Off h h' 96 104 ∧ (accB s cs w p i n' = true → SecAt SQ' (st + 1) (putF s w p cs w.length) ∧ SecAt CV' (st + 1) (incF s p cv w.length))
  | 0, i, h, SQ, CV, l5, hi, M, A, B, L1, L2 => by
    have e71 := W.long (d := d + 3) M
    rw [nI_0] at e71
    have nn : nI w.length ≤ nI i := by rw [← hi]; exact Int32.le_refl _
    have hi' : i = w.length := by omega
    refine ⟨h, SQ, CV, ?_, M, L1, L2, Off.rf, fun _ => by rw [← hi']; exact ⟨A, B⟩⟩
    rw [ee_89_26]
    simp only [ee_89_0, ee_89_0N, ee_89_1, ee_89_2, ee_89_2N, ee_89_3, ee_89_4, ee_89_5, ee_89_8, ee_89_11, ee_89_14, ee_89_15, ee_89_15T, ee_89_16, ee_89_16N, ee_89_17, ee_89_18, ee_89_21, ee_89_22, ee_89_23, ee_89_24, ee_89_28, ee_89_28N, ee_89_29, ee_89_30, ee_89_31, ee_89_34, ee_89_37, ee_89_38, ee_89_41, ee_89_43, ee_89_44, ee_89_45, ee_89_46, ee_89_47, ee_89_47N, ee_89_48, ee_89_49, ee_89_51, ee_89_54, ee_89_55, ee_89_57, ee_89_57N, ee_89_58, ee_89_61, ee_89_63, ee_89_64, ee_89_67, ee_89_67N, ee_89_68, ee_89_71, ee_89_73, ee_89_74, ee_89_74N, ee_89_75, ee_89_76, ee_89_77, ee_89_79, ee_89_82, ee_89_85, ee_89_86, ee_89_89, ee_89_90, ee_89_91, ee_89_91N, ee_89_92, ee_89_95, ee_89_97, ee_89_97N, ee_89_98, ee_89_99, ee_89_100, ee_89_102, ee_89_105, ee_89_106, ee_89_106N, ee_89_107, ee_89_110, ee_89_112, ee_89_113, ee_89_114, ee_89_115, ee_89_116, ee_89_117, ee_89_120, ee_89_123, ee_89_124, ee_89_124T, M.F, e71, nn, accB, List.range'_zero, List.all_nil, bI_t, Option.bind_some, Option.toList, List.cons_append, List.nil_append, List.append_nil, if_true, if_false, Bool.false_eq_true, eq_self, not_true_eq_false, not_false_eq_true]
  | n' + 1, i, h, SQ, CV, l5, hi, M, A, B, L1, L2 => by
    have hl4 := W.1.2.2.2
    have e71 := W.long (d := d + 3) M
    rw [nI_0] at e71
    have n1 : ¬ nI w.length ≤ nI i := nI_nle2 (by omega) (by omega) (by omega)
    have e85 := o85a (d := d + 1) hs M e0 hp (i := i) (by omega) (by omega)
    have h16 := cl_16 hs hp (i := i) (by omega)
    have x1 : (16 : Int32) * nI (st + 1) + nI (cl s p i) = nI (16 * (st + 1) + cl s p i) := by rw [show (16 : Int32) = nI 16 by decide, pk_mul, nI_add]
    have r1 := M.r101 (j := 16 * (st + 1) + cl s p i) (by omega)
    rw [A.2 _ h16, putF_out i (fun j hj z => absurd (cl_inj hs hp (by omega) (by omega) z) (by omega))] at r1
    have e72 := W.let (d := d + 3) (i := i) M (by omega)
    rw [nI_0] at e72
    obtain ⟨h3, w3, M3, O3⟩ := M.w101 (j := 16 * (st + 1) + cl s p i) (w.getD i 0) (by omega)
    have r2 := M3.r102 (j := 16 * (st + 1) + cl s p i) (by omega)
    rw [B.2 _ h16] at r2
    obtain ⟨h4, w4, M4, O4⟩ := M3.w102 (j := 16 * (st + 1) + cl s p i) ((incF s p cv i).getD (cl s p i) 0 + 1) (by omega)
    have e72' := W.let (d := d + 3) (i := i) M (by omega)
    rw [nI_0] at e72'
    have hlq := M.2.2.2.2.2.1.2
    have hlc := M.2.2.2.2.2.2.1.2
    have A' : SecAt (SQ.set (16 * (st + 1) + cl s p i) (w.getD i 0)) (st + 1) (putF s w p cs (i + 1)) := by
      refine ⟨by rw [putF_len]; exact hl, fun c hc => ?_⟩
      rw [getD_set, putF, getD_set, putF_len]
      by_cases hz : cl s p i = c
      · rw [if_pos ⟨by omega, by omega⟩, if_pos ⟨hz, by omega⟩]
      · rw [if_neg (by omega), if_neg (by omega)]; exact A.2 c hc
    have B' : SecAt (CV.set (16 * (st + 1) + cl s p i) ((incF s p cv i).getD (cl s p i) 0 + 1)) (st + 1) (incF s p cv (i + 1)) := by
      refine ⟨by rw [incF_len]; exact hlv, fun c hc => ?_⟩
      rw [getD_set, incF, getD_set, incF_len]
      by_cases hz : cl s p i = c
      · rw [if_pos ⟨by omega, by omega⟩, if_pos ⟨hz, by omega⟩]
      · rw [if_neg (by omega), if_neg (by omega)]; exact B.2 c hc
    have L1' : Low SQ0 (SQ.set (16 * (st + 1) + cl s p i) (w.getD i 0)) (st + 1) := fun j hj => by rw [getD_set, if_neg (by omega)]; exact L1 j hj
    have L2' : Low CV0 (CV.set (16 * (st + 1) + cl s p i) ((incF s p cv i).getD (cl s p i) 0 + 1)) (st + 1) := fun j hj => by rw [getD_set, if_neg (by omega)]; exact L2 j hj
    unfold accB
    rw [List.range'_succ, List.all_cons]
    by_cases h1 : cs.getD (cl s p i) 0 = 0
    · obtain ⟨h5, SQ', CV', e, M5, q1, q2, O5, q3⟩ := o89_l hs hst hl hlv W e0 hp hr n' (i + 1) h4 _ _ (.int (nI (16 * (st + 1) + cl s p i))) (by omega) M4 A' B' L1' L2'
      rw [decide_eq_true h1, Bool.or_true, Bool.true_and]
      refine ⟨h5, SQ', CV', ?_, M5, q1, q2, (O3.trans O4).trans O5, q3⟩
      unfold accB at e
      rw [ee_89_26]
      simp only [ee_89_0, ee_89_0N, ee_89_1, ee_89_2, ee_89_2N, ee_89_3, ee_89_4, ee_89_5, ee_89_8, ee_89_11, ee_89_14, ee_89_15, ee_89_15T, ee_89_16, ee_89_16N, ee_89_17, ee_89_18, ee_89_21, ee_89_22, ee_89_23, ee_89_24, ee_89_28, ee_89_28N, ee_89_29, ee_89_30, ee_89_31, ee_89_34, ee_89_37, ee_89_38, ee_89_41, ee_89_43, ee_89_44, ee_89_45, ee_89_46, ee_89_47, ee_89_47N, ee_89_48, ee_89_49, ee_89_51, ee_89_54, ee_89_55, ee_89_57, ee_89_57N, ee_89_58, ee_89_61, ee_89_63, ee_89_64, ee_89_67, ee_89_67N, ee_89_68, ee_89_71, ee_89_73, ee_89_74, ee_89_74N, ee_89_75, ee_89_76, ee_89_77, ee_89_79, ee_89_82, ee_89_85, ee_89_86, ee_89_89, ee_89_90, ee_89_91, ee_89_91N, ee_89_92, ee_89_95, ee_89_97, ee_89_97N, ee_89_98, ee_89_99, ee_89_100, ee_89_102, ee_89_105, ee_89_106, ee_89_106N, ee_89_107, ee_89_110, ee_89_112, ee_89_113, ee_89_114, ee_89_115, ee_89_116, ee_89_117, ee_89_120, ee_89_123, ee_89_124, ee_89_124T, M.F, M3.F, KK, e71, n1, nI_1, e85, x1, r1, h1, e72, w3, r2, w4, e, Option.bind_some, Option.toList, List.cons_append, List.nil_append, List.append_nil, if_true, if_false, Bool.false_eq_true, eq_self, not_true_eq_false, not_false_eq_true]
    · by_cases h2 : cs.getD (cl s p i) 0 = w.getD i 0
      · obtain ⟨h5, SQ', CV', e, M5, q1, q2, O5, q3⟩ := o89_l hs hst hl hlv W e0 hp hr n' (i + 1) h4 _ _ (.int (nI (16 * (st + 1) + cl s p i))) (by omega) M4 A' B' L1' L2'
        rw [decide_eq_true h2, Bool.true_or, Bool.true_and]
        refine ⟨h5, SQ', CV', ?_, M5, q1, q2, (O3.trans O4).trans O5, q3⟩
        unfold accB at e
        rw [h2] at h1 r1
        rw [ee_89_26]
        simp only [ee_89_0, ee_89_0N, ee_89_1, ee_89_2, ee_89_2N, ee_89_3, ee_89_4, ee_89_5, ee_89_8, ee_89_11, ee_89_14, ee_89_15, ee_89_15T, ee_89_16, ee_89_16N, ee_89_17, ee_89_18, ee_89_21, ee_89_22, ee_89_23, ee_89_24, ee_89_28, ee_89_28N, ee_89_29, ee_89_30, ee_89_31, ee_89_34, ee_89_37, ee_89_38, ee_89_41, ee_89_43, ee_89_44, ee_89_45, ee_89_46, ee_89_47, ee_89_47N, ee_89_48, ee_89_49, ee_89_51, ee_89_54, ee_89_55, ee_89_57, ee_89_57N, ee_89_58, ee_89_61, ee_89_63, ee_89_64, ee_89_67, ee_89_67N, ee_89_68, ee_89_71, ee_89_73, ee_89_74, ee_89_74N, ee_89_75, ee_89_76, ee_89_77, ee_89_79, ee_89_82, ee_89_85, ee_89_86, ee_89_89, ee_89_90, ee_89_91, ee_89_91N, ee_89_92, ee_89_95, ee_89_97, ee_89_97N, ee_89_98, ee_89_99, ee_89_100, ee_89_102, ee_89_105, ee_89_106, ee_89_106N, ee_89_107, ee_89_110, ee_89_112, ee_89_113, ee_89_114, ee_89_115, ee_89_116, ee_89_117, ee_89_120, ee_89_123, ee_89_124, ee_89_124T, M.F, M3.F, KK, e71, n1, nI_1, e85, x1, r1, h1, e72, w3, r2, w4, e, Option.bind_some, Option.toList, List.cons_append, List.nil_append, List.append_nil, if_true, if_false, Bool.false_eq_true, eq_self, not_true_eq_false, not_false_eq_true]
      · rw [decide_eq_false h1, decide_eq_false h2, Bool.or_self, Bool.false_and, bI_f]
        refine ⟨h4, _, _, ?_, M4, L1', L2', O3.trans O4, fun z => by cases z⟩
        have e71' := W.long (d := d + 3) M4
        rw [nI_0] at e71'
        have nx : ∀ l5, go (d + 4) 89 26 [.ref 96, .int (nI st), .int (nI p), .int 0, .int (nI (i + 1)), l5] [] h4 = some (some (.int 0), h4) := by
          intro l5
          by_cases hz : nI w.length ≤ nI (i + 1)
          · simp only [ee_89_0, ee_89_0N, ee_89_1, ee_89_2, ee_89_2N, ee_89_3, ee_89_4, ee_89_5, ee_89_8, ee_89_11, ee_89_14, ee_89_15, ee_89_15T, ee_89_16, ee_89_16N, ee_89_17, ee_89_18, ee_89_21, ee_89_22, ee_89_23, ee_89_24, ee_89_26, ee_89_28, ee_89_28N, ee_89_29, ee_89_30, ee_89_31, ee_89_34, ee_89_37, ee_89_38, ee_89_41, ee_89_43, ee_89_44, ee_89_45, ee_89_46, ee_89_47, ee_89_47N, ee_89_48, ee_89_49, ee_89_51, ee_89_54, ee_89_55, ee_89_57, ee_89_57N, ee_89_58, ee_89_61, ee_89_63, ee_89_64, ee_89_67, ee_89_67N, ee_89_68, ee_89_71, ee_89_73, ee_89_74, ee_89_74N, ee_89_75, ee_89_76, ee_89_77, ee_89_79, ee_89_82, ee_89_85, ee_89_86, ee_89_89, ee_89_90, ee_89_91, ee_89_91N, ee_89_92, ee_89_95, ee_89_97, ee_89_97N, ee_89_98, ee_89_99, ee_89_100, ee_89_102, ee_89_105, ee_89_106, ee_89_106N, ee_89_107, ee_89_110, ee_89_112, ee_89_113, ee_89_114, ee_89_115, ee_89_116, ee_89_117, ee_89_120, ee_89_123, ee_89_124, ee_89_124T, M4.F, e71', hz, Option.bind_some, Option.toList, List.cons_append, List.nil_append, List.append_nil, if_true, if_false, Bool.false_eq_true, eq_self, not_true_eq_false, not_false_eq_true]
          · simp only [ee_89_0, ee_89_0N, ee_89_1, ee_89_2, ee_89_2N, ee_89_3, ee_89_4, ee_89_5, ee_89_8, ee_89_11, ee_89_14, ee_89_15, ee_89_15T, ee_89_16, ee_89_16N, ee_89_17, ee_89_18, ee_89_21, ee_89_22, ee_89_23, ee_89_24, ee_89_26, ee_89_28, ee_89_28N, ee_89_29, ee_89_30, ee_89_31, ee_89_34, ee_89_37, ee_89_38, ee_89_41, ee_89_43, ee_89_44, ee_89_45, ee_89_46, ee_89_47, ee_89_47N, ee_89_48, ee_89_49, ee_89_51, ee_89_54, ee_89_55, ee_89_57, ee_89_57N, ee_89_58, ee_89_61, ee_89_63, ee_89_64, ee_89_67, ee_89_67N, ee_89_68, ee_89_71, ee_89_73, ee_89_74, ee_89_74N, ee_89_75, ee_89_76, ee_89_77, ee_89_79, ee_89_82, ee_89_85, ee_89_86, ee_89_89, ee_89_90, ee_89_91, ee_89_91N, ee_89_92, ee_89_95, ee_89_97, ee_89_97N, ee_89_98, ee_89_99, ee_89_100, ee_89_102, ee_89_105, ee_89_106, ee_89_106N, ee_89_107, ee_89_110, ee_89_112, ee_89_113, ee_89_114, ee_89_115, ee_89_116, ee_89_117, ee_89_120, ee_89_123, ee_89_124, ee_89_124T, M4.F, e71', hz, Option.bind_some, Option.toList, List.cons_append, List.nil_append, List.append_nil, if_true, if_false, Bool.false_eq_true, eq_self, not_true_eq_false, not_false_eq_true]
        rw [ee_89_26]
        simp only [ee_89_0, ee_89_0N, ee_89_1, ee_89_2, ee_89_2N, ee_89_3, ee_89_4, ee_89_5, ee_89_8, ee_89_11, ee_89_14, ee_89_15, ee_89_15T, ee_89_16, ee_89_16N, ee_89_17, ee_89_18, ee_89_21, ee_89_22, ee_89_23, ee_89_24, ee_89_28, ee_89_28N, ee_89_29, ee_89_30, ee_89_31, ee_89_34, ee_89_37, ee_89_38, ee_89_41, ee_89_43, ee_89_44, ee_89_45, ee_89_46, ee_89_47, ee_89_47N, ee_89_48, ee_89_49, ee_89_51, ee_89_54, ee_89_55, ee_89_57, ee_89_57N, ee_89_58, ee_89_61, ee_89_63, ee_89_64, ee_89_67, ee_89_67N, ee_89_68, ee_89_71, ee_89_73, ee_89_74, ee_89_74N, ee_89_75, ee_89_76, ee_89_77, ee_89_79, ee_89_82, ee_89_85, ee_89_86, ee_89_89, ee_89_90, ee_89_91, ee_89_91N, ee_89_92, ee_89_95, ee_89_97, ee_89_97N, ee_89_98, ee_89_99, ee_89_100, ee_89_102, ee_89_105, ee_89_106, ee_89_106N, ee_89_107, ee_89_110, ee_89_112, ee_89_113, ee_89_114, ee_89_115, ee_89_116, ee_89_117, ee_89_120, ee_89_123, ee_89_124, ee_89_124T, M.F, M3.F, KK, e71, n1, nI_1, e85, x1, r1, h1, h2, e72, w3, r2, w4, nx, Option.bind_some, Option.toList, List.cons_append, List.nil_append, List.append_nil, if_true, if_false, Bool.false_eq_true, eq_self, not_true_eq_false, not_false_eq_true]
theorem o89 {s st p : Nat} {cs cv w : List Int32} (hs : sideOk s) (hst : st < 3) (W : WordAt S 0 st w) (e0 : S.getD 0 0 = nI s) (hp : p < 8 * s * s) (M : ML h S I PD SQ CV FP a b n l m k t f) (A : SecAt SQ st cs) (B : SecAt CV st cv) :
    ∃ h' SQ' CV', go (d + 4) 89 0 [.ref 96, .int (nI st), .int (nI p), aU, aU, aU] [] h = some (some (.int (bI (acc s cs w p))), h') ∧ ML h' S I PD SQ' CV' FP a b n l m k t f ∧ Low SQ SQ' (st + 1) ∧ Low CV CV' (st + 1) ∧ Off h h' 96 104 ∧ (acc s cs w p = true → SecAt SQ' (st + 1) (layF s w p 0 w.length (cs, 0)).1 ∧ SecAt CV' (st + 1) (incF s p cv w.length)) := by
  have hl4 := W.1.2.2.2
  have e71 := W.long (d := d + 3) M
  rw [nI_0] at e71
  have e86 := o86 (d := d) (n' := w.length) hs M e0 hp W.1.2.2.1 hl4
  by_cases h2 : w.length ≤ rN s p
  · rw [decide_eq_true h2, bI_t] at e86
    obtain ⟨h1, e88, M1, O1⟩ := o88 (d := d + 3) hst M
    obtain ⟨A1, L1⟩ := updR_sec hst M.2.2.2.2.2.1.2 A
    obtain ⟨B1, L2⟩ := updR_sec hst M.2.2.2.2.2.2.1.2 B
    obtain ⟨h5, SQ', CV', e, M5, q1, q2, O5, q3⟩ := o89_l (d := d) hs hst A.1 B.1 W e0 hp h2 w.length 0 h1 _ _ aU (by omega) M1 A1 B1 L1 L2
    have eacc : acc s cs w p = accB s cs w p 0 w.length := by unfold acc; rw [decide_eq_true h2, Bool.true_and]
    refine ⟨h5, SQ', CV', ?_, M5, q1, q2, O1.trans O5, fun ha => ?_⟩
    · rw [nI_0] at e
      rw [eacc]
      simp only [ee_89_0, ee_89_0N, ee_89_1, ee_89_2, ee_89_2N, ee_89_3, ee_89_4, ee_89_5, ee_89_8, ee_89_11, ee_89_14, ee_89_15, ee_89_15T, ee_89_16, ee_89_16N, ee_89_17, ee_89_18, ee_89_21, ee_89_22, ee_89_23, ee_89_24, ee_89_28, ee_89_28N, ee_89_29, ee_89_30, ee_89_31, ee_89_34, ee_89_37, ee_89_38, ee_89_41, ee_89_43, ee_89_44, ee_89_45, ee_89_46, ee_89_47, ee_89_47N, ee_89_48, ee_89_49, ee_89_51, ee_89_54, ee_89_55, ee_89_57, ee_89_57N, ee_89_58, ee_89_61, ee_89_63, ee_89_64, ee_89_67, ee_89_67N, ee_89_68, ee_89_71, ee_89_73, ee_89_74, ee_89_74N, ee_89_75, ee_89_76, ee_89_77, ee_89_79, ee_89_82, ee_89_85, ee_89_86, ee_89_89, ee_89_90, ee_89_91, ee_89_91N, ee_89_92, ee_89_95, ee_89_97, ee_89_97N, ee_89_98, ee_89_99, ee_89_100, ee_89_102, ee_89_105, ee_89_106, ee_89_106N, ee_89_107, ee_89_110, ee_89_112, ee_89_113, ee_89_114, ee_89_115, ee_89_116, ee_89_117, ee_89_120, ee_89_123, ee_89_124, ee_89_124T, M.F, KK, e71, e86, e88, e, Option.bind_some, Option.toList, List.cons_append, List.nil_append, List.append_nil, if_true, if_false, Bool.false_eq_true, eq_self, not_true_eq_false, not_false_eq_true]
    · rw [(lay_put hs hp ha A.1).1]
      exact q3 (by rw [← eacc]; exact ha)
  · rw [decide_eq_false h2, bI_f] at e86
    have eacc : acc s cs w p = false := by unfold acc; rw [decide_eq_false h2, Bool.false_and]
    refine ⟨h, SQ, CV, ?_, M, Low.rf, Low.rf, Off.rf, fun z => by rw [eacc] at z; cases z⟩
    rw [eacc, bI_f]
    simp only [ee_89_0, ee_89_0N, ee_89_1, ee_89_2, ee_89_2N, ee_89_3, ee_89_4, ee_89_5, ee_89_8, ee_89_11, ee_89_14, ee_89_15, ee_89_15T, ee_89_16, ee_89_16N, ee_89_17, ee_89_18, ee_89_21, ee_89_22, ee_89_23, ee_89_24, ee_89_28, ee_89_28N, ee_89_29, ee_89_30, ee_89_31, ee_89_34, ee_89_37, ee_89_38, ee_89_41, ee_89_43, ee_89_44, ee_89_45, ee_89_46, ee_89_47, ee_89_47N, ee_89_48, ee_89_49, ee_89_51, ee_89_54, ee_89_55, ee_89_57, ee_89_57N, ee_89_58, ee_89_61, ee_89_63, ee_89_64, ee_89_67, ee_89_67N, ee_89_68, ee_89_71, ee_89_73, ee_89_74, ee_89_74N, ee_89_75, ee_89_76, ee_89_77, ee_89_79, ee_89_82, ee_89_85, ee_89_86, ee_89_89, ee_89_90, ee_89_91, ee_89_91N, ee_89_92, ee_89_95, ee_89_97, ee_89_97N, ee_89_98, ee_89_99, ee_89_100, ee_89_102, ee_89_105, ee_89_106, ee_89_106N, ee_89_107, ee_89_110, ee_89_112, ee_89_113, ee_89_114, ee_89_115, ee_89_116, ee_89_117, ee_89_120, ee_89_123, ee_89_124, ee_89_124T, M.F, KK, e71, e86, Option.bind_some, Option.toList, List.cons_append, List.nil_append, List.append_nil, if_true, if_false, Bool.false_eq_true, eq_self, not_true_eq_false, not_false_eq_true]
/-- layStep: a word that is not there is laid nowhere -/
def stOk (s : Nat) (ws : List (List Int32)) (st : Nat) (cs : List Int32) (p : Nat) : Bool := if st < ws.length then acc s cs (ws.getD st []) p else true
def stCs (s : Nat) (ws : List (List Int32)) (st : Nat) (cs : List Int32) (p : Nat) : List Int32 := if st < ws.length then (layF s (ws.getD st []) p 0 (ws.getD st []).length (cs, 0)).1 else cs
def stCv (s : Nat) (ws : List (List Int32)) (st : Nat) (cv : List Int32) (p : Nat) : List Int32 := if st < ws.length then incF s p cv (ws.getD st []).length else cv
theorem o91 {st p : Nat} {x : Int32} {cs cv : List Int32} (G : GW g) (hst : st < 3) (E : Enc (fun j => S.getD j 0) g) (hx : st < g.2.2.1.length → x = nI p ∧ p < 8 * g.1 * g.1) (M : ML h S I PD SQ CV FP a b n l m k t f) (A : SecAt SQ st cs) (B : SecAt CV st cv) :
    ∃ h' SQ' CV', go (d + 5) 91 0 [.ref 96, .int (nI st), .int x] [] h = some (some (.int (bI (stOk g.1 g.2.2.1 st cs p))), h') ∧ ML h' S I PD SQ' CV' FP a b n l m k t f ∧ Low SQ SQ' (st + 1) ∧ Low CV CV' (st + 1) ∧ Off h h' 96 104 ∧ (stOk g.1 g.2.2.1 st cs p = true → SecAt SQ' (st + 1) (stCs g.1 g.2.2.1 st cs p) ∧ SecAt CV' (st + 1) (stCv g.1 g.2.2.1 st cv p)) := by
  have h3 := G.2.2.1
  have r27 := M.r97 (j := 27) (by decide)
  rw [E.s.2.2.2.1.1] at r27
  have r27' : ia h 97 27 = some (nI g.2.2.1.length) := r27
  unfold stOk stCs stCv
  by_cases hn : st < g.2.2.1.length
  · obtain ⟨rfl, hp⟩ := hx hn
    obtain ⟨h5, SQ', CV', e, M5, q1, q2, O5, q3⟩ := o89 (d := d) G.1.1 hst (E.w0 G hn) E.s.1 hp M A B
    rw [if_pos hn, if_pos hn, if_pos hn]
    refine ⟨h5, SQ', CV', ?_, M5, q1, q2, O5, q3⟩
    have c : nI st < nI g.2.2.1.length := nI_lt hn (by omega)
    by_cases ha : acc g.1 cs (g.2.2.1.getD st []) p = true
    · rw [ha, bI_t] at e ⊢
      simp only [ee_91_0, ee_91_1, ee_91_1N, ee_91_2, ee_91_5, ee_91_7, ee_91_8, ee_91_11, ee_91_11N, ee_91_12, ee_91_13, ee_91_16, ee_91_17, ee_91_17T, ee_91_18, ee_91_18N, ee_91_19, ee_91_20, ee_91_21, ee_91_24, ee_91_24T, M.F, r27', c, e, Option.bind_some, Option.toList, List.cons_append, List.nil_append, List.append_nil, if_true, if_false, Bool.false_eq_true, eq_self, not_true_eq_false, not_false_eq_true]
    · have ha' : acc g.1 cs (g.2.2.1.getD st []) p = false := by simpa using ha
      rw [ha', bI_f] at e ⊢
      simp only [ee_91_0, ee_91_1, ee_91_1N, ee_91_2, ee_91_5, ee_91_7, ee_91_8, ee_91_11, ee_91_11N, ee_91_12, ee_91_13, ee_91_16, ee_91_17, ee_91_17T, ee_91_18, ee_91_18N, ee_91_19, ee_91_20, ee_91_21, ee_91_24, ee_91_24T, M.F, r27', c, e, Option.bind_some, Option.toList, List.cons_append, List.nil_append, List.append_nil, if_true, if_false, Bool.false_eq_true, eq_self, not_true_eq_false, not_false_eq_true]
  · rw [if_neg hn, if_neg hn, if_neg hn]
    obtain ⟨h1, e88, M1, O1⟩ := o88 (d := d + 4) hst M
    obtain ⟨A1, L1⟩ := updR_sec hst M.2.2.2.2.2.1.2 A
    obtain ⟨B1, L2⟩ := updR_sec hst M.2.2.2.2.2.2.1.2 B
    refine ⟨h1, _, _, ?_, M1, L1, L2, O1, fun _ => ⟨A1, B1⟩⟩
    have c : ¬ nI st < nI g.2.2.1.length := nI_nlt (by omega) (by omega)
    rw [bI_t]
    simp only [ee_91_0, ee_91_1, ee_91_1N, ee_91_2, ee_91_5, ee_91_7, ee_91_8, ee_91_11, ee_91_11N, ee_91_12, ee_91_13, ee_91_16, ee_91_17, ee_91_17T, ee_91_18, ee_91_18N, ee_91_19, ee_91_20, ee_91_21, ee_91_24, ee_91_24T, M.F, r27', c, e88, Option.bind_some, Option.toList, List.cons_append, List.nil_append, List.append_nil, if_true, if_false, Bool.false_eq_true, eq_self, not_true_eq_false, not_false_eq_true]
/-- placesOf -/
def plN (g : gG) (st : Nat) : Nat := if st < g.2.2.1.length then 8 * g.1 * g.1 else 1
theorem o90 {st : Nat} (G : GW g) (hst : st < 3) (E : Enc (fun j => S.getD j 0) g) (M : ML h S I PD SQ CV FP a b n l m k t f) : go (d + 1) 90 0 [.ref 96, .int (nI st)] [] h = some (some (.int (nI (plN g st))), h) := by
  have h3 := G.2.2.1
  have r27 := M.r97 (j := 27) (by decide)
  rw [E.s.2.2.2.1.1] at r27
  have r27' : ia h 97 27 = some (nI g.2.2.1.length) := r27
  have e66 := o66 (d := d) M E.s.1
  have e8 : (8 : Int32) * nI (g.1 * g.1) = nI (8 * g.1 * g.1) := by rw [show (8 : Int32) = nI 8 by decide, pk_mul, Nat.mul_assoc]
  unfold plN
  by_cases hn : st < g.2.2.1.length
  · have c : ¬ nI g.2.2.1.length ≤ nI st := nI_nle2 (by omega) (by omega) hn
    rw [if_pos hn]
    simp only [ee_90_0, ee_90_1, ee_90_1N, ee_90_2, ee_90_5, ee_90_7, ee_90_8, ee_90_11, ee_90_13, ee_90_13N, ee_90_14, ee_90_17, ee_90_18, ee_90_21, ee_90_22, M.F, r27', c, e66, e8, Option.bind_some, Option.toList, List.cons_append, List.nil_append, List.append_nil, if_true, if_false, Bool.false_eq_true, eq_self, not_true_eq_false, not_false_eq_true]
  · have c : nI g.2.2.1.length ≤ nI st := nI_le (by omega) (by omega)
    rw [if_neg hn]
    simp only [ee_90_0, ee_90_1, ee_90_1N, ee_90_2, ee_90_5, ee_90_7, ee_90_8, ee_90_11, ee_90_13, ee_90_13N, ee_90_14, ee_90_17, ee_90_18, ee_90_21, ee_90_22, M.F, r27', c, Option.bind_some, Option.toList, List.cons_append, List.nil_append, List.append_nil, if_true, if_false, Bool.false_eq_true, eq_self, not_true_eq_false, not_false_eq_true]
    rfl
/-- crossed, covered -/
theorem o98 {cv : List Int32} (M : ML h S I PD SQ CV FP a b n l m k t f) (B : SecAt CV 3 cv) : go d 98 0 [.ref 96, aU, aU] [] h = some (some (.int (nI (cnt (fun c => decide (¬ cv.getD c 0 ≤ 1)) 16))), h) := by
  have lp : go d 98 4 [.ref 96, .int (nI (cnt (fun c => decide (¬ cv.getD c 0 ≤ 1)) 0)), .int (nI 0)] [] h = go d 98 4 [.ref 96, .int (nI (cnt (fun c => decide (¬ cv.getD c 0 ≤ 1)) 16)), .int (nI 16)] [] h := by
    refine go_loop (fun i => [.ref 96, .int (nI (cnt (fun c => decide (¬ cv.getD c 0 ≤ 1)) i)), .int (nI i)]) (fun _ => h) 16 ?_
    intro i hi
    have n1 : ¬ (16 : Int32) ≤ nI i := nI_nle2 (a := i) (b := 16) (by omega) (by omega) hi
    have x1 : (48 : Int32) + nI i = nI (48 + i) := xI 48 i
    have r := M.r102 (j := 48 + i) (by omega)
    rw [show 48 + i = 16 * 3 + i from rfl, B.2 i hi] at r
    rw [ee_98_4]
    by_cases hz : cv.getD i 0 ≤ 1
    · simp only [ee_98_0, ee_98_1, ee_98_2, ee_98_3, ee_98_5, ee_98_7, ee_98_10, ee_98_11, ee_98_11N, ee_98_12, ee_98_15, ee_98_17, ee_98_18, ee_98_19, ee_98_20, ee_98_21, ee_98_24, ee_98_25, ee_98_28, ee_98_29, ee_98_30, ee_98_31, ee_98_34, ee_98_37, ee_98_38, M.F, n1, x1, r, hz, cnt, not_true_eq_false, decide_false, Int32.add_zero, Nat.add_zero, nI_1, Option.bind_some, Option.toList, List.cons_append, List.nil_append, List.append_nil, if_true, if_false, Bool.false_eq_true, eq_self, not_true_eq_false, not_false_eq_true]
    · simp only [ee_98_0, ee_98_1, ee_98_2, ee_98_3, ee_98_5, ee_98_7, ee_98_10, ee_98_11, ee_98_11N, ee_98_12, ee_98_15, ee_98_17, ee_98_18, ee_98_19, ee_98_20, ee_98_21, ee_98_24, ee_98_25, ee_98_28, ee_98_29, ee_98_30, ee_98_31, ee_98_34, ee_98_37, ee_98_38, M.F, n1, x1, r, hz, cnt, not_false_eq_true, decide_true, nI_1, Option.bind_some, Option.toList, List.cons_append, List.nil_append, List.append_nil, if_true, if_false, Bool.false_eq_true, eq_self, not_true_eq_false, not_false_eq_true]
  rw [show cnt (fun c => decide (¬ cv.getD c 0 ≤ 1)) 0 = 0 from rfl, nI_0] at lp
  have nn : (16 : Int32) ≤ nI 16 := by decide
  simp only [ee_98_0, ee_98_1, ee_98_2, ee_98_3, ee_98_5, ee_98_7, ee_98_10, ee_98_11, ee_98_11N, ee_98_12, ee_98_15, ee_98_17, ee_98_18, ee_98_19, ee_98_20, ee_98_21, ee_98_24, ee_98_25, ee_98_28, ee_98_29, ee_98_30, ee_98_31, ee_98_34, ee_98_37, ee_98_38, lp, Option.bind_some, Option.toList, List.cons_append, List.nil_append, List.append_nil, if_true, if_false, Bool.false_eq_true, eq_self, not_true_eq_false, not_false_eq_true]
  rw [ee_98_4]
  simp only [ee_98_0, ee_98_1, ee_98_2, ee_98_3, ee_98_5, ee_98_7, ee_98_10, ee_98_11, ee_98_11N, ee_98_12, ee_98_15, ee_98_17, ee_98_18, ee_98_19, ee_98_20, ee_98_21, ee_98_24, ee_98_25, ee_98_28, ee_98_29, ee_98_30, ee_98_31, ee_98_34, ee_98_37, ee_98_38, nn, Option.bind_some, Option.toList, List.cons_append, List.nil_append, List.append_nil, if_true, if_false, Bool.false_eq_true, eq_self, not_true_eq_false, not_false_eq_true]
theorem o99 {cv : List Int32} (M : ML h S I PD SQ CV FP a b n l m k t f) (B : SecAt CV 3 cv) : go d 99 0 [.ref 96, aU, aU] [] h = some (some (.int (nI (cnt (fun c => decide (¬ cv.getD c 0 ≤ 0)) 16))), h) := by
  have lp : go d 99 4 [.ref 96, .int (nI (cnt (fun c => decide (¬ cv.getD c 0 ≤ 0)) 0)), .int (nI 0)] [] h = go d 99 4 [.ref 96, .int (nI (cnt (fun c => decide (¬ cv.getD c 0 ≤ 0)) 16)), .int (nI 16)] [] h := by
    refine go_loop (fun i => [.ref 96, .int (nI (cnt (fun c => decide (¬ cv.getD c 0 ≤ 0)) i)), .int (nI i)]) (fun _ => h) 16 ?_
    intro i hi
    have n1 : ¬ (16 : Int32) ≤ nI i := nI_nle2 (a := i) (b := 16) (by omega) (by omega) hi
    have x1 : (48 : Int32) + nI i = nI (48 + i) := xI 48 i
    have r := M.r102 (j := 48 + i) (by omega)
    rw [show 48 + i = 16 * 3 + i from rfl, B.2 i hi] at r
    rw [ee_99_4]
    by_cases hz : cv.getD i 0 ≤ 0
    · simp only [ee_99_0, ee_99_1, ee_99_2, ee_99_3, ee_99_5, ee_99_7, ee_99_10, ee_99_11, ee_99_11N, ee_99_12, ee_99_15, ee_99_17, ee_99_18, ee_99_19, ee_99_20, ee_99_23, ee_99_24, ee_99_27, ee_99_28, ee_99_29, ee_99_30, ee_99_33, ee_99_36, ee_99_37, M.F, n1, x1, r, hz, cnt, not_true_eq_false, decide_false, Int32.add_zero, Nat.add_zero, nI_1, Option.bind_some, Option.toList, List.cons_append, List.nil_append, List.append_nil, if_true, if_false, Bool.false_eq_true, eq_self, not_true_eq_false, not_false_eq_true]
    · simp only [ee_99_0, ee_99_1, ee_99_2, ee_99_3, ee_99_5, ee_99_7, ee_99_10, ee_99_11, ee_99_11N, ee_99_12, ee_99_15, ee_99_17, ee_99_18, ee_99_19, ee_99_20, ee_99_23, ee_99_24, ee_99_27, ee_99_28, ee_99_29, ee_99_30, ee_99_33, ee_99_36, ee_99_37, M.F, n1, x1, r, hz, cnt, not_false_eq_true, decide_true, nI_1, Option.bind_some, Option.toList, List.cons_append, List.nil_append, List.append_nil, if_true, if_false, Bool.false_eq_true, eq_self, not_true_eq_false, not_false_eq_true]
  rw [show cnt (fun c => decide (¬ cv.getD c 0 ≤ 0)) 0 = 0 from rfl, nI_0] at lp
  have nn : (16 : Int32) ≤ nI 16 := by decide
  simp only [ee_99_0, ee_99_1, ee_99_2, ee_99_3, ee_99_5, ee_99_7, ee_99_10, ee_99_11, ee_99_11N, ee_99_12, ee_99_15, ee_99_17, ee_99_18, ee_99_19, ee_99_20, ee_99_23, ee_99_24, ee_99_27, ee_99_28, ee_99_29, ee_99_30, ee_99_33, ee_99_36, ee_99_37, lp, Option.bind_some, Option.toList, List.cons_append, List.nil_append, List.append_nil, if_true, if_false, Bool.false_eq_true, eq_self, not_true_eq_false, not_false_eq_true]
  rw [ee_99_4]
  simp only [ee_99_0, ee_99_1, ee_99_2, ee_99_3, ee_99_5, ee_99_7, ee_99_10, ee_99_11, ee_99_11N, ee_99_12, ee_99_15, ee_99_17, ee_99_18, ee_99_19, ee_99_20, ee_99_23, ee_99_24, ee_99_27, ee_99_28, ee_99_29, ee_99_30, ee_99_33, ee_99_36, ee_99_37, nn, Option.bind_some, Option.toList, List.cons_append, List.nil_append, List.append_nil, if_true, if_false, Bool.false_eq_true, eq_self, not_true_eq_false, not_false_eq_true]
end MD6
