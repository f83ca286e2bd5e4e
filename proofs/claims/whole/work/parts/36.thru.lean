/-! the reference: going through the layings -/
abbrev mX : Type := Int32 × Int32 × Int32 × Int32 × List Int32
def MLX (h : aH) (S I PD SQ CV : List Int32) (a b : Bool) (n f : Int32) (X : mX) : Prop := ML h S I PD SQ CV X.2.2.2.2 a b n X.1 X.2.1 X.2.2.1 X.2.2.2.1 f
def foldR {α : Type} (f : α → Nat → α) (X : α) (n : Nat) : α := (List.range' 0 n).foldl f X
theorem foldR_0 {α : Type} (f : α → Nat → α) (X : α) : foldR f X 0 = X := rfl
theorem foldR_s {α : Type} (f : α → Nat → α) (X : α) (n : Nat) : foldR f X (n + 1) = f (foldR f X n) n := by
  unfold foldR
  rw [List.range'_1_concat, List.foldl_append, Nat.zero_add]
  rfl
def lv (g : gG) (st : Nat) (cs cv : List Int32) (body : Nat → List Int32 → List Int32 → mX → mX) (X : mX) : mX := foldR (fun X p => if stOk g.1 g.2.2.1 st cs p = true then body p (stCs g.1 g.2.2.1 st cs p) (stCv g.1 g.2.2.1 st cv p) X else X) X (plN g st)
def mw (g : gG) (F : mX → Nat → Nat → Nat → List Int32 → List Int32 → mX) (cs cv : List Int32) (X : mX) : mX := lv g 0 cs cv (fun a cs cv X => lv g 1 cs cv (fun b cs cv X => lv g 2 cs cv (fun c cs cv X => F X a b c cs cv) X) X) X
def SeeOk (d : Nat) (F : mX → Nat → Nat → Nat → List Int32 → List Int32 → mX) (S I PD : List Int32) (a b : Bool) (n f : Int32) : Prop := ∀ h SQ CV (X : mX) (A B C : Nat) cs cv, MLX h S I PD SQ CV a b n f X → SecAt SQ 3 cs → SecAt CV 3 cv → ∃ h' SQ', go (d + 7) 101 0 [.ref 96, .int (nI A), .int (nI B), .int (nI C), aU] [] h = some (none, h') ∧ MLX h' S I PD SQ' CV a b n f (F X A B C cs cv) ∧ Low SQ SQ' 4 ∧ Off h h' 96 104
section MD8
variable {h h' h0 : aH} {g g' i0 i1 : gG} {P P' S I PD SQ CV FP : List Int32} {a b : Bool} {n l m k t f : Int32} {lo hi d : Nat} {F : mX → Nat → Nat → Nat → List Int32 → List Int32 → mX} {X : mX} {cs cv : List Int32}
theorem plN_le (G : GW g) (st : Nat) : plN g st ≤ 128 ∧ 1 ≤ plN g st := by
  have hq := (sq_lt G.1.1).2
  have : 1 ≤ 8 * g.1 * g.1 := by rcases G.1.1 with h | h <;> rw [h] <;> decide
  unfold plN
  split <;> omega
theorem plN_in {st p : Nat} (hp : p < plN g st) : st < g.2.2.1.length → nI p = nI p ∧ p < 8 * g.1 * g.1 := by
  intro h
  unfold plN at hp
  rw [if_pos h] at hp
  exact ⟨rfl, hp⟩
/-- goLast -/
theorem o103 {A B : Nat} (G : GW g) (E : Enc (fun j => S.getD j 0) g) (hsee : SeeOk d F S I PD a b n f) (M : MLX h S I PD SQ CV a b n f X) (hA : SecAt SQ 2 cs) (hB : SecAt CV 2 cv) : ∃ h' SQ' CV', go (d + 8) 103 0 [.ref 96, .int (nI A), .int (nI B), aU] [] h = some (none, h') ∧ MLX h' S I PD SQ' CV' a b n f (lv g 2 cs cv (fun c cs cv X => F X A B c cs cv) X) ∧ Low SQ SQ' 3 ∧ Low CV CV' 3 ∧ Off h h' 96 104 := by
  have hpl := plN_le G 2
  have lp := go_iter (d := d + 8) (M := 103) (pc := 2) (fun i ls h' => ∃ SQ' CV', ls = [.ref 96, .int (nI A), .int (nI B), .int (nI i)] ∧ MLX h' S I PD SQ' CV' a b n f (foldR (fun X p => if stOk g.1 g.2.2.1 2 cs p = true then F X A B p (stCs g.1 g.2.2.1 2 cs p) (stCv g.1 g.2.2.1 2 cv p) else X) X i) ∧ Low SQ SQ' 3 ∧ Low CV CV' 3 ∧ Off h h' 96 104) (plN g 2) (by
    rintro i ls h2 hi ⟨SQ2, CV2, rfl, M2, L1, L2, O2⟩
    have e90 := o90 (d := d + 6) (st := 2) G (by decide) E M2
    have e90' : go (d + 7) 90 0 [.ref 96, .int 2] [] h2 = some (some (.int (nI (plN g 2))), h2) := e90
    have n1 : ¬ nI (plN g 2) ≤ nI i := nI_nle2 (by omega) (by omega) hi
    obtain ⟨h3, SQ3, CV3, e3, M3, l1, l2, O3, q3⟩ := o91 (d := d + 2) (st := 2) (p := i) G (by decide) E (plN_in hi) M2 (hA.low L1 (by decide)) (hB.low L2 (by decide))
    have e3' : go (d + 7) 91 0 [.ref 96, .int 2, .int (nI i)] [] h2 = some (some (.int (bI (stOk g.1 g.2.2.1 2 cs i))), h3) := e3
    rw [ee_103_2]
    by_cases hk : stOk g.1 g.2.2.1 2 cs i = true
    · obtain ⟨A3, B3⟩ := q3 hk
      obtain ⟨h4, SQ4, e4, M4, L4, O4⟩ := hsee h3 SQ3 CV3 _ A B i _ _ M3 A3 B3
      refine ⟨[.ref 96, .int (nI A), .int (nI B), .int (nI (i + 1))], h4, ?_, SQ4, CV3, rfl, ?_, (L1.trans l1).trans (L4.mono (by decide)), L2.trans l2, (O2.trans O3).trans O4⟩
      · rw [hk, bI_t] at e3'
        simp only [ee_103_0, ee_103_1, ee_103_3, ee_103_3N, ee_103_4, ee_103_5, ee_103_8, ee_103_11, ee_103_11N, ee_103_12, ee_103_13, ee_103_14, ee_103_17, ee_103_20, ee_103_20N, ee_103_21, ee_103_22, ee_103_23, ee_103_24, ee_103_27, ee_103_30, ee_103_33, M2.F, M3.F, KK, e90', n1, e3', e4, nI_1, Option.bind_some, Option.toList, List.cons_append, List.nil_append, List.append_nil, if_true, if_false, Bool.false_eq_true, eq_self, not_true_eq_false, not_false_eq_true]
      · rw [foldR_s, if_pos hk]; exact M4
    · have hk' : stOk g.1 g.2.2.1 2 cs i = false := by simpa using hk
      refine ⟨[.ref 96, .int (nI A), .int (nI B), .int (nI (i + 1))], h3, ?_, SQ3, CV3, rfl, ?_, L1.trans l1, L2.trans l2, O2.trans O3⟩
      · rw [hk', bI_f] at e3'
        simp only [ee_103_0, ee_103_1, ee_103_3, ee_103_3N, ee_103_4, ee_103_5, ee_103_8, ee_103_11, ee_103_11N, ee_103_12, ee_103_13, ee_103_14, ee_103_17, ee_103_20, ee_103_20N, ee_103_21, ee_103_22, ee_103_23, ee_103_24, ee_103_27, ee_103_30, ee_103_33, M2.F, KK, e90', n1, e3', nI_1, Option.bind_some, Option.toList, List.cons_append, List.nil_append, List.append_nil, if_true, if_false, Bool.false_eq_true, eq_self, not_true_eq_false, not_false_eq_true]
      · rw [foldR_s, if_neg hk]; exact M3)
  obtain ⟨ls, h3, e3, SQ3, CV3, rfl, M3, L1, L2, O3⟩ := lp [.ref 96, .int (nI A), .int (nI B), .int (nI 0)] h ⟨SQ, CV, rfl, M, Low.rf, Low.rf, Off.rf⟩
  refine ⟨h3, SQ3, CV3, ?_, M3, L1, L2, O3⟩
  rw [nI_0] at e3
  have e90 := o90 (d := d + 6) (st := 2) G (by decide) E M3
  have e90' : go (d + 7) 90 0 [.ref 96, .int 2] [] h3 = some (some (.int (nI (plN g 2))), h3) := e90
  have nn : nI (plN g 2) ≤ nI (plN g 2) := Int32.le_refl _
  simp only [ee_103_0, ee_103_1, ee_103_3, ee_103_3N, ee_103_4, ee_103_5, ee_103_8, ee_103_11, ee_103_11N, ee_103_12, ee_103_13, ee_103_14, ee_103_17, ee_103_20, ee_103_20N, ee_103_21, ee_103_22, ee_103_23, ee_103_24, ee_103_27, ee_103_30, ee_103_33, e3, Option.bind_some, Option.toList, List.cons_append, List.nil_append, List.append_nil, if_true, if_false, Bool.false_eq_true, eq_self, not_true_eq_false, not_false_eq_true]
  rw [ee_103_2]
  simp only [ee_103_0, ee_103_1, ee_103_3, ee_103_3N, ee_103_4, ee_103_5, ee_103_8, ee_103_11, ee_103_11N, ee_103_12, ee_103_13, ee_103_14, ee_103_17, ee_103_20, ee_103_20N, ee_103_21, ee_103_22, ee_103_23, ee_103_24, ee_103_27, ee_103_30, ee_103_33, M3.F, e90', nn, Option.bind_some, Option.toList, List.cons_append, List.nil_append, List.append_nil, if_true, if_false, Bool.false_eq_true, eq_self, not_true_eq_false, not_false_eq_true]
/-- the second word's places -/
theorem o102_b {A : Nat} {v : Int32} (G : GW g) (E : Enc (fun j => S.getD j 0) g) (hsee : SeeOk d F S I PD a b n f) (M : MLX h S I PD SQ CV a b n f X) (hA : SecAt SQ 1 cs) (hB : SecAt CV 1 cv) : ∃ h' SQ' CV' l3, go (d + 9) 102 53 [.ref 96, .int v, .int (nI A), .int 0] [] h = go (d + 9) 102 83 [.ref 96, .int v, .int (nI A), l3] [] h' ∧ MLX h' S I PD SQ' CV' a b n f (lv g 1 cs cv (fun b cs cv X => lv g 2 cs cv (fun c cs cv X => F X A b c cs cv) X) X) ∧ Low SQ SQ' 2 ∧ Low CV CV' 2 ∧ Off h h' 96 104 := by
  have hpl := plN_le G 1
  have lp := go_iter (d := d + 9) (M := 102) (pc := 53) (fun i ls h' => ∃ SQ' CV', ls = [.ref 96, .int v, .int (nI A), .int (nI i)] ∧ MLX h' S I PD SQ' CV' a b n f (foldR (fun X p => if stOk g.1 g.2.2.1 1 cs p = true then lv g 2 (stCs g.1 g.2.2.1 1 cs p) (stCv g.1 g.2.2.1 1 cv p) (fun c cs cv X => F X A p c cs cv) X else X) X i) ∧ Low SQ SQ' 2 ∧ Low CV CV' 2 ∧ Off h h' 96 104) (plN g 1) (by
    rintro i ls h2 hi ⟨SQ2, CV2, rfl, M2, L1, L2, O2⟩
    have e90 := o90 (d := d + 7) (st := 1) G (by decide) E M2
    have e90' : go (d + 8) 90 0 [.ref 96, .int 1] [] h2 = some (some (.int (nI (plN g 1))), h2) := e90
    have n1 : ¬ nI (plN g 1) ≤ nI i := nI_nle2 (by omega) (by omega) hi
    obtain ⟨h3, SQ3, CV3, e3, M3, l1, l2, O3, q3⟩ := o91 (d := d + 3) (st := 1) (p := i) G (by decide) E (plN_in hi) M2 (hA.low L1 (by decide)) (hB.low L2 (by decide))
    have e3' : go (d + 8) 91 0 [.ref 96, .int 1, .int (nI i)] [] h2 = some (some (.int (bI (stOk g.1 g.2.2.1 1 cs i))), h3) := e3
    rw [ee_102_53]
    by_cases hk : stOk g.1 g.2.2.1 1 cs i = true
    · obtain ⟨A3, B3⟩ := q3 hk
      obtain ⟨h4, SQ4, CV4, e4, M4, L4, L5, O4⟩ := o103 (d := d) (A := A) (B := i) G E hsee M3 A3 B3
      refine ⟨[.ref 96, .int v, .int (nI A), .int (nI (i + 1))], h4, ?_, SQ4, CV4, rfl, ?_, (L1.trans l1).trans (L4.mono (by decide)), (L2.trans l2).trans (L5.mono (by decide)), (O2.trans O3).trans O4⟩
      · rw [hk, bI_t] at e3'
        simp only [ee_102_0, ee_102_0N, ee_102_1, ee_102_2, ee_102_5, ee_102_5N, ee_102_6, ee_102_7, ee_102_10, ee_102_10N, ee_102_11, ee_102_13, ee_102_16, ee_102_16N, ee_102_17, ee_102_19, ee_102_22, ee_102_22N, ee_102_23, ee_102_24, ee_102_27, ee_102_27N, ee_102_28, ee_102_31, ee_102_32, ee_102_33, ee_102_34, ee_102_34N, ee_102_35, ee_102_36, ee_102_39, ee_102_42, ee_102_42N, ee_102_43, ee_102_44, ee_102_45, ee_102_48, ee_102_51, ee_102_52, ee_102_54, ee_102_54N, ee_102_55, ee_102_56, ee_102_59, ee_102_62, ee_102_62N, ee_102_63, ee_102_64, ee_102_65, ee_102_68, ee_102_71, ee_102_71N, ee_102_72, ee_102_73, ee_102_74, ee_102_77, ee_102_80, ee_102_83, ee_102_86, ee_102_89, M2.F, M3.F, KK, e90', n1, e3', e4, nI_1, Option.bind_some, Option.toList, List.cons_append, List.nil_append, List.append_nil, if_true, if_false, Bool.false_eq_true, eq_self, not_true_eq_false, not_false_eq_true]
      · rw [foldR_s, if_pos hk]; exact M4
    · have hk' : stOk g.1 g.2.2.1 1 cs i = false := by simpa using hk
      refine ⟨[.ref 96, .int v, .int (nI A), .int (nI (i + 1))], h3, ?_, SQ3, CV3, rfl, ?_, L1.trans l1, L2.trans l2, O2.trans O3⟩
      · rw [hk', bI_f] at e3'
        simp only [ee_102_0, ee_102_0N, ee_102_1, ee_102_2, ee_102_5, ee_102_5N, ee_102_6, ee_102_7, ee_102_10, ee_102_10N, ee_102_11, ee_102_13, ee_102_16, ee_102_16N, ee_102_17, ee_102_19, ee_102_22, ee_102_22N, ee_102_23, ee_102_24, ee_102_27, ee_102_27N, ee_102_28, ee_102_31, ee_102_32, ee_102_33, ee_102_34, ee_102_34N, ee_102_35, ee_102_36, ee_102_39, ee_102_42, ee_102_42N, ee_102_43, ee_102_44, ee_102_45, ee_102_48, ee_102_51, ee_102_52, ee_102_54, ee_102_54N, ee_102_55, ee_102_56, ee_102_59, ee_102_62, ee_102_62N, ee_102_63, ee_102_64, ee_102_65, ee_102_68, ee_102_71, ee_102_71N, ee_102_72, ee_102_73, ee_102_74, ee_102_77, ee_102_80, ee_102_83, ee_102_86, ee_102_89, M2.F, KK, e90', n1, e3', nI_1, Option.bind_some, Option.toList, List.cons_append, List.nil_append, List.append_nil, if_true, if_false, Bool.false_eq_true, eq_self, not_true_eq_false, not_false_eq_true]
      · rw [foldR_s, if_neg hk]; exact M3)
  obtain ⟨ls, h3, e3, SQ3, CV3, rfl, M3, L1, L2, O3⟩ := lp [.ref 96, .int v, .int (nI A), .int (nI 0)] h ⟨SQ, CV, rfl, M, Low.rf, Low.rf, Off.rf⟩
  refine ⟨h3, SQ3, CV3, .int (nI (plN g 1)), ?_, M3, L1, L2, O3⟩
  rw [nI_0] at e3
  have e90 := o90 (d := d + 7) (st := 1) G (by decide) E M3
  have e90' : go (d + 8) 90 0 [.ref 96, .int 1] [] h3 = some (some (.int (nI (plN g 1))), h3) := e90
  have nn : nI (plN g 1) ≤ nI (plN g 1) := Int32.le_refl _
  rw [e3, ee_102_53]
  simp only [ee_102_0, ee_102_0N, ee_102_1, ee_102_2, ee_102_5, ee_102_5N, ee_102_6, ee_102_7, ee_102_10, ee_102_10N, ee_102_11, ee_102_13, ee_102_16, ee_102_16N, ee_102_17, ee_102_19, ee_102_22, ee_102_22N, ee_102_23, ee_102_24, ee_102_27, ee_102_27N, ee_102_28, ee_102_31, ee_102_32, ee_102_33, ee_102_34, ee_102_34N, ee_102_35, ee_102_36, ee_102_39, ee_102_42, ee_102_42N, ee_102_43, ee_102_44, ee_102_45, ee_102_48, ee_102_51, ee_102_52, ee_102_54, ee_102_54N, ee_102_55, ee_102_56, ee_102_59, ee_102_62, ee_102_62N, ee_102_63, ee_102_64, ee_102_65, ee_102_68, ee_102_71, ee_102_71N, ee_102_72, ee_102_73, ee_102_74, ee_102_77, ee_102_80, ee_102_86, ee_102_89, M3.F, e90', nn, Option.bind_some, Option.toList, List.cons_append, List.nil_append, List.append_nil, if_true, if_false, Bool.false_eq_true, eq_self, not_true_eq_false, not_false_eq_true]
/-- goThrough -/
theorem o102 {fg : Bool} (G : GW g) (E : Enc (fun j => S.getD j 0) g) (hsee : SeeOk d F S I PD a b n (bI fg)) (M : ML h S I PD SQ CV FP a b n l m k t f) : ∃ h' SQ' CV', go (d + 9) 102 0 [.ref 96, .int (bI fg), aU, aU] [] h = some (none, h') ∧ MLX h' S I PD SQ' CV' a b n (bI fg) (mw g F g.2.1 (List.replicate 16 0) (0, -6, -6, 0, FP)) ∧ Off h h' 96 104 := by
  obtain ⟨h1, p1, M1, O1⟩ := M.p12 fg
  obtain ⟨h2, p2, M2, O2⟩ := M1.p7 0
  obtain ⟨h3, p3, M3, O3⟩ := M2.p8 (-6)
  obtain ⟨h4, p4, M4, O4⟩ := M3.p9 (-6)
  obtain ⟨h5, p5, M5, O5⟩ := M4.p10 0
  obtain ⟨h6, e87, M6, O6⟩ := o87 (d := d + 8) M5
  obtain ⟨A6, B6⟩ := begin_sec G E M5
  have O06 : Off h h6 96 104 := ((((O1.trans O2).trans O3).trans O4).trans O5).trans O6
  generalize updR SQ 0 (fun c => S.getD (1 + c) 0) 16 = SQ6 at *
  generalize updR CV 0 (fun _ => 0) 16 = CV6 at *
  have hpl := plN_le G 0
  have lp := go_iter (d := d + 9) (M := 102) (pc := 33) (fun i ls h' => ∃ SQ' CV' l3, ls = [.ref 96, .int (bI fg), .int (nI i), l3] ∧ MLX h' S I PD SQ' CV' a b n (bI fg) (foldR (fun X p => if stOk g.1 g.2.2.1 0 g.2.1 p = true then lv g 1 (stCs g.1 g.2.2.1 0 g.2.1 p) (stCv g.1 g.2.2.1 0 (List.replicate 16 0) p) (fun b cs cv X => lv g 2 cs cv (fun c cs cv X => F X p b c cs cv) X) X else X) (0, -6, -6, 0, FP) i) ∧ Low SQ6 SQ' 1 ∧ Low CV6 CV' 1 ∧ Off h h' 96 104) (plN g 0) (by
    rintro i ls h2 hi ⟨SQ2, CV2, l3, rfl, M2, L1, L2, O2⟩
    have e90 := o90 (d := d + 7) (st := 0) G (by decide) E M2
    have e90' : go (d + 8) 90 0 [.ref 96, .int 0] [] h2 = some (some (.int (nI (plN g 0))), h2) := e90
    have n1 : ¬ nI (plN g 0) ≤ nI i := nI_nle2 (by omega) (by omega) hi
    obtain ⟨h3, SQ3, CV3, e3, M3, l1, l2, O3, q3⟩ := o91 (d := d + 3) (st := 0) (p := i) G (by decide) E (plN_in hi) M2 (A6.low L1 (by decide)) (B6.low L2 (by decide))
    have e3' : go (d + 8) 91 0 [.ref 96, .int 0, .int (nI i)] [] h2 = some (some (.int (bI (stOk g.1 g.2.2.1 0 g.2.1 i))), h3) := e3
    rw [ee_102_33]
    by_cases hk : stOk g.1 g.2.2.1 0 g.2.1 i = true
    · obtain ⟨A3, B3⟩ := q3 hk
      obtain ⟨h4, SQ4, CV4, l3', e4, M4, L4, L5, O4⟩ := o102_b (d := d) (A := i) (v := bI fg) G E hsee M3 A3 B3
      refine ⟨[.ref 96, .int (bI fg), .int (nI (i + 1)), l3'], h4, ?_, SQ4, CV4, l3', rfl, ?_, (L1.trans l1).trans (L4.mono (by decide)), (L2.trans l2).trans (L5.mono (by decide)), (O2.trans O3).trans O4⟩
      · rw [hk, bI_t] at e3'
        simp only [ee_102_0, ee_102_0N, ee_102_1, ee_102_2, ee_102_5, ee_102_5N, ee_102_6, ee_102_7, ee_102_10, ee_102_10N, ee_102_11, ee_102_13, ee_102_16, ee_102_16N, ee_102_17, ee_102_19, ee_102_22, ee_102_22N, ee_102_23, ee_102_24, ee_102_27, ee_102_27N, ee_102_28, ee_102_31, ee_102_32, ee_102_34, ee_102_34N, ee_102_35, ee_102_36, ee_102_39, ee_102_42, ee_102_42N, ee_102_43, ee_102_44, ee_102_45, ee_102_48, ee_102_51, ee_102_52, ee_102_54, ee_102_54N, ee_102_55, ee_102_56, ee_102_59, ee_102_62, ee_102_62N, ee_102_63, ee_102_64, ee_102_65, ee_102_68, ee_102_71, ee_102_71N, ee_102_72, ee_102_73, ee_102_74, ee_102_77, ee_102_80, ee_102_86, ee_102_89, M2.F, M3.F, KK, e90', n1, e3', e4, nI_1, Option.bind_some, Option.toList, List.cons_append, List.nil_append, List.append_nil, if_true, if_false, Bool.false_eq_true, eq_self, not_true_eq_false, not_false_eq_true]
        simp only [ee_102_0, ee_102_0N, ee_102_1, ee_102_2, ee_102_5, ee_102_5N, ee_102_6, ee_102_7, ee_102_10, ee_102_10N, ee_102_11, ee_102_13, ee_102_16, ee_102_16N, ee_102_17, ee_102_19, ee_102_22, ee_102_22N, ee_102_23, ee_102_24, ee_102_27, ee_102_27N, ee_102_28, ee_102_31, ee_102_32, ee_102_34, ee_102_34N, ee_102_35, ee_102_36, ee_102_39, ee_102_42, ee_102_42N, ee_102_43, ee_102_44, ee_102_45, ee_102_48, ee_102_51, ee_102_52, ee_102_53, ee_102_54, ee_102_54N, ee_102_55, ee_102_56, ee_102_59, ee_102_62, ee_102_62N, ee_102_63, ee_102_64, ee_102_65, ee_102_68, ee_102_71, ee_102_71N, ee_102_72, ee_102_73, ee_102_74, ee_102_77, ee_102_80, ee_102_83, ee_102_86, ee_102_89, nI_1, Option.bind_some, Option.toList, List.cons_append, List.nil_append, List.append_nil, if_true, if_false, Bool.false_eq_true, eq_self, not_true_eq_false, not_false_eq_true]
      · rw [foldR_s, if_pos hk]; exact M4
    · have hk' : stOk g.1 g.2.2.1 0 g.2.1 i = false := by simpa using hk
      refine ⟨[.ref 96, .int (bI fg), .int (nI (i + 1)), l3], h3, ?_, SQ3, CV3, l3, rfl, ?_, L1.trans l1, L2.trans l2, O2.trans O3⟩
      · rw [hk', bI_f] at e3'
        simp only [ee_102_0, ee_102_0N, ee_102_1, ee_102_2, ee_102_5, ee_102_5N, ee_102_6, ee_102_7, ee_102_10, ee_102_10N, ee_102_11, ee_102_13, ee_102_16, ee_102_16N, ee_102_17, ee_102_19, ee_102_22, ee_102_22N, ee_102_23, ee_102_24, ee_102_27, ee_102_27N, ee_102_28, ee_102_31, ee_102_32, ee_102_34, ee_102_34N, ee_102_35, ee_102_36, ee_102_39, ee_102_42, ee_102_42N, ee_102_43, ee_102_44, ee_102_45, ee_102_48, ee_102_51, ee_102_52, ee_102_54, ee_102_54N, ee_102_55, ee_102_56, ee_102_59, ee_102_62, ee_102_62N, ee_102_63, ee_102_64, ee_102_65, ee_102_68, ee_102_71, ee_102_71N, ee_102_72, ee_102_73, ee_102_74, ee_102_77, ee_102_80, ee_102_83, ee_102_86, ee_102_89, M2.F, KK, e90', n1, e3', nI_1, Option.bind_some, Option.toList, List.cons_append, List.nil_append, List.append_nil, if_true, if_false, Bool.false_eq_true, eq_self, not_true_eq_false, not_false_eq_true]
      · rw [foldR_s, if_neg hk]; exact M3)
  obtain ⟨ls, h7, e7, SQ7, CV7, l3, rfl, M7, L1, L2, O7⟩ := lp [.ref 96, .int (bI fg), .int (nI 0), aU] h6 ⟨SQ6, CV6, aU, rfl, M6, Low.rf, Low.rf, O06⟩
  refine ⟨h7, SQ7, CV7, ?_, M7, O7⟩
  rw [nI_0] at e7
  have e90 := o90 (d := d + 7) (st := 0) G (by decide) E M7
  have e90' : go (d + 8) 90 0 [.ref 96, .int 0] [] h7 = some (some (.int (nI (plN g 0))), h7) := e90
  have nn : nI (plN g 0) ≤ nI (plN g 0) := Int32.le_refl _
  simp only [ee_102_0, ee_102_0N, ee_102_1, ee_102_2, ee_102_5, ee_102_5N, ee_102_6, ee_102_7, ee_102_10, ee_102_10N, ee_102_11, ee_102_13, ee_102_16, ee_102_16N, ee_102_17, ee_102_19, ee_102_22, ee_102_22N, ee_102_23, ee_102_24, ee_102_27, ee_102_27N, ee_102_28, ee_102_31, ee_102_32, ee_102_34, ee_102_34N, ee_102_35, ee_102_36, ee_102_39, ee_102_42, ee_102_42N, ee_102_43, ee_102_44, ee_102_45, ee_102_48, ee_102_51, ee_102_52, ee_102_54, ee_102_54N, ee_102_55, ee_102_56, ee_102_59, ee_102_62, ee_102_62N, ee_102_63, ee_102_64, ee_102_65, ee_102_68, ee_102_71, ee_102_71N, ee_102_72, ee_102_73, ee_102_74, ee_102_77, ee_102_80, ee_102_83, ee_102_86, ee_102_89, M5.F, p1, p2, p3, p4, p5, e87, e7, Option.bind_some, Option.toList, List.cons_append, List.nil_append, List.append_nil, if_true, if_false, Bool.false_eq_true, eq_self, not_true_eq_false, not_false_eq_true]
  rw [ee_102_33]
  simp only [ee_102_0, ee_102_0N, ee_102_1, ee_102_2, ee_102_5, ee_102_5N, ee_102_6, ee_102_7, ee_102_10, ee_102_10N, ee_102_11, ee_102_13, ee_102_16, ee_102_16N, ee_102_17, ee_102_19, ee_102_22, ee_102_22N, ee_102_23, ee_102_24, ee_102_27, ee_102_27N, ee_102_28, ee_102_31, ee_102_32, ee_102_34, ee_102_34N, ee_102_35, ee_102_36, ee_102_39, ee_102_42, ee_102_42N, ee_102_43, ee_102_44, ee_102_45, ee_102_48, ee_102_51, ee_102_52, ee_102_54, ee_102_54N, ee_102_55, ee_102_56, ee_102_59, ee_102_62, ee_102_62N, ee_102_63, ee_102_64, ee_102_65, ee_102_68, ee_102_71, ee_102_71N, ee_102_72, ee_102_73, ee_102_74, ee_102_77, ee_102_80, ee_102_83, ee_102_86, ee_102_89, M7.F, e90', nn, Option.bind_some, Option.toList, List.cons_append, List.nil_append, List.append_nil, if_true, if_false, Bool.false_eq_true, eq_self, not_true_eq_false, not_false_eq_true]
/-- keep -/
theorem set3 {xs : List Int32} (hl : xs.length = 3) (x y z : Int32) : ((xs.set 0 x).set 1 y).set 2 z = [x, y, z] := by
  match xs, hl with
  | [_, _, _], _ => rfl
theorem o100 {x y z : Int32} (M : ML h S I PD SQ CV FP a b n l m k t f) : ∃ h', go d 100 0 [.ref 96, .int x, .int y, .int z] [] h = some (none, h') ∧ ML h' S I PD SQ CV [x, y, z] a b n l m k t f ∧ Off h h' 96 104 := by
  obtain ⟨h1, w1, M1, O1⟩ := M.w103 (j := 0) x (by decide)
  obtain ⟨h2, w2, M2, O2⟩ := M1.w103 (j := 1) y (by decide)
  obtain ⟨h3, w3, M3, O3⟩ := M2.w103 (j := 2) z (by decide)
  rw [set3 M.2.2.2.2.2.2.2.2] at M3
  refine ⟨h3, ?_, M3, (O1.trans O2).trans O3⟩
  have w1' : is_ h 103 0 x = some h1 := w1
  have w2' : is_ h1 103 1 y = some h2 := w2
  have w3' : is_ h2 103 2 z = some h3 := w3
  simp only [ee_100_0, ee_100_0N, ee_100_1, ee_100_4, ee_100_5, ee_100_6, ee_100_7, ee_100_7N, ee_100_8, ee_100_11, ee_100_12, ee_100_13, ee_100_14, ee_100_14N, ee_100_15, ee_100_18, ee_100_19, ee_100_20, ee_100_21, M.F, M1.F, M2.F, w1', w2', w3', Option.bind_some, Option.toList, List.cons_append, List.nil_append, List.append_nil, if_true, if_false, Bool.false_eq_true, eq_self, not_true_eq_false, not_false_eq_true]
/-- see, for the crossed -/
def crsM (cv : List Int32) : Int32 := nI (cnt (fun c => decide (¬ cv.getD c 0 ≤ 1)) 16)
def FC (X : mX) (A B C : Nat) (_ cv : List Int32) : mX := if X.1 = 0 ∨ X.2.1 < crsM cv then (X.1 + 1, crsM cv, 1, X.2.2.2.1, [nI A, nI B, nI C]) else if crsM cv = X.2.1 then (X.1 + 1, X.2.1, X.2.2.1 + 1, X.2.2.2) else (X.1 + 1, X.2.1, X.2.2.1, X.2.2.2)
theorem see_c : SeeOk d FC S I PD a b n 0 := by
  intro h SQ CV X A B C cs cv M A3 B3
  have e98 := o98 (d := d + 6) M B3
  have z1 : (0 : Int32) + 1 = 1 := by decide
  unfold FC
  by_cases hc : X.1 = 0 ∨ X.2.1 < crsM cv
  · rw [if_pos hc]
    obtain ⟨h1, p1, M1, O1⟩ := ML.p8 (crsM cv) M
    obtain ⟨h2, p2, M2, O2⟩ := M1.p9 0
    obtain ⟨h3, e3, M3, O3⟩ := o100 (d := d + 6) (x := nI A) (y := nI B) (z := nI C) M2
    obtain ⟨h4, p4, M4, O4⟩ := M3.p9 1
    obtain ⟨h5, p5, M5, O5⟩ := M4.p7 (X.1 + 1)
    refine ⟨h5, SQ, ?_, M5, Low.rf, (((O1.trans O2).trans O3).trans O4).trans O5⟩
    have e98' : go (d + 6) 98 0 [.ref 96, aU, aU] [] h = some (some (.int (crsM cv)), h) := e98
    by_cases hx : X.1 = 0
    · rw [hx, z1] at p5
      simp only [ee_101_0, ee_101_0N, ee_101_1, ee_101_4, ee_101_7, ee_101_7N, ee_101_8, ee_101_11, ee_101_14, ee_101_14N, ee_101_15, ee_101_18, ee_101_21, ee_101_21N, ee_101_22, ee_101_23, ee_101_24, ee_101_25, ee_101_28, ee_101_28N, ee_101_29, ee_101_30, ee_101_33, ee_101_34, ee_101_35, ee_101_38, ee_101_39, ee_101_39N, ee_101_40, ee_101_43, ee_101_45, ee_101_45N, ee_101_46, ee_101_49, ee_101_52, ee_101_54, ee_101_54N, ee_101_55, ee_101_58, ee_101_61, ee_101_61N, ee_101_62, ee_101_64, ee_101_67, ee_101_67N, ee_101_68, ee_101_69, ee_101_72, ee_101_72N, ee_101_73, ee_101_74, ee_101_75, ee_101_76, ee_101_79, ee_101_79N, ee_101_80, ee_101_81, ee_101_84, ee_101_86, ee_101_86N, ee_101_87, ee_101_90, ee_101_93, ee_101_94, ee_101_97, ee_101_98, ee_101_99, ee_101_102, ee_101_102N, ee_101_103, ee_101_104, ee_101_107, ee_101_108, ee_101_109, ee_101_112, ML.F M, M1.F, M2.F, M3.F, M4.F, e98', hx, p1, p2, e3, z1, p4, p5, Option.bind_some, Option.toList, List.cons_append, List.nil_append, List.append_nil, if_true, if_false, Bool.false_eq_true, eq_self, not_true_eq_false, not_false_eq_true]
    · have hm : ¬ crsM cv ≤ X.2.1 := Int32.not_le.mpr (hc.resolve_left hx)
      simp only [ee_101_0, ee_101_0N, ee_101_1, ee_101_4, ee_101_7, ee_101_7N, ee_101_8, ee_101_11, ee_101_14, ee_101_14N, ee_101_15, ee_101_18, ee_101_21, ee_101_21N, ee_101_22, ee_101_23, ee_101_24, ee_101_25, ee_101_28, ee_101_28N, ee_101_29, ee_101_30, ee_101_33, ee_101_34, ee_101_35, ee_101_38, ee_101_39, ee_101_39N, ee_101_40, ee_101_43, ee_101_45, ee_101_45N, ee_101_46, ee_101_49, ee_101_52, ee_101_54, ee_101_54N, ee_101_55, ee_101_58, ee_101_61, ee_101_61N, ee_101_62, ee_101_64, ee_101_67, ee_101_67N, ee_101_68, ee_101_69, ee_101_72, ee_101_72N, ee_101_73, ee_101_74, ee_101_75, ee_101_76, ee_101_79, ee_101_79N, ee_101_80, ee_101_81, ee_101_84, ee_101_86, ee_101_86N, ee_101_87, ee_101_90, ee_101_93, ee_101_94, ee_101_97, ee_101_98, ee_101_99, ee_101_102, ee_101_102N, ee_101_103, ee_101_104, ee_101_107, ee_101_108, ee_101_109, ee_101_112, ML.F M, M1.F, M2.F, M3.F, M4.F, e98', hx, hm, p1, p2, e3, z1, p4, p5, Option.bind_some, Option.toList, List.cons_append, List.nil_append, List.append_nil, if_true, if_false, Bool.false_eq_true, eq_self, not_true_eq_false, not_false_eq_true]
  · rw [if_neg hc]
    have hx : ¬ X.1 = 0 := fun z => hc (Or.inl z)
    have hm : crsM cv ≤ X.2.1 := Int32.not_lt.mp (fun z => hc (Or.inr z))
    have e98' : go (d + 6) 98 0 [.ref 96, aU, aU] [] h = some (some (.int (crsM cv)), h) := e98
    by_cases hz : crsM cv = X.2.1
    · rw [if_pos hz]
      obtain ⟨h4, p4, M4, O4⟩ := ML.p9 (X.2.2.1 + 1) M
      obtain ⟨h5, p5, M5, O5⟩ := M4.p7 (X.1 + 1)
      refine ⟨h5, SQ, ?_, M5, Low.rf, O4.trans O5⟩
      rw [hz] at e98' hm
      simp only [ee_101_0, ee_101_0N, ee_101_1, ee_101_4, ee_101_7, ee_101_7N, ee_101_8, ee_101_11, ee_101_14, ee_101_14N, ee_101_15, ee_101_18, ee_101_21, ee_101_21N, ee_101_22, ee_101_23, ee_101_24, ee_101_25, ee_101_28, ee_101_28N, ee_101_29, ee_101_30, ee_101_33, ee_101_34, ee_101_35, ee_101_38, ee_101_39, ee_101_39N, ee_101_40, ee_101_43, ee_101_45, ee_101_45N, ee_101_46, ee_101_49, ee_101_52, ee_101_54, ee_101_54N, ee_101_55, ee_101_58, ee_101_61, ee_101_61N, ee_101_62, ee_101_64, ee_101_67, ee_101_67N, ee_101_68, ee_101_69, ee_101_72, ee_101_72N, ee_101_73, ee_101_74, ee_101_75, ee_101_76, ee_101_79, ee_101_79N, ee_101_80, ee_101_81, ee_101_84, ee_101_86, ee_101_86N, ee_101_87, ee_101_90, ee_101_93, ee_101_94, ee_101_97, ee_101_98, ee_101_99, ee_101_102, ee_101_102N, ee_101_103, ee_101_104, ee_101_107, ee_101_108, ee_101_109, ee_101_112, ML.F M, M4.F, e98', hx, hm, p4, p5, Option.bind_some, Option.toList, List.cons_append, List.nil_append, List.append_nil, if_true, if_false, Bool.false_eq_true, eq_self, not_true_eq_false, not_false_eq_true]
    · rw [if_neg hz]
      obtain ⟨h4, p4, M4, O4⟩ := ML.p9 (X.2.2.1 + 0) M
      rw [Int32.add_zero] at M4
      obtain ⟨h5, p5, M5, O5⟩ := M4.p7 (X.1 + 1)
      refine ⟨h5, SQ, ?_, M5, Low.rf, O4.trans O5⟩
      simp only [ee_101_0, ee_101_0N, ee_101_1, ee_101_4, ee_101_7, ee_101_7N, ee_101_8, ee_101_11, ee_101_14, ee_101_14N, ee_101_15, ee_101_18, ee_101_21, ee_101_21N, ee_101_22, ee_101_23, ee_101_24, ee_101_25, ee_101_28, ee_101_28N, ee_101_29, ee_101_30, ee_101_33, ee_101_34, ee_101_35, ee_101_38, ee_101_39, ee_101_39N, ee_101_40, ee_101_43, ee_101_45, ee_101_45N, ee_101_46, ee_101_49, ee_101_52, ee_101_54, ee_101_54N, ee_101_55, ee_101_58, ee_101_61, ee_101_61N, ee_101_62, ee_101_64, ee_101_67, ee_101_67N, ee_101_68, ee_101_69, ee_101_72, ee_101_72N, ee_101_73, ee_101_74, ee_101_75, ee_101_76, ee_101_79, ee_101_79N, ee_101_80, ee_101_81, ee_101_84, ee_101_86, ee_101_86N, ee_101_87, ee_101_90, ee_101_93, ee_101_94, ee_101_97, ee_101_98, ee_101_99, ee_101_102, ee_101_102N, ee_101_103, ee_101_104, ee_101_107, ee_101_108, ee_101_109, ee_101_112, ML.F M, M4.F, e98', hx, hm, hz, p4, p5, Option.bind_some, Option.toList, List.cons_append, List.nil_append, List.append_nil, if_true, if_false, Bool.false_eq_true, eq_self, not_true_eq_false, not_false_eq_true]
/-- placeTold, most -/
theorem o104 {j : Nat} {q : Int32} (G : GW g) (E : Enc (fun j => S.getD j 0) g) (hj : j < 3) (M : ML h S I PD SQ CV FP a b n l m k t f) : go d 104 0 [.ref 96, .int (nI j), .int q] [] h = some (some (.int (if ¬ q = 0 ∧ j < g.2.2.1.length then FP.getD j 0 else -6)), h) := by
  have hn := G.2.2.1
  have r27 := M.r97 (j := 27) (by decide)
  rw [E.s.2.2.2.1.1] at r27
  have r27' : ia h 97 27 = some (nI g.2.2.1.length) := r27
  have r := M.r103 (j := j) hj
  by_cases hq : q = 0
  · rw [if_neg (fun z => z.1 hq)]
    simp only [ee_104_0, ee_104_1, ee_104_4, ee_104_5, ee_104_5N, ee_104_6, ee_104_9, ee_104_11, ee_104_12, ee_104_15, ee_104_15N, ee_104_16, ee_104_19, ee_104_20, ee_104_21, ee_104_24, ee_104_26, hq, Option.bind_some, Option.toList, List.cons_append, List.nil_append, List.append_nil, if_true, if_false, Bool.false_eq_true, eq_self, not_true_eq_false, not_false_eq_true]
  · by_cases hk : j < g.2.2.1.length
    · have c : ¬ nI g.2.2.1.length ≤ nI j := nI_nle2 (by omega) (by omega) hk
      rw [if_pos ⟨hq, hk⟩]
      simp only [ee_104_0, ee_104_1, ee_104_4, ee_104_5, ee_104_5N, ee_104_6, ee_104_9, ee_104_11, ee_104_12, ee_104_15, ee_104_15N, ee_104_16, ee_104_19, ee_104_20, ee_104_21, ee_104_24, ee_104_26, M.F, hq, r27', c, r, Option.bind_some, Option.toList, List.cons_append, List.nil_append, List.append_nil, if_true, if_false, Bool.false_eq_true, eq_self, not_true_eq_false, not_false_eq_true]
    · have c : nI g.2.2.1.length ≤ nI j := nI_le (by omega) (by omega)
      rw [if_neg (fun z => hk z.2)]
      simp only [ee_104_0, ee_104_1, ee_104_4, ee_104_5, ee_104_5N, ee_104_6, ee_104_9, ee_104_11, ee_104_12, ee_104_15, ee_104_15N, ee_104_16, ee_104_19, ee_104_20, ee_104_21, ee_104_24, ee_104_26, M.F, hq, r27', c, Option.bind_some, Option.toList, List.cons_append, List.nil_append, List.append_nil, if_true, if_false, Bool.false_eq_true, eq_self, not_true_eq_false, not_false_eq_true]
def ansO (n : Nat) (X : mX) (x : Int32) : Int32 := if x = 0 then X.1 else if x = 1 then X.2.1 else if x = 2 then X.2.2.1 else if 10 ≤ x ∧ x < 13 then (if ¬ X.1 ≤ 0 ∧ (x - 10).toNatClampNeg < n then X.2.2.2.2.getD (x - 10).toNatClampNeg 0 else -6) else -2
theorem in1012 (x : Int32) : (¬ (x < 10 ∨ 12 < x)) ↔ (10 ≤ x ∧ x < 13) := by
  have e1 : (12 : Int32).toInt = 12 := by decide
  have e2 : (13 : Int32).toInt = 13 := by decide
  have e3 : (10 : Int32).toInt = 10 := by decide
  rw [Int32.lt_iff_toInt_lt, Int32.lt_iff_toInt_lt, Int32.lt_iff_toInt_lt, Int32.le_iff_toInt_le]
  omega
theorem o_most {x : Int32} (G : GW g) (M : MI h g P i0 i1 a b) : ∃ FP0, ∃ h', FP0.length = 3 ∧ go (d + 12) 105 0 [.ref 96, .int x] [] h = some (some (.int (ansO g.2.2.1.length (mw g FC g.2.1 (List.replicate 16 0) (0, -6, -6, 0, FP0)) x)), h') ∧ MI h' g P i0 i1 a b ∧ Off h h' 96 104 := by
  obtain ⟨S, I, PD, SQ, CV, FP, l, m, k, t, f, M0, E, r⟩ := id M
  have e1 := o65 (d := d + 11) (h := h) (v := x) (x := 0) (y := 2)
  have e2 := o65 (d := d + 11) (h := h) (v := x) (x := 10) (y := 12)
  obtain ⟨h1, SQ1, CV1, e102, M1, O1⟩ := o102 (d := d + 2) (fg := false) G E see_c M0
  have e102' : go (d + 11) 102 0 [.ref 96, .int 0, aU, aU] [] h = some (none, h1) := e102
  have MI1 : MI h1 g P i0 i1 a b := ⟨S, I, PD, SQ1, CV1, _, _, _, _, _, _, M1, E, r⟩
  refine ⟨FP, ?_⟩
  have hFP := M0.2.2.2.2.2.2.2.2
  generalize mw g FC g.2.1 (List.replicate 16 0) (0, -6, -6, 0, FP) = X at *
  unfold ansO
  rcases b1013 x with hx | ⟨j, hj, hx, hx2⟩
  · have hx' : x < 10 ∨ 12 < x := Decidable.byContradiction (fun z => hx ((in1012 x).mp z))
    rw [if_pos hx'] at e2
    rcases kk3 x with rfl | rfl | rfl | ⟨hk, z0, z1, z2⟩ | ⟨hk, hk2, hk3, z0, z1, z2⟩
    · rw [if_neg (by decide)] at e1
      refine ⟨h1, hFP, ?_, MI1, O1⟩
      simp only [ee_105_0, ee_105_1, ee_105_2, ee_105_3, ee_105_6, ee_105_9, ee_105_10, ee_105_12, ee_105_14, ee_105_17, ee_105_20, ee_105_22, ee_105_23, ee_105_23N, ee_105_24, ee_105_25, ee_105_28, ee_105_29_0, ee_105_29_1, ee_105_29_2, ee_105_29_d, ee_105_56, ee_105_56N, ee_105_57, ee_105_60, ee_105_61, ee_105_61N, ee_105_62, ee_105_65, ee_105_66, ee_105_66N, ee_105_67, ee_105_70, ee_105_71, ee_105_71N, ee_105_72, ee_105_73, ee_105_75, ee_105_76, ee_105_76N, ee_105_77, ee_105_80, ee_105_83, ee_105_84, ee_105_87, ee_105_88, ee_105_91, M0.F, ML.F M1, KK, e1, e102', Option.bind_some, Option.toList, List.cons_append, List.nil_append, List.append_nil, if_true, if_false, Bool.false_eq_true, eq_self, not_true_eq_false, not_false_eq_true]
    · rw [if_neg (by decide)] at e1
      refine ⟨h1, hFP, ?_, MI1, O1⟩
      simp only [ee_105_0, ee_105_1, ee_105_2, ee_105_3, ee_105_6, ee_105_9, ee_105_10, ee_105_12, ee_105_14, ee_105_17, ee_105_20, ee_105_22, ee_105_23, ee_105_23N, ee_105_24, ee_105_25, ee_105_28, ee_105_29_0, ee_105_29_1, ee_105_29_2, ee_105_29_d, ee_105_56, ee_105_56N, ee_105_57, ee_105_60, ee_105_61, ee_105_61N, ee_105_62, ee_105_65, ee_105_66, ee_105_66N, ee_105_67, ee_105_70, ee_105_71, ee_105_71N, ee_105_72, ee_105_73, ee_105_75, ee_105_76, ee_105_76N, ee_105_77, ee_105_80, ee_105_83, ee_105_84, ee_105_87, ee_105_88, ee_105_91, M0.F, ML.F M1, KK, e1, e102', Option.bind_some, Option.toList, List.cons_append, List.nil_append, List.append_nil, if_true, if_false, Bool.false_eq_true, eq_self, not_true_eq_false, not_false_eq_true]
    · rw [if_neg (by decide)] at e1
      refine ⟨h1, hFP, ?_, MI1, O1⟩
      simp only [ee_105_0, ee_105_1, ee_105_2, ee_105_3, ee_105_6, ee_105_9, ee_105_10, ee_105_12, ee_105_14, ee_105_17, ee_105_20, ee_105_22, ee_105_23, ee_105_23N, ee_105_24, ee_105_25, ee_105_28, ee_105_29_0, ee_105_29_1, ee_105_29_2, ee_105_29_d, ee_105_56, ee_105_56N, ee_105_57, ee_105_60, ee_105_61, ee_105_61N, ee_105_62, ee_105_65, ee_105_66, ee_105_66N, ee_105_67, ee_105_70, ee_105_71, ee_105_71N, ee_105_72, ee_105_73, ee_105_75, ee_105_76, ee_105_76N, ee_105_77, ee_105_80, ee_105_83, ee_105_84, ee_105_87, ee_105_88, ee_105_91, M0.F, ML.F M1, KK, e1, e102', Option.bind_some, Option.toList, List.cons_append, List.nil_append, List.append_nil, if_true, if_false, Bool.false_eq_true, eq_self, not_true_eq_false, not_false_eq_true]
    · rw [if_pos (Or.inl hk)] at e1
      refine ⟨h, hFP, ?_, M, Off.rf⟩
      simp only [ee_105_0, ee_105_1, ee_105_2, ee_105_3, ee_105_6, ee_105_9, ee_105_10, ee_105_12, ee_105_14, ee_105_17, ee_105_20, ee_105_22, ee_105_23, ee_105_23N, ee_105_24, ee_105_25, ee_105_28, ee_105_29_0, ee_105_29_1, ee_105_29_2, ee_105_29_d, ee_105_56, ee_105_56N, ee_105_57, ee_105_60, ee_105_61, ee_105_61N, ee_105_62, ee_105_65, ee_105_66, ee_105_66N, ee_105_67, ee_105_70, ee_105_71, ee_105_71N, ee_105_72, ee_105_73, ee_105_75, ee_105_76, ee_105_76N, ee_105_77, ee_105_80, ee_105_83, ee_105_84, ee_105_87, ee_105_88, ee_105_91, M0.F, KK, e1, e2, z0, z1, z2, hx, Option.bind_some, Option.toList, List.cons_append, List.nil_append, List.append_nil, if_true, if_false, Bool.false_eq_true, eq_self, not_true_eq_false, not_false_eq_true]
    · rw [if_pos (Or.inr hk3)] at e1
      refine ⟨h, hFP, ?_, M, Off.rf⟩
      simp only [ee_105_0, ee_105_1, ee_105_2, ee_105_3, ee_105_6, ee_105_9, ee_105_10, ee_105_12, ee_105_14, ee_105_17, ee_105_20, ee_105_22, ee_105_23, ee_105_23N, ee_105_24, ee_105_25, ee_105_28, ee_105_29_0, ee_105_29_1, ee_105_29_2, ee_105_29_d, ee_105_56, ee_105_56N, ee_105_57, ee_105_60, ee_105_61, ee_105_61N, ee_105_62, ee_105_65, ee_105_66, ee_105_66N, ee_105_67, ee_105_70, ee_105_71, ee_105_71N, ee_105_72, ee_105_73, ee_105_75, ee_105_76, ee_105_76N, ee_105_77, ee_105_80, ee_105_83, ee_105_84, ee_105_87, ee_105_88, ee_105_91, M0.F, KK, e1, e2, z0, z1, z2, hx, Option.bind_some, Option.toList, List.cons_append, List.nil_append, List.append_nil, if_true, if_false, Bool.false_eq_true, eq_self, not_true_eq_false, not_false_eq_true]
  · have hb : 10 ≤ x ∧ x < 13 := by
      subst hx
      exact ⟨by rw [show (10 : Int32) = nI 10 by decide]; exact nI_le (by omega) (by omega), by rw [show (13 : Int32) = nI 13 by decide]; exact nI_lt (by omega) (by omega)⟩
    rw [if_neg ((in1012 x).mpr hb)] at e2
    have h2 : 2 < x := by rw [hx, show (2 : Int32) = nI 2 by decide]; exact nI_lt (by omega) (by omega)
    rw [if_pos (Or.inr h2)] at e1
    have z0 : ¬ x = 0 ∧ ¬ x = 1 ∧ ¬ x = 2 := by
      refine ⟨?_, ?_, ?_⟩ <;> intro z <;> subst z <;> exact absurd hb (by decide)
    have hd : x.toInt < 0 ∨ 2 < x.toInt := by
      rw [hx, nI_toInt (by omega)]
      omega
    have e104a := o104 (d := d + 11) (q := 1) G E hj M1
    have e104b := o104 (d := d + 11) (q := 0) G E hj M1
    rw [← hx2] at e104a e104b
    have hc : (x - 10).toNatClampNeg = j := by rw [hx2]; exact nI_clamp (by omega)
    rw [hc]
    refine ⟨h1, hFP, ?_, MI1, O1⟩
    by_cases hl : X.1 ≤ 0
    · simp only [not_true_eq_false, false_and, if_false] at e104b
      simp only [ee_105_0, ee_105_1, ee_105_2, ee_105_3, ee_105_6, ee_105_9, ee_105_10, ee_105_12, ee_105_14, ee_105_17, ee_105_20, ee_105_22, ee_105_23, ee_105_23N, ee_105_24, ee_105_25, ee_105_28, ee_105_29_0, ee_105_29_1, ee_105_29_2, ee_105_29_d, ee_105_56, ee_105_56N, ee_105_57, ee_105_60, ee_105_61, ee_105_61N, ee_105_62, ee_105_65, ee_105_66, ee_105_66N, ee_105_67, ee_105_70, ee_105_71, ee_105_71N, ee_105_72, ee_105_73, ee_105_75, ee_105_76, ee_105_76N, ee_105_77, ee_105_80, ee_105_83, ee_105_84, ee_105_87, ee_105_88, ee_105_91, ee_105_29_d hd, M0.F, ML.F M1, KK, e1, e2, e102', e104b, z0, hb, and_self, hl, false_and, Option.bind_some, Option.toList, List.cons_append, List.nil_append, List.append_nil, if_true, if_false, Bool.false_eq_true, eq_self, not_true_eq_false, not_false_eq_true]
    · simp only [KK, not_false_eq_true, true_and] at e104a
      simp only [ee_105_0, ee_105_1, ee_105_2, ee_105_3, ee_105_6, ee_105_9, ee_105_10, ee_105_12, ee_105_14, ee_105_17, ee_105_20, ee_105_22, ee_105_23, ee_105_23N, ee_105_24, ee_105_25, ee_105_28, ee_105_29_0, ee_105_29_1, ee_105_29_2, ee_105_29_d, ee_105_56, ee_105_56N, ee_105_57, ee_105_60, ee_105_61, ee_105_61N, ee_105_62, ee_105_65, ee_105_66, ee_105_66N, ee_105_67, ee_105_70, ee_105_71, ee_105_71N, ee_105_72, ee_105_73, ee_105_75, ee_105_76, ee_105_76N, ee_105_77, ee_105_80, ee_105_83, ee_105_84, ee_105_87, ee_105_88, ee_105_91, ee_105_29_d hd, M0.F, ML.F M1, KK, e1, e2, e102', e104a, z0, hb, and_self, hl, true_and, Option.bind_some, Option.toList, List.cons_append, List.nil_append, List.append_nil, if_true, if_false, Bool.false_eq_true, eq_self, not_true_eq_false, not_false_eq_true]
end MD8
