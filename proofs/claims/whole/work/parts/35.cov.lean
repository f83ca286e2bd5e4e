/-! the reference: covers -/
def CvI (cv : List Int32) (V : Nat → Nat) : Prop := ∀ c, c < 16 → cv.getD c 0 = nI (V c) ∧ V c ≤ 3
def covM (s : Nat) (ws : List (List Int32)) (p : Nat → Nat) : Nat → Nat → List Int32 → List Int32 → Int32
  | 0, _, _, cv => nI (cnt (fun c => decide (¬ cv.getD c 0 ≤ 0)) 16)
  | r + 1, k, cs, cv => if stOk s ws k cs (p k) = true then covM s ws p r (k + 1) (stCs s ws k cs (p k)) (stCv s ws k cv (p k)) else -5
theorem cnt_32_16 {f : Nat → Bool} (h : ∀ i, 16 ≤ i → f i = false) : cnt f 32 = cnt f 16 := cnt_zero 16 h 16
theorem drop_k {ws : List (List Int32)} {k : Nat} (hk : k < ws.length) : ws.drop k = ws.getD k [] :: ws.drop (k + 1) := by
  rw [List.drop_eq_getElem_cons hk, List.getD_eq_getElem?_getD, List.getElem?_eq_getElem hk]
  rfl
def b2 (b : Bool) : Nat := if b = true then 1 else 0
theorem bI_b2 (b : Bool) : bI b = nI (b2 b) := by cases b <;> rfl
theorem cov_eq {s : Nat} {ws : List (List Int32)} {p : Nat → Nat} (hs : sideOk s) (hp : ∀ k, k < ws.length → p k < 8 * s * s) : ∀ (r k : Nat) (cs cv : List Int32) (m : Int32) (V : Nat → Nat), k + r = 3 → ws.length ≤ 3 → cs.length = 16 → cv.length = 16 → (∀ c, c < 16 → cv.getD c 0 = nI (V c) ∧ V c ≤ k) → (∀ c, c < 16 → (V c = 0 ↔ bt m c = false)) → (∀ c, 16 ≤ c → bt m c = false) → covW s p (ws.drop k) k cs m = covM s ws p r k cs cv
  | 0, k, cs, cv, m, V, hk, hn, hl, hlv, hV, hm, hb => by
    rw [List.drop_eq_nil_of_le (by omega)]
    unfold covW covM
    rw [bc_cnt, cnt_32_16 hb]
    congr 1
    apply cnt_congr
    intro c hc
    rw [Bool.eq_iff_iff, decide_eq_true_eq, (hV c hc).1, show (0 : Int32) = nI 0 by decide, nI_leI (by have := (hV c hc).2; omega) (by decide)]
    have := hm c hc
    cases hbc : bt m c with
    | false =>
      rw [this.mpr hbc]
      simp
    | true =>
      have : ¬ V c = 0 := fun z => by rw [this.mp z] at hbc; cases hbc
      simp
      omega
  | r + 1, k, cs, cv, m, V, hk, hn, hl, hlv, hV, hm, hb => by
    rw [covM]
    by_cases hkn : k < ws.length
    · rw [drop_k hkn, covW]
      unfold stOk stCs stCv
      rw [if_pos hkn, if_pos hkn, if_pos hkn]
      by_cases ha : acc s cs (ws.getD k []) (p k) = true
      · have hr := acc_r ha
        rw [if_pos ha, if_pos ha]
        refine cov_eq hs hp r (k + 1) _ _ _ (fun c => V c + b2 (bt (csetF s (p k) 0 (ws.getD k []).length 0) c)) (by omega) hn (by rw [layF_len]; exact hl) (by rw [incF_len]; exact hlv) ?_ ?_ ?_
        · intro c hc
          rw [incF_at hs (hp k hkn) hlv hc _ hr, (hV c hc).1, bI_b2, nI_add]
          refine ⟨rfl, ?_⟩
          have := (hV c hc).2
          unfold b2
          split <;> omega
        · intro c hc
          rw [b_or]
          have := hm c hc
          cases h1 : bt (csetF s (p k) 0 (ws.getD k []).length 0) c with
          | true => simp [b2]
          | false =>
            simp only [b2, Bool.false_eq_true, if_false, Nat.add_zero, Bool.or_false]
            exact this
        · intro c hc
          rw [b_or, hb c hc, csetF_big hs (hp k hkn) hr hc]
          rfl
      · rw [if_neg ha, if_neg ha]
    · rw [List.drop_eq_nil_of_le (by omega)]
      unfold stOk stCs stCv
      rw [if_neg hkn, if_neg hkn, if_neg hkn, if_pos rfl]
      have := cov_eq hs hp r (k + 1) cs cv m V (by omega) hn hl hlv (fun c hc => ⟨(hV c hc).1, by have := (hV c hc).2; omega⟩) hm hb
      rw [← this, List.drop_eq_nil_of_le (by omega)]
      rfl
section MD7
variable {h h' h0 : aH} {g g' i0 i1 : gG} {P P' S I PD SQ CV FP : List Int32} {a b : Bool} {n l m k t f : Int32} {lo hi d : Nat}
theorem o106 {x y z : Int32} (G : GW g) (E : Enc (fun j => S.getD j 0) g) (M : ML h S I PD SQ CV FP a b n l m k t f) : go (d + 2) 106 0 [.ref 96, .int x, .int y, .int z] [] h = some (some (.int (if (0 < g.2.2.1.length ∧ (x < 0 ∨ nI (8 * g.1 * g.1) ≤ x)) ∨ (1 < g.2.2.1.length ∧ (y < 0 ∨ nI (8 * g.1 * g.1) ≤ y)) ∨ (2 < g.2.2.1.length ∧ (z < 0 ∨ nI (8 * g.1 * g.1) ≤ z)) then 1 else 0)), h) := by
  have hn := G.2.2.1
  have r27 := M.r97 (j := 27) (by decide)
  rw [E.s.2.2.2.1.1] at r27
  have r27' : ia h 97 27 = some (nI g.2.2.1.length) := r27
  have ea := o69 (d := d) (x := x) G.1.1 M E.s.1
  have eb := o69 (d := d) (x := y) G.1.1 M E.s.1
  have ec := o69 (d := d) (x := z) G.1.1 M E.s.1
  have c0 : nI g.2.2.1.length ≤ 0 ↔ ¬ 0 < g.2.2.1.length := by rw [show (0 : Int32) = nI 0 by decide, nI_leI (by omega) (by omega)]; omega
  have c1 : nI g.2.2.1.length ≤ 1 ↔ ¬ 1 < g.2.2.1.length := by rw [show (1 : Int32) = nI 1 by decide, nI_leI (by omega) (by omega)]; omega
  have c2 : nI g.2.2.1.length ≤ 2 ↔ ¬ 2 < g.2.2.1.length := by rw [show (2 : Int32) = nI 2 by decide, nI_leI (by omega) (by omega)]; omega
  by_cases h1 : 0 < g.2.2.1.length ∧ (x < 0 ∨ nI (8 * g.1 * g.1) ≤ x)
  · rw [if_pos h1.2] at ea
    have h10 := h1.1
    rw [if_pos (Or.inl h1)]
    simp only [ee_106_0, ee_106_0N, ee_106_1, ee_106_4, ee_106_6, ee_106_7, ee_106_10, ee_106_10N, ee_106_11, ee_106_12, ee_106_15, ee_106_18, ee_106_18N, ee_106_19, ee_106_22, ee_106_24, ee_106_25, ee_106_26, ee_106_29, ee_106_29N, ee_106_30, ee_106_31, ee_106_34, ee_106_37, ee_106_37N, ee_106_38, ee_106_41, ee_106_43, ee_106_44, ee_106_45, ee_106_48, ee_106_48N, ee_106_49, ee_106_50, ee_106_53, ee_106_56, ee_106_57, ee_106_60, ee_106_61, ee_106_61T, M.F, r27', c0, h10, ea, Option.bind_some, Option.toList, List.cons_append, List.nil_append, List.append_nil, if_true, if_false, Bool.false_eq_true, eq_self, not_true_eq_false, not_false_eq_true]
  · have s1 : go (d + 2) 106 0 [.ref 96, .int x, .int y, .int z] [] h = go (d + 2) 106 18 [.ref 96, .int x, .int y, .int z] [] h := by
      by_cases k0 : 0 < g.2.2.1.length
      · have h1' : ¬ (x < 0 ∨ nI (8 * g.1 * g.1) ≤ x) := fun z => h1 ⟨k0, z⟩
        rw [if_neg h1'] at ea
        simp only [ee_106_0, ee_106_0N, ee_106_1, ee_106_4, ee_106_6, ee_106_7, ee_106_10, ee_106_10N, ee_106_11, ee_106_12, ee_106_15, ee_106_19, ee_106_22, ee_106_24, ee_106_25, ee_106_26, ee_106_29, ee_106_29N, ee_106_30, ee_106_31, ee_106_34, ee_106_37, ee_106_37N, ee_106_38, ee_106_41, ee_106_43, ee_106_44, ee_106_45, ee_106_48, ee_106_48N, ee_106_49, ee_106_50, ee_106_53, ee_106_56, ee_106_57, ee_106_60, ee_106_61, ee_106_61T, M.F, KK, r27', c0, k0, ea, Option.bind_some, Option.toList, List.cons_append, List.nil_append, List.append_nil, if_true, if_false, Bool.false_eq_true, eq_self, not_true_eq_false, not_false_eq_true]
      · simp only [ee_106_0, ee_106_0N, ee_106_1, ee_106_4, ee_106_6, ee_106_7, ee_106_10, ee_106_10N, ee_106_11, ee_106_12, ee_106_15, ee_106_19, ee_106_22, ee_106_24, ee_106_25, ee_106_26, ee_106_29, ee_106_29N, ee_106_30, ee_106_31, ee_106_34, ee_106_37, ee_106_37N, ee_106_38, ee_106_41, ee_106_43, ee_106_44, ee_106_45, ee_106_48, ee_106_48N, ee_106_49, ee_106_50, ee_106_53, ee_106_56, ee_106_57, ee_106_60, ee_106_61, ee_106_61T, M.F, KK, r27', c0, k0, Option.bind_some, Option.toList, List.cons_append, List.nil_append, List.append_nil, if_true, if_false, Bool.false_eq_true, eq_self, not_true_eq_false, not_false_eq_true]
    rw [s1]
    by_cases h2 : 1 < g.2.2.1.length ∧ (y < 0 ∨ nI (8 * g.1 * g.1) ≤ y)
    · rw [if_pos h2.2] at eb
      have h20 := h2.1
      rw [if_pos (Or.inr (Or.inl h2))]
      simp only [ee_106_0, ee_106_0N, ee_106_1, ee_106_4, ee_106_6, ee_106_7, ee_106_10, ee_106_10N, ee_106_11, ee_106_12, ee_106_15, ee_106_18, ee_106_18N, ee_106_19, ee_106_22, ee_106_24, ee_106_25, ee_106_26, ee_106_29, ee_106_29N, ee_106_30, ee_106_31, ee_106_34, ee_106_37, ee_106_37N, ee_106_38, ee_106_41, ee_106_43, ee_106_44, ee_106_45, ee_106_48, ee_106_48N, ee_106_49, ee_106_50, ee_106_53, ee_106_56, ee_106_57, ee_106_60, ee_106_61, ee_106_61T, M.F, r27', c1, h20, eb, Option.bind_some, Option.toList, List.cons_append, List.nil_append, List.append_nil, if_true, if_false, Bool.false_eq_true, eq_self, not_true_eq_false, not_false_eq_true]
    · have s2 : go (d + 2) 106 18 [.ref 96, .int x, .int y, .int z] [] h = go (d + 2) 106 37 [.ref 96, .int x, .int y, .int z] [] h := by
        by_cases k0 : 1 < g.2.2.1.length
        · have h1' : ¬ (y < 0 ∨ nI (8 * g.1 * g.1) ≤ y) := fun z => h2 ⟨k0, z⟩
          rw [if_neg h1'] at eb
          simp only [ee_106_0, ee_106_0N, ee_106_1, ee_106_4, ee_106_6, ee_106_7, ee_106_10, ee_106_10N, ee_106_11, ee_106_12, ee_106_15, ee_106_18, ee_106_18N, ee_106_19, ee_106_22, ee_106_24, ee_106_25, ee_106_26, ee_106_29, ee_106_29N, ee_106_30, ee_106_31, ee_106_34, ee_106_38, ee_106_41, ee_106_43, ee_106_44, ee_106_45, ee_106_48, ee_106_48N, ee_106_49, ee_106_50, ee_106_53, ee_106_56, ee_106_57, ee_106_60, ee_106_61, ee_106_61T, M.F, KK, r27', c1, k0, eb, Option.bind_some, Option.toList, List.cons_append, List.nil_append, List.append_nil, if_true, if_false, Bool.false_eq_true, eq_self, not_true_eq_false, not_false_eq_true]
        · simp only [ee_106_0, ee_106_0N, ee_106_1, ee_106_4, ee_106_6, ee_106_7, ee_106_10, ee_106_10N, ee_106_11, ee_106_12, ee_106_15, ee_106_18, ee_106_18N, ee_106_19, ee_106_22, ee_106_24, ee_106_25, ee_106_26, ee_106_29, ee_106_29N, ee_106_30, ee_106_31, ee_106_34, ee_106_38, ee_106_41, ee_106_43, ee_106_44, ee_106_45, ee_106_48, ee_106_48N, ee_106_49, ee_106_50, ee_106_53, ee_106_56, ee_106_57, ee_106_60, ee_106_61, ee_106_61T, M.F, KK, r27', c1, k0, Option.bind_some, Option.toList, List.cons_append, List.nil_append, List.append_nil, if_true, if_false, Bool.false_eq_true, eq_self, not_true_eq_false, not_false_eq_true]
      rw [s2]
      by_cases h3 : 2 < g.2.2.1.length ∧ (z < 0 ∨ nI (8 * g.1 * g.1) ≤ z)
      · rw [if_pos h3.2] at ec
        have h30 := h3.1
        rw [if_pos (Or.inr (Or.inr h3))]
        simp only [ee_106_0, ee_106_0N, ee_106_1, ee_106_4, ee_106_6, ee_106_7, ee_106_10, ee_106_10N, ee_106_11, ee_106_12, ee_106_15, ee_106_18, ee_106_18N, ee_106_19, ee_106_22, ee_106_24, ee_106_25, ee_106_26, ee_106_29, ee_106_29N, ee_106_30, ee_106_31, ee_106_34, ee_106_37, ee_106_37N, ee_106_38, ee_106_41, ee_106_43, ee_106_44, ee_106_45, ee_106_48, ee_106_48N, ee_106_49, ee_106_50, ee_106_53, ee_106_56, ee_106_57, ee_106_60, ee_106_61, ee_106_61T, M.F, r27', c2, h30, ec, Option.bind_some, Option.toList, List.cons_append, List.nil_append, List.append_nil, if_true, if_false, Bool.false_eq_true, eq_self, not_true_eq_false, not_false_eq_true]
      · rw [if_neg (by rintro (z | z | z); exact h1 z; exact h2 z; exact h3 z)]
        by_cases k0 : 2 < g.2.2.1.length
        · have h1' : ¬ (z < 0 ∨ nI (8 * g.1 * g.1) ≤ z) := fun z => h3 ⟨k0, z⟩
          rw [if_neg h1'] at ec
          simp only [ee_106_0, ee_106_0N, ee_106_1, ee_106_4, ee_106_6, ee_106_7, ee_106_10, ee_106_10N, ee_106_11, ee_106_12, ee_106_15, ee_106_18, ee_106_18N, ee_106_19, ee_106_22, ee_106_24, ee_106_25, ee_106_26, ee_106_29, ee_106_29N, ee_106_30, ee_106_31, ee_106_34, ee_106_37, ee_106_37N, ee_106_38, ee_106_41, ee_106_43, ee_106_44, ee_106_45, ee_106_48, ee_106_48N, ee_106_49, ee_106_50, ee_106_53, ee_106_56, ee_106_57, ee_106_60, ee_106_61, ee_106_61T, M.F, KK, r27', c2, k0, ec, Option.bind_some, Option.toList, List.cons_append, List.nil_append, List.append_nil, if_true, if_false, Bool.false_eq_true, eq_self, not_true_eq_false, not_false_eq_true]
        · simp only [ee_106_0, ee_106_0N, ee_106_1, ee_106_4, ee_106_6, ee_106_7, ee_106_10, ee_106_10N, ee_106_11, ee_106_12, ee_106_15, ee_106_18, ee_106_18N, ee_106_19, ee_106_22, ee_106_24, ee_106_25, ee_106_26, ee_106_29, ee_106_29N, ee_106_30, ee_106_31, ee_106_34, ee_106_37, ee_106_37N, ee_106_38, ee_106_41, ee_106_43, ee_106_44, ee_106_45, ee_106_48, ee_106_48N, ee_106_49, ee_106_50, ee_106_53, ee_106_56, ee_106_57, ee_106_60, ee_106_61, ee_106_61T, M.F, KK, r27', c2, k0, Option.bind_some, Option.toList, List.cons_append, List.nil_append, List.append_nil, if_true, if_false, Bool.false_eq_true, eq_self, not_true_eq_false, not_false_eq_true]
theorem begin_sec (G : GW g) (E : Enc (fun j => S.getD j 0) g) (M0 : ML h S I PD SQ CV FP a b n l m k t f) : SecAt (updR SQ 0 (fun c => S.getD (1 + c) 0) 16) 0 g.2.1 ∧ SecAt (updR CV 0 (fun _ => 0) 16) 0 (List.replicate 16 0) := by
  have h1 := M0.2.2.2.2.2.1.2
  have h2 := M0.2.2.2.2.2.2.1.2
  refine ⟨⟨G.2.1, fun c hc => ?_⟩, rfl, fun c hc => ?_⟩
  · rw [updR_at _ _ _ _ _ (by omega), if_pos (by omega), Nat.mul_zero, Nat.zero_add, Nat.sub_zero]
    exact E.s.2.1 c hc
  · rw [updR_at _ _ _ _ _ (by omega), if_pos (by omega), getD_rep]
theorem o_covers {x y z : Int32} (G : GW g) (M : MI h g P i0 i1 a b) : ∃ h', go (d + 12) 107 0 [.ref 96, .int x, .int y, .int z] [] h = some (some (.int (q_covers g x y z)), h') ∧ MI h' g P i0 i1 a b ∧ Off h h' 96 104 := by
  obtain ⟨S, I, PD, SQ, CV, FP, l, m, k, t, f, M0, E, r⟩ := id M
  have hs := G.1.1
  have hq := (sq_lt hs).2
  have hn := G.2.2.1
  have e106 := o106 (d := d + 9) (x := x) (y := y) (z := z) G E M0
  unfold q_covers
  by_cases hc : (0 < g.2.2.1.length ∧ (x < 0 ∨ nI (8 * g.1 * g.1) ≤ x)) ∨ (1 < g.2.2.1.length ∧ (y < 0 ∨ nI (8 * g.1 * g.1) ≤ y)) ∨ (2 < g.2.2.1.length ∧ (z < 0 ∨ nI (8 * g.1 * g.1) ≤ z))
  · rw [if_pos hc] at e106 ⊢
    refine ⟨h, ?_, M, Off.rf⟩
    simp only [ee_107_0, ee_107_0N, ee_107_1, ee_107_2, ee_107_3, ee_107_4, ee_107_7, ee_107_10, ee_107_12, ee_107_13, ee_107_13N, ee_107_14, ee_107_17, ee_107_17N, ee_107_18, ee_107_19, ee_107_20, ee_107_23, ee_107_26, ee_107_26N, ee_107_27, ee_107_28, ee_107_29, ee_107_32, ee_107_35, ee_107_35N, ee_107_36, ee_107_37, ee_107_38, ee_107_41, ee_107_44, ee_107_44N, ee_107_45, ee_107_48, ee_107_51, ee_107_53, M0.F, KK, e106, Option.bind_some, Option.toList, List.cons_append, List.nil_append, List.append_nil, if_true, if_false, Bool.false_eq_true, eq_self, not_true_eq_false, not_false_eq_true]
  · rw [if_neg hc] at e106 ⊢
    have hp : ∀ k, k < g.2.2.1.length → pk3 x y z k = nI (pk3 x y z k).toNatClampNeg ∧ (pk3 x y z k).toNatClampNeg < 8 * g.1 * g.1 := by
      intro k hk
      have key : ¬ (pk3 x y z k < 0 ∨ nI (8 * g.1 * g.1) ≤ pk3 x y z k) := by
        have : k = 0 ∨ k = 1 ∨ k = 2 := by omega
        rcases this with rfl | rfl | rfl
        · exact fun w => hc (Or.inl ⟨by omega, w⟩)
        · exact fun w => hc (Or.inr (Or.inl ⟨by omega, w⟩))
        · exact fun w => hc (Or.inr (Or.inr ⟨by omega, w⟩))
      rcases pk_ix (pk3 x y z k) (n := 8 * g.1 * g.1) (by omega) with hc | hc | ⟨j, hj, hx⟩
      · exact absurd (Or.inl hc) key
      · exact absurd (Or.inr hc) key
      · rw [hx, nI_clamp (by omega)]; exact ⟨rfl, hj⟩
    have ceq := cov_eq (p := fun k => (pk3 x y z k).toNatClampNeg) hs (fun k hk => (hp k hk).2) 3 0 g.2.1 (List.replicate 16 0) 0 (fun _ => 0) rfl hn G.2.1 rfl (fun c hc => ⟨by rw [getD_rep]; rfl, Nat.le_refl _⟩) (fun c hc => by simp [b_0]) (fun c hc => b_0 c)
    rw [List.drop_zero] at ceq
    rw [ceq]
    obtain ⟨h1, e87, M1, O1⟩ := o87 (d := d + 11) M0
    obtain ⟨A1, B1⟩ := begin_sec G E M0
    generalize updR SQ 0 (fun c => S.getD (1 + c) 0) 16 = SQ1 at *
    generalize updR CV 0 (fun _ => 0) 16 = CV1 at *
    unfold covM
    obtain ⟨h2, SQ2, CV2, e2, M2, -, -, O2, q2⟩ := o91 (d := d + 6) (st := 0) (x := x) (p := (pk3 x y z 0).toNatClampNeg) G (by decide) E (fun hk => hp 0 hk) M1 A1 B1
    have e2' : go (d + 11) 91 0 [.ref 96, .int 0, .int x] [] h1 = some (some (.int (bI (stOk g.1 g.2.2.1 0 g.2.1 (pk3 x y z 0).toNatClampNeg))), h2) := e2
    by_cases k0 : stOk g.1 g.2.2.1 0 g.2.1 (pk3 x y z 0).toNatClampNeg = true
    · obtain ⟨A2, B2⟩ := q2 k0
      rw [if_pos k0]
      rw [k0, bI_t] at e2'
      generalize stCs g.1 g.2.2.1 0 g.2.1 (pk3 x y z 0).toNatClampNeg = cs2 at *
      generalize stCv g.1 g.2.2.1 0 (List.replicate 16 0) (pk3 x y z 0).toNatClampNeg = cv2 at *
      unfold covM
      obtain ⟨h3, SQ3, CV3, e3, M3, -, -, O3, q3⟩ := o91 (d := d + 6) (st := 1) (x := y) (p := (pk3 x y z 1).toNatClampNeg) G (by decide) E (fun hk => hp 1 hk) M2 A2 B2
      have e3' : go (d + 11) 91 0 [.ref 96, .int 1, .int y] [] h2 = some (some (.int (bI (stOk g.1 g.2.2.1 1 cs2 (pk3 x y z 1).toNatClampNeg))), h3) := e3
      by_cases k1 : stOk g.1 g.2.2.1 1 cs2 (pk3 x y z 1).toNatClampNeg = true
      · obtain ⟨A3, B3⟩ := q3 k1
        rw [if_pos k1]
        rw [k1, bI_t] at e3'
        generalize stCs g.1 g.2.2.1 1 cs2 (pk3 x y z 1).toNatClampNeg = cs3 at *
        generalize stCv g.1 g.2.2.1 1 cv2 (pk3 x y z 1).toNatClampNeg = cv3 at *
        unfold covM
        obtain ⟨h4, SQ4, CV4, e4, M4, -, -, O4, q4⟩ := o91 (d := d + 6) (st := 2) (x := z) (p := (pk3 x y z 2).toNatClampNeg) G (by decide) E (fun hk => hp 2 hk) M3 A3 B3
        have e4' : go (d + 11) 91 0 [.ref 96, .int 2, .int z] [] h3 = some (some (.int (bI (stOk g.1 g.2.2.1 2 cs3 (pk3 x y z 2).toNatClampNeg))), h4) := e4
        by_cases k2 : stOk g.1 g.2.2.1 2 cs3 (pk3 x y z 2).toNatClampNeg = true
        · obtain ⟨A4, B4⟩ := q4 k2
          rw [if_pos k2]
          rw [k2, bI_t] at e4'
          unfold covM
          have e99 := o99 (d := d + 11) M4 B4
          refine ⟨h4, ?_, ⟨S, I, PD, _, _, FP, l, m, k, t, f, M4, E, r⟩, ((O1.trans O2).trans O3).trans O4⟩
          simp only [ee_107_0, ee_107_0N, ee_107_1, ee_107_2, ee_107_3, ee_107_4, ee_107_7, ee_107_10, ee_107_12, ee_107_13, ee_107_13N, ee_107_14, ee_107_17, ee_107_17N, ee_107_18, ee_107_19, ee_107_20, ee_107_23, ee_107_26, ee_107_26N, ee_107_27, ee_107_28, ee_107_29, ee_107_32, ee_107_35, ee_107_35N, ee_107_36, ee_107_37, ee_107_38, ee_107_41, ee_107_44, ee_107_44N, ee_107_45, ee_107_48, ee_107_51, ee_107_53, M0.F, M1.F, M2.F, M3.F, M4.F, KK, e106, e87, e2', e3', e4', e99, Option.bind_some, Option.toList, List.cons_append, List.nil_append, List.append_nil, if_true, if_false, Bool.false_eq_true, eq_self, not_true_eq_false, not_false_eq_true]
        · rw [if_neg k2]
          have k2' : stOk g.1 g.2.2.1 2 cs3 (pk3 x y z 2).toNatClampNeg = false := by simpa using k2
          rw [k2', bI_f] at e4'
          refine ⟨h4, ?_, ⟨S, I, PD, _, _, FP, l, m, k, t, f, M4, E, r⟩, ((O1.trans O2).trans O3).trans O4⟩
          simp only [ee_107_0, ee_107_0N, ee_107_1, ee_107_2, ee_107_3, ee_107_4, ee_107_7, ee_107_10, ee_107_12, ee_107_13, ee_107_13N, ee_107_14, ee_107_17, ee_107_17N, ee_107_18, ee_107_19, ee_107_20, ee_107_23, ee_107_26, ee_107_26N, ee_107_27, ee_107_28, ee_107_29, ee_107_32, ee_107_35, ee_107_35N, ee_107_36, ee_107_37, ee_107_38, ee_107_41, ee_107_44, ee_107_44N, ee_107_45, ee_107_48, ee_107_51, ee_107_53, M0.F, M1.F, M2.F, M3.F, KK, e106, e87, e2', e3', e4', Option.bind_some, Option.toList, List.cons_append, List.nil_append, List.append_nil, if_true, if_false, Bool.false_eq_true, eq_self, not_true_eq_false, not_false_eq_true]
      · rw [if_neg k1]
        have k1' : stOk g.1 g.2.2.1 1 cs2 (pk3 x y z 1).toNatClampNeg = false := by simpa using k1
        rw [k1', bI_f] at e3'
        refine ⟨h3, ?_, ⟨S, I, PD, _, _, FP, l, m, k, t, f, M3, E, r⟩, (O1.trans O2).trans O3⟩
        simp only [ee_107_0, ee_107_0N, ee_107_1, ee_107_2, ee_107_3, ee_107_4, ee_107_7, ee_107_10, ee_107_12, ee_107_13, ee_107_13N, ee_107_14, ee_107_17, ee_107_17N, ee_107_18, ee_107_19, ee_107_20, ee_107_23, ee_107_26, ee_107_26N, ee_107_27, ee_107_28, ee_107_29, ee_107_32, ee_107_35, ee_107_35N, ee_107_36, ee_107_37, ee_107_38, ee_107_41, ee_107_44, ee_107_44N, ee_107_45, ee_107_48, ee_107_51, ee_107_53, M0.F, M1.F, M2.F, KK, e106, e87, e2', e3', Option.bind_some, Option.toList, List.cons_append, List.nil_append, List.append_nil, if_true, if_false, Bool.false_eq_true, eq_self, not_true_eq_false, not_false_eq_true]
    · rw [if_neg k0]
      have k0' : stOk g.1 g.2.2.1 0 g.2.1 (pk3 x y z 0).toNatClampNeg = false := by simpa using k0
      rw [k0', bI_f] at e2'
      refine ⟨h2, ?_, ⟨S, I, PD, _, _, FP, l, m, k, t, f, M2, E, r⟩, O1.trans O2⟩
      simp only [ee_107_0, ee_107_0N, ee_107_1, ee_107_2, ee_107_3, ee_107_4, ee_107_7, ee_107_10, ee_107_12, ee_107_13, ee_107_13N, ee_107_14, ee_107_17, ee_107_17N, ee_107_18, ee_107_19, ee_107_20, ee_107_23, ee_107_26, ee_107_26N, ee_107_27, ee_107_28, ee_107_29, ee_107_32, ee_107_35, ee_107_35N, ee_107_36, ee_107_37, ee_107_38, ee_107_41, ee_107_44, ee_107_44N, ee_107_45, ee_107_48, ee_107_51, ee_107_53, M0.F, M1.F, KK, e106, e87, e2', Option.bind_some, Option.toList, List.cons_append, List.nil_append, List.append_nil, if_true, if_false, Bool.false_eq_true, eq_self, not_true_eq_false, not_false_eq_true]
end MD7
