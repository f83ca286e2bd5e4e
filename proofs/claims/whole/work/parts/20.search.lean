/-! layFrom: all layings, one after the other -/
def walk {α : Type} (s : Nat) (hope : List Int32 → Bool) (meet : List Int32 → α × List Int32 × List Int32 → α × List Int32 × List Int32) : List (List Int32) → Nat → List Int32 → α × List Int32 × List Int32 → α × List Int32 × List Int32
  | [], _, cs, q => meet cs q
  | w :: W, k, cs, q => if hope cs = true then (List.range' 0 (8 * s * s)).foldl (fun q p => if acc s cs w p = true then walk s hope meet W (k + 1) (layF s w p 0 w.length (cs, 0)).1 (q.1, q.2.1.set k (nI p), q.2.2.set k (csetF s p 0 w.length 0)) else q) q else q
/-- what is read of a search: g: for good ones -/
def FI {α : Type} (o : Nat) (g : Bool) (s : Nat) (csB : List Int32) (ws bs : List (List Int32)) (rs : List Int32) (h : aH) (cs : List Int32) (q : α × List Int32 × List Int32) : Prop :=
  LatAt h ∧ BoardAt h 12 s csB ws bs rs ∧ SquareAt h (o + 4) s cs ∧ (gf h o 0 1 2 = some (.ref 12) ∧ gf h o 1 1 2 = some (.ref (o + 4)) ∧ gf h o 2 1 2 = some (.ref (o + 1)) ∧ gf h o 3 1 2 = some (.ref (o + 2))) ∧ (isC h o 1 = !g ∧ isC h o 2 = g) ∧ (h[o + 1]? = some (ints q.2.1) ∧ q.2.1.length = 3) ∧ (h[o + 2]? = some (ints q.2.2) ∧ q.2.2.length = 3)
section LF
variable {α : Type} {o s : Nat} {g : Bool} {csB : List Int32} {ws bs : List (List Int32)} {rs : List Int32} {I : aH → List Int32 → α × List Int32 × List Int32 → Prop} {hope : List Int32 → Bool} {meet : List Int32 → α × List Int32 × List Int32 → α × List Int32 × List Int32}
theorem layFrom_all (hs : sideOk s) (ho : 37 < o) (i1 : ∀ {h cs q}, I h cs q → FI o g s csB ws bs rs h cs q) (i2 : ∀ {h cs q} {cs' : List Int32}, I h cs q → cs'.length = 16 → I (h.set (o + 4 + 1) (ints cs')) cs' q) (i3 : ∀ {h cs q} {ps' : List Int32}, I h cs q → ps'.length = 3 → I (h.set (o + 1) (ints ps')) cs (q.1, ps', q.2.2)) (i4 : ∀ {h cs q} {ss' : List Int32}, I h cs q → ss'.length = 3 → I (h.set (o + 2) (ints ss')) cs (q.1, q.2.1, ss'))
    (hh : ∀ {d h cs q}, I h cs q → go (d + 4) (if g then 6 else 3) 0 [.ref o] [] h = some (some (.int (bI (hope cs))), h)) (hm : ∀ {d h cs q}, I h cs q → ∃ h', go (d + 4) (if g then 7 else 4) 0 [.ref o, aU] [] h = some (none, h') ∧ I h' cs (meet cs q)) :
    ∀ (W : List (List Int32)) (k : Nat), k ≤ 3 → ws.drop k = W → ∀ (d : Nat) (h : aH) (cs : List Int32) (q : α × List Int32 × List Int32), I h cs q → ∃ h', go (d + 5 + W.length) 18 0 [.ref o, .int (nI k), aU, aU, aU, aU] [] h = some (none, h') ∧ I h' cs (walk s hope meet W k cs q)
  | [], k, hk, hW, d, h, cs, q, hI => by
    obtain ⟨L, A, Q, ⟨f0, f1, f2, f3⟩, ⟨c1, c2⟩, -, -⟩ := i1 hI
    have hle : ws.length ≤ k := by simpa using hW
    have e1 := m37N (d := d + 4) (x := nI k) A.2.2.1 (Or.inr (nI_le hle (by omega)))
    obtain ⟨h', e2, r⟩ := hm (d := d) hI
    refine ⟨h', ?_, r⟩
    cases g
    · simp only [Bool.false_eq_true, if_false] at e2
      simp only [ee_18_0, ee_18_0N, ee_18_1, ee_18_4, ee_18_7, ee_18_8, ee_18_11, ee_18_11N, ee_18_12, ee_18_12N, ee_18_13, ee_18_13N, ee_18_16, ee_18_17, ee_18_18, ee_18_21, ee_18_21N, ee_18_22, ee_18_25, ee_18_26, ee_18_26N, ee_18_27, ee_18_30, ee_18_33, ee_18_34, ee_18_34N, ee_18_35, ee_18_38, ee_18_38N, ee_18_39, ee_18_40, ee_18_44, ee_18_44N, ee_18_45, ee_18_48, ee_18_51, ee_18_54, ee_18_54N, ee_18_55, ee_18_55N, ee_18_56, ee_18_58, ee_18_61, ee_18_64, ee_18_64N, ee_18_65, ee_18_68, ee_18_69, ee_18_71, ee_18_72, ee_18_72N, ee_18_73, ee_18_76, ee_18_77, ee_18_77N, ee_18_78, ee_18_81, ee_18_83, ee_18_83N, ee_18_84, ee_18_87, ee_18_90, ee_18_91, ee_18_91N, ee_18_92, ee_18_92N, ee_18_93, ee_18_95, ee_18_98, ee_18_100, ee_18_100N, ee_18_101, ee_18_102, ee_18_103, ee_18_104, ee_18_107, ee_18_107N, ee_18_108, ee_18_110, ee_18_113, ee_18_116, ee_18_119, List.length_nil, Nat.add_zero, f0, A.f1, A.2.2.1.isc, e1, c1, c2, e2, Bool.not_false, Option.bind_some, Option.toList, List.cons_append, List.nil_append, List.append_nil, if_true, if_false, Bool.false_eq_true, eq_self, not_true_eq_false, not_false_eq_true]
    · simp only [if_true] at e2
      simp only [ee_18_0, ee_18_0N, ee_18_1, ee_18_4, ee_18_7, ee_18_8, ee_18_11, ee_18_11N, ee_18_12, ee_18_12N, ee_18_13, ee_18_13N, ee_18_16, ee_18_17, ee_18_18, ee_18_21, ee_18_21N, ee_18_22, ee_18_25, ee_18_26, ee_18_26N, ee_18_27, ee_18_30, ee_18_33, ee_18_34, ee_18_34N, ee_18_35, ee_18_38, ee_18_38N, ee_18_39, ee_18_40, ee_18_44, ee_18_44N, ee_18_45, ee_18_48, ee_18_51, ee_18_54, ee_18_54N, ee_18_55, ee_18_55N, ee_18_56, ee_18_58, ee_18_61, ee_18_64, ee_18_64N, ee_18_65, ee_18_68, ee_18_69, ee_18_71, ee_18_72, ee_18_72N, ee_18_73, ee_18_76, ee_18_77, ee_18_77N, ee_18_78, ee_18_81, ee_18_83, ee_18_83N, ee_18_84, ee_18_87, ee_18_90, ee_18_91, ee_18_91N, ee_18_92, ee_18_92N, ee_18_93, ee_18_95, ee_18_98, ee_18_100, ee_18_100N, ee_18_101, ee_18_102, ee_18_103, ee_18_104, ee_18_107, ee_18_107N, ee_18_108, ee_18_110, ee_18_113, ee_18_116, ee_18_119, List.length_nil, Nat.add_zero, f0, A.f1, A.2.2.1.isc, e1, c1, c2, e2, Bool.not_true, Option.bind_some, Option.toList, List.cons_append, List.nil_append, List.append_nil, if_true, if_false, Bool.false_eq_true, eq_self, not_true_eq_false, not_false_eq_true]
  | w :: W, k, hk, hW, d, h, cs, q, hI => by
    have hlt : k < ws.length := by
      have := congrArg List.length hW
      simp only [List.length_drop, List.length_cons] at this
      omega
    have hk3 : k < 3 := by have := (i1 hI).2.1.2.2.1.1; omega
    have hw : ws.getD k [] = w := by
      have := congrArg (fun l => l[0]?) hW
      simp only [List.getElem?_drop, Nat.add_zero, List.getElem?_cons_zero] at this
      simp [List.getD_eq_getElem?_getD, this]
    have hW' : ws.drop (k + 1) = W := by
      have := congrArg List.tail hW
      simpa [List.tail_drop] using this
    have h8 : 8 * s * s < 2 ^ 31 := by have := (sq_lt hs).2; omega
    -- the loop over the places
    have loop : ∀ (n p : Nat) (h : aH) (q : α × List Int32 × List Int32) (l5 : Value), p + n = 8 * s * s → I h cs q → ∃ h', go (d + 5 + W.length + 1) 18 42 [.ref o, .int (nI k), .ref (12 + 1 + 2 + 2 * k), .ref (o + 4), .int (nI p), l5] [] h = some (none, h') ∧ I h' cs ((List.range' p n).foldl (fun q p => if acc s cs w p = true then walk s hope meet W (k + 1) (layF s w p 0 w.length (cs, 0)).1 (q.1, q.2.1.set k (nI p), q.2.2.set k (csetF s p 0 w.length 0)) else q) q) := by
      intro n
      induction n with
      | zero =>
        intro p h q l5 hp hI
        obtain ⟨L, A, Q, -⟩ := i1 hI
        have h1 : nI (8 * s * s) ≤ nI p := by rw [← hp]; exact Int32.le_refl _
        refine ⟨h, ?_, hI⟩
        rw [ee_18_42]
        simp only [ee_18_0, ee_18_0N, ee_18_1, ee_18_4, ee_18_7, ee_18_8, ee_18_11, ee_18_11N, ee_18_12, ee_18_12N, ee_18_13, ee_18_13N, ee_18_16, ee_18_17, ee_18_18, ee_18_21, ee_18_21N, ee_18_22, ee_18_25, ee_18_26, ee_18_26N, ee_18_27, ee_18_30, ee_18_33, ee_18_34, ee_18_34N, ee_18_35, ee_18_38, ee_18_38N, ee_18_39, ee_18_40, ee_18_44, ee_18_44N, ee_18_45, ee_18_48, ee_18_51, ee_18_54, ee_18_54N, ee_18_55, ee_18_55N, ee_18_56, ee_18_58, ee_18_61, ee_18_64, ee_18_64N, ee_18_65, ee_18_68, ee_18_69, ee_18_71, ee_18_72, ee_18_72N, ee_18_73, ee_18_76, ee_18_77, ee_18_77N, ee_18_78, ee_18_81, ee_18_83, ee_18_83N, ee_18_84, ee_18_87, ee_18_90, ee_18_91, ee_18_91N, ee_18_92, ee_18_92N, ee_18_93, ee_18_95, ee_18_98, ee_18_100, ee_18_100N, ee_18_101, ee_18_102, ee_18_103, ee_18_104, ee_18_107, ee_18_107N, ee_18_108, ee_18_110, ee_18_113, ee_18_116, ee_18_119, Q.f1, L.f2 hs, h1, Option.bind_some, Option.toList, List.cons_append, List.nil_append, List.append_nil, if_true, if_false, Bool.false_eq_true, eq_self, not_true_eq_false, not_false_eq_true]
      | succ n ih =>
        intro p h q l5 hp hI
        obtain ⟨L, A, Q, ⟨f0, f1, f2, f3⟩, ⟨c1, c2⟩, ⟨p1, p2⟩, s1, s2⟩ := i1 hI
        have h1 : ¬ nI (8 * s * s) ≤ nI p := nI_nle2 (by omega) h8 (by omega)
        have hp8 : p < 8 * s * s := by omega
        have T : TextAt h (12 + 1 + 2 + 2 * k) 4 w := by rw [← hw]; exact A.2.2.1.text k hlt
        have eA : go (d + 5 + W.length) 24 0 [.ref (o + 4), .ref (12 + 1 + 2 + 2 * k), .int (nI p), aU, aU, aU] [] h = some (some (.int (bI (acc s cs w p))), h) := by
          have := m24 (d := d + 3 + W.length) hs L Q T (by decide) hp8
          rwa [show d + 3 + W.length + 2 = d + 5 + W.length by omega] at this
        rw [List.range'_succ, List.foldl_cons]
        by_cases hA : acc s cs w p = true
        · have n10 : ¬ (1 : Int32) = 0 := by decide
          have hr : w.length ≤ rN s p := by
            unfold acc at hA
            simp only [Bool.and_eq_true, decide_eq_true_eq] at hA
            exact hA.1
          -- places, cellSets, lay
          have w1 : is_ h (o + 1) (nI k) (nI p) = some (h.set (o + 1) (ints (q.2.1.set k (nI p)))) := is_at p1 (by omega) (by omega)
          have I1 := i3 (ps' := q.2.1.set k (nI p)) hI (by simpa using p2)
          obtain ⟨L1, A1, Q1, ⟨f10, f11, f12, f13⟩, -, -, s11, s12⟩ := i1 I1
          have T1 : TextAt (h.set (o + 1) (ints (q.2.1.set k (nI p)))) (12 + 1 + 2 + 2 * k) 4 w := by rw [← hw]; exact A1.2.2.1.text k hlt
          have e15 := m15 (d := d + 5 + W.length) (n := w.length) hs L1 hp8 (by have := T1.len; omega)
          have w2 : is_ (h.set (o + 1) (ints (q.2.1.set k (nI p)))) (o + 2) (nI k) (csetF s p 0 w.length 0) = some ((h.set (o + 1) (ints (q.2.1.set k (nI p)))).set (o + 2) (ints (q.2.2.set k (csetF s p 0 w.length 0)))) := is_at s11 (by simp only at s12 ⊢; omega) (by simp only at s12 ⊢; omega)
          have I2 := i4 (ss' := q.2.2.set k (csetF s p 0 w.length 0)) I1 (by simpa using s2)
          simp only at I2
          obtain ⟨L2, A2, Q2, -⟩ := i1 I2
          generalize hh2 : (h.set (o + 1) (ints (q.2.1.set k (nI p)))).set (o + 2) (ints (q.2.2.set k (csetF s p 0 w.length 0))) = h2 at w2 I2 L2 A2 Q2
          have T2 : TextAt h2 (12 + 1 + 2 + 2 * k) 4 w := by rw [← hw]; exact A2.2.2.1.text k hlt
          have e25 := m25 (d := d + 5 + W.length) hs L2 Q2 T2 (by decide) hp8 hr (by omega) (by omega)
          have hlen : (layF s w p 0 w.length (cs, 0)).1.length = 16 := by rw [layF_len]; exact Q.2.2
          have I3 := i2 (cs' := (layF s w p 0 w.length (cs, 0)).1) I2 hlen
          -- the words behind
          obtain ⟨h4, e4, I4⟩ := layFrom_all hs ho i1 i2 i3 i4 hh hm W (k + 1) (by omega) hW' d _ _ _ I3
          obtain ⟨L4, A4, Q4, -⟩ := i1 I4
          have e26 := m26 (d := d + 5 + W.length) (layF s w p 0 w.length (cs, 0)).2 Q4
          rw [lift_lay hs hp8 hr Q.2.2] at e26
          have I5 := i2 (cs' := cs) I4 Q.2.2
          obtain ⟨h', e5, r5⟩ := ih (p + 1) _ _ (.int (layF s w p 0 w.length (cs, 0)).2) (by omega) I5
          refine ⟨h', ?_, by rw [if_pos hA]; exact r5⟩
          rw [ee_18_42]
          simp only [ee_18_0, ee_18_0N, ee_18_1, ee_18_4, ee_18_7, ee_18_8, ee_18_11, ee_18_11N, ee_18_12, ee_18_12N, ee_18_13, ee_18_13N, ee_18_16, ee_18_17, ee_18_18, ee_18_21, ee_18_21N, ee_18_22, ee_18_25, ee_18_26, ee_18_26N, ee_18_27, ee_18_30, ee_18_33, ee_18_34, ee_18_34N, ee_18_35, ee_18_38, ee_18_38N, ee_18_39, ee_18_40, ee_18_44, ee_18_44N, ee_18_45, ee_18_48, ee_18_51, ee_18_54, ee_18_54N, ee_18_55, ee_18_55N, ee_18_56, ee_18_58, ee_18_61, ee_18_64, ee_18_64N, ee_18_65, ee_18_68, ee_18_69, ee_18_71, ee_18_72, ee_18_72N, ee_18_73, ee_18_76, ee_18_77, ee_18_77N, ee_18_78, ee_18_81, ee_18_83, ee_18_83N, ee_18_84, ee_18_87, ee_18_90, ee_18_91, ee_18_91N, ee_18_92, ee_18_92N, ee_18_93, ee_18_95, ee_18_98, ee_18_100, ee_18_100N, ee_18_101, ee_18_102, ee_18_103, ee_18_104, ee_18_107, ee_18_107N, ee_18_108, ee_18_110, ee_18_113, ee_18_116, ee_18_119, Q.f1, L.f2 hs, h1, Q.isc, eA, hA, bI_t, n10, f2, w1, f13, Q1.f1, T1.f1, L1.isc hs, e15, w2, Q2.isc, e25, nI_1, e4, Q4.isc, e26, Option.bind_some, Option.toList, List.cons_append, List.nil_append, List.append_nil, if_true, if_false, Bool.false_eq_true, eq_self, not_true_eq_false, not_false_eq_true, e5]
        · have hA' : acc s cs w p = false := by simpa using hA
          obtain ⟨h', e5, r5⟩ := ih (p + 1) h q l5 (by omega) hI
          refine ⟨h', ?_, by rw [if_neg hA]; exact r5⟩
          rw [ee_18_42]
          simp only [ee_18_0, ee_18_0N, ee_18_1, ee_18_4, ee_18_7, ee_18_8, ee_18_11, ee_18_11N, ee_18_12, ee_18_12N, ee_18_13, ee_18_13N, ee_18_16, ee_18_17, ee_18_18, ee_18_21, ee_18_21N, ee_18_22, ee_18_25, ee_18_26, ee_18_26N, ee_18_27, ee_18_30, ee_18_33, ee_18_34, ee_18_34N, ee_18_35, ee_18_38, ee_18_38N, ee_18_39, ee_18_40, ee_18_44, ee_18_44N, ee_18_45, ee_18_48, ee_18_51, ee_18_54, ee_18_54N, ee_18_55, ee_18_55N, ee_18_56, ee_18_58, ee_18_61, ee_18_64, ee_18_64N, ee_18_65, ee_18_68, ee_18_69, ee_18_71, ee_18_72, ee_18_72N, ee_18_73, ee_18_76, ee_18_77, ee_18_77N, ee_18_78, ee_18_81, ee_18_83, ee_18_83N, ee_18_84, ee_18_87, ee_18_90, ee_18_91, ee_18_91N, ee_18_92, ee_18_92N, ee_18_93, ee_18_95, ee_18_98, ee_18_100, ee_18_100N, ee_18_101, ee_18_102, ee_18_103, ee_18_104, ee_18_107, ee_18_107N, ee_18_108, ee_18_110, ee_18_113, ee_18_116, ee_18_119, Q.f1, L.f2 hs, h1, Q.isc, eA, hA', bI_f, nI_1, Option.bind_some, Option.toList, List.cons_append, List.nil_append, List.append_nil, if_true, if_false, Bool.false_eq_true, eq_self, not_true_eq_false, not_false_eq_true, e5]
    obtain ⟨L, A, Q, ⟨f0, f1, f2, f3⟩, ⟨c1, c2⟩, -, -⟩ := i1 hI
    have e1 := m37 (d := d + 5 + W.length) A.2.2.1 hlt
    have h3 : nI k < (3 : Int32) := by rw [show (3 : Int32) = nI 3 by decide]; exact nI_lt hk3 (by decide)
    have eH : go (d + 5 + W.length) (if g then 6 else 3) 0 [.ref o] [] h = some (some (.int (bI (hope cs))), h) := by
      have := hh (d := d + 1 + W.length) hI
      rwa [show d + 1 + W.length + 4 = d + 5 + W.length by omega] at this
    have n10 : ¬ (1 : Int32) = 0 := by decide
    show ∃ h', go (d + 5 + W.length + 1) 18 0 _ _ _ = _ ∧ I h' cs (walk s hope meet (w :: W) k cs q)
    unfold walk
    by_cases hp : hope cs = true
    · obtain ⟨h', e5, r5⟩ := loop (8 * s * s) 0 h q aU (by omega) hI
      rw [nI_0] at e5
      refine ⟨h', ?_, by rw [if_pos hp]; exact r5⟩
      cases g
      · simp only [Bool.false_eq_true, if_false] at eH
        simp only [ee_18_0, ee_18_0N, ee_18_1, ee_18_4, ee_18_7, ee_18_8, ee_18_11, ee_18_11N, ee_18_12, ee_18_12N, ee_18_13, ee_18_13N, ee_18_16, ee_18_17, ee_18_18, ee_18_21, ee_18_21N, ee_18_22, ee_18_25, ee_18_26, ee_18_26N, ee_18_27, ee_18_30, ee_18_33, ee_18_34, ee_18_34N, ee_18_35, ee_18_38, ee_18_38N, ee_18_39, ee_18_40, ee_18_44, ee_18_44N, ee_18_45, ee_18_48, ee_18_51, ee_18_54, ee_18_54N, ee_18_55, ee_18_55N, ee_18_56, ee_18_58, ee_18_61, ee_18_64, ee_18_64N, ee_18_65, ee_18_68, ee_18_69, ee_18_71, ee_18_72, ee_18_72N, ee_18_73, ee_18_76, ee_18_77, ee_18_77N, ee_18_78, ee_18_81, ee_18_83, ee_18_83N, ee_18_84, ee_18_87, ee_18_90, ee_18_91, ee_18_91N, ee_18_92, ee_18_92N, ee_18_93, ee_18_95, ee_18_98, ee_18_100, ee_18_100N, ee_18_101, ee_18_102, ee_18_103, ee_18_104, ee_18_107, ee_18_107N, ee_18_108, ee_18_110, ee_18_113, ee_18_116, ee_18_119, f0, A.f1, A.2.2.1.isc, e1, h3, c1, c2, eH, hp, bI_t, n10, f1, Bool.not_false, Option.bind_some, Option.toList, List.cons_append, List.nil_append, List.append_nil, if_true, if_false, Bool.false_eq_true, eq_self, not_true_eq_false, not_false_eq_true, e5]
      · simp only [if_true] at eH
        simp only [ee_18_0, ee_18_0N, ee_18_1, ee_18_4, ee_18_7, ee_18_8, ee_18_11, ee_18_11N, ee_18_12, ee_18_12N, ee_18_13, ee_18_13N, ee_18_16, ee_18_17, ee_18_18, ee_18_21, ee_18_21N, ee_18_22, ee_18_25, ee_18_26, ee_18_26N, ee_18_27, ee_18_30, ee_18_33, ee_18_34, ee_18_34N, ee_18_35, ee_18_38, ee_18_38N, ee_18_39, ee_18_40, ee_18_44, ee_18_44N, ee_18_45, ee_18_48, ee_18_51, ee_18_54, ee_18_54N, ee_18_55, ee_18_55N, ee_18_56, ee_18_58, ee_18_61, ee_18_64, ee_18_64N, ee_18_65, ee_18_68, ee_18_69, ee_18_71, ee_18_72, ee_18_72N, ee_18_73, ee_18_76, ee_18_77, ee_18_77N, ee_18_78, ee_18_81, ee_18_83, ee_18_83N, ee_18_84, ee_18_87, ee_18_90, ee_18_91, ee_18_91N, ee_18_92, ee_18_92N, ee_18_93, ee_18_95, ee_18_98, ee_18_100, ee_18_100N, ee_18_101, ee_18_102, ee_18_103, ee_18_104, ee_18_107, ee_18_107N, ee_18_108, ee_18_110, ee_18_113, ee_18_116, ee_18_119, f0, A.f1, A.2.2.1.isc, e1, h3, c1, c2, eH, hp, bI_t, n10, f1, Bool.not_true, Option.bind_some, Option.toList, List.cons_append, List.nil_append, List.append_nil, if_true, if_false, Bool.false_eq_true, eq_self, not_true_eq_false, not_false_eq_true, e5]
    · have hp' : hope cs = false := by simpa using hp
      refine ⟨h, ?_, by rw [if_neg hp]; exact hI⟩
      cases g
      · simp only [Bool.false_eq_true, if_false] at eH
        simp only [ee_18_0, ee_18_0N, ee_18_1, ee_18_4, ee_18_7, ee_18_8, ee_18_11, ee_18_11N, ee_18_12, ee_18_12N, ee_18_13, ee_18_13N, ee_18_16, ee_18_17, ee_18_18, ee_18_21, ee_18_21N, ee_18_22, ee_18_25, ee_18_26, ee_18_26N, ee_18_27, ee_18_30, ee_18_33, ee_18_34, ee_18_34N, ee_18_35, ee_18_38, ee_18_38N, ee_18_39, ee_18_40, ee_18_44, ee_18_44N, ee_18_45, ee_18_48, ee_18_51, ee_18_54, ee_18_54N, ee_18_55, ee_18_55N, ee_18_56, ee_18_58, ee_18_61, ee_18_64, ee_18_64N, ee_18_65, ee_18_68, ee_18_69, ee_18_71, ee_18_72, ee_18_72N, ee_18_73, ee_18_76, ee_18_77, ee_18_77N, ee_18_78, ee_18_81, ee_18_83, ee_18_83N, ee_18_84, ee_18_87, ee_18_90, ee_18_91, ee_18_91N, ee_18_92, ee_18_92N, ee_18_93, ee_18_95, ee_18_98, ee_18_100, ee_18_100N, ee_18_101, ee_18_102, ee_18_103, ee_18_104, ee_18_107, ee_18_107N, ee_18_108, ee_18_110, ee_18_113, ee_18_116, ee_18_119, f0, A.f1, A.2.2.1.isc, e1, h3, c1, c2, eH, hp', bI_f, Bool.not_false, Option.bind_some, Option.toList, List.cons_append, List.nil_append, List.append_nil, if_true, if_false, Bool.false_eq_true, eq_self, not_true_eq_false, not_false_eq_true]
      · simp only [if_true] at eH
        simp only [ee_18_0, ee_18_0N, ee_18_1, ee_18_4, ee_18_7, ee_18_8, ee_18_11, ee_18_11N, ee_18_12, ee_18_12N, ee_18_13, ee_18_13N, ee_18_16, ee_18_17, ee_18_18, ee_18_21, ee_18_21N, ee_18_22, ee_18_25, ee_18_26, ee_18_26N, ee_18_27, ee_18_30, ee_18_33, ee_18_34, ee_18_34N, ee_18_35, ee_18_38, ee_18_38N, ee_18_39, ee_18_40, ee_18_44, ee_18_44N, ee_18_45, ee_18_48, ee_18_51, ee_18_54, ee_18_54N, ee_18_55, ee_18_55N, ee_18_56, ee_18_58, ee_18_61, ee_18_64, ee_18_64N, ee_18_65, ee_18_68, ee_18_69, ee_18_71, ee_18_72, ee_18_72N, ee_18_73, ee_18_76, ee_18_77, ee_18_77N, ee_18_78, ee_18_81, ee_18_83, ee_18_83N, ee_18_84, ee_18_87, ee_18_90, ee_18_91, ee_18_91N, ee_18_92, ee_18_92N, ee_18_93, ee_18_95, ee_18_98, ee_18_100, ee_18_100N, ee_18_101, ee_18_102, ee_18_103, ee_18_104, ee_18_107, ee_18_107N, ee_18_108, ee_18_110, ee_18_113, ee_18_116, ee_18_119, f0, A.f1, A.2.2.1.isc, e1, h3, c1, c2, eH, hp', bI_f, Bool.not_true, Option.bind_some, Option.toList, List.cons_append, List.nil_append, List.append_nil, if_true, if_false, Bool.false_eq_true, eq_self, not_true_eq_false, not_false_eq_true]
end LF
