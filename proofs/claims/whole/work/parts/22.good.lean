/-! the search for the good layings -/
def standN (s : Nat) (cs w : List Int32) (i : Int32) : Int32 := scanV i (scan s cs w i (List.range' 0 (8 * (s * s))) 0)
def pal (w : List Int32) : Bool := palB w 0 w.length
def bnd (w : List Int32) : Int32 := if pal w = true then 2 else 1
def spB (s : Nat) (cs : List Int32) (bs : List (List Int32)) : Bool := bs.any fun b => decide (¬ standN s cs b 0 = -6)
def spW (s : Nat) (cs : List Int32) (ws : List (List Int32)) : Bool := ws.any fun w => decide (¬ standN s cs w (bnd w) = -6)
def spoil (s : Nat) (ws bs : List (List Int32)) (cs : List Int32) : Bool := spB s cs bs || spW s cs ws
def gObj (kn t f : Int32) : aC := .inl (2, [.ref 12, .ref 48, .ref 45, .ref 46, .ref 47, .int t, .int kn, .ref 50, .ref 52, .int f])
abbrev gA : Type := Int32 × Int32 × List Int32 × Nat × List Int32
def meetG (s : Nat) (ws bs : List (List Int32)) (rs : List Int32) (cs : List Int32) (q : gA × List Int32 × List Int32) : gA × List Int32 × List Int32 :=
  if spoil s ws bs (pourF rs 0 (s * s) (cs, 0, 0)).1 = true then q else if q.1.1 = 0 then ((q.1.1 + 1, nI (pourF rs 0 (s * s) (cs, 0, 0)).2.2, q.2.1, s, (pourF rs 0 (s * s) (cs, 0, 0)).1), q.2) else ((q.1.1 + 1, q.1.2), q.2)
def IG (h0 : aH) (kn : Int32) (s : Nat) (csB : List Int32) (ws bs : List (List Int32)) (rs : List Int32) (h : aH) (cs : List Int32) (q : gA × List Int32 × List Int32) : Prop :=
  LatAt h ∧ BoardAt h 12 s csB ws bs rs ∧ SquareAt h 48 s cs ∧ h[44]? = some (gObj kn q.1.1 q.1.2.1) ∧ (h[45]? = some (ints q.2.1) ∧ q.2.1.length = 3) ∧ (h[46]? = some (ints q.2.2) ∧ q.2.2.length = 3) ∧ (h[47]? = some (ints q.1.2.2.1) ∧ q.1.2.2.1.length = 3) ∧ (∃ sf fl, SquareAt h 50 sf fl) ∧ SquareAt h 52 q.1.2.2.2.1 q.1.2.2.2.2 ∧ Off h0 h 44 54
theorem pourF_len {rs : List Int32} : ∀ (n c : Nat) (q : List Int32 × Nat × Nat), (pourF rs c n q).1.length = q.1.length
  | 0, _, _ => rfl
  | n + 1, c, q => by
    unfold pourF
    rw [pourF_len n (c + 1)]
    unfold pour1
    split <;> simp
section GD
variable {h0 h : aH} {kn : Int32} {s d a : Nat} {csB cs rs : List Int32} {ws bs : List (List Int32)} {q : gA × List Int32 × List Int32}
/-- isSpoiled -/
theorem m8_w (hs : sideOk s) (L : LatAt h) (A : BoardAt h 12 s csB ws bs rs) (Q : SquareAt h a s cs) (hw : ∀ w ∈ ws, 0 < w.length) (g0 : gf h 44 0 2 2 = some (.ref 12)) :
    ∀ n j (l3 l4 : Value), j + n = ws.length → go (d + 2) 8 53 [.ref 44, .ref a, .int (nI j), l3, l4] [] h = some (some (.int (bI (spW s cs (ws.drop j)))), h)
  | 0, j, l3, l4, hj => by
    have h1 : nI ws.length ≤ nI j := by rw [← hj]; exact Int32.le_refl _
    rw [ee_8_53, List.drop_of_length_le (by omega)]
    simp only [ee_8_0, ee_8_1, ee_8_3, ee_8_3N, ee_8_4, ee_8_7, ee_8_10, ee_8_13, ee_8_16, ee_8_17, ee_8_18, ee_8_21, ee_8_21N, ee_8_22, ee_8_22N, ee_8_23, ee_8_26, ee_8_29, ee_8_32, ee_8_33, ee_8_34, ee_8_35, ee_8_38, ee_8_40, ee_8_43, ee_8_44, ee_8_44T, ee_8_45, ee_8_48, ee_8_51, ee_8_52, ee_8_54, ee_8_54N, ee_8_55, ee_8_58, ee_8_61, ee_8_64, ee_8_67, ee_8_68, ee_8_69, ee_8_72, ee_8_72N, ee_8_73, ee_8_76, ee_8_79, ee_8_82, ee_8_83, ee_8_84, ee_8_84N, ee_8_85, ee_8_85N, ee_8_86, ee_8_89, ee_8_92, ee_8_93, ee_8_96, ee_8_97, ee_8_99, ee_8_99N, ee_8_100, ee_8_100N, ee_8_101, ee_8_103, ee_8_106, ee_8_108, ee_8_111, ee_8_112, ee_8_112T, ee_8_113, ee_8_116, ee_8_119, ee_8_120, ee_8_120T, g0, A.f1, A.2.2.1.f1, h1, Option.bind_some, Option.toList, List.cons_append, List.nil_append, List.append_nil, if_true, if_false, Bool.false_eq_true, eq_self, not_true_eq_false, not_false_eq_true, spW, List.any_nil, bI_f]
  | n + 1, j, l3, l4, hj => by
    have h3 := A.2.2.1.1
    have h1 : ¬ nI ws.length ≤ nI j := nI_nle2 (by omega) (by omega) (by omega)
    have h4 : ¬ (3 : Int32) ≤ nI j := by rw [show (3 : Int32) = nI 3 by decide]; exact nI_nle2 (by omega) (by omega) (by omega)
    have T := A.2.2.1.text j (by omega)
    have hdr : ws.drop j = ws.getD j [] :: ws.drop (j + 1) := by
      rw [List.drop_eq_getElem_cons (by omega)]
      congr 1
      simp [List.getD_eq_getElem?_getD, List.getElem?_eq_getElem (show j < ws.length by omega)]
    have hpos : 0 < (ws.getD j []).length := hw _ (by
      rw [List.getD_eq_getElem?_getD, List.getElem?_eq_getElem (show j < ws.length by omega)]
      exact List.getElem_mem _)
    have n10 : ¬ (1 : Int32) = 0 := by decide
    have e35 := m35 (d := d + 1) T (by decide)
    have e28 := fun i => m28 (d := d) hs L Q T (by decide) hpos i
    rw [ee_8_53, hdr]
    by_cases hp : pal (ws.getD j []) = true
    · have e35' : palB (ws.getD j []) 0 (ws.getD j []).length = true := hp
      have hbd : bnd (ws.getD j []) = 2 := by unfold bnd; rw [if_pos hp]
      by_cases hst : standN s cs (ws.getD j []) 2 = -6
      · have e := m8_w hs L A Q hw g0 n (j + 1) (.ref (12 + 1 + 2 + 2 * j)) (.int 2) (by omega)
        have hst' : scanV 2 (scan s cs (ws.getD j []) 2 (List.range' 0 (8 * (s * s))) 0) = -6 := hst
        simp only [ee_8_0, ee_8_1, ee_8_3, ee_8_3N, ee_8_4, ee_8_7, ee_8_10, ee_8_13, ee_8_16, ee_8_17, ee_8_18, ee_8_21, ee_8_21N, ee_8_22, ee_8_22N, ee_8_23, ee_8_26, ee_8_29, ee_8_32, ee_8_33, ee_8_34, ee_8_35, ee_8_38, ee_8_40, ee_8_43, ee_8_44, ee_8_44T, ee_8_45, ee_8_48, ee_8_51, ee_8_52, ee_8_54, ee_8_54N, ee_8_55, ee_8_58, ee_8_61, ee_8_64, ee_8_67, ee_8_68, ee_8_69, ee_8_72, ee_8_72N, ee_8_73, ee_8_76, ee_8_79, ee_8_82, ee_8_83, ee_8_84, ee_8_84N, ee_8_85, ee_8_85N, ee_8_86, ee_8_89, ee_8_92, ee_8_93, ee_8_96, ee_8_97, ee_8_99, ee_8_99N, ee_8_100, ee_8_100N, ee_8_101, ee_8_103, ee_8_106, ee_8_108, ee_8_111, ee_8_112, ee_8_112T, ee_8_113, ee_8_116, ee_8_119, ee_8_120, ee_8_120T, g0, A.f1, A.2.2.1.f1, A.2.2.1.f0, A.2.2.1.aa j (by omega), h1, h4, T.isc, e35, e35', bI_t, n10, Q.isc, e28, hst', Option.bind_some, Option.toList, List.cons_append, List.nil_append, List.append_nil, if_true, if_false, Bool.false_eq_true, eq_self, not_true_eq_false, not_false_eq_true, nI_1, e, spW, List.any_cons, hbd, hst, decide_false, Bool.false_or]
      · have hst' : ¬ scanV 2 (scan s cs (ws.getD j []) 2 (List.range' 0 (8 * (s * s))) 0) = -6 := hst
        simp only [ee_8_0, ee_8_1, ee_8_3, ee_8_3N, ee_8_4, ee_8_7, ee_8_10, ee_8_13, ee_8_16, ee_8_17, ee_8_18, ee_8_21, ee_8_21N, ee_8_22, ee_8_22N, ee_8_23, ee_8_26, ee_8_29, ee_8_32, ee_8_33, ee_8_34, ee_8_35, ee_8_38, ee_8_40, ee_8_43, ee_8_44, ee_8_44T, ee_8_45, ee_8_48, ee_8_51, ee_8_52, ee_8_54, ee_8_54N, ee_8_55, ee_8_58, ee_8_61, ee_8_64, ee_8_67, ee_8_68, ee_8_69, ee_8_72, ee_8_72N, ee_8_73, ee_8_76, ee_8_79, ee_8_82, ee_8_83, ee_8_84, ee_8_84N, ee_8_85, ee_8_85N, ee_8_86, ee_8_89, ee_8_92, ee_8_93, ee_8_96, ee_8_97, ee_8_99, ee_8_99N, ee_8_100, ee_8_100N, ee_8_101, ee_8_103, ee_8_106, ee_8_108, ee_8_111, ee_8_112, ee_8_112T, ee_8_113, ee_8_116, ee_8_119, ee_8_120, ee_8_120T, g0, A.f1, A.2.2.1.f1, A.2.2.1.f0, A.2.2.1.aa j (by omega), h1, h4, T.isc, e35, e35', bI_t, n10, Q.isc, e28, hst', Option.bind_some, Option.toList, List.cons_append, List.nil_append, List.append_nil, if_true, if_false, Bool.false_eq_true, eq_self, not_true_eq_false, not_false_eq_true, spW, List.any_cons, hbd, hst, decide_true, Bool.true_or]
    · have hp' : pal (ws.getD j []) = false := by simpa using hp
      have e35' : palB (ws.getD j []) 0 (ws.getD j []).length = false := hp'
      have hbd : bnd (ws.getD j []) = 1 := by unfold bnd; rw [if_neg hp]
      by_cases hst : standN s cs (ws.getD j []) 1 = -6
      · have e := m8_w hs L A Q hw g0 n (j + 1) (.ref (12 + 1 + 2 + 2 * j)) (.int 1) (by omega)
        have hst' : scanV 1 (scan s cs (ws.getD j []) 1 (List.range' 0 (8 * (s * s))) 0) = -6 := hst
        simp only [ee_8_0, ee_8_1, ee_8_3, ee_8_3N, ee_8_4, ee_8_7, ee_8_10, ee_8_13, ee_8_16, ee_8_17, ee_8_18, ee_8_21, ee_8_21N, ee_8_22, ee_8_22N, ee_8_23, ee_8_26, ee_8_29, ee_8_32, ee_8_33, ee_8_34, ee_8_35, ee_8_38, ee_8_40, ee_8_43, ee_8_44, ee_8_44T, ee_8_45, ee_8_48, ee_8_51, ee_8_52, ee_8_54, ee_8_54N, ee_8_55, ee_8_58, ee_8_61, ee_8_64, ee_8_67, ee_8_68, ee_8_69, ee_8_72, ee_8_72N, ee_8_73, ee_8_76, ee_8_79, ee_8_82, ee_8_83, ee_8_84, ee_8_84N, ee_8_85, ee_8_85N, ee_8_86, ee_8_89, ee_8_92, ee_8_93, ee_8_96, ee_8_97, ee_8_99, ee_8_99N, ee_8_100, ee_8_100N, ee_8_101, ee_8_103, ee_8_106, ee_8_108, ee_8_111, ee_8_112, ee_8_112T, ee_8_113, ee_8_116, ee_8_119, ee_8_120, ee_8_120T, g0, A.f1, A.2.2.1.f1, A.2.2.1.f0, A.2.2.1.aa j (by omega), h1, h4, T.isc, e35, e35', bI_f, Q.isc, e28, hst', Option.bind_some, Option.toList, List.cons_append, List.nil_append, List.append_nil, if_true, if_false, Bool.false_eq_true, eq_self, not_true_eq_false, not_false_eq_true, nI_1, e, spW, List.any_cons, hbd, hst, decide_false, Bool.false_or]
      · have hst' : ¬ scanV 1 (scan s cs (ws.getD j []) 1 (List.range' 0 (8 * (s * s))) 0) = -6 := hst
        simp only [ee_8_0, ee_8_1, ee_8_3, ee_8_3N, ee_8_4, ee_8_7, ee_8_10, ee_8_13, ee_8_16, ee_8_17, ee_8_18, ee_8_21, ee_8_21N, ee_8_22, ee_8_22N, ee_8_23, ee_8_26, ee_8_29, ee_8_32, ee_8_33, ee_8_34, ee_8_35, ee_8_38, ee_8_40, ee_8_43, ee_8_44, ee_8_44T, ee_8_45, ee_8_48, ee_8_51, ee_8_52, ee_8_54, ee_8_54N, ee_8_55, ee_8_58, ee_8_61, ee_8_64, ee_8_67, ee_8_68, ee_8_69, ee_8_72, ee_8_72N, ee_8_73, ee_8_76, ee_8_79, ee_8_82, ee_8_83, ee_8_84, ee_8_84N, ee_8_85, ee_8_85N, ee_8_86, ee_8_89, ee_8_92, ee_8_93, ee_8_96, ee_8_97, ee_8_99, ee_8_99N, ee_8_100, ee_8_100N, ee_8_101, ee_8_103, ee_8_106, ee_8_108, ee_8_111, ee_8_112, ee_8_112T, ee_8_113, ee_8_116, ee_8_119, ee_8_120, ee_8_120T, g0, A.f1, A.2.2.1.f1, A.2.2.1.f0, A.2.2.1.aa j (by omega), h1, h4, T.isc, e35, e35', bI_f, bI_t, Q.isc, e28, hst', Option.bind_some, Option.toList, List.cons_append, List.nil_append, List.append_nil, if_true, if_false, Bool.false_eq_true, eq_self, not_true_eq_false, not_false_eq_true, spW, List.any_cons, hbd, hst, decide_true, Bool.true_or]
theorem m8_b (hs : sideOk s) (L : LatAt h) (A : BoardAt h 12 s csB ws bs rs) (Q : SquareAt h a s cs) (hw : ∀ w ∈ ws, 0 < w.length) (hb : ∀ w ∈ bs, 0 < w.length) (g0 : gf h 44 0 2 2 = some (.ref 12)) :
    ∀ n j (l3 l4 : Value), j + n = bs.length → go (d + 2) 8 2 [.ref 44, .ref a, .int (nI j), l3, l4] [] h = some (some (.int (bI (spB s cs (bs.drop j) || spW s cs ws))), h)
  | 0, j, l3, l4, hj => by
    have h1 : nI bs.length ≤ nI j := by rw [← hj]; exact Int32.le_refl _
    have e := m8_w (d := d) hs L A Q hw g0 ws.length 0 l3 l4 (by omega)
    rw [nI_0, List.drop_zero] at e
    rw [ee_8_2, List.drop_of_length_le (by omega)]
    simp only [ee_8_0, ee_8_1, ee_8_3, ee_8_3N, ee_8_4, ee_8_7, ee_8_10, ee_8_13, ee_8_16, ee_8_17, ee_8_18, ee_8_21, ee_8_21N, ee_8_22, ee_8_22N, ee_8_23, ee_8_26, ee_8_29, ee_8_32, ee_8_33, ee_8_34, ee_8_35, ee_8_38, ee_8_40, ee_8_43, ee_8_44, ee_8_44T, ee_8_45, ee_8_48, ee_8_51, ee_8_52, ee_8_54, ee_8_54N, ee_8_55, ee_8_58, ee_8_61, ee_8_64, ee_8_67, ee_8_68, ee_8_69, ee_8_72, ee_8_72N, ee_8_73, ee_8_76, ee_8_79, ee_8_82, ee_8_83, ee_8_84, ee_8_84N, ee_8_85, ee_8_85N, ee_8_86, ee_8_89, ee_8_92, ee_8_93, ee_8_96, ee_8_97, ee_8_99, ee_8_99N, ee_8_100, ee_8_100N, ee_8_101, ee_8_103, ee_8_106, ee_8_108, ee_8_111, ee_8_112, ee_8_112T, ee_8_113, ee_8_116, ee_8_119, ee_8_120, ee_8_120T, g0, A.f2, A.2.2.2.1.f1, h1, Option.bind_some, Option.toList, List.cons_append, List.nil_append, List.append_nil, if_true, if_false, Bool.false_eq_true, eq_self, not_true_eq_false, not_false_eq_true, e, spB, List.any_nil, Bool.false_or]
  | n + 1, j, l3, l4, hj => by
    have h3 := A.2.2.2.1.1
    have h1 : ¬ nI bs.length ≤ nI j := nI_nle2 (by omega) (by omega) (by omega)
    have h4 : ¬ (3 : Int32) ≤ nI j := by rw [show (3 : Int32) = nI 3 by decide]; exact nI_nle2 (by omega) (by omega) (by omega)
    have T := A.2.2.2.1.text j (by omega)
    have hdr : bs.drop j = bs.getD j [] :: bs.drop (j + 1) := by
      rw [List.drop_eq_getElem_cons (by omega)]
      congr 1
      simp [List.getD_eq_getElem?_getD, List.getElem?_eq_getElem (show j < bs.length by omega)]
    have hpos : 0 < (bs.getD j []).length := hb _ (by
      rw [List.getD_eq_getElem?_getD, List.getElem?_eq_getElem (show j < bs.length by omega)]
      exact List.getElem_mem _)
    have e28 := fun i => m28 (d := d) hs L Q T (by decide) hpos i
    rw [ee_8_2, hdr]
    by_cases hst : standN s cs (bs.getD j []) 0 = -6
    · have e := m8_b hs L A Q hw hb g0 n (j + 1) l3 l4 (by omega)
      have hst' : scanV 0 (scan s cs (bs.getD j []) 0 (List.range' 0 (8 * (s * s))) 0) = -6 := hst
      simp only [ee_8_0, ee_8_1, ee_8_3, ee_8_3N, ee_8_4, ee_8_7, ee_8_10, ee_8_13, ee_8_16, ee_8_17, ee_8_18, ee_8_21, ee_8_21N, ee_8_22, ee_8_22N, ee_8_23, ee_8_26, ee_8_29, ee_8_32, ee_8_33, ee_8_34, ee_8_35, ee_8_38, ee_8_40, ee_8_43, ee_8_44, ee_8_44T, ee_8_45, ee_8_48, ee_8_51, ee_8_52, ee_8_54, ee_8_54N, ee_8_55, ee_8_58, ee_8_61, ee_8_64, ee_8_67, ee_8_68, ee_8_69, ee_8_72, ee_8_72N, ee_8_73, ee_8_76, ee_8_79, ee_8_82, ee_8_83, ee_8_84, ee_8_84N, ee_8_85, ee_8_85N, ee_8_86, ee_8_89, ee_8_92, ee_8_93, ee_8_96, ee_8_97, ee_8_99, ee_8_99N, ee_8_100, ee_8_100N, ee_8_101, ee_8_103, ee_8_106, ee_8_108, ee_8_111, ee_8_112, ee_8_112T, ee_8_113, ee_8_116, ee_8_119, ee_8_120, ee_8_120T, g0, A.f2, A.2.2.2.1.f1, A.2.2.2.1.f0, A.2.2.2.1.aa j (by omega), h1, h4, Q.isc, e28, hst', Option.bind_some, Option.toList, List.cons_append, List.nil_append, List.append_nil, if_true, if_false, Bool.false_eq_true, eq_self, not_true_eq_false, not_false_eq_true, nI_1, e, spB, List.any_cons, hst, decide_false, Bool.false_or]
    · have hst' : ¬ scanV 0 (scan s cs (bs.getD j []) 0 (List.range' 0 (8 * (s * s))) 0) = -6 := hst
      simp only [ee_8_0, ee_8_1, ee_8_3, ee_8_3N, ee_8_4, ee_8_7, ee_8_10, ee_8_13, ee_8_16, ee_8_17, ee_8_18, ee_8_21, ee_8_21N, ee_8_22, ee_8_22N, ee_8_23, ee_8_26, ee_8_29, ee_8_32, ee_8_33, ee_8_34, ee_8_35, ee_8_38, ee_8_40, ee_8_43, ee_8_44, ee_8_44T, ee_8_45, ee_8_48, ee_8_51, ee_8_52, ee_8_54, ee_8_54N, ee_8_55, ee_8_58, ee_8_61, ee_8_64, ee_8_67, ee_8_68, ee_8_69, ee_8_72, ee_8_72N, ee_8_73, ee_8_76, ee_8_79, ee_8_82, ee_8_83, ee_8_84, ee_8_84N, ee_8_85, ee_8_85N, ee_8_86, ee_8_89, ee_8_92, ee_8_93, ee_8_96, ee_8_97, ee_8_99, ee_8_99N, ee_8_100, ee_8_100N, ee_8_101, ee_8_103, ee_8_106, ee_8_108, ee_8_111, ee_8_112, ee_8_112T, ee_8_113, ee_8_116, ee_8_119, ee_8_120, ee_8_120T, g0, A.f2, A.2.2.2.1.f1, A.2.2.2.1.f0, A.2.2.2.1.aa j (by omega), h1, h4, Q.isc, e28, hst', Option.bind_some, Option.toList, List.cons_append, List.nil_append, List.append_nil, if_true, if_false, Bool.false_eq_true, eq_self, not_true_eq_false, not_false_eq_true, spB, List.any_cons, hst, decide_true, Bool.true_or, bI_t]
theorem m8 (hs : sideOk s) (L : LatAt h) (A : BoardAt h 12 s csB ws bs rs) (Q : SquareAt h a s cs) (hw : ∀ w ∈ ws, 0 < w.length) (hb : ∀ w ∈ bs, 0 < w.length) (g0 : gf h 44 0 2 2 = some (.ref 12)) :
    go (d + 2) 8 0 [.ref 44, .ref a, aU, aU, aU] [] h = some (some (.int (bI (spoil s ws bs cs))), h) := by
  have e := m8_b (d := d) hs L A Q hw hb g0 bs.length 0 aU aU (by omega)
  rw [nI_0, List.drop_zero] at e
  simp only [ee_8_0, ee_8_1, ee_8_3, ee_8_3N, ee_8_4, ee_8_7, ee_8_10, ee_8_13, ee_8_16, ee_8_17, ee_8_18, ee_8_21, ee_8_21N, ee_8_22, ee_8_22N, ee_8_23, ee_8_26, ee_8_29, ee_8_32, ee_8_33, ee_8_34, ee_8_35, ee_8_38, ee_8_40, ee_8_43, ee_8_44, ee_8_44T, ee_8_45, ee_8_48, ee_8_51, ee_8_52, ee_8_54, ee_8_54N, ee_8_55, ee_8_58, ee_8_61, ee_8_64, ee_8_67, ee_8_68, ee_8_69, ee_8_72, ee_8_72N, ee_8_73, ee_8_76, ee_8_79, ee_8_82, ee_8_83, ee_8_84, ee_8_84N, ee_8_85, ee_8_85N, ee_8_86, ee_8_89, ee_8_92, ee_8_93, ee_8_96, ee_8_97, ee_8_99, ee_8_99N, ee_8_100, ee_8_100N, ee_8_101, ee_8_103, ee_8_106, ee_8_108, ee_8_111, ee_8_112, ee_8_112T, ee_8_113, ee_8_116, ee_8_119, ee_8_120, ee_8_120T, e, spoil]
theorem IG.laid {cs' : List Int32} (I : IG h0 kn s csB ws bs rs h cs q) (hl : cs'.length = 16) : IG h0 kn s csB ws bs rs (h.set 49 (ints cs')) cs' q := by
  obtain ⟨L, A, Q, b1, ⟨b2, l2⟩, ⟨b3, l3⟩, ⟨b4, l4⟩, ⟨sf, fl, Qf⟩, Qg, O⟩ := I
  exact ⟨L.set (by decide), A.set (by decide), Q.put hl, by rw [set_ne (by decide)]; exact b1, ⟨by rw [set_ne (by decide)]; exact b2, l2⟩, ⟨by rw [set_ne (by decide)]; exact b3, l3⟩, ⟨by rw [set_ne (by decide)]; exact b4, l4⟩, ⟨sf, fl, Qf.set (by decide) (by decide)⟩, Qg.set (by decide) (by decide), O.trans (Off.set (by decide) (by decide))⟩
theorem IG.pls {ps' : List Int32} (I : IG h0 kn s csB ws bs rs h cs q) (hl : ps'.length = 3) : IG h0 kn s csB ws bs rs (h.set 45 (ints ps')) cs (q.1, ps', q.2.2) := by
  obtain ⟨L, A, Q, b1, ⟨b2, l2⟩, ⟨b3, l3⟩, ⟨b4, l4⟩, ⟨sf, fl, Qf⟩, Qg, O⟩ := I
  exact ⟨L.set (by decide), A.set (by decide), Q.set (by decide) (by decide), by rw [set_ne (by decide)]; exact b1, ⟨set_at (at_lt b2), hl⟩, ⟨by rw [set_ne (by decide)]; exact b3, l3⟩, ⟨by rw [set_ne (by decide)]; exact b4, l4⟩, ⟨sf, fl, Qf.set (by decide) (by decide)⟩, Qg.set (by decide) (by decide), O.trans (Off.set (by decide) (by decide))⟩
theorem IG.sts {ss' : List Int32} (I : IG h0 kn s csB ws bs rs h cs q) (hl : ss'.length = 3) : IG h0 kn s csB ws bs rs (h.set 46 (ints ss')) cs (q.1, q.2.1, ss') := by
  obtain ⟨L, A, Q, b1, ⟨b2, l2⟩, ⟨b3, l3⟩, ⟨b4, l4⟩, ⟨sf, fl, Qf⟩, Qg, O⟩ := I
  exact ⟨L.set (by decide), A.set (by decide), Q.set (by decide) (by decide), by rw [set_ne (by decide)]; exact b1, ⟨by rw [set_ne (by decide)]; exact b2, l2⟩, ⟨set_at (at_lt b3), hl⟩, ⟨by rw [set_ne (by decide)]; exact b4, l4⟩, ⟨sf, fl, Qf.set (by decide) (by decide)⟩, Qg.set (by decide) (by decide), O.trans (Off.set (by decide) (by decide))⟩
theorem IG.fps {fp' : List Int32} (I : IG h0 kn s csB ws bs rs h cs q) (hl : fp'.length = 3) : IG h0 kn s csB ws bs rs (h.set 47 (ints fp')) cs ((q.1.1, q.1.2.1, fp', q.1.2.2.2), q.2) := by
  obtain ⟨L, A, Q, b1, ⟨b2, l2⟩, ⟨b3, l3⟩, ⟨b4, l4⟩, ⟨sf, fl, Qf⟩, Qg, O⟩ := I
  exact ⟨L.set (by decide), A.set (by decide), Q.set (by decide) (by decide), by rw [set_ne (by decide)]; exact b1, ⟨by rw [set_ne (by decide)]; exact b2, l2⟩, ⟨by rw [set_ne (by decide)]; exact b3, l3⟩, ⟨set_at (at_lt b4), hl⟩, ⟨sf, fl, Qf.set (by decide) (by decide)⟩, Qg.set (by decide) (by decide), O.trans (Off.set (by decide) (by decide))⟩
theorem IG.obj {kn' t f : Int32} (I : IG h0 kn s csB ws bs rs h cs q) : IG h0 kn' s csB ws bs rs (h.set 44 (gObj kn' t f)) cs ((t, f, q.1.2.2), q.2) := by
  obtain ⟨L, A, Q, b1, ⟨b2, l2⟩, ⟨b3, l3⟩, ⟨b4, l4⟩, ⟨sf, fl, Qf⟩, Qg, O⟩ := I
  exact ⟨L.set (by decide), A.set (by decide), Q.set (by decide) (by decide), set_at (at_lt b1), ⟨by rw [set_ne (by decide)]; exact b2, l2⟩, ⟨by rw [set_ne (by decide)]; exact b3, l3⟩, ⟨by rw [set_ne (by decide)]; exact b4, l4⟩, ⟨sf, fl, Qf.set (by decide) (by decide)⟩, Qg.set (by decide) (by decide), O.trans (Off.set (by decide) (by decide))⟩
theorem IG.fi (I : IG h0 kn s csB ws bs rs h cs q) : FI 44 true s csB ws bs rs h cs q := by
  obtain ⟨L, A, Q, b1, b2, b3, -⟩ := I
  refine ⟨L, A, Q, ⟨?_, ?_, ?_, ?_⟩, ⟨?_, ?_⟩, b2, b3⟩
  · unfold gf; rw [b1]; rfl
  · unfold gf; rw [b1]; rfl
  · unfold gf; rw [b1]; rfl
  · unfold gf; rw [b1]; rfl
  · unfold isC; rw [b1]; rfl
  · unfold isC; rw [b1]; rfl
theorem g44 {t f : Int32} (b1 : h[44]? = some (gObj kn t f)) : gf h 44 0 2 2 = some (.ref 12) ∧ gf h 44 1 2 2 = some (.ref 48) ∧ gf h 44 5 2 2 = some (.int t) ∧ gf h 44 7 2 2 = some (.ref 50) ∧ gf h 44 8 2 2 = some (.ref 52) ∧ gf h 44 4 1 2 = some (.ref 47) ∧ gf h 44 2 1 2 = some (.ref 45) ∧ isC h 44 2 = true := by
  refine ⟨?_, ?_, ?_, ?_, ?_, ?_, ?_, ?_⟩
  all_goals first | (unfold gf; rw [b1]; rfl) | (unfold isC; rw [b1]; rfl)
/-- hasHope -/
theorem m6 (hs : sideOk s) (hw : ∀ w ∈ ws, 0 < w.length) (hb : ∀ w ∈ bs, 0 < w.length) (I : IG h0 kn s csB ws bs rs h cs q) : go (d + 3) 6 0 [.ref 44] [] h = some (some (.int (bI (!spoil s ws bs cs))), h) := by
  obtain ⟨L, A, Q, b1, -⟩ := id I
  obtain ⟨g0, g1, g5, g7, g8, g4, g2, ic⟩ := g44 b1
  have e := m8 (d := d) hs L A Q hw hb g0
  have n10 : ¬ (1 : Int32) = 0 := by decide
  cases hsp : spoil s ws bs cs
  · rw [hsp] at e
    simp only [ee_6_0, ee_6_0N, ee_6_1, ee_6_1N, ee_6_2, ee_6_5, ee_6_8, ee_6_11, ee_6_12, ee_6_15, ee_6_16, ee_6_16T, g1, ic, e, bI_f, Bool.not_false, bI_t, Option.bind_some, Option.toList, List.cons_append, List.nil_append, List.append_nil, if_true, if_false, Bool.false_eq_true, eq_self, not_true_eq_false, not_false_eq_true]
  · rw [hsp] at e
    simp only [ee_6_0, ee_6_0N, ee_6_1, ee_6_1N, ee_6_2, ee_6_5, ee_6_8, ee_6_11, ee_6_12, ee_6_15, ee_6_16, ee_6_16T, g1, ic, e, bI_t, n10, Bool.not_true, bI_f, Option.bind_some, Option.toList, List.cons_append, List.nil_append, List.append_nil, if_true, if_false, Bool.false_eq_true, eq_self, not_true_eq_false, not_false_eq_true]
/-- keepPlaces of the good search -/
theorem m19g {xs ys : List Int32} {t f : Int32} (b1 : h[44]? = some (gObj kn t f)) (b2 : h[45]? = some (ints xs)) (b4 : h[47]? = some (ints ys)) (l2 : xs.length = 3) (l4 : ys.length = 3) : go d 19 0 [.ref 44] [] h = some (none, h.set 47 (ints xs)) := by
  obtain ⟨g0, g1, g5, g7, g8, g4, g2, ic⟩ := g44 b1
  simp only [ee_19_0, ee_19_0N, ee_19_1, ee_19_4, ee_19_5, ee_19_5N, ee_19_6, ee_19_9, ee_19_10, ee_19_11, ee_19_14, g2, g4, cpy3 b2 b4 l2 l4, Option.bind_some, Option.toList, List.cons_append, List.nil_append, List.append_nil, if_true, if_false, Bool.false_eq_true, eq_self, not_true_eq_false, not_false_eq_true]
/-- meetLaying -/
theorem m7 (hs : sideOk s) (hw : ∀ w ∈ ws, 0 < w.length) (hb : ∀ w ∈ bs, 0 < w.length) (hr : 0 < rs.length) (I : IG h0 kn s csB ws bs rs h cs q) : ∃ h', go (d + 3) 7 0 [.ref 44, aU] [] h = some (none, h') ∧ IG h0 kn s csB ws bs rs h' cs (meetG s ws bs rs cs q) := by
  obtain ⟨L, A, Q, b1, ⟨b2, l2⟩, ⟨b3, l3⟩, ⟨b4, l4⟩, ⟨sf, fl, Qf⟩, Qg, O⟩ := id I
  obtain ⟨g0, g1, g5, g7, g8, g4, g2, ic⟩ := g44 b1
  -- filled.copyFrom(laid), pour
  have e23 := m23 (d := d + 2) Qf Q (by decide) (by decide) (by decide)
  have O1 : Off h (sqSet h 50 s cs) 50 52 := sqSet_off
  have Q1 : SquareAt (sqSet h 50 s cs) 50 s cs := sqSet_at Qf Q.2.2
  generalize sqSet h 50 s cs = h1 at e23 O1 Q1
  have L1 := L.off O1 (by decide)
  have A1 := A.off O1 (by decide)
  have c1 : h1[44]? = some (gObj kn q.1.1 q.1.2.1) := by rw [O1.2 44 (by decide)]; exact b1
  obtain ⟨j0, j1, j5, j7, j8, j4, j2, jc⟩ := g44 c1
  have e27 := m27 (d := d + 2) hs L1 Q1 A1.2.2.2.2 (by decide) hr (by decide) (by decide) (by decide)
  have hfl : (pourF rs 0 (s * s) (cs, 0, 0)).1.length = 16 := by rw [pourF_len]; exact Q.2.2
  have Q2 := Q1.put hfl
  have O2 : Off h (h1.set (50 + 1) (ints (pourF rs 0 (s * s) (cs, 0, 0)).1)) 50 52 := O1.trans (Off.set (by decide) (by decide))
  unfold meetG
  generalize pourF rs 0 (s * s) (cs, 0, 0) = pr at e27 hfl Q2 O2 ⊢
  generalize h1.set (50 + 1) (ints pr.1) = h2 at e27 Q2 O2
  have L2 := L.off O2 (by decide)
  have A2 := A.off O2 (by decide)
  have d1 : h2[44]? = some (gObj kn q.1.1 q.1.2.1) := by rw [O2.2 44 (by decide)]; exact b1
  have d2 : h2[45]? = some (ints q.2.1) := by rw [O2.2 45 (by decide)]; exact b2
  have d4 : h2[47]? = some (ints q.1.2.2.1) := by rw [O2.2 47 (by decide)]; exact b4
  obtain ⟨k0, k1, k5, k7, k8, k4, k2, kc⟩ := g44 d1
  have e8 := m8 (d := d) hs L2 A2 Q2 hw hb k0
  have I2 : IG h0 kn s csB ws bs rs h2 cs q := ⟨L2, A2, Q.off O2 (by decide), d1, ⟨d2, l2⟩, ⟨by rw [O2.2 46 (by decide)]; exact b3, l3⟩, ⟨d4, l4⟩, ⟨s, pr.1, Q2⟩, Qg.off O2 (by decide), O.trans (O2.mono (by decide) (by decide))⟩
  have n10 : ¬ (1 : Int32) = 0 := by decide
  cases hsp : spoil s ws bs pr.1
  · rw [hsp] at e8
    simp only [Bool.false_eq_true, if_false]
    by_cases hz : q.1.1 = 0
    · rw [if_pos hz]
      have e23' := m23 (d := d + 2) (Qg.off O2 (by decide)) Q2 (by decide) (by decide) (by decide)
      have O3 : Off h2 (sqSet h2 52 s pr.1) 52 54 := sqSet_off
      have Q3 : SquareAt (sqSet h2 52 s pr.1) 52 s pr.1 := sqSet_at (Qg.off O2 (by decide)) hfl
      generalize sqSet h2 52 s pr.1 = h3 at e23' O3 Q3
      have f1 : h3[44]? = some (gObj kn q.1.1 q.1.2.1) := by rw [O3.2 44 (by decide)]; exact d1
      have p9 : pf h3 44 9 2 2 0 (.int (nI pr.2.2)) = some (h3.set 44 (gObj kn q.1.1 (nI pr.2.2))) := pf_at f1 (show 9 < 10 by decide) rfl
      have I3 : IG h0 kn s csB ws bs rs h3 cs ((q.1.1, q.1.2.1, q.1.2.2.1, s, pr.1), q.2) := ⟨L2.off O3 (by decide), A2.off O3 (by decide), (Q.off O2 (by decide)).off O3 (by decide), f1, ⟨by rw [O3.2 45 (by decide)]; exact d2, l2⟩, ⟨by rw [O3.2 46 (by decide), O2.2 46 (by decide)]; exact b3, l3⟩, ⟨by rw [O3.2 47 (by decide)]; exact d4, l4⟩, ⟨s, pr.1, Q2.off O3 (by decide)⟩, Q3, I2.2.2.2.2.2.2.2.2.2.trans (O3.mono (by decide) (by decide))⟩
      have I4 := I3.obj (kn' := kn) (t := q.1.1) (f := nI pr.2.2)
      have I5 := I4.fps (fp' := q.2.1) l2
      have I6 := I5.obj (kn' := kn) (t := q.1.1 + 1) (f := nI pr.2.2)
      simp only at I4 I5 I6
      have e19 := m19g (d := d + 2) I4.2.2.2.1 I4.2.2.2.2.1.1 I4.2.2.2.2.2.2.1.1 l2 l4
      have m1 := g44 I3.2.2.2.1
      have m2 := g44 I4.2.2.2.1
      have m3 := g44 I5.2.2.2.1
      have p5 : pf ((h3.set 44 (gObj kn q.1.1 (nI pr.2.2))).set 47 (ints q.2.1)) 44 5 2 2 0 (.int (q.1.1 + 1)) = some (((h3.set 44 (gObj kn q.1.1 (nI pr.2.2))).set 47 (ints q.2.1)).set 44 (gObj kn (q.1.1 + 1) (nI pr.2.2))) := pf_at I5.2.2.2.1 (show 5 < 10 by decide) rfl
      refine ⟨_, ?_, I6⟩
      have hz2 : (¬ q.1.1 = 0) = False := by simp [hz]
      have kQ := (Qg.off O2 (by decide)).isc
      simp only [ee_7_0, ee_7_0N, ee_7_1, ee_7_4, ee_7_4N, ee_7_5, ee_7_8, ee_7_11, ee_7_11N, ee_7_12, ee_7_15, ee_7_15N, ee_7_16, ee_7_19, ee_7_22, ee_7_25, ee_7_26, ee_7_26N, ee_7_27, ee_7_27N, ee_7_28, ee_7_31, ee_7_34, ee_7_37, ee_7_38, ee_7_38N, ee_7_39, ee_7_42, ee_7_45, ee_7_45N, ee_7_46, ee_7_49, ee_7_49N, ee_7_50, ee_7_53, ee_7_56, ee_7_56N, ee_7_57, ee_7_58, ee_7_61, ee_7_61N, ee_7_62, ee_7_65, ee_7_65N, ee_7_66, ee_7_67, ee_7_70, ee_7_71, ee_7_72, ee_7_75, g7, g1, Qf.isc, e23, j7, j0, A1.f3, Q1.isc, e27, k7, kc, e8, bI_f, k5, hz2, k8, kQ, e23', p9, m2.2.2.2.2.2.2.2, e19, m3.2.2.1, p5, Option.bind_some, Option.toList, List.cons_append, List.nil_append, List.append_nil, if_true, if_false, Bool.false_eq_true, eq_self, not_true_eq_false, not_false_eq_true]
    · rw [if_neg hz]
      have I6 := I2.obj (kn' := kn) (t := q.1.1 + 1) (f := q.1.2.1)
      have p5 : pf h2 44 5 2 2 0 (.int (q.1.1 + 1)) = some (h2.set 44 (gObj kn (q.1.1 + 1) q.1.2.1)) := pf_at d1 (show 5 < 10 by decide) rfl
      refine ⟨_, ?_, I6⟩
      simp only [ee_7_0, ee_7_0N, ee_7_1, ee_7_4, ee_7_4N, ee_7_5, ee_7_8, ee_7_11, ee_7_11N, ee_7_12, ee_7_15, ee_7_15N, ee_7_16, ee_7_19, ee_7_22, ee_7_25, ee_7_26, ee_7_26N, ee_7_27, ee_7_27N, ee_7_28, ee_7_31, ee_7_34, ee_7_37, ee_7_38, ee_7_38N, ee_7_39, ee_7_42, ee_7_45, ee_7_45N, ee_7_46, ee_7_49, ee_7_49N, ee_7_50, ee_7_53, ee_7_56, ee_7_56N, ee_7_57, ee_7_58, ee_7_61, ee_7_61N, ee_7_62, ee_7_65, ee_7_65N, ee_7_66, ee_7_67, ee_7_70, ee_7_71, ee_7_72, ee_7_75, g7, g1, Qf.isc, e23, j7, j0, A1.f3, Q1.isc, e27, k7, kc, e8, bI_f, k5, hz, p5, Option.bind_some, Option.toList, List.cons_append, List.nil_append, List.append_nil, if_true, if_false, Bool.false_eq_true, eq_self, not_true_eq_false, not_false_eq_true]
  · rw [hsp] at e8
    simp only [if_true]
    refine ⟨_, ?_, I2⟩
    simp only [ee_7_0, ee_7_0N, ee_7_1, ee_7_4, ee_7_4N, ee_7_5, ee_7_8, ee_7_11, ee_7_11N, ee_7_12, ee_7_15, ee_7_15N, ee_7_16, ee_7_19, ee_7_22, ee_7_25, ee_7_26, ee_7_26N, ee_7_27, ee_7_27N, ee_7_28, ee_7_31, ee_7_34, ee_7_37, ee_7_38, ee_7_38N, ee_7_39, ee_7_42, ee_7_45, ee_7_45N, ee_7_46, ee_7_49, ee_7_49N, ee_7_50, ee_7_53, ee_7_56, ee_7_56N, ee_7_57, ee_7_58, ee_7_61, ee_7_61N, ee_7_62, ee_7_65, ee_7_65N, ee_7_66, ee_7_67, ee_7_70, ee_7_71, ee_7_72, ee_7_75, g7, g1, Qf.isc, e23, j7, j0, A1.f3, Q1.isc, e27, k7, kc, e8, bI_t, n10, Option.bind_some, Option.toList, List.cons_append, List.nil_append, List.append_nil, if_true, if_false, Bool.false_eq_true, eq_self, not_true_eq_false, not_false_eq_true]
end GD
