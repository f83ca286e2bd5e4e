/-! look, firstPlace -/
abbrev cS : Type := cA × List Int32 × List Int32
abbrev gS : Type := gA × List Int32 × List Int32
section LK
variable {h : aH} {kn : Int32} {s d : Nat} {csB rs : List Int32} {ws bs : List (List Int32)}
theorem len3 {xs : List Int32} (hl : xs.length = 3) : List.replicate xs.length (0 : Int32) = [0, 0, 0] := by rw [hl]; rfl
theorem m17c {s2 : Nat} {cs : List Int32} {q : cS} (hs : sideOk s) (L : LatAt h) (A : BoardAt h 12 s csB ws bs rs) (Q : SquareAt h 42 s2 cs) (b1 : h[38]? = some (crObj 0 q.1.1 q.1.2.1 q.1.2.2.1)) (b2 : h[39]? = some (ints q.2.1)) (l2 : q.2.1.length = 3) (b3 : h[40]? = some (ints q.2.2)) (l3 : q.2.2.length = 3) (b4 : h[41]? = some (ints q.1.2.2.2)) (l4 : q.1.2.2.2.length = 3) :
    ∃ h', go (d + 9) 17 0 [.ref 38] [] h = some (none, h') ∧ IC h 1 s csB ws bs rs h' csB (walk s (fun _ => true) meetC ws 0 csB ((0, q.1.2.1, q.1.2.2.1, q.1.2.2.2), q.2.1, [0, 0, 0])) := by
  have e23 := m23 (d := d + 8) Q A.2.1 (by decide) (by decide) (by decide)
  have O1 : Off h (sqSet h 42 s csB) 42 44 := sqSet_off
  have Q1 : SquareAt (sqSet h 42 s csB) 42 s csB := sqSet_at Q A.2.1.2.2
  have f0 : gf h 38 6 1 2 = some (.int 0) := by unfold gf; rw [b1]; rfl
  have f1 : gf h 38 1 1 2 = some (.ref 42) := by unfold gf; rw [b1]; rfl
  have f2 : gf h 38 0 1 2 = some (.ref 12) := by unfold gf; rw [b1]; rfl
  generalize sqSet h 42 s csB = h1 at e23 O1 Q1
  have I1 : IC h 0 s csB ws bs rs h1 csB q := ⟨L.off O1 (by decide), A.off O1 (by decide), Q1, by rw [O1.2 38 (by decide)]; exact b1, ⟨by rw [O1.2 39 (by decide)]; exact b2, l2⟩, ⟨by rw [O1.2 40 (by decide)]; exact b3, l3⟩, ⟨by rw [O1.2 41 (by decide)]; exact b4, l4⟩, O1.mono (by decide) (by decide)⟩
  have e122 := m122 (d := d + 8) (v := 0) I1.2.2.2.2.2.1.1 (by omega)
  rw [len3 l3] at e122
  have I2 := I1.sts (ss' := [0, 0, 0]) rfl
  have p5 : pf (h1.set 40 (ints [0, 0, 0])) 38 5 1 2 0 (.int 0) = some ((h1.set 40 (ints [0, 0, 0])).set 38 (crObj 0 0 q.1.2.1 q.1.2.2.1)) := by
    unfold pf
    rw [I2.2.2.2.1]
    rfl
  have I3 := I2.obj (kn' := 0) (t := 0) (m := q.1.2.1) (w := q.1.2.2.1)
  simp only at I3
  have hlen := A.2.2.1.1
  obtain ⟨h4, e4, I4⟩ := layFrom_all (o := 38) (g := false) (I := IC h 0 s csB ws bs rs) (hope := fun _ => true) (meet := meetC) hs (by decide) (fun I => I.fi) (fun I hl => I.laid hl) (fun I hl => I.pls hl) (fun I hl => I.sts hl) (fun {d h cs q} I => m3) (fun {d h cs q} I => m4 (d := d + 3) I) ws 0 (by decide) rfl (d + 3 - ws.length) _ _ _ I3
  rw [show d + 3 - ws.length + 5 + ws.length = d + 8 by omega, nI_0] at e4
  have p6 : pf h4 38 6 1 2 1 (.int 1) = some (h4.set 38 (crObj 1 (walk s (fun _ => true) meetC ws 0 csB ((0, q.1.2.1, q.1.2.2.1, q.1.2.2.2), q.2.1, [0, 0, 0])).1.1 (walk s (fun _ => true) meetC ws 0 csB ((0, q.1.2.1, q.1.2.2.1, q.1.2.2.2), q.2.1, [0, 0, 0])).1.2.1 (walk s (fun _ => true) meetC ws 0 csB ((0, q.1.2.1, q.1.2.2.1, q.1.2.2.2), q.2.1, [0, 0, 0])).1.2.2.1)) := by
    unfold pf
    rw [I4.2.2.2.1]
    rfl
  refine ⟨_, ?_, I4.obj (kn' := 1) (t := _) (m := _) (w := _)⟩
  have g3 := I1.fi.2.2.2.1.2.2.2
  simp only [ee_17_0, ee_17_0N, ee_17_1, ee_17_4, ee_17_7, ee_17_8, ee_17_8N, ee_17_9, ee_17_12, ee_17_12N, ee_17_13, ee_17_16, ee_17_19, ee_17_22, ee_17_22N, ee_17_23, ee_17_26, ee_17_27, ee_17_30, ee_17_30N, ee_17_31, ee_17_32, ee_17_35, ee_17_35N, ee_17_36, ee_17_37, ee_17_40, ee_17_40N, ee_17_41, ee_17_42, ee_17_45, f0, f1, f2, A.f0, Q.isc, e23, g3, e122, p5, e4, p6, Option.bind_some, Option.toList, List.cons_append, List.nil_append, List.append_nil, if_true, if_false, Bool.false_eq_true, eq_self, not_true_eq_false, not_false_eq_true]
theorem m17g {s2 : Nat} {cs : List Int32} {q : gS} (hs : sideOk s) (hw : ∀ w ∈ ws, 0 < w.length) (hb : ∀ w ∈ bs, 0 < w.length) (hr : 0 < rs.length) (L : LatAt h) (A : BoardAt h 12 s csB ws bs rs) (Q : SquareAt h 48 s2 cs) (b1 : h[44]? = some (gObj 0 q.1.1 q.1.2.1)) (b2 : h[45]? = some (ints q.2.1)) (l2 : q.2.1.length = 3) (b3 : h[46]? = some (ints q.2.2)) (l3 : q.2.2.length = 3) (b4 : h[47]? = some (ints q.1.2.2.1)) (l4 : q.1.2.2.1.length = 3) (Qf : ∃ sf fl, SquareAt h 50 sf fl) (Qg : SquareAt h 52 q.1.2.2.2.1 q.1.2.2.2.2) :
    ∃ h', go (d + 9) 17 0 [.ref 44] [] h = some (none, h') ∧ IG h 1 s csB ws bs rs h' csB (walk s (fun cs => !spoil s ws bs cs) (meetG s ws bs rs) ws 0 csB ((0, q.1.2.1, q.1.2.2), q.2.1, [0, 0, 0])) := by
  have e23 := m23 (d := d + 8) Q A.2.1 (by decide) (by decide) (by decide)
  have O1 : Off h (sqSet h 48 s csB) 48 50 := sqSet_off
  have Q1 : SquareAt (sqSet h 48 s csB) 48 s csB := sqSet_at Q A.2.1.2.2
  have f0 : gf h 44 6 1 2 = some (.int 0) := by unfold gf; rw [b1]; rfl
  have f1 : gf h 44 1 1 2 = some (.ref 48) := by unfold gf; rw [b1]; rfl
  have f2 : gf h 44 0 1 2 = some (.ref 12) := by unfold gf; rw [b1]; rfl
  generalize sqSet h 48 s csB = h1 at e23 O1 Q1
  obtain ⟨sf, fl, Qf⟩ := Qf
  have I1 : IG h 0 s csB ws bs rs h1 csB q := ⟨L.off O1 (by decide), A.off O1 (by decide), Q1, by rw [O1.2 44 (by decide)]; exact b1, ⟨by rw [O1.2 45 (by decide)]; exact b2, l2⟩, ⟨by rw [O1.2 46 (by decide)]; exact b3, l3⟩, ⟨by rw [O1.2 47 (by decide)]; exact b4, l4⟩, ⟨sf, fl, Qf.off O1 (by decide)⟩, Qg.off O1 (by decide), O1.mono (by decide) (by decide)⟩
  have e122 := m122 (d := d + 8) (v := 0) I1.2.2.2.2.2.1.1 (by omega)
  rw [len3 l3] at e122
  have I2 := I1.sts (ss' := [0, 0, 0]) rfl
  have p5 : pf (h1.set 46 (ints [0, 0, 0])) 44 5 1 2 0 (.int 0) = some ((h1.set 46 (ints [0, 0, 0])).set 44 (gObj 0 0 q.1.2.1)) := by
    unfold pf
    rw [I2.2.2.2.1]
    rfl
  have I3 := I2.obj (kn' := 0) (t := 0) (f := q.1.2.1)
  simp only at I3
  have hlen := A.2.2.1.1
  obtain ⟨h4, e4, I4⟩ := layFrom_all (o := 44) (g := true) (I := IG h 0 s csB ws bs rs) (hope := fun cs => !spoil s ws bs cs) (meet := meetG s ws bs rs) hs (by decide) (fun I => I.fi) (fun I hl => I.laid hl) (fun I hl => I.pls hl) (fun I hl => I.sts hl) (fun {d h cs q} I => m6 (d := d + 1) hs hw hb I) (fun {d h cs q} I => m7 (d := d + 1) hs hw hb hr I) ws 0 (by decide) rfl (d + 3 - ws.length) _ _ _ I3
  rw [show d + 3 - ws.length + 5 + ws.length = d + 8 by omega, nI_0] at e4
  have p6 : pf h4 44 6 1 2 1 (.int 1) = some (h4.set 44 (gObj 1 (walk s (fun cs => !spoil s ws bs cs) (meetG s ws bs rs) ws 0 csB ((0, q.1.2.1, q.1.2.2), q.2.1, [0, 0, 0])).1.1 (walk s (fun cs => !spoil s ws bs cs) (meetG s ws bs rs) ws 0 csB ((0, q.1.2.1, q.1.2.2), q.2.1, [0, 0, 0])).1.2.1)) := by
    unfold pf
    rw [I4.2.2.2.1]
    rfl
  refine ⟨_, ?_, I4.obj (kn' := 1) (t := _) (f := _)⟩
  have g3 := I1.fi.2.2.2.1.2.2.2
  simp only [ee_17_0, ee_17_0N, ee_17_1, ee_17_4, ee_17_7, ee_17_8, ee_17_8N, ee_17_9, ee_17_12, ee_17_12N, ee_17_13, ee_17_16, ee_17_19, ee_17_22, ee_17_22N, ee_17_23, ee_17_26, ee_17_27, ee_17_30, ee_17_30N, ee_17_31, ee_17_32, ee_17_35, ee_17_35N, ee_17_36, ee_17_37, ee_17_40, ee_17_40N, ee_17_41, ee_17_42, ee_17_45, f0, f1, f2, A.f0, Q.isc, e23, g3, e122, p5, e4, p6, Option.bind_some, Option.toList, List.cons_append, List.nil_append, List.append_nil, if_true, if_false, Bool.false_eq_true, eq_self, not_true_eq_false, not_false_eq_true]
/-- known already -/
theorem m17k {o : Nat} (hk : gf h o 6 1 2 = some (.int 1)) : go d 17 0 [.ref o] [] h = some (none, h) := by
  have n10 : ¬ (1 : Int32) = 0 := by decide
  simp only [ee_17_0, ee_17_0N, ee_17_1, ee_17_4, ee_17_7, ee_17_8, ee_17_8N, ee_17_9, ee_17_12, ee_17_12N, ee_17_13, ee_17_16, ee_17_19, ee_17_22, ee_17_22N, ee_17_23, ee_17_26, ee_17_27, ee_17_30, ee_17_30N, ee_17_31, ee_17_32, ee_17_35, ee_17_35N, ee_17_36, ee_17_37, ee_17_40, ee_17_40N, ee_17_41, ee_17_42, ee_17_45, hk, n10, Option.bind_some, Option.toList, List.cons_append, List.nil_append, List.append_nil, if_true, if_false, Bool.false_eq_true, eq_self, not_true_eq_false, not_false_eq_true]
/-- firstPlace -/
theorem m20 {o j : Nat} {fp : List Int32} (A : BoardAt h 12 s csB ws bs rs) (f0 : gf h o 0 1 2 = some (.ref 12)) (f4 : gf h o 4 1 2 = some (.ref (o + 3))) (b4 : h[o + 3]? = some (ints fp)) (l4 : fp.length = 3) (hj : j < 3) : go d 20 0 [.ref o, .int (nI j)] [] h = some (some (.int (if j < ws.length then fp.getD j 0 else -6)), h) := by
  have h1 : ¬ nI j < 0 := nI_pos (by omega)
  have h3 := A.2.2.1.1
  have h4 : ¬ (3 : Int32) ≤ nI j := by rw [show (3 : Int32) = nI 3 by decide]; exact nI_nle2 (by omega) (by omega) (by omega)
  have i1 : ia h (o + 3) (nI j) = some (fp.getD j 0) := ia_at b4 (by omega) (by omega)
  by_cases hc : j < ws.length
  · have h2 : ¬ nI ws.length ≤ nI j := nI_nle2 (by omega) (by omega) hc
    simp only [ee_20_0, ee_20_1, ee_20_4, ee_20_5, ee_20_5N, ee_20_6, ee_20_9, ee_20_12, ee_20_15, ee_20_18, ee_20_19, ee_20_20, ee_20_23, ee_20_23N, ee_20_24, ee_20_27, ee_20_28, ee_20_29, ee_20_32, ee_20_34, f0, A.f1, A.2.2.1.f1, h1, h2, h4, f4, i1, hc, Option.bind_some, Option.toList, List.cons_append, List.nil_append, List.append_nil, if_true, if_false, Bool.false_eq_true, eq_self, not_true_eq_false, not_false_eq_true]
  · have h2 : nI ws.length ≤ nI j := nI_le (by omega) (by omega)
    simp only [ee_20_0, ee_20_1, ee_20_4, ee_20_5, ee_20_5N, ee_20_6, ee_20_9, ee_20_12, ee_20_15, ee_20_18, ee_20_19, ee_20_20, ee_20_23, ee_20_23N, ee_20_24, ee_20_27, ee_20_28, ee_20_29, ee_20_32, ee_20_34, f0, A.f1, A.2.2.1.f1, h1, h2, hc, Option.bind_some, Option.toList, List.cons_append, List.nil_append, List.append_nil, if_true, if_false, Bool.false_eq_true, eq_self, not_true_eq_false, not_false_eq_true]
end LK
