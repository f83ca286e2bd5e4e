/-! both at one call: what the class answers the reference answers -/
def LI (xs : List Int32) (h : aH) : Prop := h[4]? = some (.inr (.inl (2, xs))) ∧ h.length = 104 ∧ asl h ≤ 20000 ∧ ∃ g P i0 i1 a b, CI h g P i0 i1 (kI a b) ∧ MI h g P i0 i1 a b
def Bth (xs : List Int32) (h : aH) (mc : Nat) (ac : List Value) (mm : Nat) (am : List Value) : Prop := ∃ v h1 h2, go 39 mc 0 ac [] h = some (some (.int v), h1) ∧ go 39 mm 0 am [] h1 = some (some (.int v), h2) ∧ isC h 5 7 = true ∧ isC h1 96 8 = true ∧ h1[4]? = some (.inr (.inl (2, xs))) ∧ LI xs h2
theorem BoardG.gw {h : aH} {b : Nat} {g : gG} (B : BoardG h b g) : GW g := ⟨B.2, B.1.2.1.2.2, B.1.2.2.1.1, B.1.2.2.2.1.1⟩
section BT
variable {h h' h1 h2 : aH} {g i0 i1 g' i0' i1' : gG} {P P' : List Int32} {K : Int32} {a b a' b' : Bool} {xs : List Int32}
theorem CI.gw (C : CI h g P i0 i1 K) : GW g ∧ GW i0 ∧ GW i1 := ⟨C.1.2.2.2.2.1.gw, C.1.2.2.2.2.2.2.2.1.gw, C.1.2.2.2.2.2.2.2.2.gw⟩
theorem CI.up {lo hi : Nat} (O : Off h h' lo hi) (hl : 96 ≤ lo) (C : CI h g P i0 i1 K) : CI h' g P i0 i1 K := by
  obtain ⟨⟨c1, ⟨c2, c3⟩, c4, c5, c6, ⟨c7, c7b⟩, ⟨s, cs, c8⟩, c9, c10⟩, ⟨kn, q, x1, x2⟩, ⟨kg, r, y1, y2⟩⟩ := C
  exact ⟨⟨c1.off O (by omega), ⟨by rw [O.2 2 (by omega)]; exact c2, by rw [O.2 3 (by omega)]; exact c3⟩, by rw [O.2 5 (by omega)]; exact c4, by rw [O.2 33 (by omega)]; exact c5, c6.off O (by omega), ⟨c7.off O (by omega), c7b⟩, ⟨s, cs, c8.off O (by omega)⟩, c9.off O (by omega), c10.off O (by omega)⟩, ⟨kn, q, x1.off O (by omega), x2⟩, ⟨kg, r, y1.off O (by omega), y2⟩⟩
theorem MI.isc (M : MI h g P i0 i1 a b) : isC h 96 8 = true := by
  obtain ⟨S, I, PD, SQ, CV, FP, l, m, k, t, f, M, -⟩ := M
  exact M.F.2.2.2.2.2.2.2.2.2.2.2.2.2
theorem CI.isc (C : CI h g P i0 i1 K) : isC h 5 7 = true := (g5 C.1.2.2.1).2.2.2.2.2.2.2.2.2
theorem both_of {mc mm : Nat} {ac am : List Value} {v v' : Int32} (h4 : h[4]? = some (.inr (.inl (2, xs)))) (hl : h.length = 104) (ha : asl h ≤ 20000) (C : CI h g P i0 i1 (kI a b)) (M : MI h g P i0 i1 a b) (e1 : go 39 mc 0 ac [] h = some (some (.int v), h1)) (C1 : CI h1 g' P' i0' i1' (kI a' b')) (O1 : Off h h1 5 96) (e2 : go 39 mm 0 am [] h1 = some (some (.int v'), h2)) (ev : v' = v) (M2 : MI h2 g' P' i0' i1' a' b') (O2 : Off h1 h2 96 104) : Bth xs h mc ac mm am := by
  subst ev
  refine ⟨v', h1, h2, e1, e2, C.isc, (M.off O1 (by decide)).isc, by rw [O1.2 4 (by decide)]; exact h4, by rw [O2.2 4 (by decide), O1.2 4 (by decide)]; exact h4, by rw [O2.1, O1.1]; exact hl, ?_, g', P', i0', i1', a', b', C1.up O2 (by decide), M2⟩
  rw [asl_go e2 O2.1, asl_go e1 O1.1]
  exact ha
theorem b_side {x : Int32} (I : LI xs h) : Bth xs h 41 [.ref 5, .int x, aU] 73 [.ref 96, .int x, aU, aU] := by
  obtain ⟨h4, hl, ha, g, P, i0, i1, a, b, C, M⟩ := I
  obtain ⟨G, G0, G1⟩ := C.gw
  obtain ⟨h1, e1, C1, O1⟩ := c_side (d := 27) (v := x) C
  obtain ⟨h2, e2, M2, O2⟩ := o_side (d := 27) (v := x) G (M.off O1 (by decide))
  exact both_of h4 hl ha C M e1 C1 O1 e2 rfl M2 O2
theorem b_set {x y : Int32} (I : LI xs h) : Bth xs h 42 [.ref 5, .int x, .int y, aU] 74 [.ref 96, .int x, .int y, aU] := by
  obtain ⟨h4, hl, ha, g, P, i0, i1, a, b, C, M⟩ := I
  obtain ⟨G, G0, G1⟩ := C.gw
  obtain ⟨h1, e1, C1, O1⟩ := c_set (d := 27) (c := x) (x := y) C
  obtain ⟨h2, e2, M2, O2⟩ := o_set (d := 27) (c := x) (x := y) G (M.off O1 (by decide))
  exact both_of h4 hl ha C M e1 C1 O1 e2 rfl M2 O2
theorem b_at {x : Int32} (I : LI xs h) : Bth xs h 43 [.ref 5, .int x, aU] 75 [.ref 96, .int x] := by
  obtain ⟨h4, hl, ha, g, P, i0, i1, a, b, C, M⟩ := I
  obtain ⟨G, G0, G1⟩ := C.gw
  have e1 := c_at (d := 27) (c := x) C
  have C1 := C
  have O1 : Off h h 5 96 := Off.rf
  have M1 := M.off O1 (by decide)
  have e2 := o_at (d := 27) (c := x) G M1
  have M2 := M1
  have O2 := (Off.rf : Off h h 96 104)
  exact both_of h4 hl ha C M e1 C1 O1 e2 rfl M2 O2
theorem b_say {x : Int32} (I : LI xs h) : Bth xs h 44 [.ref 5, .int x] 76 [.ref 96, .int x] := by
  obtain ⟨h4, hl, ha, g, P, i0, i1, a, b, C, M⟩ := I
  obtain ⟨G, G0, G1⟩ := C.gw
  obtain ⟨h1, e1, C1, O1⟩ := c_say (d := 27) (x := x) C
  obtain ⟨h2, e2, M2, O2⟩ := o_say (d := 27) (x := x) (M.off O1 (by decide))
  exact both_of h4 hl ha C M e1 C1 O1 e2 rfl M2 O2
theorem b_wipe (I : LI xs h) : Bth xs h 45 [.ref 5, aU] 77 [.ref 96, aU] := by
  obtain ⟨h4, hl, ha, g, P, i0, i1, a, b, C, M⟩ := I
  obtain ⟨G, G0, G1⟩ := C.gw
  obtain ⟨h1, e1, C1, O1⟩ := c_wipe (d := 27) C
  obtain ⟨h2, e2, M2, O2⟩ := o_wipe (d := 27) (M.off O1 (by decide))
  exact both_of h4 hl ha C M e1 C1 O1 e2 rfl M2 O2
theorem b_take {x : Int32} (I : LI xs h) : Bth xs h 46 [.ref 5, .int x, aU] 79 [.ref 96, .int x, aU, aU] := by
  obtain ⟨h4, hl, ha, g, P, i0, i1, a, b, C, M⟩ := I
  obtain ⟨G, G0, G1⟩ := C.gw
  obtain ⟨h1, e1, C1, O1⟩ := c_take (d := 27) (k := x) C
  obtain ⟨h2, e2, M2, O2⟩ := o_take (d := 27) (x := x) G (M.off O1 (by decide))
  exact both_of h4 hl ha C M e1 C1 O1 e2 rfl M2 O2
theorem b_drop {x : Int32} (I : LI xs h) : Bth xs h 47 [.ref 5, .int x, aU] 80 [.ref 96, .int x, aU] := by
  obtain ⟨h4, hl, ha, g, P, i0, i1, a, b, C, M⟩ := I
  obtain ⟨G, G0, G1⟩ := C.gw
  obtain ⟨h1, e1, C1, O1⟩ := c_drop (d := 27) (k := x) C
  obtain ⟨h2, e2, M2, O2⟩ := o_drop (d := 27) (x := x) G (M.off O1 (by decide))
  exact both_of h4 hl ha C M e1 C1 O1 e2 rfl M2 O2
theorem b_fill (I : LI xs h) : Bth xs h 48 [.ref 5, aU, aU] 81 [.ref 96, aU, aU] := by
  obtain ⟨h4, hl, ha, g, P, i0, i1, a, b, C, M⟩ := I
  obtain ⟨G, G0, G1⟩ := C.gw
  obtain ⟨h1, e1, C1, O1⟩ := c_fill (d := 27) C
  obtain ⟨h2, e2, M2, O2⟩ := o_fill (d := 27) G (M.off O1 (by decide))
  exact both_of h4 hl ha C M e1 C1 O1 e2 rfl M2 O2
theorem b_letter {x y z : Int32} (I : LI xs h) : Bth xs h 49 [.ref 5, .int x, .int y, .int z, aU] 82 [.ref 96, .int x, .int y, .int z] := by
  obtain ⟨h4, hl, ha, g, P, i0, i1, a, b, C, M⟩ := I
  obtain ⟨G, G0, G1⟩ := C.gw
  have e1 := c_letter (d := 27) (k := x) (n := y) (i := z) C
  have C1 := C
  have O1 : Off h h 5 96 := Off.rf
  have M1 := M.off O1 (by decide)
  have e2 := o_letter (d := 27) (x := x) (y := y) (i := z) G M1
  have M2 := M1
  have O2 := (Off.rf : Off h h 96 104)
  exact both_of h4 hl ha C M e1 C1 O1 e2 rfl M2 O2
theorem b_stands {x y z : Int32} (I : LI xs h) : Bth xs h 50 [.ref 5, .int x, .int y, .int z, aU] 94 [.ref 96, .int x, .int y, .int z, aU, aU] := by
  obtain ⟨h4, hl, ha, g, P, i0, i1, a, b, C, M⟩ := I
  obtain ⟨G, G0, G1⟩ := C.gw
  have e1 := c_stands (d := 27) (k := x) (n := y) (i := z) C
  have C1 := C
  have O1 : Off h h 5 96 := Off.rf
  obtain ⟨h2, e2, M2, O2⟩ := o_stands (d := 27) (x := x) (y := y) (i := z) G (M.off O1 (by decide))
  exact both_of h4 hl ha C M e1 C1 O1 e2 rfl M2 O2
theorem b_put {x y : Int32} (I : LI xs h) : Bth xs h 51 [.ref 5, .int x, .int y, aU, aU] 96 [.ref 96, .int x, .int y, aU, aU, aU] := by
  obtain ⟨h4, hl, ha, g, P, i0, i1, a, b, C, M⟩ := I
  obtain ⟨G, G0, G1⟩ := C.gw
  obtain ⟨h1, e1, C1, O1⟩ := c_put (d := 27) (n := x) (p := y) C
  obtain ⟨h2, e2, M2, O2⟩ := o_put (d := 27) (y := x) (x := y) G (M.off O1 (by decide))
  exact both_of h4 hl ha C M e1 C1 O1 e2 rfl M2 O2
theorem b_fits {x y : Int32} (I : LI xs h) : Bth xs h 52 [.ref 5, .int x, .int y, aU, aU, aU, aU] 97 [.ref 96, .int x, .int y, aU, aU] := by
  obtain ⟨h4, hl, ha, g, P, i0, i1, a, b, C, M⟩ := I
  obtain ⟨G, G0, G1⟩ := C.gw
  have e1 := c_fits (d := 27) (n := x) (x := y) C
  have C1 := C
  have O1 : Off h h 5 96 := Off.rf
  have M1 := M.off O1 (by decide)
  have e2 := o_fits (d := 27) (y := x) (x := y) G M1
  have M2 := M1
  have O2 := (Off.rf : Off h h 96 104)
  exact both_of h4 hl ha C M e1 C1 O1 e2 rfl M2 O2
theorem b_covers {x y z : Int32} (I : LI xs h) : Bth xs h 54 [.ref 5, .int x, .int y, .int z, aU, aU, aU, aU, aU, aU] 107 [.ref 96, .int x, .int y, .int z] := by
  obtain ⟨h4, hl, ha, g, P, i0, i1, a, b, C, M⟩ := I
  obtain ⟨G, G0, G1⟩ := C.gw
  obtain ⟨h1, e1, C1, O1⟩ := c_covers (d := 27) (a := x) (b := y) (c := z) C
  obtain ⟨h2, e2, M2, O2⟩ := o_covers (d := 27) (x := x) (y := y) (z := z) G (M.off O1 (by decide))
  exact both_of h4 hl ha C M e1 C1 O1 e2 rfl M2 O2
theorem b_image {x : Int32} (I : LI xs h) : Bth xs h 57 [.ref 5, .int x] 114 [.ref 96, .int x, aU] := by
  obtain ⟨h4, hl, ha, g, P, i0, i1, a, b, C, M⟩ := I
  obtain ⟨G, G0, G1⟩ := C.gw
  obtain ⟨h1, e1, C1, O1⟩ := c_image (d := 27) (k := x) C
  obtain ⟨h2, e2, M2, O2⟩ := o_image (d := 27) (x := x) G G0 G1 (M.off O1 (by decide))
  exact both_of h4 hl ha C M e1 C1 O1 e2 rfl M2 O2
theorem b_restore {x : Int32} (I : LI xs h) : Bth xs h 58 [.ref 5, .int x] 115 [.ref 96, .int x, aU] := by
  obtain ⟨h4, hl, ha, g, P, i0, i1, a, b, C, M⟩ := I
  obtain ⟨G, G0, G1⟩ := C.gw
  obtain ⟨h1, e1, C1, O1⟩ := c_restore (d := 27) (k := x) C
  obtain ⟨h2, e2, M2, O2⟩ := o_restore (d := 27) (x := x) G0 G1 (M.off O1 (by decide))
  exact both_of h4 hl ha C M e1 C1 O1 e2 rfl M2 O2
theorem b_count {x : Int32} (I : LI xs h) : Bth xs h 59 [.ref 5, .int x] 118 [.ref 96, .int x] := by
  obtain ⟨h4, hl, ha, g, P, i0, i1, a, b, C, M⟩ := I
  obtain ⟨G, G0, G1⟩ := C.gw
  have e1 := c_count (d := 27) (x := x) C
  have C1 := C
  have O1 : Off h h 5 96 := Off.rf
  have M1 := M.off O1 (by decide)
  have e2 := o_count (d := 27) (x := x) (mk_bsum G.1) G M1
  have M2 := M1
  have O2 := (Off.rf : Off h h 96 104)
  exact both_of h4 hl ha C M e1 C1 O1 e2 rfl M2 O2
theorem b_most {x : Int32} (I : LI xs h) : Bth xs h 53 [.ref 5, .int x, aU] 105 [.ref 96, .int x] := by
  obtain ⟨h4, hl, ha, g, P, i0, i1, a, b, C, M⟩ := I
  obtain ⟨G, G0, G1⟩ := C.gw
  obtain ⟨m, w, fp, ps, hps, h1, e1, C1, O1⟩ := c_most (d := 27) (x := x) C
  obtain ⟨FP, h2, hFP, e2, M2, O2⟩ := o_most (d := 27) (x := x) G (M.off O1 (by decide))
  exact both_of h4 hl ha C M e1 C1 O1 e2 (most_ans G m w x fp hps).symm M2 O2
theorem b_good {x : Int32} (I : LI xs h) : Bth xs h 55 [.ref 5, .int x, aU, aU, aU] 112 [.ref 96, .int x] := by
  obtain ⟨h4, hl, ha, g, P, i0, i1, a, b, C, M⟩ := I
  obtain ⟨G, G0, G1⟩ := C.gw
  obtain ⟨f, r, ps, hps, h1, e1, C1, O1⟩ := c_good (d := 27) (x := x) C
  obtain ⟨FP, fl, h2, hFP, hfl, e2, M2, O2⟩ := o_good (d := 27) (x := x) G (good_ch G) (M.off O1 (by decide))
  exact both_of h4 hl ha C M e1 C1 O1 e2 (good_ans G f x r hps hfl).symm M2 O2
theorem b_hide (I : LI xs h) : Bth xs h 56 [.ref 5] 113 [.ref 96, aU, aU] := by
  obtain ⟨h4, hl, ha, g, P, i0, i1, a, b, C, M⟩ := I
  obtain ⟨G, G0, G1⟩ := C.gw
  obtain ⟨f, r, ps, hps, h1, e1, C1, O1⟩ := c_hide (d := 27) C
  obtain ⟨FP, hFP, k⟩ := o_hide (d := 27) G (good_ch G) (M.off O1 (by decide))
  rcases hide_ans G f r (FP := FP) hps with ⟨z1, z2⟩ | ⟨z1, z2, z3⟩
  · rw [if_pos z1] at e1 C1
    rcases k with ⟨-, h2, e2, M2, O2⟩ | ⟨y, -⟩
    · exact both_of h4 hl ha C M e1 C1 O1 e2 rfl M2 O2
    · exact absurd z2 y
  · rw [if_neg z1] at e1 C1
    rcases k with ⟨y, -⟩ | ⟨-, A, B, D, cs3, c1, c2, h2, e2, M2, O2⟩
    · exact absurd y z2
    · obtain ⟨w1, w2⟩ := z3 A B D cs3 c1 c2
      exact both_of h4 hl ha C M e1 C1 O1 e2 w1.symm (M2 _ w2) O2
end BT
