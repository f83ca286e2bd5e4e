/-! the reference: its cells, its small methods -/
def mObj (n l m k t f : Int32) : aC := .inl (8, [.ref 97, .ref 98, .ref 99, .ref 100, .int n, .ref 101, .ref 102, .int l, .int m, .int k, .int t, .ref 103, .int f])
def ML (h : aH) (S I PD SQ CV FP : List Int32) (a b : Bool) (n l m k t f : Int32) : Prop := h[96]? = some (mObj n l m k t f) ∧ (h[97]? = some (ints S) ∧ S.length = 59) ∧ (h[98]? = some (ints I) ∧ I.length = 118) ∧ h[99]? = some (.inr (.inl (1, [bI a, bI b]))) ∧ (h[100]? = some (ints PD) ∧ PD.length = 16) ∧ (h[101]? = some (ints SQ) ∧ SQ.length = 80) ∧ (h[102]? = some (ints CV) ∧ CV.length = 80) ∧ (h[103]? = some (ints FP) ∧ FP.length = 3)
def Enc (f : Nat → Int32) (g : gG) : Prop := f 0 = nI g.1 ∧ (∀ c, c < 16 → f (1 + c) = g.2.1.getD c 0) ∧ (f 26 = nI g.2.2.2.2.length ∧ ∀ i, i < g.2.2.2.2.length → f (17 + i) = g.2.2.2.2.getD i 0) ∧ (f 27 = nI g.2.2.1.length ∧ f 28 = nI g.2.2.2.1.length) ∧ (∀ k, k < g.2.2.1.length → f (53 + k) = nI (g.2.2.1.getD k []).length ∧ ∀ i, i < (g.2.2.1.getD k []).length → f (29 + 4 * k + i) = (g.2.2.1.getD k []).getD i 0) ∧ (∀ k, k < g.2.2.2.1.length → f (56 + k) = nI (g.2.2.2.1.getD k []).length ∧ ∀ i, i < (g.2.2.2.1.getD k []).length → f (41 + 4 * k + i) = (g.2.2.2.1.getD k []).getD i 0)
def GW (g : gG) : Prop := gOk g ∧ g.2.1.length = 16 ∧ g.2.2.1.length ≤ 3 ∧ g.2.2.2.1.length ≤ 3
def MI (h : aH) (g : gG) (P : List Int32) (i0 i1 : gG) (a b : Bool) : Prop := ∃ S I PD SQ CV FP l m k t f, ML h S I PD SQ CV FP a b (nI P.length) l m k t f ∧ Enc (fun j => S.getD j 0) g ∧ (a = true → Enc (fun j => I.getD j 0) i0) ∧ (b = true → Enc (fun j => I.getD (59 + j) 0) i1) ∧ (P.length ≤ 16 ∧ ∀ i, i < P.length → PD.getD i 0 = P.getD i 0)
theorem go_iter {d M pc : Nat} (J : Nat → List Value → aH → Prop) : ∀ n, (∀ i ls h, i < n → J i ls h → ∃ ls' h', go d M pc ls [] h = go d M pc ls' [] h' ∧ J (i + 1) ls' h') → ∀ ls h, J 0 ls h → ∃ ls' h', go d M pc ls [] h = go d M pc ls' [] h' ∧ J n ls' h'
  | 0, _, ls, h, j => ⟨ls, h, rfl, j⟩
  | n + 1, st, ls, h, j => by
    obtain ⟨ls1, h1, e1, j1⟩ := go_iter J n (fun i ls h hi => st i ls h (by omega)) ls h j
    obtain ⟨ls2, h2, e2, j2⟩ := st n ls1 h1 (by omega) j1
    exact ⟨ls2, h2, e1.trans e2, j2⟩
section MD
variable {h h' h0 : aH} {g g' i0 i1 : gG} {P P' S I PD SQ CV FP : List Int32} {a b : Bool} {n l m k t f : Int32} {lo hi d : Nat}
theorem Enc.congr {f f' : Nat → Int32} (E : Enc f g) (hG : GW g) (e : ∀ j, j < 59 → f' j = f j) : Enc f' g := by
  obtain ⟨e1, e2, ⟨e3, e4⟩, ⟨e5, e6⟩, e7, e8⟩ := E
  obtain ⟨k, k1, k2, k3⟩ := hG
  refine ⟨by rw [e 0 (by omega)]; exact e1, fun c hc => by rw [e _ (by omega)]; exact e2 c hc, ⟨by rw [e _ (by omega)]; exact e3, fun i hi => by rw [e _ (by have := k.2.2.2.2.2.2.1; omega)]; exact e4 i hi⟩, ⟨by rw [e _ (by omega)]; exact e5, by rw [e _ (by omega)]; exact e6⟩, ?_, ?_⟩
  · intro j hj
    have hm : (g.2.2.1.getD j []).length ≤ 4 := (k.2.2.2.1 _ (by rw [List.getD_eq_getElem?_getD, List.getElem?_eq_getElem hj]; exact List.getElem_mem hj)).2.1
    exact ⟨by rw [e _ (by omega)]; exact (e7 j hj).1, fun i hi => by rw [e _ (by omega)]; exact (e7 j hj).2 i hi⟩
  · intro j hj
    have hm : (g.2.2.2.1.getD j []).length ≤ 4 := (k.2.2.2.2.1 _ (by rw [List.getD_eq_getElem?_getD, List.getElem?_eq_getElem hj]; exact List.getElem_mem hj)).2.1
    exact ⟨by rw [e _ (by omega)]; exact (e8 j hj).1, fun i hi => by rw [e _ (by omega)]; exact (e8 j hj).2 i hi⟩
theorem Enc.cellsS {s' : Nat} {f f' : Nat → Int32} {cs' : List Int32} (E : Enc f g) (hG : GW g) (e0 : f' 0 = nI s') (e : ∀ j, j < 59 → 17 ≤ j → f' j = f j) (hc : ∀ c, c < 16 → f' (1 + c) = cs'.getD c 0) : Enc f' (s', cs', g.2.2) := by
  obtain ⟨e1, e2, ⟨e3, e4⟩, ⟨e5, e6⟩, e7, e8⟩ := E
  obtain ⟨k, k1, k2, k3⟩ := hG
  refine ⟨e0, hc, ⟨by rw [e _ (by omega) (by omega)]; exact e3, fun i hi => by rw [e _ (by have := k.2.2.2.2.2.2.1; simp only at hi; omega) (by omega)]; exact e4 i hi⟩, ⟨by rw [e _ (by omega) (by omega)]; exact e5, by rw [e _ (by omega) (by omega)]; exact e6⟩, ?_, ?_⟩
  · intro j hj
    simp only at hj ⊢
    have hm : (g.2.2.1.getD j []).length ≤ 4 := (k.2.2.2.1 _ (by rw [List.getD_eq_getElem?_getD, List.getElem?_eq_getElem hj]; exact List.getElem_mem hj)).2.1
    exact ⟨by rw [e _ (by omega) (by omega)]; exact (e7 j hj).1, fun i hi => by rw [e _ (by omega) (by omega)]; exact (e7 j hj).2 i hi⟩
  · intro j hj
    simp only at hj ⊢
    have hm : (g.2.2.2.1.getD j []).length ≤ 4 := (k.2.2.2.2.1 _ (by rw [List.getD_eq_getElem?_getD, List.getElem?_eq_getElem hj]; exact List.getElem_mem hj)).2.1
    exact ⟨by rw [e _ (by omega) (by omega)]; exact (e8 j hj).1, fun i hi => by rw [e _ (by omega) (by omega)]; exact (e8 j hj).2 i hi⟩
theorem Enc.cells {f f' : Nat → Int32} {cs' : List Int32} (E : Enc f g) (hG : GW g) (e : ∀ j, j < 59 → (j = 0 ∨ 17 ≤ j) → f' j = f j) (hc : ∀ c, c < 16 → f' (1 + c) = cs'.getD c 0) : Enc f' (g.1, cs', g.2.2) := E.cellsS hG ((e 0 (by omega) (by omega)).trans E.1) (fun j h1 h2 => e j h1 (Or.inr h2)) hc
theorem ML.off (O : Off h h' lo hi) (M : ML h S I PD SQ CV FP a b n l m k t f) (hd : hi ≤ 96) : ML h' S I PD SQ CV FP a b n l m k t f := by
  obtain ⟨a1, ⟨a2, l2⟩, ⟨a3, l3⟩, a4, ⟨a5, l5⟩, ⟨a6, l6⟩, ⟨a7, l7⟩, a8, l8⟩ := M
  exact ⟨by rw [O.2 _ (by omega)]; exact a1, ⟨by rw [O.2 _ (by omega)]; exact a2, l2⟩, ⟨by rw [O.2 _ (by omega)]; exact a3, l3⟩, by rw [O.2 _ (by omega)]; exact a4, ⟨by rw [O.2 _ (by omega)]; exact a5, l5⟩, ⟨by rw [O.2 _ (by omega)]; exact a6, l6⟩, ⟨by rw [O.2 _ (by omega)]; exact a7, l7⟩, by rw [O.2 _ (by omega)]; exact a8, l8⟩
theorem MI.off (O : Off h h' lo hi) (M : MI h g P i0 i1 a b) (hd : hi ≤ 96) : MI h' g P i0 i1 a b := by
  obtain ⟨S, I, PD, SQ, CV, FP, l, m, k, t, f, M, r⟩ := M
  exact ⟨S, I, PD, SQ, CV, FP, l, m, k, t, f, M.off O hd, r⟩
theorem ML.F (M : ML h S I PD SQ CV FP a b n l m k t f) : gf h 96 0 8 8 = some (.ref 97) ∧ gf h 96 1 8 8 = some (.ref 98) ∧ gf h 96 2 8 8 = some (.ref 99) ∧ gf h 96 3 8 8 = some (.ref 100) ∧ gf h 96 4 8 8 = some (.int n) ∧ gf h 96 5 8 8 = some (.ref 101) ∧ gf h 96 6 8 8 = some (.ref 102) ∧ gf h 96 7 8 8 = some (.int l) ∧ gf h 96 8 8 8 = some (.int m) ∧ gf h 96 9 8 8 = some (.int k) ∧ gf h 96 10 8 8 = some (.int t) ∧ gf h 96 11 8 8 = some (.ref 103) ∧ gf h 96 12 8 8 = some (.int f) ∧ isC h 96 8 = true := by
  refine ⟨?_, ?_, ?_, ?_, ?_, ?_, ?_, ?_, ?_, ?_, ?_, ?_, ?_, ?_⟩
  all_goals first | (unfold gf; rw [M.1]; rfl) | (unfold isC; rw [M.1]; rfl)
/-- reading -/
theorem ML.r97 {j : Nat} (M : ML h S I PD SQ CV FP a b n l m k t f) (hj : j < 59) : ia h 97 (nI j) = some (S.getD j 0) := ia_at M.2.1.1 (by rw [M.2.1.2]; exact hj) (by rw [M.2.1.2]; decide)
theorem ML.r98 {j : Nat} (M : ML h S I PD SQ CV FP a b n l m k t f) (hj : j < 118) : ia h 98 (nI j) = some (I.getD j 0) := ia_at M.2.2.1.1 (by rw [M.2.2.1.2]; exact hj) (by rw [M.2.2.1.2]; decide)
theorem ML.r100 {j : Nat} (M : ML h S I PD SQ CV FP a b n l m k t f) (hj : j < 16) : ia h 100 (nI j) = some (PD.getD j 0) := ia_at M.2.2.2.2.1.1 (by rw [M.2.2.2.2.1.2]; exact hj) (by rw [M.2.2.2.2.1.2]; decide)
theorem ML.r101 {j : Nat} (M : ML h S I PD SQ CV FP a b n l m k t f) (hj : j < 80) : ia h 101 (nI j) = some (SQ.getD j 0) := ia_at M.2.2.2.2.2.1.1 (by rw [M.2.2.2.2.2.1.2]; exact hj) (by rw [M.2.2.2.2.2.1.2]; decide)
theorem ML.r102 {j : Nat} (M : ML h S I PD SQ CV FP a b n l m k t f) (hj : j < 80) : ia h 102 (nI j) = some (CV.getD j 0) := ia_at M.2.2.2.2.2.2.1.1 (by rw [M.2.2.2.2.2.2.1.2]; exact hj) (by rw [M.2.2.2.2.2.2.1.2]; decide)
theorem ML.r103 {j : Nat} (M : ML h S I PD SQ CV FP a b n l m k t f) (hj : j < 3) : ia h 103 (nI j) = some (FP.getD j 0) := ia_at M.2.2.2.2.2.2.2.1 (by rw [M.2.2.2.2.2.2.2.2]; exact hj) (by rw [M.2.2.2.2.2.2.2.2]; decide)
/-- writing -/
theorem ML.w97 {j : Nat} (x : Int32) (M : ML h S I PD SQ CV FP a b n l m k t f) (hj : j < 59) : ∃ h', is_ h 97 (nI j) x = some h' ∧ ML h' (S.set j x) I PD SQ CV FP a b n l m k t f ∧ Off h h' 96 104 := by
  obtain ⟨a1, ⟨a2, l2⟩, ⟨a3, l3⟩, a4, ⟨a5, l5⟩, ⟨a6, l6⟩, ⟨a7, l7⟩, a8, l8⟩ := M
  exact ⟨_, is_at a2 (by omega) (by omega), ⟨by rw [set_ne (by decide)]; exact a1, ⟨set_at (at_lt a2), by rw [List.length_set]; exact l2⟩, ⟨by rw [set_ne (by decide)]; exact a3, l3⟩, by rw [set_ne (by decide)]; exact a4, ⟨by rw [set_ne (by decide)]; exact a5, l5⟩, ⟨by rw [set_ne (by decide)]; exact a6, l6⟩, ⟨by rw [set_ne (by decide)]; exact a7, l7⟩, by rw [set_ne (by decide)]; exact a8, l8⟩, Off.set (by decide) (by decide)⟩
theorem ML.w98 {j : Nat} (x : Int32) (M : ML h S I PD SQ CV FP a b n l m k t f) (hj : j < 118) : ∃ h', is_ h 98 (nI j) x = some h' ∧ ML h' S (I.set j x) PD SQ CV FP a b n l m k t f ∧ Off h h' 96 104 := by
  obtain ⟨a1, ⟨a2, l2⟩, ⟨a3, l3⟩, a4, ⟨a5, l5⟩, ⟨a6, l6⟩, ⟨a7, l7⟩, a8, l8⟩ := M
  exact ⟨_, is_at a3 (by omega) (by omega), ⟨by rw [set_ne (by decide)]; exact a1, ⟨by rw [set_ne (by decide)]; exact a2, l2⟩, ⟨set_at (at_lt a3), by rw [List.length_set]; exact l3⟩, by rw [set_ne (by decide)]; exact a4, ⟨by rw [set_ne (by decide)]; exact a5, l5⟩, ⟨by rw [set_ne (by decide)]; exact a6, l6⟩, ⟨by rw [set_ne (by decide)]; exact a7, l7⟩, by rw [set_ne (by decide)]; exact a8, l8⟩, Off.set (by decide) (by decide)⟩
theorem ML.w100 {j : Nat} (x : Int32) (M : ML h S I PD SQ CV FP a b n l m k t f) (hj : j < 16) : ∃ h', is_ h 100 (nI j) x = some h' ∧ ML h' S I (PD.set j x) SQ CV FP a b n l m k t f ∧ Off h h' 96 104 := by
  obtain ⟨a1, ⟨a2, l2⟩, ⟨a3, l3⟩, a4, ⟨a5, l5⟩, ⟨a6, l6⟩, ⟨a7, l7⟩, a8, l8⟩ := M
  exact ⟨_, is_at a5 (by omega) (by omega), ⟨by rw [set_ne (by decide)]; exact a1, ⟨by rw [set_ne (by decide)]; exact a2, l2⟩, ⟨by rw [set_ne (by decide)]; exact a3, l3⟩, by rw [set_ne (by decide)]; exact a4, ⟨set_at (at_lt a5), by rw [List.length_set]; exact l5⟩, ⟨by rw [set_ne (by decide)]; exact a6, l6⟩, ⟨by rw [set_ne (by decide)]; exact a7, l7⟩, by rw [set_ne (by decide)]; exact a8, l8⟩, Off.set (by decide) (by decide)⟩
theorem ML.w101 {j : Nat} (x : Int32) (M : ML h S I PD SQ CV FP a b n l m k t f) (hj : j < 80) : ∃ h', is_ h 101 (nI j) x = some h' ∧ ML h' S I PD (SQ.set j x) CV FP a b n l m k t f ∧ Off h h' 96 104 := by
  obtain ⟨a1, ⟨a2, l2⟩, ⟨a3, l3⟩, a4, ⟨a5, l5⟩, ⟨a6, l6⟩, ⟨a7, l7⟩, a8, l8⟩ := M
  exact ⟨_, is_at a6 (by omega) (by omega), ⟨by rw [set_ne (by decide)]; exact a1, ⟨by rw [set_ne (by decide)]; exact a2, l2⟩, ⟨by rw [set_ne (by decide)]; exact a3, l3⟩, by rw [set_ne (by decide)]; exact a4, ⟨by rw [set_ne (by decide)]; exact a5, l5⟩, ⟨set_at (at_lt a6), by rw [List.length_set]; exact l6⟩, ⟨by rw [set_ne (by decide)]; exact a7, l7⟩, by rw [set_ne (by decide)]; exact a8, l8⟩, Off.set (by decide) (by decide)⟩
theorem ML.w102 {j : Nat} (x : Int32) (M : ML h S I PD SQ CV FP a b n l m k t f) (hj : j < 80) : ∃ h', is_ h 102 (nI j) x = some h' ∧ ML h' S I PD SQ (CV.set j x) FP a b n l m k t f ∧ Off h h' 96 104 := by
  obtain ⟨a1, ⟨a2, l2⟩, ⟨a3, l3⟩, a4, ⟨a5, l5⟩, ⟨a6, l6⟩, ⟨a7, l7⟩, a8, l8⟩ := M
  exact ⟨_, is_at a7 (by omega) (by omega), ⟨by rw [set_ne (by decide)]; exact a1, ⟨by rw [set_ne (by decide)]; exact a2, l2⟩, ⟨by rw [set_ne (by decide)]; exact a3, l3⟩, by rw [set_ne (by decide)]; exact a4, ⟨by rw [set_ne (by decide)]; exact a5, l5⟩, ⟨by rw [set_ne (by decide)]; exact a6, l6⟩, ⟨set_at (at_lt a7), by rw [List.length_set]; exact l7⟩, by rw [set_ne (by decide)]; exact a8, l8⟩, Off.set (by decide) (by decide)⟩
theorem ML.w103 {j : Nat} (x : Int32) (M : ML h S I PD SQ CV FP a b n l m k t f) (hj : j < 3) : ∃ h', is_ h 103 (nI j) x = some h' ∧ ML h' S I PD SQ CV (FP.set j x) a b n l m k t f ∧ Off h h' 96 104 := by
  obtain ⟨a1, ⟨a2, l2⟩, ⟨a3, l3⟩, a4, ⟨a5, l5⟩, ⟨a6, l6⟩, ⟨a7, l7⟩, a8, l8⟩ := M
  exact ⟨_, is_at a8 (by omega) (by omega), ⟨by rw [set_ne (by decide)]; exact a1, ⟨by rw [set_ne (by decide)]; exact a2, l2⟩, ⟨by rw [set_ne (by decide)]; exact a3, l3⟩, by rw [set_ne (by decide)]; exact a4, ⟨by rw [set_ne (by decide)]; exact a5, l5⟩, ⟨by rw [set_ne (by decide)]; exact a6, l6⟩, ⟨by rw [set_ne (by decide)]; exact a7, l7⟩, set_at (at_lt a8), by rw [List.length_set]; exact l8⟩, Off.set (by decide) (by decide)⟩
theorem ML.obj {n' l' m' k' t' f' : Int32} (M : ML h S I PD SQ CV FP a b n l m k t f) : ML (h.set 96 (mObj n' l' m' k' t' f')) S I PD SQ CV FP a b n' l' m' k' t' f' ∧ Off h (h.set 96 (mObj n' l' m' k' t' f')) 96 104 := by
  obtain ⟨a1, ⟨a2, l2⟩, ⟨a3, l3⟩, a4, ⟨a5, l5⟩, ⟨a6, l6⟩, ⟨a7, l7⟩, a8, l8⟩ := M
  exact ⟨⟨set_at (at_lt a1), ⟨by rw [set_ne (by decide)]; exact a2, l2⟩, ⟨by rw [set_ne (by decide)]; exact a3, l3⟩, by rw [set_ne (by decide)]; exact a4, ⟨by rw [set_ne (by decide)]; exact a5, l5⟩, ⟨by rw [set_ne (by decide)]; exact a6, l6⟩, ⟨by rw [set_ne (by decide)]; exact a7, l7⟩, by rw [set_ne (by decide)]; exact a8, l8⟩, Off.set (by decide) (by decide)⟩
theorem ML.p4 (x : Int32) (M : ML h S I PD SQ CV FP a b n l m k t f) : ∃ h', pf h 96 4 8 8 0 (.int x) = some h' ∧ ML h' S I PD SQ CV FP a b x l m k t f ∧ Off h h' 96 104 := ⟨_, pf_at M.1 (show 4 < 13 by decide) rfl, M.obj.1, M.obj.2⟩
theorem ML.p7 (x : Int32) (M : ML h S I PD SQ CV FP a b n l m k t f) : ∃ h', pf h 96 7 8 8 0 (.int x) = some h' ∧ ML h' S I PD SQ CV FP a b n x m k t f ∧ Off h h' 96 104 := ⟨_, pf_at M.1 (show 7 < 13 by decide) rfl, M.obj.1, M.obj.2⟩
theorem ML.p8 (x : Int32) (M : ML h S I PD SQ CV FP a b n l m k t f) : ∃ h', pf h 96 8 8 8 0 (.int x) = some h' ∧ ML h' S I PD SQ CV FP a b n l x k t f ∧ Off h h' 96 104 := ⟨_, pf_at M.1 (show 8 < 13 by decide) rfl, M.obj.1, M.obj.2⟩
theorem ML.p9 (x : Int32) (M : ML h S I PD SQ CV FP a b n l m k t f) : ∃ h', pf h 96 9 8 8 0 (.int x) = some h' ∧ ML h' S I PD SQ CV FP a b n l m x t f ∧ Off h h' 96 104 := ⟨_, pf_at M.1 (show 9 < 13 by decide) rfl, M.obj.1, M.obj.2⟩
theorem ML.p10 (x : Int32) (M : ML h S I PD SQ CV FP a b n l m k t f) : ∃ h', pf h 96 10 8 8 0 (.int x) = some h' ∧ ML h' S I PD SQ CV FP a b n l m k x f ∧ Off h h' 96 104 := ⟨_, pf_at M.1 (show 10 < 13 by decide) rfl, M.obj.1, M.obj.2⟩
theorem ML.p12 (x : Bool) (M : ML h S I PD SQ CV FP a b n l m k t f) : ∃ h', pf h 96 12 8 8 1 (.int (bI x)) = some h' ∧ ML h' S I PD SQ CV FP a b n l m k t (bI x) ∧ Off h h' 96 104 := ⟨_, pf_at M.1 (show 12 < 13 by decide) (by cases x <;> rfl), M.obj.1, M.obj.2⟩
/-- in, cells, isCell, isLetter, isPlace, isWord, longOf, letterOf -/
theorem o65 {v x y : Int32} : go d 65 0 [.int v, .int x, .int y] [] h = some (some (.int (if v < x ∨ y < v then 0 else 1)), h) := by
  by_cases h1 : v < x
  · simp only [ee_65_0, ee_65_1, ee_65_2, ee_65_5, ee_65_6, ee_65_7, ee_65_10, ee_65_11, ee_65_14, ee_65_15, ee_65_15T, h1, true_or, Option.bind_some, Option.toList, List.cons_append, List.nil_append, List.append_nil, if_true, if_false, Bool.false_eq_true, eq_self, not_true_eq_false, not_false_eq_true]
  · by_cases h2 : y < v
    · simp only [ee_65_0, ee_65_1, ee_65_2, ee_65_5, ee_65_6, ee_65_7, ee_65_10, ee_65_11, ee_65_14, ee_65_15, ee_65_15T, h1, h2, or_true, Option.bind_some, Option.toList, List.cons_append, List.nil_append, List.append_nil, if_true, if_false, Bool.false_eq_true, eq_self, not_true_eq_false, not_false_eq_true]
    · simp only [ee_65_0, ee_65_1, ee_65_2, ee_65_5, ee_65_6, ee_65_7, ee_65_10, ee_65_11, ee_65_14, ee_65_15, ee_65_15T, h1, h2, or_self, Option.bind_some, Option.toList, List.cons_append, List.nil_append, List.append_nil, if_true, if_false, Bool.false_eq_true, eq_self, not_true_eq_false, not_false_eq_true]
theorem o68 {v : Int32} : go (d + 1) 68 0 [.int v] [] h = some (some (.int (if 97 ≤ v ∧ v ≤ 122 then 1 else 0)), h) := by
  have e := o65 (d := d) (h := h) (v := v) (x := 97) (y := 122)
  by_cases h1 : v < 97
  · have n1 : ¬ 97 ≤ v := Int32.not_le.mpr h1
    simp only [h1, true_or, if_true] at e
    simp only [ee_68_0, ee_68_1, ee_68_3, ee_68_5, ee_68_8, ee_68_8T, e, n1, false_and, Option.bind_some, Option.toList, List.cons_append, List.nil_append, List.append_nil, if_true, if_false, Bool.false_eq_true, eq_self, not_true_eq_false, not_false_eq_true]
  · have n1 : 97 ≤ v := Int32.not_lt.mp h1
    by_cases h2 : 122 < v
    · have n2 : ¬ v ≤ 122 := Int32.not_le.mpr h2
      simp only [h2, or_true, if_true] at e
      simp only [ee_68_0, ee_68_1, ee_68_3, ee_68_5, ee_68_8, ee_68_8T, e, n1, n2, and_false, Option.bind_some, Option.toList, List.cons_append, List.nil_append, List.append_nil, if_true, if_false, Bool.false_eq_true, eq_self, not_true_eq_false, not_false_eq_true]
    · have n2 : v ≤ 122 := Int32.not_lt.mp h2
      simp only [h1, h2, or_self, if_false] at e
      simp only [ee_68_0, ee_68_1, ee_68_3, ee_68_5, ee_68_8, ee_68_8T, e, n1, n2, and_self, Option.bind_some, Option.toList, List.cons_append, List.nil_append, List.append_nil, if_true, if_false, Bool.false_eq_true, eq_self, not_true_eq_false, not_false_eq_true]
theorem im1 {n : Nat} (hn : n < 2 ^ 31) (x : Int32) : nI n - 1 < x ↔ nI n ≤ x := by
  rw [Int32.lt_iff_toInt_lt, Int32.le_iff_toInt_le]
  have e : (nI n - 1).toInt = (n : Int) - 1 := by
    cases n with
    | zero => decide
    | succ n => rw [nI_pred, nI_toInt (by omega)]; omega
  rw [e, nI_toInt hn]
  omega
theorem o66 {s : Nat} (M : ML h S I PD SQ CV FP a b n l m k t f) (e0 : S.getD 0 0 = nI s) : go d 66 0 [.ref 96] [] h = some (some (.int (nI (s * s))), h) := by
  have r0 : ia h 97 0 = some (nI s) := by rw [← e0]; exact M.r97 (j := 0) (by decide)
  simp only [ee_66_0, ee_66_0N, ee_66_1, ee_66_4, ee_66_5, ee_66_6, ee_66_6N, ee_66_7, ee_66_10, ee_66_11, ee_66_12, ee_66_13, M.F, r0, pk_mul, Option.bind_some, Option.toList, List.cons_append, List.nil_append, List.append_nil, if_true, if_false, Bool.false_eq_true, eq_self, not_true_eq_false, not_false_eq_true]
theorem o67 {s : Nat} {x : Int32} (hs : sideOk s) (M : ML h S I PD SQ CV FP a b n l m k t f) (e0 : S.getD 0 0 = nI s) : go (d + 1) 67 0 [.ref 96, .int x] [] h = some (some (.int (if x < 0 ∨ nI (s * s) ≤ x then 0 else 1)), h) := by
  have hq := (sq_lt hs).1
  have e := o65 (d := d) (h := h) (v := x) (x := 0) (y := nI (s * s) - 1)
  simp only [im1 (n := s * s) (by omega)] at e
  have e66 := o66 (d := d) M e0
  by_cases hx : x < 0 ∨ nI (s * s) ≤ x
  · rw [if_pos hx] at e ⊢
    simp only [ee_67_0, ee_67_1, ee_67_2, ee_67_2N, ee_67_3, ee_67_6, ee_67_7, ee_67_8, ee_67_11, ee_67_11T, M.F, e66, e, Option.bind_some, Option.toList, List.cons_append, List.nil_append, List.append_nil, if_true, if_false, Bool.false_eq_true, eq_self, not_true_eq_false, not_false_eq_true]
  · rw [if_neg hx] at e ⊢
    simp only [ee_67_0, ee_67_1, ee_67_2, ee_67_2N, ee_67_3, ee_67_6, ee_67_7, ee_67_8, ee_67_11, ee_67_11T, M.F, e66, e, Option.bind_some, Option.toList, List.cons_append, List.nil_append, List.append_nil, if_true, if_false, Bool.false_eq_true, eq_self, not_true_eq_false, not_false_eq_true]
theorem o69 {s : Nat} {x : Int32} (hs : sideOk s) (M : ML h S I PD SQ CV FP a b n l m k t f) (e0 : S.getD 0 0 = nI s) : go (d + 1) 69 0 [.ref 96, .int x] [] h = some (some (.int (if x < 0 ∨ nI (8 * s * s) ≤ x then 0 else 1)), h) := by
  have hq := (sq_lt hs).2
  have e := o65 (d := d) (h := h) (v := x) (x := 0) (y := nI (8 * s * s) - 1)
  simp only [im1 (n := 8 * s * s) (by omega)] at e
  have e66 := o66 (d := d) M e0
  have e8 : (8 : Int32) * nI (s * s) = nI (8 * s * s) := by rw [show (8 : Int32) = nI 8 by decide, pk_mul, Nat.mul_assoc]
  by_cases hx : x < 0 ∨ nI (8 * s * s) ≤ x
  · rw [if_pos hx] at e ⊢
    simp only [ee_69_0, ee_69_1, ee_69_2, ee_69_4, ee_69_4N, ee_69_5, ee_69_8, ee_69_9, ee_69_10, ee_69_11, ee_69_14, ee_69_14T, M.F, e66, e8, e, Option.bind_some, Option.toList, List.cons_append, List.nil_append, List.append_nil, if_true, if_false, Bool.false_eq_true, eq_self, not_true_eq_false, not_false_eq_true]
  · rw [if_neg hx] at e ⊢
    simp only [ee_69_0, ee_69_1, ee_69_2, ee_69_4, ee_69_4N, ee_69_5, ee_69_8, ee_69_9, ee_69_10, ee_69_11, ee_69_14, ee_69_14T, M.F, e66, e8, e, Option.bind_some, Option.toList, List.cons_append, List.nil_append, List.append_nil, if_true, if_false, Bool.false_eq_true, eq_self, not_true_eq_false, not_false_eq_true]
theorem o70 {kd j : Nat} {x : Int32} (M : ML h S I PD SQ CV FP a b n l m k t f) (hk : kd < 2) (hj : j < 100) (e0 : S.getD (27 + kd) 0 = nI j) : go (d + 1) 70 0 [.ref 96, .int (nI kd), .int x] [] h = some (some (.int (if x < 0 ∨ nI j ≤ x then 0 else 1)), h) := by
  have e := o65 (d := d) (h := h) (v := x) (x := 0) (y := nI j - 1)
  simp only [im1 (n := j) (by omega)] at e
  have r0 : ia h 97 (27 + nI kd) = some (nI j) := by rw [show (27 : Int32) = nI 27 by decide, nI_add, ← e0]; exact M.r97 (by omega)
  by_cases hx : x < 0 ∨ nI j ≤ x
  · rw [if_pos hx] at e ⊢
    simp only [ee_70_0, ee_70_1, ee_70_2, ee_70_2N, ee_70_3, ee_70_6, ee_70_8, ee_70_9, ee_70_10, ee_70_11, ee_70_12, ee_70_13, ee_70_16, ee_70_16T, M.F, r0, e, Option.bind_some, Option.toList, List.cons_append, List.nil_append, List.append_nil, if_true, if_false, Bool.false_eq_true, eq_self, not_true_eq_false, not_false_eq_true]
  · rw [if_neg hx] at e ⊢
    simp only [ee_70_0, ee_70_1, ee_70_2, ee_70_2N, ee_70_3, ee_70_6, ee_70_8, ee_70_9, ee_70_10, ee_70_11, ee_70_12, ee_70_13, ee_70_16, ee_70_16T, M.F, r0, e, Option.bind_some, Option.toList, List.cons_append, List.nil_append, List.append_nil, if_true, if_false, Bool.false_eq_true, eq_self, not_true_eq_false, not_false_eq_true]
theorem o71 {kd j : Nat} (M : ML h S I PD SQ CV FP a b n l m k t f) (hk : kd < 2) (hj : j < 3) : go d 71 0 [.ref 96, .int (nI kd), .int (nI j)] [] h = some (some (.int (S.getD (53 + 3 * kd + j) 0)), h) := by
  have r0 : ia h 97 (53 + 3 * nI kd + nI j) = some (S.getD (53 + 3 * kd + j) 0) := by rw [show (53 : Int32) = nI 53 by decide, show (3 : Int32) = nI 3 by decide, pk_mul, nI_add, nI_add]; exact M.r97 (by omega)
  simp only [ee_71_0, ee_71_0N, ee_71_1, ee_71_4, ee_71_6, ee_71_7, ee_71_8, ee_71_9, ee_71_10, ee_71_11, ee_71_12, ee_71_13, M.F, r0, Option.bind_some, Option.toList, List.cons_append, List.nil_append, List.append_nil, if_true, if_false, Bool.false_eq_true, eq_self, not_true_eq_false, not_false_eq_true]
theorem o72 {kd j i : Nat} (M : ML h S I PD SQ CV FP a b n l m k t f) (hk : kd < 2) (hj : j < 3) (hi : i < 4) : go d 72 0 [.ref 96, .int (nI kd), .int (nI j), .int (nI i)] [] h = some (some (.int (S.getD (29 + 12 * kd + 4 * j + i) 0)), h) := by
  have r0 : ia h 97 (29 + 12 * nI kd + 4 * nI j + nI i) = some (S.getD (29 + 12 * kd + 4 * j + i) 0) := by rw [show (29 : Int32) = nI 29 by decide, show (12 : Int32) = nI 12 by decide, show (4 : Int32) = nI 4 by decide, pk_mul, pk_mul, nI_add, nI_add, nI_add]; exact M.r97 (by omega)
  simp only [ee_72_0, ee_72_0N, ee_72_1, ee_72_4, ee_72_6, ee_72_8, ee_72_9, ee_72_10, ee_72_11, ee_72_12, ee_72_13, ee_72_14, ee_72_15, ee_72_16, ee_72_17, ee_72_18, M.F, r0, Option.bind_some, Option.toList, List.cons_append, List.nil_append, List.append_nil, if_true, if_false, Bool.false_eq_true, eq_self, not_true_eq_false, not_false_eq_true]
/-- side -/
theorem o_side {v : Int32} (G : GW g) (M : MI h g P i0 i1 a b) : ∃ h', go (d + 12) 73 0 [.ref 96, .int v, aU, aU] [] h = some (some (.int (q_side g v).1), h') ∧ MI h' (q_side g v).2 P i0 i1 a b ∧ Off h h' 96 104 := by
  obtain ⟨S, I, PD, SQ, CV, FP, l, m, k, t, f, M0, E, r⟩ := id M
  have e65 := o65 (d := d + 11) (h := h) (v := v) (x := 3) (y := 4)
  have main : ∀ v' : Nat, sideOk v' → ∃ h', go (d + 12) 73 12 [.ref 96, .int (nI v'), aU, aU] [] h = some (some (.int (nI g.1)), h') ∧ MI h' (v', List.replicate 16 0, g.2.2) P i0 i1 a b ∧ Off h h' 96 104 := by
    intro v' hv'
    have r0 : ia h 97 0 = some (nI g.1) := by rw [← E.1]; exact M0.r97 (j := 0) (by decide)
    obtain ⟨h1, w1, M1, O1⟩ := M0.w97 (j := 0) (nI v') (by decide)
    have w1' : is_ h 97 0 (nI v') = some h1 := w1
    have lp := go_iter (d := d + 12) (M := 73) (pc := 28) (fun i ls h' => ls = [.ref 96, .int (nI v'), .int (nI g.1), .int (nI i)] ∧ ML h' (updR (S.set 0 (nI v')) 1 (fun _ => 0) i) I PD SQ CV FP a b (nI P.length) l m k t f ∧ Off h h' 96 104) 16 (by
      rintro i ls h2 hi ⟨rfl, M2, O2⟩
      obtain ⟨h3, w3, M3, O3⟩ := M2.w97 (j := 1 + i) 0 (by omega)
      refine ⟨_, h3, ?_, rfl, M3, O2.trans O3⟩
      have n1 : ¬ (16 : Int32) ≤ nI i := nI_nle2 (a := i) (b := 16) (by omega) (by omega) hi
      have x1 : (1 : Int32) + nI i = nI (1 + i) := nI_add 1 i
      rw [ee_73_28]
      simp only [ee_73_0, ee_73_1, ee_73_2, ee_73_3, ee_73_6, ee_73_9, ee_73_11, ee_73_12, ee_73_12N, ee_73_13, ee_73_16, ee_73_17, ee_73_18, ee_73_19, ee_73_19N, ee_73_20, ee_73_23, ee_73_24, ee_73_25, ee_73_26, ee_73_27, ee_73_29, ee_73_31, ee_73_34, ee_73_34N, ee_73_35, ee_73_38, ee_73_39, ee_73_40, ee_73_41, ee_73_42, ee_73_43, ee_73_46, ee_73_49, ee_73_50, M2.F, n1, x1, w3, nI_1, Option.bind_some, Option.toList, List.cons_append, List.nil_append, List.append_nil, if_true, if_false, Bool.false_eq_true, eq_self, not_true_eq_false, not_false_eq_true])
    obtain ⟨ls, h3, e3, rfl, M3, O3⟩ := lp _ h1 ⟨rfl, M1, O1⟩
    refine ⟨h3, ?_, ⟨_, I, PD, SQ, CV, FP, l, m, k, t, f, M3, ?_, r⟩, O3⟩
    · rw [nI_0] at e3
      have n1 : (16 : Int32) ≤ nI 16 := by decide
      simp only [ee_73_0, ee_73_1, ee_73_2, ee_73_3, ee_73_6, ee_73_9, ee_73_11, ee_73_12, ee_73_12N, ee_73_13, ee_73_16, ee_73_17, ee_73_18, ee_73_19, ee_73_19N, ee_73_20, ee_73_23, ee_73_24, ee_73_25, ee_73_26, ee_73_27, ee_73_29, ee_73_31, ee_73_34, ee_73_34N, ee_73_35, ee_73_38, ee_73_39, ee_73_40, ee_73_41, ee_73_42, ee_73_43, ee_73_46, ee_73_49, ee_73_50, M0.F, M1.F, r0, w1', e3, Option.bind_some, Option.toList, List.cons_append, List.nil_append, List.append_nil, if_true, if_false, Bool.false_eq_true, eq_self, not_true_eq_false, not_false_eq_true]
      rw [ee_73_28]
      simp only [ee_73_0, ee_73_1, ee_73_2, ee_73_3, ee_73_6, ee_73_9, ee_73_11, ee_73_12, ee_73_12N, ee_73_13, ee_73_16, ee_73_17, ee_73_18, ee_73_19, ee_73_19N, ee_73_20, ee_73_23, ee_73_24, ee_73_25, ee_73_26, ee_73_27, ee_73_29, ee_73_31, ee_73_34, ee_73_34N, ee_73_35, ee_73_38, ee_73_39, ee_73_40, ee_73_41, ee_73_42, ee_73_43, ee_73_46, ee_73_49, ee_73_50, M0.F, n1, Option.bind_some, Option.toList, List.cons_append, List.nil_append, List.append_nil, if_true, if_false, Bool.false_eq_true, eq_self, not_true_eq_false, not_false_eq_true]
    · have at' : ∀ j, j < 59 → (updR (S.set 0 (nI v')) 1 (fun _ => 0) 16).getD j 0 = if 1 ≤ j ∧ j < 17 then 0 else if j = 0 then nI v' else S.getD j 0 := by
        intro j hj
        rw [updR_at _ _ _ _ _ (by rw [List.length_set, M0.2.1.2]; decide), getD_set]
        by_cases h1 : 1 ≤ j ∧ j < 17
        · rw [if_pos (by omega), if_pos h1]
        · rw [if_neg (by omega), if_neg h1]
          by_cases h2 : j = 0
          · rw [if_pos ⟨h2.symm, by rw [M0.2.1.2]; decide⟩, if_pos h2]
          · rw [if_neg (by omega), if_neg h2]
      exact E.cellsS G (by rw [at' 0 (by decide), if_neg (by omega), if_pos rfl]) (fun j hj h1 => by rw [at' j hj, if_neg (by omega), if_neg (by omega)]) (fun c hc => by rw [at' _ (by omega), if_pos (by omega), getD_rep])
  unfold q_side
  by_cases h3 : v = 3
  · subst h3
    obtain ⟨h', e, r1, r2⟩ := main 3 (Or.inl rfl)
    refine ⟨h', ?_, by simpa using r1, r2⟩
    have n1 : ¬ ((3 : Int32) < 3 ∨ (4 : Int32) < 3) := by decide
    rw [if_neg n1] at e65
    have e' : go (d + 12) 73 12 [.ref 96, .int 3, aU, aU] [] h = some (some (.int (nI g.1)), h') := e
    simp only [ee_73_0, ee_73_1, ee_73_2, ee_73_3, ee_73_6, ee_73_9, ee_73_11, ee_73_13, ee_73_16, ee_73_17, ee_73_18, ee_73_19, ee_73_19N, ee_73_20, ee_73_23, ee_73_24, ee_73_25, ee_73_26, ee_73_27, ee_73_28, ee_73_29, ee_73_31, ee_73_34, ee_73_34N, ee_73_35, ee_73_38, ee_73_39, ee_73_40, ee_73_41, ee_73_42, ee_73_43, ee_73_46, ee_73_49, ee_73_50, KK, e65, e', Option.bind_some, Option.toList, List.cons_append, List.nil_append, List.append_nil, if_true, if_false, Bool.false_eq_true, eq_self, not_true_eq_false, not_false_eq_true]
  · by_cases h4 : v = 4
    · subst h4
      obtain ⟨h', e, r1, r2⟩ := main 4 (Or.inr rfl)
      refine ⟨h', ?_, by simpa using r1, r2⟩
      have n1 : ¬ ((4 : Int32) < 3 ∨ (4 : Int32) < 4) := by decide
      rw [if_neg n1] at e65
      have e' : go (d + 12) 73 12 [.ref 96, .int 4, aU, aU] [] h = some (some (.int (nI g.1)), h') := e
      simp only [ee_73_0, ee_73_1, ee_73_2, ee_73_3, ee_73_6, ee_73_9, ee_73_11, ee_73_13, ee_73_16, ee_73_17, ee_73_18, ee_73_19, ee_73_19N, ee_73_20, ee_73_23, ee_73_24, ee_73_25, ee_73_26, ee_73_27, ee_73_28, ee_73_29, ee_73_31, ee_73_34, ee_73_34N, ee_73_35, ee_73_38, ee_73_39, ee_73_40, ee_73_41, ee_73_42, ee_73_43, ee_73_46, ee_73_49, ee_73_50, KK, e65, e', Option.bind_some, Option.toList, List.cons_append, List.nil_append, List.append_nil, if_true, if_false, Bool.false_eq_true, eq_self, not_true_eq_false, not_false_eq_true]
    · refine ⟨h, ?_, by simp only [h3, h4, if_false]; exact M, Off.rf⟩
      have n2 : v < 3 ∨ 4 < v := by
        have a2 : ¬ v.toInt = 3 := fun z => h3 (Int32.toInt_inj.mp z)
        have a3 : ¬ v.toInt = 4 := fun z => h4 (Int32.toInt_inj.mp z)
        have e3 : (3 : Int32).toInt = 3 := by decide
        have e4 : (4 : Int32).toInt = 4 := by decide
        rw [Int32.lt_iff_toInt_lt, Int32.lt_iff_toInt_lt]
        omega
      rw [if_pos n2] at e65
      simp only [ee_73_0, ee_73_1, ee_73_2, ee_73_3, ee_73_6, ee_73_9, ee_73_11, ee_73_13, ee_73_16, ee_73_17, ee_73_18, ee_73_19, ee_73_19N, ee_73_20, ee_73_23, ee_73_24, ee_73_25, ee_73_26, ee_73_27, ee_73_28, ee_73_29, ee_73_31, ee_73_34, ee_73_34N, ee_73_35, ee_73_38, ee_73_39, ee_73_40, ee_73_41, ee_73_42, ee_73_43, ee_73_46, ee_73_49, ee_73_50, KK, e65, h3, h4, Option.bind_some, Option.toList, List.cons_append, List.nil_append, List.append_nil, if_true, if_false, Bool.false_eq_true, eq_self, not_true_eq_false, not_false_eq_true]
/-- set, at -/
theorem o_set {c x : Int32} (G : GW g) (M : MI h g P i0 i1 a b) : ∃ h', go (d + 12) 74 0 [.ref 96, .int c, .int x, aU] [] h = some (some (.int (q_set g c x).1), h') ∧ MI h' (q_set g c x).2 P i0 i1 a b ∧ Off h h' 96 104 := by
  obtain ⟨S, I, PD, SQ, CV, FP, l, m, k, t, f, M0, E, r⟩ := id M
  have hs := G.1.1
  have hq := (sq_lt hs).1
  have e67 := o67 (d := d + 10) (x := c) hs M0 E.1
  have e68 := o68 (d := d + 10) (h := h) (v := x)
  unfold q_set
  rcases pk_ix c (n := g.1 * g.1) (by omega) with hc | hc | ⟨j, hj, rfl⟩
  · refine ⟨h, ?_, by simp only [hc, true_or, if_true]; exact M, Off.rf⟩
    simp only [hc, true_or, if_true] at e67
    simp only [ee_74_0, ee_74_0N, ee_74_1, ee_74_2, ee_74_5, ee_74_8, ee_74_9, ee_74_10, ee_74_11, ee_74_14, ee_74_15, ee_74_18, ee_74_21, ee_74_23, ee_74_24, ee_74_24N, ee_74_25, ee_74_28, ee_74_29, ee_74_30, ee_74_31, ee_74_32, ee_74_33, ee_74_33N, ee_74_34, ee_74_37, ee_74_38, ee_74_39, ee_74_40, ee_74_41, ee_74_42, ee_74_43, M0.F, KK, e67, hc, true_or, Option.bind_some, Option.toList, List.cons_append, List.nil_append, List.append_nil, if_true, if_false, Bool.false_eq_true, eq_self, not_true_eq_false, not_false_eq_true]
  · refine ⟨h, ?_, by simp only [hc, or_true, if_true]; exact M, Off.rf⟩
    simp only [hc, or_true, if_true] at e67
    simp only [ee_74_0, ee_74_0N, ee_74_1, ee_74_2, ee_74_5, ee_74_8, ee_74_9, ee_74_10, ee_74_11, ee_74_14, ee_74_15, ee_74_18, ee_74_21, ee_74_23, ee_74_24, ee_74_24N, ee_74_25, ee_74_28, ee_74_29, ee_74_30, ee_74_31, ee_74_32, ee_74_33, ee_74_33N, ee_74_34, ee_74_37, ee_74_38, ee_74_39, ee_74_40, ee_74_41, ee_74_42, ee_74_43, M0.F, KK, e67, hc, or_true, Option.bind_some, Option.toList, List.cons_append, List.nil_append, List.append_nil, if_true, if_false, Bool.false_eq_true, eq_self, not_true_eq_false, not_false_eq_true]
  · have n1 : ¬ nI j < 0 := nI_pos (by omega)
    have n2 : ¬ nI (g.1 * g.1) ≤ nI j := nI_nle2 (by omega) (by omega) hj
    simp only [n1, n2, or_self, if_false] at e67
    have x1 : (1 : Int32) + nI j = nI (1 + j) := nI_add 1 j
    have r1 : ia h 97 (nI (1 + j)) = some (g.2.1.getD j 0) := by rw [← E.2.1 j (by omega)]; exact M0.r97 (by omega)
    obtain ⟨h1, w1, M1, O1⟩ := M0.w97 (j := 1 + j) x (by omega)
    have MI1 : MI h1 (g.1, g.2.1.set j x, g.2.2) P i0 i1 a b := ⟨_, I, PD, SQ, CV, FP, l, m, k, t, f, M1, E.cells G (fun j' h1 h2 => by rw [getD_set, if_neg (by omega)]) (fun c hc => by
      rw [getD_set, getD_set]
      by_cases hz : j = c
      · subst hz
        rw [if_pos ⟨rfl, by rw [M0.2.1.2]; omega⟩, if_pos ⟨rfl, by rw [G.2.1]; omega⟩]
      · rw [if_neg (by omega), if_neg (by omega)]; exact E.2.1 c hc), r⟩
    by_cases x0 : x = 0
    · refine ⟨h1, ?_, by simp only [n1, n2, or_self, if_false, x0, true_or, if_true, nI_clamp (show j < 2 ^ 31 by omega)]; rw [x0] at MI1; exact MI1, O1⟩
      simp only [ee_74_0, ee_74_0N, ee_74_1, ee_74_2, ee_74_5, ee_74_8, ee_74_9, ee_74_10, ee_74_11, ee_74_14, ee_74_15, ee_74_18, ee_74_21, ee_74_23, ee_74_24, ee_74_24N, ee_74_25, ee_74_28, ee_74_29, ee_74_30, ee_74_31, ee_74_32, ee_74_33, ee_74_33N, ee_74_34, ee_74_37, ee_74_38, ee_74_39, ee_74_40, ee_74_41, ee_74_42, ee_74_43, M0.F, KK, e67, n1, n2, or_self, x0, true_or, nI_clamp (show j < 2 ^ 31 by omega), x1, r1, Option.bind_some, Option.toList, List.cons_append, List.nil_append, List.append_nil, if_true, if_false, Bool.false_eq_true, eq_self, not_true_eq_false, not_false_eq_true]
      rw [x0] at w1
      simp only [ee_74_0, ee_74_0N, ee_74_1, ee_74_2, ee_74_5, ee_74_8, ee_74_9, ee_74_10, ee_74_11, ee_74_14, ee_74_15, ee_74_18, ee_74_21, ee_74_23, ee_74_24, ee_74_24N, ee_74_25, ee_74_28, ee_74_29, ee_74_30, ee_74_31, ee_74_32, ee_74_33, ee_74_33N, ee_74_34, ee_74_37, ee_74_38, ee_74_39, ee_74_40, ee_74_41, ee_74_42, ee_74_43, w1, Option.bind_some, Option.toList, List.cons_append, List.nil_append, List.append_nil, if_true, if_false, Bool.false_eq_true, eq_self, not_true_eq_false, not_false_eq_true]
    · by_cases hx : 97 ≤ x ∧ x ≤ 122
      · refine ⟨h1, ?_, by simp only [n1, n2, or_self, if_false, hx, and_self, or_true, if_true, nI_clamp (show j < 2 ^ 31 by omega)]; exact MI1, O1⟩
        rw [if_pos hx] at e68
        simp only [ee_74_0, ee_74_0N, ee_74_1, ee_74_2, ee_74_5, ee_74_8, ee_74_9, ee_74_10, ee_74_11, ee_74_14, ee_74_15, ee_74_18, ee_74_21, ee_74_23, ee_74_24, ee_74_24N, ee_74_25, ee_74_28, ee_74_29, ee_74_30, ee_74_31, ee_74_32, ee_74_33, ee_74_33N, ee_74_34, ee_74_37, ee_74_38, ee_74_39, ee_74_40, ee_74_41, ee_74_42, ee_74_43, M0.F, KK, e67, e68, n1, n2, or_self, x0, hx, and_self, or_true, nI_clamp (show j < 2 ^ 31 by omega), x1, r1, w1, Option.bind_some, Option.toList, List.cons_append, List.nil_append, List.append_nil, if_true, if_false, Bool.false_eq_true, eq_self, not_true_eq_false, not_false_eq_true]
      · refine ⟨h, ?_, by simp only [n1, n2, or_self, if_false, x0, hx]; exact M, Off.rf⟩
        rw [if_neg hx] at e68
        simp only [ee_74_0, ee_74_0N, ee_74_1, ee_74_2, ee_74_5, ee_74_8, ee_74_9, ee_74_10, ee_74_11, ee_74_14, ee_74_15, ee_74_18, ee_74_21, ee_74_23, ee_74_24, ee_74_24N, ee_74_25, ee_74_28, ee_74_29, ee_74_30, ee_74_31, ee_74_32, ee_74_33, ee_74_33N, ee_74_34, ee_74_37, ee_74_38, ee_74_39, ee_74_40, ee_74_41, ee_74_42, ee_74_43, M0.F, KK, e67, e68, n1, n2, or_self, x0, hx, Option.bind_some, Option.toList, List.cons_append, List.nil_append, List.append_nil, if_true, if_false, Bool.false_eq_true, eq_self, not_true_eq_false, not_false_eq_true]
theorem o_at {c : Int32} (G : GW g) (M : MI h g P i0 i1 a b) : go (d + 12) 75 0 [.ref 96, .int c] [] h = some (some (.int (q_at g c)), h) := by
  obtain ⟨S, I, PD, SQ, CV, FP, l, m, k, t, f, M0, E, r⟩ := id M
  have hs := G.1.1
  have hq := (sq_lt hs).1
  have e67 := o67 (d := d + 10) (x := c) hs M0 E.1
  unfold q_at
  rcases pk_ix c (n := g.1 * g.1) (by omega) with hc | hc | ⟨j, hj, rfl⟩
  · simp only [hc, true_or, if_true] at e67
    simp only [ee_75_0, ee_75_0N, ee_75_1, ee_75_2, ee_75_5, ee_75_8, ee_75_9, ee_75_10, ee_75_10N, ee_75_11, ee_75_14, ee_75_15, ee_75_16, ee_75_17, ee_75_18, ee_75_21, ee_75_23, ee_75_26, ee_75_26N, ee_75_27, ee_75_30, ee_75_31, ee_75_32, ee_75_33, ee_75_34, M0.F, KK, e67, hc, true_or, Option.bind_some, Option.toList, List.cons_append, List.nil_append, List.append_nil, if_true, if_false, Bool.false_eq_true, eq_self, not_true_eq_false, not_false_eq_true]
  · simp only [hc, or_true, if_true] at e67
    simp only [ee_75_0, ee_75_0N, ee_75_1, ee_75_2, ee_75_5, ee_75_8, ee_75_9, ee_75_10, ee_75_10N, ee_75_11, ee_75_14, ee_75_15, ee_75_16, ee_75_17, ee_75_18, ee_75_21, ee_75_23, ee_75_26, ee_75_26N, ee_75_27, ee_75_30, ee_75_31, ee_75_32, ee_75_33, ee_75_34, M0.F, KK, e67, hc, or_true, Option.bind_some, Option.toList, List.cons_append, List.nil_append, List.append_nil, if_true, if_false, Bool.false_eq_true, eq_self, not_true_eq_false, not_false_eq_true]
  · have n1 : ¬ nI j < 0 := nI_pos (by omega)
    have n2 : ¬ nI (g.1 * g.1) ≤ nI j := nI_nle2 (by omega) (by omega) hj
    simp only [n1, n2, or_self, if_false] at e67
    have x1 : (1 : Int32) + nI j = nI (1 + j) := nI_add 1 j
    have r1 : ia h 97 (nI (1 + j)) = some (g.2.1.getD j 0) := by rw [← E.2.1 j (by omega)]; exact M0.r97 (by omega)
    by_cases hz : g.2.1.getD j 0 = 0 <;> simp only [ee_75_0, ee_75_0N, ee_75_1, ee_75_2, ee_75_5, ee_75_8, ee_75_9, ee_75_10, ee_75_10N, ee_75_11, ee_75_14, ee_75_15, ee_75_16, ee_75_17, ee_75_18, ee_75_21, ee_75_23, ee_75_26, ee_75_26N, ee_75_27, ee_75_30, ee_75_31, ee_75_32, ee_75_33, ee_75_34, M0.F, KK, e67, n1, n2, or_self, nI_clamp (show j < 2 ^ 31 by omega), x1, r1, hz, Option.bind_some, Option.toList, List.cons_append, List.nil_append, List.append_nil, if_true, if_false, Bool.false_eq_true, eq_self, not_true_eq_false, not_false_eq_true]
/-- say, wipe -/
theorem o_say {x : Int32} (M : MI h g P i0 i1 a b) : ∃ h', go (d + 12) 76 0 [.ref 96, .int x] [] h = some (some (.int (q_say P x).1), h') ∧ MI h' g (q_say P x).2 i0 i1 a b ∧ Off h h' 96 104 := by
  obtain ⟨S, I, PD, SQ, CV, FP, l, m, k, t, f, M0, E, r1, r2, hP, r3⟩ := id M
  have e68 := o68 (d := d + 10) (h := h) (v := x)
  unfold q_say
  by_cases hx : 97 ≤ x ∧ x ≤ 122
  · rw [if_pos hx] at e68
    by_cases hp : P.length < 16
    · have n1 : ¬ nI P.length = 16 := by rw [show (16 : Int32) = nI 16 by decide, nI_eq (by omega) (by omega)]; omega
      obtain ⟨h1, w1, M1, O1⟩ := M0.w100 (j := P.length) x hp
      obtain ⟨h2, w2, M2, O2⟩ := M1.p4 (nI (P.length + 1))
      refine ⟨h2, ?_, ?_, O1.trans O2⟩
      · simp only [ee_76_0, ee_76_1, ee_76_4, ee_76_7, ee_76_9, ee_76_10, ee_76_10N, ee_76_11, ee_76_14, ee_76_16, ee_76_19, ee_76_21, ee_76_22, ee_76_22N, ee_76_23, ee_76_26, ee_76_26N, ee_76_27, ee_76_30, ee_76_31, ee_76_32, ee_76_32N, ee_76_33, ee_76_34, ee_76_37, ee_76_38, ee_76_39, ee_76_42, ee_76_42N, ee_76_43, ee_76_46, M0.F, M1.F, M2.F, KK, e68, n1, w1, w2, hx, hp, and_self, nI_1, Option.bind_some, Option.toList, List.cons_append, List.nil_append, List.append_nil, if_true, if_false, Bool.false_eq_true, eq_self, not_true_eq_false, not_false_eq_true]
      · simp only [hx, hp, and_self, if_true]
        refine ⟨S, I, _, SQ, CV, FP, l, m, k, t, f, by rw [List.length_append, List.length_singleton]; exact M2, E, r1, r2, by rw [List.length_append, List.length_singleton]; omega, fun i hi => ?_⟩
        rw [List.length_append, List.length_singleton] at hi
        rw [getD_set]
        by_cases hz : P.length = i
        · rw [if_pos ⟨hz, by rw [M0.2.2.2.2.1.2]; omega⟩]
          subst hz
          simp [List.getD_eq_getElem?_getD]
        · rw [if_neg (by omega), r3 i (by omega)]
          simp [List.getD_eq_getElem?_getD, List.getElem?_append_left (show i < P.length by omega)]
    · have n1 : nI P.length = 16 := by rw [show P.length = 16 by omega]; rfl
      refine ⟨h, ?_, by simp only [hx, hp, and_self, if_true, if_false]; exact M, Off.rf⟩
      simp only [ee_76_0, ee_76_1, ee_76_4, ee_76_7, ee_76_9, ee_76_10, ee_76_10N, ee_76_11, ee_76_14, ee_76_16, ee_76_19, ee_76_21, ee_76_22, ee_76_22N, ee_76_23, ee_76_26, ee_76_26N, ee_76_27, ee_76_30, ee_76_31, ee_76_32, ee_76_32N, ee_76_33, ee_76_34, ee_76_37, ee_76_38, ee_76_39, ee_76_42, ee_76_42N, ee_76_43, ee_76_46, M0.F, KK, e68, n1, hx, hp, and_self, Option.bind_some, Option.toList, List.cons_append, List.nil_append, List.append_nil, if_true, if_false, Bool.false_eq_true, eq_self, not_true_eq_false, not_false_eq_true]
  · rw [if_neg hx] at e68
    refine ⟨h, ?_, by simp only [hx, if_false]; exact M, Off.rf⟩
    simp only [ee_76_0, ee_76_1, ee_76_4, ee_76_7, ee_76_9, ee_76_10, ee_76_10N, ee_76_11, ee_76_14, ee_76_16, ee_76_19, ee_76_21, ee_76_22, ee_76_22N, ee_76_23, ee_76_26, ee_76_26N, ee_76_27, ee_76_30, ee_76_31, ee_76_32, ee_76_32N, ee_76_33, ee_76_34, ee_76_37, ee_76_38, ee_76_39, ee_76_42, ee_76_42N, ee_76_43, ee_76_46, M0.F, KK, e68, hx, Option.bind_some, Option.toList, List.cons_append, List.nil_append, List.append_nil, if_true, if_false, Bool.false_eq_true, eq_self, not_true_eq_false, not_false_eq_true]
theorem o_wipe (M : MI h g P i0 i1 a b) : ∃ h', go (d + 12) 77 0 [.ref 96, aU] [] h = some (some (.int (nI P.length)), h') ∧ MI h' g [] i0 i1 a b ∧ Off h h' 96 104 := by
  obtain ⟨S, I, PD, SQ, CV, FP, l, m, k, t, f, M0, E, r1, r2, hP, r3⟩ := id M
  obtain ⟨h2, w2, M2, O2⟩ := M0.p4 0
  refine ⟨h2, ?_, ⟨S, I, _, SQ, CV, FP, l, m, k, t, f, M2, E, r1, r2, by decide, fun i hi => absurd hi (Nat.not_lt_zero i)⟩, O2⟩
  simp only [ee_77_0, ee_77_0N, ee_77_1, ee_77_4, ee_77_5, ee_77_5N, ee_77_6, ee_77_7, ee_77_10, ee_77_11, M0.F, w2, Option.bind_some, Option.toList, List.cons_append, List.nil_append, List.append_nil, if_true, if_false, Bool.false_eq_true, eq_self, not_true_eq_false, not_false_eq_true]
end MD
