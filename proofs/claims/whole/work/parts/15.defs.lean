/-! the class's things in the small machine's heap -/
def TextAt (h : aH) (a c : Nat) (w : List Int32) : Prop := h[a]? = some (.inl (5, [.ref (a + 1), .int (nI w.length)])) ∧ ∃ xs : List Int32, h[a + 1]? = some (.inr (.inl (0, w ++ xs))) ∧ w.length + xs.length = c
def latA (s : Nat) : Nat := if s = 3 then 6 else 9
def stp (s : Nat) : List Int32 := if s = 3 then [1, 4, 3, 2, -1, -4, -3, -2] else [1, 5, 4, 3, -1, -5, -4, -3]
def rch (s : Nat) : List Int32 := if s = 3 then [3, 3, 3, 1, 1, 1, 1, 1, 2, 2, 3, 2, 2, 1, 1, 1, 1, 1, 3, 3, 3, 1, 1, 1, 3, 2, 2, 1, 1, 1, 2, 2, 2, 2, 2, 2, 2, 2, 2, 2, 1, 1, 2, 2, 3, 2, 2, 1, 3, 1, 1, 1, 1, 1, 3, 3, 2, 1, 1, 1, 2, 2, 3, 2, 1, 1, 1, 1, 3, 3, 3, 1, 0, 0, 0, 0, 0, 0, 0, 0, 0, 0, 0, 0, 0, 0, 0, 0, 0, 0, 0, 0, 0, 0, 0, 0, 0, 0, 0, 0, 0, 0, 0, 0, 0, 0, 0, 0, 0, 0, 0, 0, 0, 0, 0, 0, 0, 0, 0, 0, 0, 0, 0, 0, 0, 0, 0, 0] else [4, 4, 4, 1, 1, 1, 1, 1, 3, 3, 4, 2, 2, 1, 1, 1, 2, 2, 4, 3, 3, 1, 1, 1, 1, 1, 4, 4, 4, 1, 1, 1, 4, 3, 3, 1, 1, 1, 2, 2, 3, 3, 3, 2, 2, 2, 2, 2, 2, 2, 3, 3, 3, 2, 2, 2, 1, 1, 3, 3, 4, 2, 2, 1, 4, 2, 2, 1, 1, 1, 3, 3, 3, 2, 2, 2, 2, 2, 3, 3, 2, 2, 2, 2, 3, 3, 3, 2, 1, 1, 2, 2, 4, 3, 3, 1, 4, 1, 1, 1, 1, 1, 4, 4, 3, 1, 1, 1, 2, 2, 4, 3, 2, 1, 1, 1, 3, 3, 4, 2, 1, 1, 1, 1, 4, 4, 4, 1]
def sideOk (s : Nat) : Prop := s = 3 ∨ s = 4
def LatAt (h : aH) : Prop := h[6]? = some (.inl (3, [.int 3, .int 9, .int 72, .ref 7, .ref 8])) ∧ h[7]? = some (.inr (.inl (0, stp 3))) ∧ h[8]? = some (.inr (.inl (0, rch 3))) ∧ h[9]? = some (.inl (3, [.int 4, .int 16, .int 128, .ref 10, .ref 11])) ∧ h[10]? = some (.inr (.inl (0, stp 4))) ∧ h[11]? = some (.inr (.inl (0, rch 4)))
theorem LatAt.at {h : aH} {s : Nat} (L : LatAt h) (hs : sideOk s) : h[latA s]? = some (.inl (3, [.int (nI s), .int (nI (s * s)), .int (nI (8 * s * s)), .ref (latA s + 1), .ref (latA s + 2)])) ∧ h[latA s + 1]? = some (.inr (.inl (0, stp s))) ∧ h[latA s + 2]? = some (.inr (.inl (0, rch s))) := by
  rcases hs with rfl | rfl
  · exact ⟨L.1, L.2.1, L.2.2.1⟩
  · exact ⟨L.2.2.2.1, L.2.2.2.2.1, L.2.2.2.2.2⟩
def SquareAt (h : aH) (a s : Nat) (cs : List Int32) : Prop := h[a]? = some (.inl (4, [.ref (a + 1), .ref (latA s)])) ∧ h[a + 1]? = some (.inr (.inl (0, cs))) ∧ cs.length = 16
/-! geometry -/
/-- how far a place reaches; the i-th cell from a place on -/
def rN (s p : Nat) : Nat := ((rch s).getD p 0).toNatClampNeg
def ci (s p i : Nat) : Int32 := nI (p / 8) + nI i * (stp s).getD (p % 8) 0
def cl (s p i : Nat) : Nat := (ci s p i).toNatClampNeg
theorem geo_dec : ∀ s ∈ [3, 4], ∀ p, p < 8 * s * s → rN s p ≤ 4 ∧ 1 ≤ rN s p ∧ (rch s)[p]? = some (nI (rN s p)) ∧ (stp s)[p % 8]? = some ((stp s).getD (p % 8) 0) ∧ ∀ i, i < rN s p → ci s p i = nI (cl s p i) ∧ cl s p i < s * s := by decide +kernel
theorem geo {s p : Nat} (hs : sideOk s) (hp : p < 8 * s * s) : rN s p ≤ 4 ∧ 1 ≤ rN s p ∧ (rch s)[p]? = some (nI (rN s p)) ∧ (stp s)[p % 8]? = some ((stp s).getD (p % 8) 0) ∧ ∀ i, i < rN s p → ci s p i = nI (cl s p i) ∧ cl s p i < s * s := geo_dec s (by rcases hs with rfl | rfl <;> simp) p hp
theorem ci_succ (s p i : Nat) : ci s p i + (stp s).getD (p % 8) 0 = ci s p (i + 1) := by
  unfold ci
  rw [nI_succ, Int32.add_assoc]
  congr 1
  rw [Int32.add_mul, Int32.one_mul]
/-! words laid, words that stand -/
def accB (s : Nat) (cs w : List Int32) (p i n : Nat) : Bool := (List.range' i n).all fun i => decide (cs.getD (cl s p i) 0 = w.getD i 0) || decide (cs.getD (cl s p i) 0 = 0)
def acc (s : Nat) (cs w : List Int32) (p : Nat) : Bool := decide (w.length ≤ rN s p) && accB s cs w p 0 w.length
def bI (b : Bool) : Int32 := if b then 1 else 0
theorem sq_lt {s : Nat} (hs : sideOk s) : s * s ≤ 16 ∧ 8 * s * s ≤ 128 := by rcases hs with rfl | rfl <;> decide
/-- laying: where a cell is empty the letter comes; the set of those cells -/
def lay1 (s : Nat) (w : List Int32) (p i : Nat) (q : List Int32 × Int32) : List Int32 × Int32 := if q.1.getD (cl s p i) 0 = 0 then (q.1.set (cl s p i) (w.getD i 0), q.2 ||| ((1 : Int32) <<< (ci s p i &&& 31))) else q
def layF (s : Nat) (w : List Int32) (p : Nat) : Nat → Nat → List Int32 × Int32 → List Int32 × Int32
  | _, 0, q => q
  | i, n + 1, q => layF s w p (i + 1) n (lay1 s w p i q)
def csetF (s p : Nat) : Nat → Nat → Int32 → Int32
  | _, 0, m => m
  | i, n + 1, m => csetF s p (i + 1) n (m ||| ((1 : Int32) <<< (ci s p i &&& 31)))
def liftF (m : Int32) : Nat → Nat → List Int32 → List Int32
  | _, 0, cs => cs
  | c, n + 1, cs => liftF m (c + 1) n (if m >>> (nI c &&& 31) &&& 1 = 0 then cs else cs.set c 0)
/-! reading and writing -/
abbrev ints (xs : List Int32) : aC := .inr (.inl (0, xs))
theorem ia_at {h : aH} {a n : Nat} {xs : List Int32} (ha : h[a]? = some (ints xs)) (hn : n < xs.length) (hx : xs.length < 2 ^ 31) : ia h a (nI n) = some (xs.getD n 0) := by
  unfold ia
  rw [ha]
  have h1 : ¬ nI n < 0 := nI_pos (by omega)
  simp only [true_or, h1, not_false_eq_true, and_self, if_true, nI_clamp (show n < 2 ^ 31 by omega)]
  simp [List.getD_eq_getElem?_getD, List.getElem?_eq_getElem hn]
theorem is_at {h : aH} {a n : Nat} {xs : List Int32} {x : Int32} (ha : h[a]? = some (ints xs)) (hn : n < xs.length) (hx : xs.length < 2 ^ 31) : is_ h a (nI n) x = some (h.set a (ints (xs.set n x))) := by
  unfold is_
  rw [ha]
  have h1 : ¬ nI n < 0 := nI_pos (by omega)
  simp only [h1, not_false_eq_true, nI_clamp (show n < 2 ^ 31 by omega), hn, and_self, if_true]
section FR
variable {h : aH} {a t k c s : Nat} {cs w : List Int32} {x : aC}
theorem set_at (hk : k < h.length) : (h.set k x)[k]? = some x := List.getElem?_set_self hk
theorem set_ne (hne : k ≠ a) : (h.set k x)[a]? = h[a]? := List.getElem?_set_ne hne
theorem at_lt {y : aC} (ha : h[a]? = some y) : a < h.length := (List.getElem?_eq_some_iff.mp ha).1
theorem TextAt.set (T : TextAt h t c w) (h1 : k ≠ t) (h2 : k ≠ t + 1) : TextAt (h.set k x) t c w := by
  obtain ⟨T1, xs, T2, T3⟩ := T
  exact ⟨by rw [set_ne h1]; exact T1, xs, by rw [set_ne h2]; exact T2, T3⟩
theorem LatAt.set (L : LatAt h) (h1 : 11 < k) : LatAt (h.set k x) := by
  obtain ⟨a1, a2, a3, a4, a5, a6⟩ := L
  refine ⟨?_, ?_, ?_, ?_, ?_, ?_⟩ <;> rw [set_ne (by omega)] <;> assumption
theorem SquareAt.set (Q : SquareAt h a s cs) (h1 : k ≠ a) (h2 : k ≠ a + 1) : SquareAt (h.set k x) a s cs := by
  obtain ⟨a1, a2, a3⟩ := Q
  exact ⟨by rw [set_ne h1]; exact a1, by rw [set_ne h2]; exact a2, a3⟩
theorem SquareAt.put {cs' : List Int32} (Q : SquareAt h a s cs) (hl : cs'.length = 16) : SquareAt (h.set (a + 1) (ints cs')) a s cs' := ⟨by rw [set_ne (by omega)]; exact Q.1, set_at (at_lt Q.2.1), hl⟩
theorem SquareAt.f0 (Q : SquareAt h a s cs) : gf h a 0 4 4 = some (.ref (a + 1)) := by unfold gf; rw [Q.1]; rfl
theorem SquareAt.f1 (Q : SquareAt h a s cs) : gf h a 1 4 4 = some (.ref (latA s)) := by unfold gf; rw [Q.1]; rfl
theorem SquareAt.isc (Q : SquareAt h a s cs) : isC h a 4 = true := by unfold isC; rw [Q.1]; rfl
theorem SquareAt.ia {n : Nat} (Q : SquareAt h a s cs) (hn : n < 16) : ia h (a + 1) (nI n) = some (cs.getD n 0) := ia_at Q.2.1 (by rw [Q.2.2]; exact hn) (by rw [Q.2.2]; decide)
theorem SquareAt.is_ {n : Nat} {z : Int32} (Q : SquareAt h a s cs) (hn : n < 16) : is_ h (a + 1) (nI n) z = some (h.set (a + 1) (ints (cs.set n z))) := is_at Q.2.1 (by rw [Q.2.2]; exact hn) (by rw [Q.2.2]; decide)
theorem TextAt.f0 (T : TextAt h t c w) : gf h t 0 5 5 = some (.ref (t + 1)) := by unfold gf; rw [T.1]; rfl
theorem TextAt.f1 (T : TextAt h t c w) : gf h t 1 5 5 = some (.int (nI w.length)) := by unfold gf; rw [T.1]; rfl
theorem TextAt.isc (T : TextAt h t c w) : isC h t 5 = true := by unfold isC; rw [T.1]; rfl
theorem TextAt.ia {n : Nat} (T : TextAt h t c w) (hn : n < w.length) (hc : c < 2 ^ 31) : ia h (t + 1) (nI n) = some (w.getD n 0) := by
  obtain ⟨-, xs, h2, h3⟩ := T
  rw [ia_at h2 (by rw [List.length_append]; omega) (by rw [List.length_append]; omega)]
  simp [List.getD_eq_getElem?_getD, List.getElem?_append_left hn]
theorem LatAt.f0 (L : LatAt h) (hs : sideOk s) : gf h (latA s) 0 3 3 = some (.int (nI s)) := by unfold gf; rw [(L.at hs).1]; rfl
theorem LatAt.f1 (L : LatAt h) (hs : sideOk s) : gf h (latA s) 1 3 3 = some (.int (nI (s * s))) := by unfold gf; rw [(L.at hs).1]; rfl
theorem LatAt.f2 (L : LatAt h) (hs : sideOk s) : gf h (latA s) 2 3 3 = some (.int (nI (8 * s * s))) := by unfold gf; rw [(L.at hs).1]; rfl
theorem LatAt.f3 (L : LatAt h) (hs : sideOk s) : gf h (latA s) 3 3 3 = some (.ref (latA s + 1)) := by unfold gf; rw [(L.at hs).1]; rfl
theorem LatAt.f4 (L : LatAt h) (hs : sideOk s) : gf h (latA s) 4 3 3 = some (.ref (latA s + 2)) := by unfold gf; rw [(L.at hs).1]; rfl
theorem LatAt.isc (L : LatAt h) (hs : sideOk s) : isC h (latA s) 3 = true := by unfold isC; rw [(L.at hs).1]; rfl
theorem LatAt.step {p : Nat} (L : LatAt h) (hs : sideOk s) : ia h (latA s + 1) (nI (p % 8)) = some ((stp s).getD (p % 8) 0) := by
  have hl : (stp s).length = 8 := by rcases hs with rfl | rfl <;> rfl
  exact ia_at (L.at hs).2.1 (by rw [hl]; omega) (by rw [hl]; decide)
theorem LatAt.rea {p : Nat} (L : LatAt h) (hs : sideOk s) (hp : p < 8 * s * s) : ia h (latA s + 2) (nI p) = some (nI (rN s p)) := by
  have hl : (rch s).length = 128 := by rcases hs with rfl | rfl <;> rfl
  have := (sq_lt hs).2
  rw [ia_at (L.at hs).2.2 (by rw [hl]; omega) (by rw [hl]; decide)]
  have := (geo hs hp).2.2.1
  simp [List.getD_eq_getElem?_getD, this]
end FR
