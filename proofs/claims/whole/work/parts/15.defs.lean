/-! the class's things in the small machine's heap -/
def TextAt (h : aH) (a c : Nat) (w : List Int32) : Prop := h[a]? = some (.inl (5, [.ref (a + 1), .int (nI w.length)])) ∧ ∃ xs : List Int32, h[a + 1]? = some (.inr (.inl (0, w ++ xs))) ∧ w.length + xs.length = c
def latA (s : Nat) : Nat := if s = 3 then 6 else 9
def stp (s : Nat) : List Int32 := if s = 3 then [1, 4, 3, 2, -1, -4, -3, -2] else [1, 5, 4, 3, -1, -5, -4, -3]
def rch (s : Nat) : List Int32 := if s = 3 then [3, 3, 3, 1, 1, 1, 1, 1, 2, 2, 3, 2, 2, 1, 1, 1, 1, 1, 3, 3, 3, 1, 1, 1, 3, 2, 2, 1, 1, 1, 2, 2, 2, 2, 2, 2, 2, 2, 2, 2, 1, 1, 2, 2, 3, 2, 2, 1, 3, 1, 1, 1, 1, 1, 3, 3, 2, 1, 1, 1, 2, 2, 3, 2, 1, 1, 1, 1, 3, 3, 3, 1, 0, 0, 0, 0, 0, 0, 0, 0, 0, 0, 0, 0, 0, 0, 0, 0, 0, 0, 0, 0, 0, 0, 0, 0, 0, 0, 0, 0, 0, 0, 0, 0, 0, 0, 0, 0, 0, 0, 0, 0, 0, 0, 0, 0, 0, 0, 0, 0, 0, 0, 0, 0, 0, 0, 0, 0] else [4, 4, 4, 1, 1, 1, 1, 1, 3, 3, 4, 2, 2, 1, 1, 1, 2, 2, 4, 3, 3, 1, 1, 1, 1, 1, 4, 4, 4, 1, 1, 1, 4, 3, 3, 1, 1, 1, 2, 2, 3, 3, 3, 2, 2, 2, 2, 2, 2, 2, 3, 3, 3, 2, 2, 2, 1, 1, 3, 3, 4, 2, 2, 1, 4, 2, 2, 1, 1, 1, 3, 3, 3, 2, 2, 2, 2, 2, 3, 3, 2, 2, 2, 2, 3, 3, 3, 2, 1, 1, 2, 2, 4, 3, 3, 1, 4, 1, 1, 1, 1, 1, 4, 4, 3, 1, 1, 1, 2, 2, 4, 3, 2, 1, 1, 1, 3, 3, 4, 2, 1, 1, 1, 1, 4, 4, 4, 1]
def sideOk (s : Nat) : Prop := s = 3 ∨ s = 4
def LatAt (h : aH) : Prop := h[6]? = some (.inl (3, [.int 3, .int 9, .int 72, .ref 7, .ref 8])) ∧ h[7]? = some (.inr (.inl (0, stp 3))) ∧ h[8]? = some (.inr (.inl (0, rch 3))) ∧ h[9]? = some (.inl (3, [.int 4, .int 16, .int 128, .ref 10, .ref 11])) ∧ h[10]? = some (.inr (.inl (0, stp 4))) ∧ h[11]? = some (.inr (.inl (0, rch 4)))
theorem LatAt.at {h : aH} {s : Nat} (L : LatAt h) (hs : sideOk s) : h[latA s]? = some (.inl (3, [.int (nI s), .int (nI (s * s)), .int (nI (8 * s * s)), .ref (latA s + 1), .ref (latA s + 2)])) ∧ h[latA s + 1]? = some (.inr (.inl (0, stp s))) ∧ h[latA s + 2]? = some (.inr (.inl (0, rch s))) := by
  rcases hs with rfl | rfl
  · exact ⟨L.1, L.2.1, L.2.2.1⟩
  · exact ⟨L.2.2.2.1, L.2.2.2.2.1, L.2.2.2.2.2⟩
def SquareAt (h : aH) (a s : Nat) (cs : List Int32) : Prop := h[a]? = some (.inl (4, [.ref (a + 1), .ref (latA s)])) ∧ h[a + 1]? = some (.inr (.inl (0, cs))) ∧ cs.length = 16
/-! geometry -/
/-- how far a place reaches; the i-th cell from a place on -/
def rN (s p : Nat) : Nat := ((rch s).getD p 0).toNatClampNeg
def ci (s p i : Nat) : Int32 := nI (p / 8) + nI i * (stp s).getD (p % 8) 0
def cl (s p i : Nat) : Nat := (ci s p i).toNatClampNeg
theorem geo_dec : ∀ s ∈ [3, 4], ∀ p, p < 8 * s * s → rN s p ≤ 4 ∧ 1 ≤ rN s p ∧ (rch s)[p]? = some (nI (rN s p)) ∧ (stp s)[p % 8]? = some ((stp s).getD (p % 8) 0) ∧ ∀ i, i < rN s p → ci s p i = nI (cl s p i) ∧ cl s p i < s * s := by decide +kernel
theorem geo {s p : Nat} (hs : sideOk s) (hp : p < 8 * s * s) : rN s p ≤ 4 ∧ 1 ≤ rN s p ∧ (rch s)[p]? = some (nI (rN s p)) ∧ (stp s)[p % 8]? = some ((stp s).getD (p % 8) 0) ∧ ∀ i, i < rN s p → ci s p i = nI (cl s p i) ∧ cl s p i < s * s := geo_dec s (by rcases hs with rfl | rfl <;> simp) p hp
theorem ci_succ (s p i : Nat) : ci s p i + (stp s).getD (p % 8) 0 = ci s p (i + 1) := by
  unfold ci
  rw [nI_succ, Int32.add_assoc]
  congr 1
  rw [Int32.add_mul, Int32.one_mul]
/-! words laid, words that stand -/
def accB (s : Nat) (cs w : List Int32) (p n : Nat) : Bool := (List.range n).all fun i => decide (cs.getD (cl s p i) 0 = w.getD i 0) || decide (cs.getD (cl s p i) 0 = 0)
def acc (s : Nat) (cs w : List Int32) (p : Nat) : Bool := decide (w.length ≤ rN s p) && accB s cs w p w.length
def bI (b : Bool) : Int32 := if b then 1 else 0
theorem sq_lt {s : Nat} (hs : sideOk s) : s * s ≤ 16 ∧ 8 * s * s ≤ 128 := by rcases hs with rfl | rfl <;> decide
