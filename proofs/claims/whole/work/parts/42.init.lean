/-! the heap when both constructors are through -/
def hjA : aH := [.inr (.inl (2, [0, 1, 1, 1, 0, (-1), (-1), (-1)])), .inr (.inl (2, [1, 1, 0, (-1), (-1), (-1), 0, 1])), .inr (.inl (2, [3, 2, 1])), .inr (.inl (2, [4, 4, 9])), jk, .inl (7, dfl 7)]
def dcC : DecidableEq aC := inferInstance
def eqC (a b : aC) : Bool := @decide (a = b) (dcC a b)
theorem eqC_eq {a b : aC} (h : eqC a b = true) : a = b := @of_decide_eq_true _ (dcC a b) h
def eqH : aH → aH → Bool
  | [], [] => true
  | a :: x, b :: y => eqC a b && eqH x y
  | _, _ => false
theorem eqH_eq : ∀ {x y : aH}, eqH x y = true → x = y
  | [], [], _ => rfl
  | [], b :: y, h => by cases h
  | a :: x, [], h => by cases h
  | a :: x, b :: y, h => by
    rw [eqH, Bool.and_eq_true] at h
    rw [eqC_eq h.1, eqH_eq h.2]
def isR (r : Option (Option Value × aH)) (h : aH) : Bool := match r with
  | some (none, h') => eqH h' h
  | _ => false
theorem isR_eq {r : Option (Option Value × aH)} {h : aH} (e : isR r h = true) : r = some (none, h) := by
  rcases r with _ | ⟨_ | v, h'⟩
  · cases e
  · rw [eqH_eq (show eqH h' h = true from e)]
  · cases e
def hjB : aH := [.inr (.inl (2, [0, 1, 1, 1, 0, (-1), (-1), (-1)])), .inr (.inl (2, [1, 1, 0, (-1), (-1), (-1), 0, 1])), .inr (.inl (2, [3, 2, 1])), .inr (.inl (2, [4, 4, 9])), jk, .inl (7, [.ref 6, .ref 9, .ref 12, .ref 33, .ref 34, .ref 36, .ref 38, .ref 44, .int 0]), .inl (3, [.int 3, .int 9, .int 72, .ref 7, .ref 8]), .inr (.inl (0, [1, 4, 3, 2, (-1), (-4), (-3), (-2)])), .inr (.inl (0, [3, 3, 3, 1, 1, 1, 1, 1, 2, 2, 3, 2, 2, 1, 1, 1, 1, 1, 3, 3, 3, 1, 1, 1, 3, 2, 2, 1, 1, 1, 2, 2, 2, 2, 2, 2, 2, 2, 2, 2, 1, 1, 2, 2, 3, 2, 2, 1, 3, 1, 1, 1, 1, 1, 3, 3, 2, 1, 1, 1, 2, 2, 3, 2, 1, 1, 1, 1, 3, 3, 3, 1, 0, 0, 0, 0, 0, 0, 0, 0, 0, 0, 0, 0, 0, 0, 0, 0, 0, 0, 0, 0, 0, 0, 0, 0, 0, 0, 0, 0, 0, 0, 0, 0, 0, 0, 0, 0, 0, 0, 0, 0, 0, 0, 0, 0, 0, 0, 0, 0, 0, 0, 0, 0, 0, 0, 0, 0])), .inl (3, [.int 4, .int 16, .int 128, .ref 10, .ref 11]), .inr (.inl (0, [1, 5, 4, 3, (-1), (-5), (-4), (-3)])), .inr (.inl (0, [4, 4, 4, 1, 1, 1, 1, 1, 3, 3, 4, 2, 2, 1, 1, 1, 2, 2, 4, 3, 3, 1, 1, 1, 1, 1, 4, 4, 4, 1, 1, 1, 4, 3, 3, 1, 1, 1, 2, 2, 3, 3, 3, 2, 2, 2, 2, 2, 2, 2, 3, 3, 3, 2, 2, 2, 1, 1, 3, 3, 4, 2, 2, 1, 4, 2, 2, 1, 1, 1, 3, 3, 3, 2, 2, 2, 2, 2, 3, 3, 2, 2, 2, 2, 3, 3, 3, 2, 1, 1, 2, 2, 4, 3, 3, 1, 4, 1, 1, 1, 1, 1, 4, 4, 3, 1, 1, 1, 2, 2, 4, 3, 2, 1, 1, 1, 3, 3, 4, 2, 1, 1, 1, 1, 4, 4, 4, 1])), .inl (0, [.ref 31, .ref 13, .ref 21, .ref 29]), .inl (6, [.ref 14, .int 0]), .inr (.inr (5, [some 15, some 17, some 19])), .inl (5, [.ref 16, .int 0]), .inr (.inl (0, [0, 0, 0, 0])), .inl (5, [.ref 18, .int 0]), .inr (.inl (0, [0, 0, 0, 0])), .inl (5, [.ref 20, .int 0]), .inr (.inl (0, [0, 0, 0, 0])), .inl (6, [.ref 22, .int 0]), .inr (.inr (5, [some 23, some 25, some 27])), .inl (5, [.ref 24, .int 0]), .inr (.inl (0, [0, 0, 0, 0])), .inl (5, [.ref 26, .int 0]), .inr (.inl (0, [0, 0, 0, 0])), .inl (5, [.ref 28, .int 0]), .inr (.inl (0, [0, 0, 0, 0])), .inl (5, [.ref 30, .int 1]), .inr (.inl (0, [120, 0, 0, 0, 0, 0, 0, 0, 0])), .inl (4, [.ref 32, .ref 9]), .inr (.inl (0, [0, 0, 0, 0, 0, 0, 0, 0, 0, 0, 0, 0, 0, 0, 0, 0])), .inr (.inr (0, [some 54, some 75])), .inl (5, [.ref 35, .int 0]), .inr (.inl (0, [0, 0, 0, 0, 0, 0, 0, 0, 0, 0, 0, 0, 0, 0, 0, 0])), .inl (4, [.ref 37, .ref 9]), .inr (.inl (0, [0, 0, 0, 0, 0, 0, 0, 0, 0, 0, 0, 0, 0, 0, 0, 0])), .inl (1, [.ref 12, .ref 42, .ref 39, .ref 40, .ref 41, .int 0, .int 0, .int 0, .int 0]), .inr (.inl (0, [0, 0, 0])), .inr (.inl (0, [0, 0, 0])), .inr (.inl (0, [0, 0, 0])), .inl (4, [.ref 43, .ref 9]), .inr (.inl (0, [0, 0, 0, 0, 0, 0, 0, 0, 0, 0, 0, 0, 0, 0, 0, 0])), .inl (2, [.ref 12, .ref 48, .ref 45, .ref 46, .ref 47, .int 0, .int 0, .ref 50, .ref 52, .int 0]), .inr (.inl (0, [0, 0, 0])), .inr (.inl (0, [0, 0, 0])), .inr (.inl (0, [0, 0, 0])), .inl (4, [.ref 49, .ref 9]), .inr (.inl (0, [0, 0, 0, 0, 0, 0, 0, 0, 0, 0, 0, 0, 0, 0, 0, 0])), .inl (4, [.ref 51, .ref 9]), .inr (.inl (0, [0, 0, 0, 0, 0, 0, 0, 0, 0, 0, 0, 0, 0, 0, 0, 0])), .inl (4, [.ref 53, .ref 9]), .inr (.inl (0, [0, 0, 0, 0, 0, 0, 0, 0, 0, 0, 0, 0, 0, 0, 0, 0])), .inl (0, [.ref 73, .ref 55, .ref 63, .ref 71]), .inl (6, [.ref 56, .int 0]), .inr (.inr (5, [some 57, some 59, some 61])), .inl (5, [.ref 58, .int 0]), .inr (.inl (0, [0, 0, 0, 0])), .inl (5, [.ref 60, .int 0]), .inr (.inl (0, [0, 0, 0, 0])), .inl (5, [.ref 62, .int 0]), .inr (.inl (0, [0, 0, 0, 0])), .inl (6, [.ref 64, .int 0]), .inr (.inr (5, [some 65, some 67, some 69])), .inl (5, [.ref 66, .int 0]), .inr (.inl (0, [0, 0, 0, 0])), .inl (5, [.ref 68, .int 0]), .inr (.inl (0, [0, 0, 0, 0])), .inl (5, [.ref 70, .int 0]), .inr (.inl (0, [0, 0, 0, 0])), .inl (5, [.ref 72, .int 1]), .inr (.inl (0, [120, 0, 0, 0, 0, 0, 0, 0, 0])), .inl (4, [.ref 74, .ref 9]), .inr (.inl (0, [0, 0, 0, 0, 0, 0, 0, 0, 0, 0, 0, 0, 0, 0, 0, 0])), .inl (0, [.ref 94, .ref 76, .ref 84, .ref 92]), .inl (6, [.ref 77, .int 0]), .inr (.inr (5, [some 78, some 80, some 82])), .inl (5, [.ref 79, .int 0]), .inr (.inl (0, [0, 0, 0, 0])), .inl (5, [.ref 81, .int 0]), .inr (.inl (0, [0, 0, 0, 0])), .inl (5, [.ref 83, .int 0]), .inr (.inl (0, [0, 0, 0, 0])), .inl (6, [.ref 85, .int 0]), .inr (.inr (5, [some 86, some 88, some 90])), .inl (5, [.ref 87, .int 0]), .inr (.inl (0, [0, 0, 0, 0])), .inl (5, [.ref 89, .int 0]), .inr (.inl (0, [0, 0, 0, 0])), .inl (5, [.ref 91, .int 0]), .inr (.inl (0, [0, 0, 0, 0])), .inl (5, [.ref 93, .int 1]), .inr (.inl (0, [120, 0, 0, 0, 0, 0, 0, 0, 0])), .inl (4, [.ref 95, .ref 9]), .inr (.inl (0, [0, 0, 0, 0, 0, 0, 0, 0, 0, 0, 0, 0, 0, 0, 0, 0]))]
def hjD : aH := [.inr (.inl (2, [0, 1, 1, 1, 0, (-1), (-1), (-1)])), .inr (.inl (2, [1, 1, 0, (-1), (-1), (-1), 0, 1])), .inr (.inl (2, [3, 2, 1])), .inr (.inl (2, [4, 4, 9])), jk, .inl (7, [.ref 6, .ref 9, .ref 12, .ref 33, .ref 34, .ref 36, .ref 38, .ref 44, .int 0]), .inl (3, [.int 3, .int 9, .int 72, .ref 7, .ref 8]), .inr (.inl (0, [1, 4, 3, 2, (-1), (-4), (-3), (-2)])), .inr (.inl (0, [3, 3, 3, 1, 1, 1, 1, 1, 2, 2, 3, 2, 2, 1, 1, 1, 1, 1, 3, 3, 3, 1, 1, 1, 3, 2, 2, 1, 1, 1, 2, 2, 2, 2, 2, 2, 2, 2, 2, 2, 1, 1, 2, 2, 3, 2, 2, 1, 3, 1, 1, 1, 1, 1, 3, 3, 2, 1, 1, 1, 2, 2, 3, 2, 1, 1, 1, 1, 3, 3, 3, 1, 0, 0, 0, 0, 0, 0, 0, 0, 0, 0, 0, 0, 0, 0, 0, 0, 0, 0, 0, 0, 0, 0, 0, 0, 0, 0, 0, 0, 0, 0, 0, 0, 0, 0, 0, 0, 0, 0, 0, 0, 0, 0, 0, 0, 0, 0, 0, 0, 0, 0, 0, 0, 0, 0, 0, 0])), .inl (3, [.int 4, .int 16, .int 128, .ref 10, .ref 11]), .inr (.inl (0, [1, 5, 4, 3, (-1), (-5), (-4), (-3)])), .inr (.inl (0, [4, 4, 4, 1, 1, 1, 1, 1, 3, 3, 4, 2, 2, 1, 1, 1, 2, 2, 4, 3, 3, 1, 1, 1, 1, 1, 4, 4, 4, 1, 1, 1, 4, 3, 3, 1, 1, 1, 2, 2, 3, 3, 3, 2, 2, 2, 2, 2, 2, 2, 3, 3, 3, 2, 2, 2, 1, 1, 3, 3, 4, 2, 2, 1, 4, 2, 2, 1, 1, 1, 3, 3, 3, 2, 2, 2, 2, 2, 3, 3, 2, 2, 2, 2, 3, 3, 3, 2, 1, 1, 2, 2, 4, 3, 3, 1, 4, 1, 1, 1, 1, 1, 4, 4, 3, 1, 1, 1, 2, 2, 4, 3, 2, 1, 1, 1, 3, 3, 4, 2, 1, 1, 1, 1, 4, 4, 4, 1])), .inl (0, [.ref 31, .ref 13, .ref 21, .ref 29]), .inl (6, [.ref 14, .int 0]), .inr (.inr (5, [some 15, some 17, some 19])), .inl (5, [.ref 16, .int 0]), .inr (.inl (0, [0, 0, 0, 0])), .inl (5, [.ref 18, .int 0]), .inr (.inl (0, [0, 0, 0, 0])), .inl (5, [.ref 20, .int 0]), .inr (.inl (0, [0, 0, 0, 0])), .inl (6, [.ref 22, .int 0]), .inr (.inr (5, [some 23, some 25, some 27])), .inl (5, [.ref 24, .int 0]), .inr (.inl (0, [0, 0, 0, 0])), .inl (5, [.ref 26, .int 0]), .inr (.inl (0, [0, 0, 0, 0])), .inl (5, [.ref 28, .int 0]), .inr (.inl (0, [0, 0, 0, 0])), .inl (5, [.ref 30, .int 1]), .inr (.inl (0, [120, 0, 0, 0, 0, 0, 0, 0, 0])), .inl (4, [.ref 32, .ref 9]), .inr (.inl (0, [0, 0, 0, 0, 0, 0, 0, 0, 0, 0, 0, 0, 0, 0, 0, 0])), .inr (.inr (0, [some 54, some 75])), .inl (5, [.ref 35, .int 0]), .inr (.inl (0, [0, 0, 0, 0, 0, 0, 0, 0, 0, 0, 0, 0, 0, 0, 0, 0])), .inl (4, [.ref 37, .ref 9]), .inr (.inl (0, [0, 0, 0, 0, 0, 0, 0, 0, 0, 0, 0, 0, 0, 0, 0, 0])), .inl (1, [.ref 12, .ref 42, .ref 39, .ref 40, .ref 41, .int 0, .int 0, .int 0, .int 0]), .inr (.inl (0, [0, 0, 0])), .inr (.inl (0, [0, 0, 0])), .inr (.inl (0, [0, 0, 0])), .inl (4, [.ref 43, .ref 9]), .inr (.inl (0, [0, 0, 0, 0, 0, 0, 0, 0, 0, 0, 0, 0, 0, 0, 0, 0])), .inl (2, [.ref 12, .ref 48, .ref 45, .ref 46, .ref 47, .int 0, .int 0, .ref 50, .ref 52, .int 0]), .inr (.inl (0, [0, 0, 0])), .inr (.inl (0, [0, 0, 0])), .inr (.inl (0, [0, 0, 0])), .inl (4, [.ref 49, .ref 9]), .inr (.inl (0, [0, 0, 0, 0, 0, 0, 0, 0, 0, 0, 0, 0, 0, 0, 0, 0])), .inl (4, [.ref 51, .ref 9]), .inr (.inl (0, [0, 0, 0, 0, 0, 0, 0, 0, 0, 0, 0, 0, 0, 0, 0, 0])), .inl (4, [.ref 53, .ref 9]), .inr (.inl (0, [0, 0, 0, 0, 0, 0, 0, 0, 0, 0, 0, 0, 0, 0, 0, 0])), .inl (0, [.ref 73, .ref 55, .ref 63, .ref 71]), .inl (6, [.ref 56, .int 0]), .inr (.inr (5, [some 57, some 59, some 61])), .inl (5, [.ref 58, .int 0]), .inr (.inl (0, [0, 0, 0, 0])), .inl (5, [.ref 60, .int 0]), .inr (.inl (0, [0, 0, 0, 0])), .inl (5, [.ref 62, .int 0]), .inr (.inl (0, [0, 0, 0, 0])), .inl (6, [.ref 64, .int 0]), .inr (.inr (5, [some 65, some 67, some 69])), .inl (5, [.ref 66, .int 0]), .inr (.inl (0, [0, 0, 0, 0])), .inl (5, [.ref 68, .int 0]), .inr (.inl (0, [0, 0, 0, 0])), .inl (5, [.ref 70, .int 0]), .inr (.inl (0, [0, 0, 0, 0])), .inl (5, [.ref 72, .int 1]), .inr (.inl (0, [120, 0, 0, 0, 0, 0, 0, 0, 0])), .inl (4, [.ref 74, .ref 9]), .inr (.inl (0, [0, 0, 0, 0, 0, 0, 0, 0, 0, 0, 0, 0, 0, 0, 0, 0])), .inl (0, [.ref 94, .ref 76, .ref 84, .ref 92]), .inl (6, [.ref 77, .int 0]), .inr (.inr (5, [some 78, some 80, some 82])), .inl (5, [.ref 79, .int 0]), .inr (.inl (0, [0, 0, 0, 0])), .inl (5, [.ref 81, .int 0]), .inr (.inl (0, [0, 0, 0, 0])), .inl (5, [.ref 83, .int 0]), .inr (.inl (0, [0, 0, 0, 0])), .inl (6, [.ref 85, .int 0]), .inr (.inr (5, [some 86, some 88, some 90])), .inl (5, [.ref 87, .int 0]), .inr (.inl (0, [0, 0, 0, 0])), .inl (5, [.ref 89, .int 0]), .inr (.inl (0, [0, 0, 0, 0])), .inl (5, [.ref 91, .int 0]), .inr (.inl (0, [0, 0, 0, 0])), .inl (5, [.ref 93, .int 1]), .inr (.inl (0, [120, 0, 0, 0, 0, 0, 0, 0, 0])), .inl (4, [.ref 95, .ref 9]), .inr (.inl (0, [0, 0, 0, 0, 0, 0, 0, 0, 0, 0, 0, 0, 0, 0, 0, 0])), .inl (8, [.ref 97, .ref 98, .ref 99, .ref 100, .int 0, .ref 101, .ref 102, .int 0, .int 0, .int 0, .int 0, .ref 103, .int 0]), .inr (.inl (0, [4, 0, 0, 0, 0, 0, 0, 0, 0, 0, 0, 0, 0, 0, 0, 0, 0, 120, 0, 0, 0, 0, 0, 0, 0, 0, 1, 0, 0, 0, 0, 0, 0, 0, 0, 0, 0, 0, 0, 0, 0, 0, 0, 0, 0, 0, 0, 0, 0, 0, 0, 0, 0, 0, 0, 0, 0, 0, 0])), .inr (.inl (0, [0, 0, 0, 0, 0, 0, 0, 0, 0, 0, 0, 0, 0, 0, 0, 0, 0, 0, 0, 0, 0, 0, 0, 0, 0, 0, 0, 0, 0, 0, 0, 0, 0, 0, 0, 0, 0, 0, 0, 0, 0, 0, 0, 0, 0, 0, 0, 0, 0, 0, 0, 0, 0, 0, 0, 0, 0, 0, 0, 0, 0, 0, 0, 0, 0, 0, 0, 0, 0, 0, 0, 0, 0, 0, 0, 0, 0, 0, 0, 0, 0, 0, 0, 0, 0, 0, 0, 0, 0, 0, 0, 0, 0, 0, 0, 0, 0, 0, 0, 0, 0, 0, 0, 0, 0, 0, 0, 0, 0, 0, 0, 0, 0, 0, 0, 0, 0, 0])), .inr (.inl (1, [0, 0])), .inr (.inl (0, [0, 0, 0, 0, 0, 0, 0, 0, 0, 0, 0, 0, 0, 0, 0, 0])), .inr (.inl (0, [0, 0, 0, 0, 0, 0, 0, 0, 0, 0, 0, 0, 0, 0, 0, 0, 0, 0, 0, 0, 0, 0, 0, 0, 0, 0, 0, 0, 0, 0, 0, 0, 0, 0, 0, 0, 0, 0, 0, 0, 0, 0, 0, 0, 0, 0, 0, 0, 0, 0, 0, 0, 0, 0, 0, 0, 0, 0, 0, 0, 0, 0, 0, 0, 0, 0, 0, 0, 0, 0, 0, 0, 0, 0, 0, 0, 0, 0, 0, 0])), .inr (.inl (0, [0, 0, 0, 0, 0, 0, 0, 0, 0, 0, 0, 0, 0, 0, 0, 0, 0, 0, 0, 0, 0, 0, 0, 0, 0, 0, 0, 0, 0, 0, 0, 0, 0, 0, 0, 0, 0, 0, 0, 0, 0, 0, 0, 0, 0, 0, 0, 0, 0, 0, 0, 0, 0, 0, 0, 0, 0, 0, 0, 0, 0, 0, 0, 0, 0, 0, 0, 0, 0, 0, 0, 0, 0, 0, 0, 0, 0, 0, 0, 0])), .inr (.inl (0, [0, 0, 0]))]
set_option maxRecDepth 100000 in
theorem ini_c0 : isR (arun 20000 39 40 0 [.ref 5, aU] [] hjA) hjB = true := by decide +kernel
theorem ini_c : arun 20000 39 40 0 [.ref 5, aU] [] hjA = some (none, hjB) := isR_eq ini_c0
set_option maxRecDepth 100000 in
theorem ini_m0 : isR (arun 2000 39 64 0 [.ref 96] [] (hjB ++ [.inl (8, dfl 8)])) hjD = true := by decide +kernel
theorem ini_m : arun 2000 39 64 0 [.ref 96] [] (hjB ++ [.inl (8, dfl 8)]) = some (none, hjD) := isR_eq ini_m0
def hS (xs : List Int32) : aH := hjD.set 4 (.inr (.inl (2, xs)))
theorem law_start (xs : List Int32) : go 40 123 0 [.ref 4, aU, aU, aU] [] (h0 xs) = go 40 123 18 [.ref 4, .ref 5, .ref 96, .int 0] [] (hS xs) := by
  have e1 := go_of (jk_run (c := .inr (.inl (2, xs))) 20000 39 40 0 [.ref 5, aU] [] hjA none hjB rfl ini_c).1
  have e2 := go_of (jk_run (c := .inr (.inl (2, xs))) 2000 39 64 0 [.ref 96] [] (hjB ++ [.inl (8, dfl 8)]) none hjD rfl ini_m).1
  have a1 : h0 xs ++ [.inl (7, dfl 7)] = hjA.set 4 (.inr (.inl (2, xs))) := rfl
  have a2 := (jk_app (c := .inr (.inl (2, xs))) (h := hjB) (x := .inl (8, dfl 8)) rfl).1
  have l1 : (hjB.set 4 (.inr (.inl (2, xs)))).length = 96 := by rw [List.length_set]; rfl
  have l0 : (h0 xs).length = 5 := rfl
  show go (39 + 1) 123 0 [.ref 4, aU, aU, aU] [] (h0 xs) = _
  rw [ee_123_0, ee_123_3, l0, a1, ee_123_4, e1]
  simp only [Option.bind_some, Option.toList, List.nil_append]
  rw [ee_123_7, ee_123_8, ee_123_11, l1, ← a2, ee_123_12, e2]
  simp only [Option.bind_some, Option.toList, List.nil_append]
  rw [ee_123_15, ee_123_16, ee_123_17]
  rfl
def g00 : gG := (4, List.replicate 16 0, [], [], [120])
theorem gw0 : GW g00 := by
  refine ⟨⟨Or.inr rfl, fun c _ => getD_rep 16 c, fun c => Or.inl (getD_rep 16 c), no_mem, no_mem, by decide, by decide, ?_⟩, rfl, Nat.zero_le _, Nat.zero_le _⟩
  intro x hx
  rw [List.mem_singleton.mp hx]
  decide
theorem asl_upd {c c' : aC} : ∀ (h : aH) (a : Nat), h[a]? = some c → asl (h.set a c') + acs c = asl h + acs c'
  | [], a, e => by simp at e
  | x :: h, 0, e => by
    have hx : x = c := by simpa using e
    subst hx
    simp only [asl, List.set_cons_zero, List.map_cons, List.sum_cons]
    omega
  | x :: h, a + 1, e => by
    have ih := asl_upd (c := c) (c' := c') h a (by simpa using e)
    simp only [asl, List.set_cons_succ, List.map_cons, List.sum_cons] at ih ⊢
    omega
theorem hS_len (xs : List Int32) : (hS xs).length = 104 := by
  unfold hS
  rw [List.length_set]
  rfl
theorem asl_D : asl hjD = 1068 := by decide +kernel
theorem hS_asl (xs : List Int32) : asl (hS xs) = 1068 + xs.length := by
  have h1 := asl_upd (c := jk) (c' := .inr (.inl (2, xs))) hjD 4 rfl
  rw [asl_D, show acs jk = 0 from rfl, Nat.add_zero] at h1
  exact h1
theorem hS_at {xs : List Int32} {k : Nat} {y : aC} (h : hjD[k]? = some y) (hk : ¬ 4 = k) : (hS xs)[k]? = some y := by
  unfold hS
  rw [set_ne hk]
  exact h
theorem hS_4 (xs : List Int32) : (hS xs)[4]? = some (.inr (.inl (2, xs))) := set_at (show 4 < hjD.length by decide)
theorem text0 {h : aH} {a c : Nat} (h1 : h[a]? = some (.inl (5, [.ref (a + 1), .int 0]))) (h2 : h[a + 1]? = some (ints (List.replicate c 0))) : TextAt h a c [] := ⟨h1, List.replicate c 0, h2, by simp⟩
theorem list0a {h : aH} {a : Nat} (h0 : h[a]? = some (.inl (6, [.ref (a + 1), .int 0]))) (h1 : h[a + 1]? = some (.inr (.inr (5, [some (a + 2), some (a + 4), some (a + 6)])))) (t0 : TextAt h (a + 2) 4 []) (t1 : TextAt h (a + 4) 4 []) (t2 : TextAt h (a + 6) 4 []) : ListAt h a [] := ⟨by decide, h0, h1, [], [], [], t0, t1, t2, rfl⟩
def bdL (b : Nat) : aH := [.inl (0, [.ref (b + 19), .ref (b + 1), .ref (b + 9), .ref (b + 17)]), .inl (6, [.ref (b + 2), .int 0]), .inr (.inr (5, [some (b + 3), some (b + 5), some (b + 7)])), .inl (5, [.ref (b + 4), .int 0]), ints [0, 0, 0, 0], .inl (5, [.ref (b + 6), .int 0]), ints [0, 0, 0, 0], .inl (5, [.ref (b + 8), .int 0]), ints [0, 0, 0, 0], .inl (6, [.ref (b + 10), .int 0]), .inr (.inr (5, [some (b + 11), some (b + 13), some (b + 15)])), .inl (5, [.ref (b + 12), .int 0]), ints [0, 0, 0, 0], .inl (5, [.ref (b + 14), .int 0]), ints [0, 0, 0, 0], .inl (5, [.ref (b + 16), .int 0]), ints [0, 0, 0, 0], .inl (5, [.ref (b + 18), .int 1]), ints [120, 0, 0, 0, 0, 0, 0, 0, 0], .inl (4, [.ref (b + 20), .ref 9]), ints [0, 0, 0, 0, 0, 0, 0, 0, 0, 0, 0, 0, 0, 0, 0, 0]]
theorem board0 {xs : List Int32} {b : Nat} (hb : 4 < b) (e0 : eqH ((hjD.drop b).take 21) (bdL b) = true) : BoardG (hS xs) b g00 := by
  have hh : ∀ j y, j < 21 → hjD[b + j]? = some y → (hS xs)[b + j]? = some y := fun j y hj hy => hS_at hy (by omega)
  have e : ∀ j, j < 21 → hjD[b + j]? = (bdL b)[j]? := fun j hj => by
    rw [← eqH_eq e0, List.getElem?_take, if_pos hj, List.getElem?_drop]
  refine ⟨⟨?_, ⟨?_, ?_, rfl⟩, list0a ?_ ?_ (text0 ?_ ?_) (text0 ?_ ?_) (text0 ?_ ?_), list0a ?_ ?_ (text0 ?_ ?_) (text0 ?_ ?_) (text0 ?_ ?_), ⟨?_, [0, 0, 0, 0, 0, 0, 0, 0], ?_, rfl⟩⟩, gw0.1⟩
  · exact hh 0 _ (by decide) (e 0 (by decide))
  · exact hh 19 _ (by decide) (e 19 (by decide))
  · exact hh 20 _ (by decide) (e 20 (by decide))
  · exact hh 1 _ (by decide) (e 1 (by decide))
  · exact hh 2 _ (by decide) (e 2 (by decide))
  · exact hh 3 _ (by decide) (e 3 (by decide))
  · exact hh 4 _ (by decide) (e 4 (by decide))
  · exact hh 5 _ (by decide) (e 5 (by decide))
  · exact hh 6 _ (by decide) (e 6 (by decide))
  · exact hh 7 _ (by decide) (e 7 (by decide))
  · exact hh 8 _ (by decide) (e 8 (by decide))
  · exact hh 9 _ (by decide) (e 9 (by decide))
  · exact hh 10 _ (by decide) (e 10 (by decide))
  · exact hh 11 _ (by decide) (e 11 (by decide))
  · exact hh 12 _ (by decide) (e 12 (by decide))
  · exact hh 13 _ (by decide) (e 13 (by decide))
  · exact hh 14 _ (by decide) (e 14 (by decide))
  · exact hh 15 _ (by decide) (e 15 (by decide))
  · exact hh 16 _ (by decide) (e 16 (by decide))
  · exact hh 17 _ (by decide) (e 17 (by decide))
  · exact hh 18 _ (by decide) (e 18 (by decide))
theorem sq0 {xs : List Int32} {a : Nat} (h4 : 4 < a) (e1 : hjD[a]? = some (.inl (4, [.ref (a + 1), .ref 9]))) (e2 : hjD[a + 1]? = some (ints (List.replicate 16 0))) : SquareAt (hS xs) a 4 (List.replicate 16 0) := ⟨hS_at e1 (by omega), hS_at e2 (by omega), rfl⟩
theorem ci0 (xs : List Int32) : CI (hS xs) g00 [] g00 g00 (kI false false) := by
  have hk : kI false false = 0 := by decide
  rw [hk]
  refine ⟨⟨⟨hS_at rfl (by decide), hS_at rfl (by decide), hS_at rfl (by decide), hS_at rfl (by decide), hS_at rfl (by decide), hS_at rfl (by decide)⟩, ⟨hS_at rfl (by decide), hS_at rfl (by decide)⟩, hS_at rfl (by decide), hS_at rfl (by decide), board0 (by decide) (by decide +kernel), ⟨text0 (hS_at rfl (by decide)) (hS_at rfl (by decide)), no_mem⟩, ⟨4, _, sq0 (by decide) rfl rfl⟩, board0 (by decide) (by decide +kernel), board0 (by decide) (by decide +kernel)⟩,
    ⟨0, ((0, 0, 0, [0, 0, 0]), [0, 0, 0], [0, 0, 0]), ⟨⟨4, _, sq0 (by decide) rfl rfl⟩, hS_at rfl (by decide), ⟨hS_at rfl (by decide), rfl⟩, ⟨hS_at rfl (by decide), rfl⟩, ⟨hS_at rfl (by decide), rfl⟩⟩, Or.inl rfl⟩,
    ⟨0, ((0, 0, [0, 0, 0], 4, List.replicate 16 0), [0, 0, 0], [0, 0, 0]), ⟨⟨4, _, sq0 (by decide) rfl rfl⟩, hS_at rfl (by decide), ⟨hS_at rfl (by decide), rfl⟩, ⟨hS_at rfl (by decide), rfl⟩, ⟨hS_at rfl (by decide), rfl⟩, ⟨4, _, sq0 (by decide) rfl rfl⟩, sq0 (by decide) rfl rfl⟩, Or.inl rfl⟩⟩
def sS0 : List Int32 := [4, 0, 0, 0, 0, 0, 0, 0, 0, 0, 0, 0, 0, 0, 0, 0, 0, 120, 0, 0, 0, 0, 0, 0, 0, 0, 1, 0, 0, 0, 0, 0, 0, 0, 0, 0, 0, 0, 0, 0, 0, 0, 0, 0, 0, 0, 0, 0, 0, 0, 0, 0, 0, 0, 0, 0, 0, 0, 0]
theorem enc0 : Enc (fun j => sS0.getD j 0) g00 := by
  refine ⟨by decide, by decide +kernel, ⟨by decide, by decide +kernel⟩, ⟨by decide, by decide⟩, fun k hk => absurd hk (Nat.not_lt_zero k), fun k hk => absurd hk (Nat.not_lt_zero k)⟩
theorem mi0 (xs : List Int32) : MI (hS xs) g00 [] g00 g00 false false := by
  refine ⟨sS0, List.replicate 118 0, List.replicate 16 0, List.replicate 80 0, List.replicate 80 0, [0, 0, 0], 0, 0, 0, 0, 0, ⟨hS_at rfl (by decide), ⟨hS_at rfl (by decide), rfl⟩, ⟨hS_at rfl (by decide), rfl⟩, hS_at rfl (by decide), ⟨hS_at rfl (by decide), rfl⟩, ⟨hS_at rfl (by decide), rfl⟩, ⟨hS_at rfl (by decide), rfl⟩, ⟨hS_at rfl (by decide), rfl⟩⟩, enc0, fun z => (by cases z), fun z => (by cases z), by decide, fun i hi => absurd hi (Nat.not_lt_zero i)⟩
