/-! the program as equations -/
theorem ke_22_0 : alook 22 0 = some (0, .aload_n 0, 1, (0, 0, 0, 0, 0), ⟨"", "", ""⟩, "") := rfl
theorem ee_22_0 {d : Nat} {h : aH} {l1 : Value} {x : Nat} {st : List Value} : go d 22 0 [.ref x, l1] st h = go d 22 1 [.ref x, l1] (.ref x :: st) h := go_plain (q := (1, [.ref x, l1], (.ref x :: st), h)) ke_22_0 rfl
theorem ee_22_0N {d : Nat} {h : aH} {l1 : Value} {st : List Value} : go d 22 0 [.null, l1] st h = go d 22 1 [.null, l1] (.null :: st) h := go_plain (q := (1, [.null, l1], (.null :: st), h)) ke_22_0 rfl
theorem ke_22_1 : alook 22 1 = some (1, .aload_n 1, 1, (0, 0, 0, 0, 0), ⟨"", "", ""⟩, "") := rfl
theorem ee_22_1 {d : Nat} {h : aH} {l0 : Value} {x : Nat} {st : List Value} : go d 22 1 [l0, .ref x] st h = go d 22 2 [l0, .ref x] (.ref x :: st) h := go_plain (q := (2, [l0, .ref x], (.ref x :: st), h)) ke_22_1 rfl
theorem ee_22_1N {d : Nat} {h : aH} {l0 : Value} {st : List Value} : go d 22 1 [l0, .null] st h = go d 22 2 [l0, .null] (.null :: st) h := go_plain (q := (2, [l0, .null], (.null :: st), h)) ke_22_1 rfl
theorem ke_22_2 : alook 22 2 = some (2, .putfield 15, 3, (1, 4, 4, 2, 0), ⟨"", "", ""⟩, "WordHides$Square") := rfl
theorem ee_22_2 {d : Nat} {ls st : List Value} {h : aH} {r : Nat} {w : Value} : go d 22 2 ls (w :: .ref r :: st) h = (pf h r 1 4 4 2 w).bind fun h' => go d 22 5 ls st h' := go_putf ke_22_2
theorem ke_22_5 : alook 22 5 = some (5, .aload_n 0, 1, (0, 0, 0, 0, 0), ⟨"", "", ""⟩, "") := rfl
theorem ee_22_5 {d : Nat} {h : aH} {l1 : Value} {x : Nat} {st : List Value} : go d 22 5 [.ref x, l1] st h = go d 22 6 [.ref x, l1] (.ref x :: st) h := go_plain (q := (6, [.ref x, l1], (.ref x :: st), h)) ke_22_5 rfl
theorem ee_22_5N {d : Nat} {h : aH} {l1 : Value} {st : List Value} : go d 22 5 [.null, l1] st h = go d 22 6 [.null, l1] (.null :: st) h := go_plain (q := (6, [.null, l1], (.null :: st), h)) ke_22_5 rfl
theorem ke_22_6 : alook 22 6 = some (6, .getfield 9, 3, (0, 4, 4, 2, 0), ⟨"", "", ""⟩, "WordHides$Square") := rfl
theorem ee_22_6 {d : Nat} {ls st : List Value} {h : aH} {r : Nat} : go d 22 6 ls (.ref r :: st) h = (gf h r 0 4 4).bind fun z => go d 22 9 ls (z :: st) h := go_getf ke_22_6
theorem ke_22_9 : alook 22 9 = some (9, .iconst 0, 1, (0, 0, 0, 0, 0), ⟨"", "", ""⟩, "") := rfl
theorem ee_22_9 {d : Nat} {h : aH} {ls st : List Value} : go d 22 9 ls st h = go d 22 10 ls (.int 0 :: st) h := go_plain (q := (10, ls, (.int 0 :: st), h)) ke_22_9 rfl
theorem ke_22_10 : alook 22 10 = some (10, .invokestatic 19, 3, (2, 0, 122, 0, 0), ⟨"java/util/Arrays", "fill", "([II)V"⟩, "") := rfl
theorem ee_22_10 {d : Nat} {ls : List Value} {h : aH} {i0 : Int32} {r1 : Nat} : go (d + 1) 22 10 ls [.int i0, .ref r1] h = (go d 122 0 [.ref r1, .int i0, aU, aU] [] h).bind (fun q => go (d + 1) 22 13 ls (q.1.toList ++ []) q.2) := go_cs (as := [.ref r1, .int i0]) (rest := []) (L := [.ref r1, .int i0, aU, aU]) ke_22_10 rfl rfl rfl
theorem ke_22_13 : alook 22 13 = some (13, .return_, 1, (0, 0, 0, 0, 0), ⟨"", "", ""⟩, "") := rfl
theorem ee_22_13 {d : Nat} {ls : List Value} {h : aH} : go d 22 13 ls [] h = some (none, h) := go_ret ke_22_13 rfl rfl rfl
theorem ke_23_0 : alook 23 0 = some (0, .aload_n 0, 1, (0, 0, 0, 0, 0), ⟨"", "", ""⟩, "") := rfl
theorem ee_23_0 {d : Nat} {h : aH} {l1 : Value} {x : Nat} {st : List Value} : go d 23 0 [.ref x, l1] st h = go d 23 1 [.ref x, l1] (.ref x :: st) h := go_plain (q := (1, [.ref x, l1], (.ref x :: st), h)) ke_23_0 rfl
theorem ee_23_0N {d : Nat} {h : aH} {l1 : Value} {st : List Value} : go d 23 0 [.null, l1] st h = go d 23 1 [.null, l1] (.null :: st) h := go_plain (q := (1, [.null, l1], (.null :: st), h)) ke_23_0 rfl
theorem ke_23_1 : alook 23 1 = some (1, .aload_n 1, 1, (0, 0, 0, 0, 0), ⟨"", "", ""⟩, "") := rfl
theorem ee_23_1 {d : Nat} {h : aH} {l0 : Value} {x : Nat} {st : List Value} : go d 23 1 [l0, .ref x] st h = go d 23 2 [l0, .ref x] (.ref x :: st) h := go_plain (q := (2, [l0, .ref x], (.ref x :: st), h)) ke_23_1 rfl
theorem ee_23_1N {d : Nat} {h : aH} {l0 : Value} {st : List Value} : go d 23 1 [l0, .null] st h = go d 23 2 [l0, .null] (.null :: st) h := go_plain (q := (2, [l0, .null], (.null :: st), h)) ke_23_1 rfl
theorem ke_23_2 : alook 23 2 = some (2, .getfield 15, 3, (1, 4, 4, 2, 0), ⟨"", "", ""⟩, "WordHides$Square") := rfl
theorem ee_23_2 {d : Nat} {ls st : List Value} {h : aH} {r : Nat} : go d 23 2 ls (.ref r :: st) h = (gf h r 1 4 4).bind fun z => go d 23 5 ls (z :: st) h := go_getf ke_23_2
theorem ke_23_5 : alook 23 5 = some (5, .putfield 15, 3, (1, 4, 4, 2, 0), ⟨"", "", ""⟩, "WordHides$Square") := rfl
theorem ee_23_5 {d : Nat} {ls st : List Value} {h : aH} {r : Nat} {w : Value} : go d 23 5 ls (w :: .ref r :: st) h = (pf h r 1 4 4 2 w).bind fun h' => go d 23 8 ls st h' := go_putf ke_23_5
theorem ke_23_8 : alook 23 8 = some (8, .aload_n 1, 1, (0, 0, 0, 0, 0), ⟨"", "", ""⟩, "") := rfl
theorem ee_23_8 {d : Nat} {h : aH} {l0 : Value} {x : Nat} {st : List Value} : go d 23 8 [l0, .ref x] st h = go d 23 9 [l0, .ref x] (.ref x :: st) h := go_plain (q := (9, [l0, .ref x], (.ref x :: st), h)) ke_23_8 rfl
theorem ee_23_8N {d : Nat} {h : aH} {l0 : Value} {st : List Value} : go d 23 8 [l0, .null] st h = go d 23 9 [l0, .null] (.null :: st) h := go_plain (q := (9, [l0, .null], (.null :: st), h)) ke_23_8 rfl
theorem ke_23_9 : alook 23 9 = some (9, .getfield 9, 3, (0, 4, 4, 2, 0), ⟨"", "", ""⟩, "WordHides$Square") := rfl
theorem ee_23_9 {d : Nat} {ls st : List Value} {h : aH} {r : Nat} : go d 23 9 ls (.ref r :: st) h = (gf h r 0 4 4).bind fun z => go d 23 12 ls (z :: st) h := go_getf ke_23_9
theorem ke_23_12 : alook 23 12 = some (12, .iconst 0, 1, (0, 0, 0, 0, 0), ⟨"", "", ""⟩, "") := rfl
theorem ee_23_12 {d : Nat} {h : aH} {ls st : List Value} : go d 23 12 ls st h = go d 23 13 ls (.int 0 :: st) h := go_plain (q := (13, ls, (.int 0 :: st), h)) ke_23_12 rfl
theorem ke_23_13 : alook 23 13 = some (13, .aload_n 0, 1, (0, 0, 0, 0, 0), ⟨"", "", ""⟩, "") := rfl
theorem ee_23_13 {d : Nat} {h : aH} {l1 : Value} {x : Nat} {st : List Value} : go d 23 13 [.ref x, l1] st h = go d 23 14 [.ref x, l1] (.ref x :: st) h := go_plain (q := (14, [.ref x, l1], (.ref x :: st), h)) ke_23_13 rfl
theorem ee_23_13N {d : Nat} {h : aH} {l1 : Value} {st : List Value} : go d 23 13 [.null, l1] st h = go d 23 14 [.null, l1] (.null :: st) h := go_plain (q := (14, [.null, l1], (.null :: st), h)) ke_23_13 rfl
theorem ke_23_14 : alook 23 14 = some (14, .getfield 9, 3, (0, 4, 4, 2, 0), ⟨"", "", ""⟩, "WordHides$Square") := rfl
theorem ee_23_14 {d : Nat} {ls st : List Value} {h : aH} {r : Nat} : go d 23 14 ls (.ref r :: st) h = (gf h r 0 4 4).bind fun z => go d 23 17 ls (z :: st) h := go_getf ke_23_14
theorem ke_23_17 : alook 23 17 = some (17, .iconst 0, 1, (0, 0, 0, 0, 0), ⟨"", "", ""⟩, "") := rfl
theorem ee_23_17 {d : Nat} {h : aH} {ls st : List Value} : go d 23 17 ls st h = go d 23 18 ls (.int 0 :: st) h := go_plain (q := (18, ls, (.int 0 :: st), h)) ke_23_17 rfl
theorem ke_23_18 : alook 23 18 = some (18, .bipush 16, 2, (0, 0, 0, 0, 0), ⟨"", "", ""⟩, "") := rfl
theorem ee_23_18 {d : Nat} {h : aH} {ls st : List Value} : go d 23 18 ls st h = go d 23 20 ls (.int 16 :: st) h := go_plain (q := (20, ls, (.int 16 :: st), h)) ke_23_18 rfl
theorem ke_23_20 : alook 23 20 = some (20, .invokestatic 25, 3, (0, 0, 0, 0, 1), ⟨"java/lang/System", "arraycopy", "(Ljava/lang/Object;ILjava/lang/Object;II)V"⟩, "") := rfl
theorem ee_23_20 {d : Nat} {ls : List Value} {h : aH} {v w : Nat} {n : Int32} : go d 23 20 ls [.int n, .int 0, .ref w, .int 0, .ref v] h = (cpy h v w n).bind fun h' => go d 23 23 ls [] h' := go_copy ke_23_20 (Nat.zero_le _) rfl
theorem ke_23_23 : alook 23 23 = some (23, .return_, 1, (0, 0, 0, 0, 0), ⟨"", "", ""⟩, "") := rfl
theorem ee_23_23 {d : Nat} {ls : List Value} {h : aH} : go d 23 23 ls [] h = some (none, h) := go_ret ke_23_23 rfl rfl rfl
theorem ke_24_0 : alook 24 0 = some (0, .aload_n 0, 1, (0, 0, 0, 0, 0), ⟨"", "", ""⟩, "") := rfl
theorem ee_24_0 {d : Nat} {h : aH} {l1 l2 l3 l4 l5 : Value} {x : Nat} {st : List Value} : go d 24 0 [.ref x, l1, l2, l3, l4, l5] st h = go d 24 1 [.ref x, l1, l2, l3, l4, l5] (.ref x :: st) h := go_plain (q := (1, [.ref x, l1, l2, l3, l4, l5], (.ref x :: st), h)) ke_24_0 rfl
theorem ee_24_0N {d : Nat} {h : aH} {l1 l2 l3 l4 l5 : Value} {st : List Value} : go d 24 0 [.null, l1, l2, l3, l4, l5] st h = go d 24 1 [.null, l1, l2, l3, l4, l5] (.null :: st) h := go_plain (q := (1, [.null, l1, l2, l3, l4, l5], (.null :: st), h)) ke_24_0 rfl
theorem ke_24_1 : alook 24 1 = some (1, .getfield 15, 3, (1, 4, 4, 2, 0), ⟨"", "", ""⟩, "WordHides$Square") := rfl
theorem ee_24_1 {d : Nat} {ls st : List Value} {h : aH} {r : Nat} : go d 24 1 ls (.ref r :: st) h = (gf h r 1 4 4).bind fun z => go d 24 4 ls (z :: st) h := go_getf ke_24_1
theorem ke_24_4 : alook 24 4 = some (4, .iload_n 2, 1, (0, 0, 0, 0, 0), ⟨"", "", ""⟩, "") := rfl
theorem ee_24_4 {d : Nat} {h : aH} {l0 l1 l3 l4 l5 : Value} {x : Int32} {st : List Value} : go d 24 4 [l0, l1, .int x, l3, l4, l5] st h = go d 24 5 [l0, l1, .int x, l3, l4, l5] (.int x :: st) h := go_plain (q := (5, [l0, l1, .int x, l3, l4, l5], (.int x :: st), h)) ke_24_4 rfl
theorem ke_24_5 : alook 24 5 = some (5, .aload_n 1, 1, (0, 0, 0, 0, 0), ⟨"", "", ""⟩, "") := rfl
theorem ee_24_5 {d : Nat} {h : aH} {l0 l2 l3 l4 l5 : Value} {x : Nat} {st : List Value} : go d 24 5 [l0, .ref x, l2, l3, l4, l5] st h = go d 24 6 [l0, .ref x, l2, l3, l4, l5] (.ref x :: st) h := go_plain (q := (6, [l0, .ref x, l2, l3, l4, l5], (.ref x :: st), h)) ke_24_5 rfl
theorem ee_24_5N {d : Nat} {h : aH} {l0 l2 l3 l4 l5 : Value} {st : List Value} : go d 24 5 [l0, .null, l2, l3, l4, l5] st h = go d 24 6 [l0, .null, l2, l3, l4, l5] (.null :: st) h := go_plain (q := (6, [l0, .null, l2, l3, l4, l5], (.null :: st), h)) ke_24_5 rfl
theorem ke_24_6 : alook 24 6 = some (6, .getfield 31, 3, (1, 5, 5, 0, 0), ⟨"", "", ""⟩, "WordHides$Text") := rfl
theorem ee_24_6 {d : Nat} {ls st : List Value} {h : aH} {r : Nat} : go d 24 6 ls (.ref r :: st) h = (gf h r 1 5 5).bind fun z => go d 24 9 ls (z :: st) h := go_getf ke_24_6
theorem ke_24_9 : alook 24 9 = some (9, .invokevirtual 37, 3, (2, 3, 14, 3, 14), ⟨"WordHides$Lattice", "holds", "(II)Z"⟩, "") := rfl
theorem ee_24_9 {d : Nat} {ls : List Value} {h : aH} {i0 : Int32} {i1 : Int32} {r2 : Nat} : go (d + 1) 24 9 ls [.int i0, .int i1, .ref r2] h = if isC h r2 3 = true then (go d 14 0 [.ref r2, .int i1, .int i0] [] h).bind (fun q => go (d + 1) 24 12 ls (q.1.toList ++ []) q.2) else none := go_cv1 (as := [.int i1, .int i0]) (rest := []) (L := [.ref r2, .int i1, .int i0]) ke_24_9 rfl rfl rfl
theorem ke_24_12 : alook 24 12 = some (12, .ifCond .ne 5, 3, (17, 0, 0, 0, 0), ⟨"", "", ""⟩, "") := rfl
theorem ee_24_12 {d : Nat} {ls st : List Value} {h : aH} {x : Int32} : go d 24 12 ls (.int x :: st) h = if ¬ x = 0 then go d 24 17 ls st h else go d 24 15 ls st h := go_c1 (go_if1 (tg := 17) (q := 15) (f := fun x => decide (¬ x = 0)) ke_24_12 rfl)
theorem ke_24_15 : alook 24 15 = some (15, .iconst 0, 1, (0, 0, 0, 0, 0), ⟨"", "", ""⟩, "") := rfl
theorem ee_24_15 {d : Nat} {h : aH} {ls st : List Value} : go d 24 15 ls st h = go d 24 16 ls (.int 0 :: st) h := go_plain (q := (16, ls, (.int 0 :: st), h)) ke_24_15 rfl
theorem ke_24_16 : alook 24 16 = some (16, .ireturn, 1, (1, 0, 0, 0, 0), ⟨"", "", ""⟩, "") := rfl
theorem ee_24_16 {d : Nat} {ls : List Value} {h : aH} : go d 24 16 ls [.int 0] h = some (some (.int 0), h) := go_zret0 ke_24_16
theorem ee_24_16T {d : Nat} {ls : List Value} {h : aH} : go d 24 16 ls [.int 1] h = some (some (.int 1), h) := go_zret1 ke_24_16
theorem ke_24_17 : alook 24 17 = some (17, .aload_n 0, 1, (0, 0, 0, 0, 0), ⟨"", "", ""⟩, "") := rfl
theorem ee_24_17 {d : Nat} {h : aH} {l1 l2 l3 l4 l5 : Value} {x : Nat} {st : List Value} : go d 24 17 [.ref x, l1, l2, l3, l4, l5] st h = go d 24 18 [.ref x, l1, l2, l3, l4, l5] (.ref x :: st) h := go_plain (q := (18, [.ref x, l1, l2, l3, l4, l5], (.ref x :: st), h)) ke_24_17 rfl
theorem ee_24_17N {d : Nat} {h : aH} {l1 l2 l3 l4 l5 : Value} {st : List Value} : go d 24 17 [.null, l1, l2, l3, l4, l5] st h = go d 24 18 [.null, l1, l2, l3, l4, l5] (.null :: st) h := go_plain (q := (18, [.null, l1, l2, l3, l4, l5], (.null :: st), h)) ke_24_17 rfl
theorem ke_24_18 : alook 24 18 = some (18, .getfield 15, 3, (1, 4, 4, 2, 0), ⟨"", "", ""⟩, "WordHides$Square") := rfl
theorem ee_24_18 {d : Nat} {ls st : List Value} {h : aH} {r : Nat} : go d 24 18 ls (.ref r :: st) h = (gf h r 1 4 4).bind fun z => go d 24 21 ls (z :: st) h := go_getf ke_24_18
theorem ke_24_21 : alook 24 21 = some (21, .getfield 43, 3, (3, 3, 3, 2, 0), ⟨"", "", ""⟩, "WordHides$Lattice") := rfl
theorem ee_24_21 {d : Nat} {ls st : List Value} {h : aH} {r : Nat} : go d 24 21 ls (.ref r :: st) h = (gf h r 3 3 3).bind fun z => go d 24 24 ls (z :: st) h := go_getf ke_24_21
theorem ke_24_24 : alook 24 24 = some (24, .iload_n 2, 1, (0, 0, 0, 0, 0), ⟨"", "", ""⟩, "") := rfl
theorem ee_24_24 {d : Nat} {h : aH} {l0 l1 l3 l4 l5 : Value} {x : Int32} {st : List Value} : go d 24 24 [l0, l1, .int x, l3, l4, l5] st h = go d 24 25 [l0, l1, .int x, l3, l4, l5] (.int x :: st) h := go_plain (q := (25, [l0, l1, .int x, l3, l4, l5], (.int x :: st), h)) ke_24_24 rfl
theorem ke_24_25 : alook 24 25 = some (25, .bipush 8, 2, (0, 0, 0, 0, 0), ⟨"", "", ""⟩, "") := rfl
theorem ee_24_25 {d : Nat} {h : aH} {ls st : List Value} : go d 24 25 ls st h = go d 24 27 ls (.int 8 :: st) h := go_plain (q := (27, ls, (.int 8 :: st), h)) ke_24_25 rfl
theorem ke_24_27 : alook 24 27 = some (27, .irem, 1, (0, 0, 0, 0, 0), ⟨"", "", ""⟩, "") := rfl
theorem ee_24_27 {d : Nat} {ls st : List Value} {h : aH} {x y : Int32} : go d 24 27 ls (.int y :: .int x :: st) h = if y = 0 then none else go d 24 28 ls (.int (x - x / y * y) :: st) h := go_div (f := fun x y => x - x / y * y) (q := 28) ke_24_27 rfl rfl rfl
theorem ke_24_28 : alook 24 28 = some (28, .iaload, 1, (0, 0, 0, 0, 0), ⟨"", "", ""⟩, "") := rfl
theorem ee_24_28 {d : Nat} {ls st : List Value} {h : aH} {r : Nat} {i : Int32} : go d 24 28 ls (.int i :: .ref r :: st) h = (ia h r i).bind fun z => go d 24 29 ls (.int z :: st) h := go_iald ke_24_28
theorem ke_24_29 : alook 24 29 = some (29, .istore_n 3, 1, (0, 0, 0, 0, 0), ⟨"", "", ""⟩, "") := rfl
theorem ee_24_29 {d : Nat} {h : aH} {l0 l1 l2 l3 l4 l5 : Value} {x : Int32} {st : List Value} : go d 24 29 [l0, l1, l2, l3, l4, l5] (.int x :: st) h = go d 24 30 [l0, l1, l2, .int x, l4, l5] st h := go_plain (q := (30, [l0, l1, l2, .int x, l4, l5], st, h)) ke_24_29 rfl
theorem ke_24_30 : alook 24 30 = some (30, .iload_n 2, 1, (0, 0, 0, 0, 0), ⟨"", "", ""⟩, "") := rfl
theorem ee_24_30 {d : Nat} {h : aH} {l0 l1 l3 l4 l5 : Value} {x : Int32} {st : List Value} : go d 24 30 [l0, l1, .int x, l3, l4, l5] st h = go d 24 31 [l0, l1, .int x, l3, l4, l5] (.int x :: st) h := go_plain (q := (31, [l0, l1, .int x, l3, l4, l5], (.int x :: st), h)) ke_24_30 rfl
theorem ke_24_31 : alook 24 31 = some (31, .bipush 8, 2, (0, 0, 0, 0, 0), ⟨"", "", ""⟩, "") := rfl
theorem ee_24_31 {d : Nat} {h : aH} {ls st : List Value} : go d 24 31 ls st h = go d 24 33 ls (.int 8 :: st) h := go_plain (q := (33, ls, (.int 8 :: st), h)) ke_24_31 rfl
theorem ke_24_33 : alook 24 33 = some (33, .idiv, 1, (0, 0, 0, 0, 0), ⟨"", "", ""⟩, "") := rfl
theorem ee_24_33 {d : Nat} {ls st : List Value} {h : aH} {x y : Int32} : go d 24 33 ls (.int y :: .int x :: st) h = if y = 0 then none else go d 24 34 ls (.int (x / y) :: st) h := go_div (f := fun x y => x / y) (q := 34) ke_24_33 rfl rfl rfl
theorem ke_24_34 : alook 24 34 = some (34, .istore 4, 2, (0, 0, 0, 0, 0), ⟨"", "", ""⟩, "") := rfl
theorem ee_24_34 {d : Nat} {h : aH} {l0 l1 l2 l3 l4 l5 : Value} {x : Int32} {st : List Value} : go d 24 34 [l0, l1, l2, l3, l4, l5] (.int x :: st) h = go d 24 36 [l0, l1, l2, l3, .int x, l5] st h := go_plain (q := (36, [l0, l1, l2, l3, .int x, l5], st, h)) ke_24_34 rfl
theorem ke_24_36 : alook 24 36 = some (36, .iconst 0, 1, (0, 0, 0, 0, 0), ⟨"", "", ""⟩, "") := rfl
theorem ee_24_36 {d : Nat} {h : aH} {ls st : List Value} : go d 24 36 ls st h = go d 24 37 ls (.int 0 :: st) h := go_plain (q := (37, ls, (.int 0 :: st), h)) ke_24_36 rfl
theorem ke_24_37 : alook 24 37 = some (37, .istore 5, 2, (0, 0, 0, 0, 0), ⟨"", "", ""⟩, "") := rfl
theorem ee_24_37 {d : Nat} {h : aH} {l0 l1 l2 l3 l4 l5 : Value} {x : Int32} {st : List Value} : go d 24 37 [l0, l1, l2, l3, l4, l5] (.int x :: st) h = go d 24 39 [l0, l1, l2, l3, l4, .int x] st h := go_plain (q := (39, [l0, l1, l2, l3, l4, .int x], st, h)) ke_24_37 rfl
theorem ke_24_39 : alook 24 39 = some (39, .iload 5, 2, (0, 0, 0, 0, 0), ⟨"", "", ""⟩, "") := rfl
theorem ee_24_39 {d : Nat} {h : aH} {l0 l1 l2 l3 l4 : Value} {x : Int32} {st : List Value} : go d 24 39 [l0, l1, l2, l3, l4, .int x] st h = go d 24 41 [l0, l1, l2, l3, l4, .int x] (.int x :: st) h := go_plain (q := (41, [l0, l1, l2, l3, l4, .int x], (.int x :: st), h)) ke_24_39 rfl
theorem ke_24_41 : alook 24 41 = some (41, .aload_n 1, 1, (0, 0, 0, 0, 0), ⟨"", "", ""⟩, "") := rfl
theorem ee_24_41 {d : Nat} {h : aH} {l0 l2 l3 l4 l5 : Value} {x : Nat} {st : List Value} : go d 24 41 [l0, .ref x, l2, l3, l4, l5] st h = go d 24 42 [l0, .ref x, l2, l3, l4, l5] (.ref x :: st) h := go_plain (q := (42, [l0, .ref x, l2, l3, l4, l5], (.ref x :: st), h)) ke_24_41 rfl
theorem ee_24_41N {d : Nat} {h : aH} {l0 l2 l3 l4 l5 : Value} {st : List Value} : go d 24 41 [l0, .null, l2, l3, l4, l5] st h = go d 24 42 [l0, .null, l2, l3, l4, l5] (.null :: st) h := go_plain (q := (42, [l0, .null, l2, l3, l4, l5], (.null :: st), h)) ke_24_41 rfl
theorem ke_24_42 : alook 24 42 = some (42, .getfield 31, 3, (1, 5, 5, 0, 0), ⟨"", "", ""⟩, "WordHides$Text") := rfl
theorem ee_24_42 {d : Nat} {ls st : List Value} {h : aH} {r : Nat} : go d 24 42 ls (.ref r :: st) h = (gf h r 1 5 5).bind fun z => go d 24 45 ls (z :: st) h := go_getf ke_24_42
theorem ke_24_45 : alook 24 45 = some (45, .if_icmp .ge 44, 3, (89, 0, 0, 0, 0), ⟨"", "", ""⟩, "") := rfl
theorem ee_24_45 {d : Nat} {ls st : List Value} {h : aH} {x y : Int32} : go d 24 45 ls (.int y :: .int x :: st) h = if y ≤ x then go d 24 89 ls st h else go d 24 48 ls st h := go_ci (go_if2 (tg := 89) (q := 48) (f := fun x y => decide (y ≤ x)) ke_24_45 rfl)
theorem ke_24_48 : alook 24 48 = some (48, .aload_n 0, 1, (0, 0, 0, 0, 0), ⟨"", "", ""⟩, "") := rfl
theorem ee_24_48 {d : Nat} {h : aH} {l1 l2 l3 l4 l5 : Value} {x : Nat} {st : List Value} : go d 24 48 [.ref x, l1, l2, l3, l4, l5] st h = go d 24 49 [.ref x, l1, l2, l3, l4, l5] (.ref x :: st) h := go_plain (q := (49, [.ref x, l1, l2, l3, l4, l5], (.ref x :: st), h)) ke_24_48 rfl
theorem ee_24_48N {d : Nat} {h : aH} {l1 l2 l3 l4 l5 : Value} {st : List Value} : go d 24 48 [.null, l1, l2, l3, l4, l5] st h = go d 24 49 [.null, l1, l2, l3, l4, l5] (.null :: st) h := go_plain (q := (49, [.null, l1, l2, l3, l4, l5], (.null :: st), h)) ke_24_48 rfl
theorem ke_24_49 : alook 24 49 = some (49, .getfield 9, 3, (0, 4, 4, 2, 0), ⟨"", "", ""⟩, "WordHides$Square") := rfl
theorem ee_24_49 {d : Nat} {ls st : List Value} {h : aH} {r : Nat} : go d 24 49 ls (.ref r :: st) h = (gf h r 0 4 4).bind fun z => go d 24 52 ls (z :: st) h := go_getf ke_24_49
theorem ke_24_52 : alook 24 52 = some (52, .iload 4, 2, (0, 0, 0, 0, 0), ⟨"", "", ""⟩, "") := rfl
theorem ee_24_52 {d : Nat} {h : aH} {l0 l1 l2 l3 l5 : Value} {x : Int32} {st : List Value} : go d 24 52 [l0, l1, l2, l3, .int x, l5] st h = go d 24 54 [l0, l1, l2, l3, .int x, l5] (.int x :: st) h := go_plain (q := (54, [l0, l1, l2, l3, .int x, l5], (.int x :: st), h)) ke_24_52 rfl
theorem ke_24_54 : alook 24 54 = some (54, .iaload, 1, (0, 0, 0, 0, 0), ⟨"", "", ""⟩, "") := rfl
theorem ee_24_54 {d : Nat} {ls st : List Value} {h : aH} {r : Nat} {i : Int32} : go d 24 54 ls (.int i :: .ref r :: st) h = (ia h r i).bind fun z => go d 24 55 ls (.int z :: st) h := go_iald ke_24_54
theorem ke_24_55 : alook 24 55 = some (55, .aload_n 1, 1, (0, 0, 0, 0, 0), ⟨"", "", ""⟩, "") := rfl
theorem ee_24_55 {d : Nat} {h : aH} {l0 l2 l3 l4 l5 : Value} {x : Nat} {st : List Value} : go d 24 55 [l0, .ref x, l2, l3, l4, l5] st h = go d 24 56 [l0, .ref x, l2, l3, l4, l5] (.ref x :: st) h := go_plain (q := (56, [l0, .ref x, l2, l3, l4, l5], (.ref x :: st), h)) ke_24_55 rfl
theorem ee_24_55N {d : Nat} {h : aH} {l0 l2 l3 l4 l5 : Value} {st : List Value} : go d 24 55 [l0, .null, l2, l3, l4, l5] st h = go d 24 56 [l0, .null, l2, l3, l4, l5] (.null :: st) h := go_plain (q := (56, [l0, .null, l2, l3, l4, l5], (.null :: st), h)) ke_24_55 rfl
theorem ke_24_56 : alook 24 56 = some (56, .getfield 46, 3, (0, 5, 5, 2, 0), ⟨"", "", ""⟩, "WordHides$Text") := rfl
theorem ee_24_56 {d : Nat} {ls st : List Value} {h : aH} {r : Nat} : go d 24 56 ls (.ref r :: st) h = (gf h r 0 5 5).bind fun z => go d 24 59 ls (z :: st) h := go_getf ke_24_56
theorem ke_24_59 : alook 24 59 = some (59, .iload 5, 2, (0, 0, 0, 0, 0), ⟨"", "", ""⟩, "") := rfl
theorem ee_24_59 {d : Nat} {h : aH} {l0 l1 l2 l3 l4 : Value} {x : Int32} {st : List Value} : go d 24 59 [l0, l1, l2, l3, l4, .int x] st h = go d 24 61 [l0, l1, l2, l3, l4, .int x] (.int x :: st) h := go_plain (q := (61, [l0, l1, l2, l3, l4, .int x], (.int x :: st), h)) ke_24_59 rfl
theorem ke_24_61 : alook 24 61 = some (61, .iaload, 1, (0, 0, 0, 0, 0), ⟨"", "", ""⟩, "") := rfl
theorem ee_24_61 {d : Nat} {ls st : List Value} {h : aH} {r : Nat} {i : Int32} : go d 24 61 ls (.int i :: .ref r :: st) h = (ia h r i).bind fun z => go d 24 62 ls (.int z :: st) h := go_iald ke_24_61
theorem ke_24_62 : alook 24 62 = some (62, .if_icmp .eq 15, 3, (77, 0, 0, 0, 0), ⟨"", "", ""⟩, "") := rfl
theorem ee_24_62 {d : Nat} {ls st : List Value} {h : aH} {x y : Int32} : go d 24 62 ls (.int y :: .int x :: st) h = if x = y then go d 24 77 ls st h else go d 24 65 ls st h := go_ci (go_if2 (tg := 77) (q := 65) (f := fun x y => decide (x = y)) ke_24_62 rfl)
theorem ke_24_65 : alook 24 65 = some (65, .aload_n 0, 1, (0, 0, 0, 0, 0), ⟨"", "", ""⟩, "") := rfl
theorem ee_24_65 {d : Nat} {h : aH} {l1 l2 l3 l4 l5 : Value} {x : Nat} {st : List Value} : go d 24 65 [.ref x, l1, l2, l3, l4, l5] st h = go d 24 66 [.ref x, l1, l2, l3, l4, l5] (.ref x :: st) h := go_plain (q := (66, [.ref x, l1, l2, l3, l4, l5], (.ref x :: st), h)) ke_24_65 rfl
theorem ee_24_65N {d : Nat} {h : aH} {l1 l2 l3 l4 l5 : Value} {st : List Value} : go d 24 65 [.null, l1, l2, l3, l4, l5] st h = go d 24 66 [.null, l1, l2, l3, l4, l5] (.null :: st) h := go_plain (q := (66, [.null, l1, l2, l3, l4, l5], (.null :: st), h)) ke_24_65 rfl
theorem ke_24_66 : alook 24 66 = some (66, .getfield 9, 3, (0, 4, 4, 2, 0), ⟨"", "", ""⟩, "WordHides$Square") := rfl
theorem ee_24_66 {d : Nat} {ls st : List Value} {h : aH} {r : Nat} : go d 24 66 ls (.ref r :: st) h = (gf h r 0 4 4).bind fun z => go d 24 69 ls (z :: st) h := go_getf ke_24_66
theorem ke_24_69 : alook 24 69 = some (69, .iload 4, 2, (0, 0, 0, 0, 0), ⟨"", "", ""⟩, "") := rfl
theorem ee_24_69 {d : Nat} {h : aH} {l0 l1 l2 l3 l5 : Value} {x : Int32} {st : List Value} : go d 24 69 [l0, l1, l2, l3, .int x, l5] st h = go d 24 71 [l0, l1, l2, l3, .int x, l5] (.int x :: st) h := go_plain (q := (71, [l0, l1, l2, l3, .int x, l5], (.int x :: st), h)) ke_24_69 rfl
theorem ke_24_71 : alook 24 71 = some (71, .iaload, 1, (0, 0, 0, 0, 0), ⟨"", "", ""⟩, "") := rfl
theorem ee_24_71 {d : Nat} {ls st : List Value} {h : aH} {r : Nat} {i : Int32} : go d 24 71 ls (.int i :: .ref r :: st) h = (ia h r i).bind fun z => go d 24 72 ls (.int z :: st) h := go_iald ke_24_71
theorem ke_24_72 : alook 24 72 = some (72, .ifCond .eq 5, 3, (77, 0, 0, 0, 0), ⟨"", "", ""⟩, "") := rfl
theorem ee_24_72 {d : Nat} {ls st : List Value} {h : aH} {x : Int32} : go d 24 72 ls (.int x :: st) h = if x = 0 then go d 24 77 ls st h else go d 24 75 ls st h := go_c1 (go_if1 (tg := 77) (q := 75) (f := fun x => decide (x = 0)) ke_24_72 rfl)
theorem ke_24_75 : alook 24 75 = some (75, .iconst 0, 1, (0, 0, 0, 0, 0), ⟨"", "", ""⟩, "") := rfl
theorem ee_24_75 {d : Nat} {h : aH} {ls st : List Value} : go d 24 75 ls st h = go d 24 76 ls (.int 0 :: st) h := go_plain (q := (76, ls, (.int 0 :: st), h)) ke_24_75 rfl
theorem ke_24_76 : alook 24 76 = some (76, .ireturn, 1, (1, 0, 0, 0, 0), ⟨"", "", ""⟩, "") := rfl
theorem ee_24_76 {d : Nat} {ls : List Value} {h : aH} : go d 24 76 ls [.int 0] h = some (some (.int 0), h) := go_zret0 ke_24_76
theorem ee_24_76T {d : Nat} {ls : List Value} {h : aH} : go d 24 76 ls [.int 1] h = some (some (.int 1), h) := go_zret1 ke_24_76
theorem ke_24_77 : alook 24 77 = some (77, .iload 4, 2, (0, 0, 0, 0, 0), ⟨"", "", ""⟩, "") := rfl
theorem ee_24_77 {d : Nat} {h : aH} {l0 l1 l2 l3 l5 : Value} {x : Int32} {st : List Value} : go d 24 77 [l0, l1, l2, l3, .int x, l5] st h = go d 24 79 [l0, l1, l2, l3, .int x, l5] (.int x :: st) h := go_plain (q := (79, [l0, l1, l2, l3, .int x, l5], (.int x :: st), h)) ke_24_77 rfl
theorem ke_24_79 : alook 24 79 = some (79, .iload_n 3, 1, (0, 0, 0, 0, 0), ⟨"", "", ""⟩, "") := rfl
theorem ee_24_79 {d : Nat} {h : aH} {l0 l1 l2 l4 l5 : Value} {x : Int32} {st : List Value} : go d 24 79 [l0, l1, l2, .int x, l4, l5] st h = go d 24 80 [l0, l1, l2, .int x, l4, l5] (.int x :: st) h := go_plain (q := (80, [l0, l1, l2, .int x, l4, l5], (.int x :: st), h)) ke_24_79 rfl
theorem ke_24_80 : alook 24 80 = some (80, .iadd, 1, (0, 0, 0, 0, 0), ⟨"", "", ""⟩, "") := rfl
theorem ee_24_80 {d : Nat} {h : aH} {ls st : List Value} {x y : Int32} : go d 24 80 ls (.int y :: .int x :: st) h = go d 24 81 ls (.int (x + y) :: st) h := go_plain (q := (81, ls, (.int (x + y) :: st), h)) ke_24_80 rfl
theorem ke_24_81 : alook 24 81 = some (81, .istore 4, 2, (0, 0, 0, 0, 0), ⟨"", "", ""⟩, "") := rfl
theorem ee_24_81 {d : Nat} {h : aH} {l0 l1 l2 l3 l4 l5 : Value} {x : Int32} {st : List Value} : go d 24 81 [l0, l1, l2, l3, l4, l5] (.int x :: st) h = go d 24 83 [l0, l1, l2, l3, .int x, l5] st h := go_plain (q := (83, [l0, l1, l2, l3, .int x, l5], st, h)) ke_24_81 rfl
theorem ke_24_83 : alook 24 83 = some (83, .iinc 5 1, 3, (0, 0, 0, 0, 0), ⟨"", "", ""⟩, "") := rfl
theorem ee_24_83 {d : Nat} {h : aH} {l0 l1 l2 l3 l4 : Value} {x : Int32} {st : List Value} : go d 24 83 [l0, l1, l2, l3, l4, .int x] st h = go d 24 86 [l0, l1, l2, l3, l4, .int (x + 1)] st h := go_plain (q := (86, [l0, l1, l2, l3, l4, .int (x + 1)], st, h)) ke_24_83 rfl
theorem ke_24_86 : alook 24 86 = some (86, .goto (-47), 3, (39, 0, 0, 0, 0), ⟨"", "", ""⟩, "") := rfl
theorem ee_24_86 {d : Nat} {h : aH} {ls st : List Value} : go d 24 86 ls st h = go d 24 39 ls st h := go_plain (q := (39, ls, st, h)) ke_24_86 rfl
theorem ke_24_89 : alook 24 89 = some (89, .iconst 1, 1, (0, 0, 0, 0, 0), ⟨"", "", ""⟩, "") := rfl
theorem ee_24_89 {d : Nat} {h : aH} {ls st : List Value} : go d 24 89 ls st h = go d 24 90 ls (.int 1 :: st) h := go_plain (q := (90, ls, (.int 1 :: st), h)) ke_24_89 rfl
theorem ke_24_90 : alook 24 90 = some (90, .ireturn, 1, (1, 0, 0, 0, 0), ⟨"", "", ""⟩, "") := rfl
theorem ee_24_90 {d : Nat} {ls : List Value} {h : aH} : go d 24 90 ls [.int 0] h = some (some (.int 0), h) := go_zret0 ke_24_90
theorem ee_24_90T {d : Nat} {ls : List Value} {h : aH} : go d 24 90 ls [.int 1] h = some (some (.int 1), h) := go_zret1 ke_24_90
theorem ke_25_0 : alook 25 0 = some (0, .iconst 0, 1, (0, 0, 0, 0, 0), ⟨"", "", ""⟩, "") := rfl
theorem ee_25_0 {d : Nat} {h : aH} {ls st : List Value} : go d 25 0 ls st h = go d 25 1 ls (.int 0 :: st) h := go_plain (q := (1, ls, (.int 0 :: st), h)) ke_25_0 rfl
theorem ke_25_1 : alook 25 1 = some (1, .istore_n 3, 1, (0, 0, 0, 0, 0), ⟨"", "", ""⟩, "") := rfl
theorem ee_25_1 {d : Nat} {h : aH} {l0 l1 l2 l3 l4 l5 l6 : Value} {x : Int32} {st : List Value} : go d 25 1 [l0, l1, l2, l3, l4, l5, l6] (.int x :: st) h = go d 25 2 [l0, l1, l2, .int x, l4, l5, l6] st h := go_plain (q := (2, [l0, l1, l2, .int x, l4, l5, l6], st, h)) ke_25_1 rfl
theorem ke_25_2 : alook 25 2 = some (2, .aload_n 0, 1, (0, 0, 0, 0, 0), ⟨"", "", ""⟩, "") := rfl
theorem ee_25_2 {d : Nat} {h : aH} {l1 l2 l3 l4 l5 l6 : Value} {x : Nat} {st : List Value} : go d 25 2 [.ref x, l1, l2, l3, l4, l5, l6] st h = go d 25 3 [.ref x, l1, l2, l3, l4, l5, l6] (.ref x :: st) h := go_plain (q := (3, [.ref x, l1, l2, l3, l4, l5, l6], (.ref x :: st), h)) ke_25_2 rfl
theorem ee_25_2N {d : Nat} {h : aH} {l1 l2 l3 l4 l5 l6 : Value} {st : List Value} : go d 25 2 [.null, l1, l2, l3, l4, l5, l6] st h = go d 25 3 [.null, l1, l2, l3, l4, l5, l6] (.null :: st) h := go_plain (q := (3, [.null, l1, l2, l3, l4, l5, l6], (.null :: st), h)) ke_25_2 rfl
theorem ke_25_3 : alook 25 3 = some (3, .getfield 15, 3, (1, 4, 4, 2, 0), ⟨"", "", ""⟩, "WordHides$Square") := rfl
theorem ee_25_3 {d : Nat} {ls st : List Value} {h : aH} {r : Nat} : go d 25 3 ls (.ref r :: st) h = (gf h r 1 4 4).bind fun z => go d 25 6 ls (z :: st) h := go_getf ke_25_3
theorem ke_25_6 : alook 25 6 = some (6, .getfield 43, 3, (3, 3, 3, 2, 0), ⟨"", "", ""⟩, "WordHides$Lattice") := rfl
theorem ee_25_6 {d : Nat} {ls st : List Value} {h : aH} {r : Nat} : go d 25 6 ls (.ref r :: st) h = (gf h r 3 3 3).bind fun z => go d 25 9 ls (z :: st) h := go_getf ke_25_6
theorem ke_25_9 : alook 25 9 = some (9, .iload_n 2, 1, (0, 0, 0, 0, 0), ⟨"", "", ""⟩, "") := rfl
theorem ee_25_9 {d : Nat} {h : aH} {l0 l1 l3 l4 l5 l6 : Value} {x : Int32} {st : List Value} : go d 25 9 [l0, l1, .int x, l3, l4, l5, l6] st h = go d 25 10 [l0, l1, .int x, l3, l4, l5, l6] (.int x :: st) h := go_plain (q := (10, [l0, l1, .int x, l3, l4, l5, l6], (.int x :: st), h)) ke_25_9 rfl
theorem ke_25_10 : alook 25 10 = some (10, .bipush 8, 2, (0, 0, 0, 0, 0), ⟨"", "", ""⟩, "") := rfl
theorem ee_25_10 {d : Nat} {h : aH} {ls st : List Value} : go d 25 10 ls st h = go d 25 12 ls (.int 8 :: st) h := go_plain (q := (12, ls, (.int 8 :: st), h)) ke_25_10 rfl
theorem ke_25_12 : alook 25 12 = some (12, .irem, 1, (0, 0, 0, 0, 0), ⟨"", "", ""⟩, "") := rfl
theorem ee_25_12 {d : Nat} {ls st : List Value} {h : aH} {x y : Int32} : go d 25 12 ls (.int y :: .int x :: st) h = if y = 0 then none else go d 25 13 ls (.int (x - x / y * y) :: st) h := go_div (f := fun x y => x - x / y * y) (q := 13) ke_25_12 rfl rfl rfl
theorem ke_25_13 : alook 25 13 = some (13, .iaload, 1, (0, 0, 0, 0, 0), ⟨"", "", ""⟩, "") := rfl
theorem ee_25_13 {d : Nat} {ls st : List Value} {h : aH} {r : Nat} {i : Int32} : go d 25 13 ls (.int i :: .ref r :: st) h = (ia h r i).bind fun z => go d 25 14 ls (.int z :: st) h := go_iald ke_25_13
theorem ke_25_14 : alook 25 14 = some (14, .istore 4, 2, (0, 0, 0, 0, 0), ⟨"", "", ""⟩, "") := rfl
theorem ee_25_14 {d : Nat} {h : aH} {l0 l1 l2 l3 l4 l5 l6 : Value} {x : Int32} {st : List Value} : go d 25 14 [l0, l1, l2, l3, l4, l5, l6] (.int x :: st) h = go d 25 16 [l0, l1, l2, l3, .int x, l5, l6] st h := go_plain (q := (16, [l0, l1, l2, l3, .int x, l5, l6], st, h)) ke_25_14 rfl
theorem ke_25_16 : alook 25 16 = some (16, .iload_n 2, 1, (0, 0, 0, 0, 0), ⟨"", "", ""⟩, "") := rfl
theorem ee_25_16 {d : Nat} {h : aH} {l0 l1 l3 l4 l5 l6 : Value} {x : Int32} {st : List Value} : go d 25 16 [l0, l1, .int x, l3, l4, l5, l6] st h = go d 25 17 [l0, l1, .int x, l3, l4, l5, l6] (.int x :: st) h := go_plain (q := (17, [l0, l1, .int x, l3, l4, l5, l6], (.int x :: st), h)) ke_25_16 rfl
theorem ke_25_17 : alook 25 17 = some (17, .bipush 8, 2, (0, 0, 0, 0, 0), ⟨"", "", ""⟩, "") := rfl
theorem ee_25_17 {d : Nat} {h : aH} {ls st : List Value} : go d 25 17 ls st h = go d 25 19 ls (.int 8 :: st) h := go_plain (q := (19, ls, (.int 8 :: st), h)) ke_25_17 rfl
theorem ke_25_19 : alook 25 19 = some (19, .idiv, 1, (0, 0, 0, 0, 0), ⟨"", "", ""⟩, "") := rfl
theorem ee_25_19 {d : Nat} {ls st : List Value} {h : aH} {x y : Int32} : go d 25 19 ls (.int y :: .int x :: st) h = if y = 0 then none else go d 25 20 ls (.int (x / y) :: st) h := go_div (f := fun x y => x / y) (q := 20) ke_25_19 rfl rfl rfl
theorem ke_25_20 : alook 25 20 = some (20, .istore 5, 2, (0, 0, 0, 0, 0), ⟨"", "", ""⟩, "") := rfl
theorem ee_25_20 {d : Nat} {h : aH} {l0 l1 l2 l3 l4 l5 l6 : Value} {x : Int32} {st : List Value} : go d 25 20 [l0, l1, l2, l3, l4, l5, l6] (.int x :: st) h = go d 25 22 [l0, l1, l2, l3, l4, .int x, l6] st h := go_plain (q := (22, [l0, l1, l2, l3, l4, .int x, l6], st, h)) ke_25_20 rfl
theorem ke_25_22 : alook 25 22 = some (22, .iconst 0, 1, (0, 0, 0, 0, 0), ⟨"", "", ""⟩, "") := rfl
theorem ee_25_22 {d : Nat} {h : aH} {ls st : List Value} : go d 25 22 ls st h = go d 25 23 ls (.int 0 :: st) h := go_plain (q := (23, ls, (.int 0 :: st), h)) ke_25_22 rfl
theorem ke_25_23 : alook 25 23 = some (23, .istore 6, 2, (0, 0, 0, 0, 0), ⟨"", "", ""⟩, "") := rfl
theorem ee_25_23 {d : Nat} {h : aH} {l0 l1 l2 l3 l4 l5 l6 : Value} {x : Int32} {st : List Value} : go d 25 23 [l0, l1, l2, l3, l4, l5, l6] (.int x :: st) h = go d 25 25 [l0, l1, l2, l3, l4, l5, .int x] st h := go_plain (q := (25, [l0, l1, l2, l3, l4, l5, .int x], st, h)) ke_25_23 rfl
theorem ke_25_25 : alook 25 25 = some (25, .iload 6, 2, (0, 0, 0, 0, 0), ⟨"", "", ""⟩, "") := rfl
theorem ee_25_25 {d : Nat} {h : aH} {l0 l1 l2 l3 l4 l5 : Value} {x : Int32} {st : List Value} : go d 25 25 [l0, l1, l2, l3, l4, l5, .int x] st h = go d 25 27 [l0, l1, l2, l3, l4, l5, .int x] (.int x :: st) h := go_plain (q := (27, [l0, l1, l2, l3, l4, l5, .int x], (.int x :: st), h)) ke_25_25 rfl
theorem ke_25_27 : alook 25 27 = some (27, .aload_n 1, 1, (0, 0, 0, 0, 0), ⟨"", "", ""⟩, "") := rfl
theorem ee_25_27 {d : Nat} {h : aH} {l0 l2 l3 l4 l5 l6 : Value} {x : Nat} {st : List Value} : go d 25 27 [l0, .ref x, l2, l3, l4, l5, l6] st h = go d 25 28 [l0, .ref x, l2, l3, l4, l5, l6] (.ref x :: st) h := go_plain (q := (28, [l0, .ref x, l2, l3, l4, l5, l6], (.ref x :: st), h)) ke_25_27 rfl
theorem ee_25_27N {d : Nat} {h : aH} {l0 l2 l3 l4 l5 l6 : Value} {st : List Value} : go d 25 27 [l0, .null, l2, l3, l4, l5, l6] st h = go d 25 28 [l0, .null, l2, l3, l4, l5, l6] (.null :: st) h := go_plain (q := (28, [l0, .null, l2, l3, l4, l5, l6], (.null :: st), h)) ke_25_27 rfl
theorem ke_25_28 : alook 25 28 = some (28, .getfield 31, 3, (1, 5, 5, 0, 0), ⟨"", "", ""⟩, "WordHides$Text") := rfl
theorem ee_25_28 {d : Nat} {ls st : List Value} {h : aH} {r : Nat} : go d 25 28 ls (.ref r :: st) h = (gf h r 1 5 5).bind fun z => go d 25 31 ls (z :: st) h := go_getf ke_25_28
theorem ke_25_31 : alook 25 31 = some (31, .if_icmp .ge 47, 3, (78, 0, 0, 0, 0), ⟨"", "", ""⟩, "") := rfl
theorem ee_25_31 {d : Nat} {ls st : List Value} {h : aH} {x y : Int32} : go d 25 31 ls (.int y :: .int x :: st) h = if y ≤ x then go d 25 78 ls st h else go d 25 34 ls st h := go_ci (go_if2 (tg := 78) (q := 34) (f := fun x y => decide (y ≤ x)) ke_25_31 rfl)
theorem ke_25_34 : alook 25 34 = some (34, .aload_n 0, 1, (0, 0, 0, 0, 0), ⟨"", "", ""⟩, "") := rfl
theorem ee_25_34 {d : Nat} {h : aH} {l1 l2 l3 l4 l5 l6 : Value} {x : Nat} {st : List Value} : go d 25 34 [.ref x, l1, l2, l3, l4, l5, l6] st h = go d 25 35 [.ref x, l1, l2, l3, l4, l5, l6] (.ref x :: st) h := go_plain (q := (35, [.ref x, l1, l2, l3, l4, l5, l6], (.ref x :: st), h)) ke_25_34 rfl
theorem ee_25_34N {d : Nat} {h : aH} {l1 l2 l3 l4 l5 l6 : Value} {st : List Value} : go d 25 34 [.null, l1, l2, l3, l4, l5, l6] st h = go d 25 35 [.null, l1, l2, l3, l4, l5, l6] (.null :: st) h := go_plain (q := (35, [.null, l1, l2, l3, l4, l5, l6], (.null :: st), h)) ke_25_34 rfl
theorem ke_25_35 : alook 25 35 = some (35, .getfield 9, 3, (0, 4, 4, 2, 0), ⟨"", "", ""⟩, "WordHides$Square") := rfl
theorem ee_25_35 {d : Nat} {ls st : List Value} {h : aH} {r : Nat} : go d 25 35 ls (.ref r :: st) h = (gf h r 0 4 4).bind fun z => go d 25 38 ls (z :: st) h := go_getf ke_25_35
theorem ke_25_38 : alook 25 38 = some (38, .iload 5, 2, (0, 0, 0, 0, 0), ⟨"", "", ""⟩, "") := rfl
theorem ee_25_38 {d : Nat} {h : aH} {l0 l1 l2 l3 l4 l6 : Value} {x : Int32} {st : List Value} : go d 25 38 [l0, l1, l2, l3, l4, .int x, l6] st h = go d 25 40 [l0, l1, l2, l3, l4, .int x, l6] (.int x :: st) h := go_plain (q := (40, [l0, l1, l2, l3, l4, .int x, l6], (.int x :: st), h)) ke_25_38 rfl
theorem ke_25_40 : alook 25 40 = some (40, .iaload, 1, (0, 0, 0, 0, 0), ⟨"", "", ""⟩, "") := rfl
theorem ee_25_40 {d : Nat} {ls st : List Value} {h : aH} {r : Nat} {i : Int32} : go d 25 40 ls (.int i :: .ref r :: st) h = (ia h r i).bind fun z => go d 25 41 ls (.int z :: st) h := go_iald ke_25_40
theorem ke_25_41 : alook 25 41 = some (41, .ifCond .ne 24, 3, (65, 0, 0, 0, 0), ⟨"", "", ""⟩, "") := rfl
theorem ee_25_41 {d : Nat} {ls st : List Value} {h : aH} {x : Int32} : go d 25 41 ls (.int x :: st) h = if ¬ x = 0 then go d 25 65 ls st h else go d 25 44 ls st h := go_c1 (go_if1 (tg := 65) (q := 44) (f := fun x => decide (¬ x = 0)) ke_25_41 rfl)
theorem ke_25_44 : alook 25 44 = some (44, .aload_n 0, 1, (0, 0, 0, 0, 0), ⟨"", "", ""⟩, "") := rfl
theorem ee_25_44 {d : Nat} {h : aH} {l1 l2 l3 l4 l5 l6 : Value} {x : Nat} {st : List Value} : go d 25 44 [.ref x, l1, l2, l3, l4, l5, l6] st h = go d 25 45 [.ref x, l1, l2, l3, l4, l5, l6] (.ref x :: st) h := go_plain (q := (45, [.ref x, l1, l2, l3, l4, l5, l6], (.ref x :: st), h)) ke_25_44 rfl
theorem ee_25_44N {d : Nat} {h : aH} {l1 l2 l3 l4 l5 l6 : Value} {st : List Value} : go d 25 44 [.null, l1, l2, l3, l4, l5, l6] st h = go d 25 45 [.null, l1, l2, l3, l4, l5, l6] (.null :: st) h := go_plain (q := (45, [.null, l1, l2, l3, l4, l5, l6], (.null :: st), h)) ke_25_44 rfl
theorem ke_25_45 : alook 25 45 = some (45, .getfield 9, 3, (0, 4, 4, 2, 0), ⟨"", "", ""⟩, "WordHides$Square") := rfl
theorem ee_25_45 {d : Nat} {ls st : List Value} {h : aH} {r : Nat} : go d 25 45 ls (.ref r :: st) h = (gf h r 0 4 4).bind fun z => go d 25 48 ls (z :: st) h := go_getf ke_25_45
theorem ke_25_48 : alook 25 48 = some (48, .iload 5, 2, (0, 0, 0, 0, 0), ⟨"", "", ""⟩, "") := rfl
theorem ee_25_48 {d : Nat} {h : aH} {l0 l1 l2 l3 l4 l6 : Value} {x : Int32} {st : List Value} : go d 25 48 [l0, l1, l2, l3, l4, .int x, l6] st h = go d 25 50 [l0, l1, l2, l3, l4, .int x, l6] (.int x :: st) h := go_plain (q := (50, [l0, l1, l2, l3, l4, .int x, l6], (.int x :: st), h)) ke_25_48 rfl
theorem ke_25_50 : alook 25 50 = some (50, .aload_n 1, 1, (0, 0, 0, 0, 0), ⟨"", "", ""⟩, "") := rfl
theorem ee_25_50 {d : Nat} {h : aH} {l0 l2 l3 l4 l5 l6 : Value} {x : Nat} {st : List Value} : go d 25 50 [l0, .ref x, l2, l3, l4, l5, l6] st h = go d 25 51 [l0, .ref x, l2, l3, l4, l5, l6] (.ref x :: st) h := go_plain (q := (51, [l0, .ref x, l2, l3, l4, l5, l6], (.ref x :: st), h)) ke_25_50 rfl
theorem ee_25_50N {d : Nat} {h : aH} {l0 l2 l3 l4 l5 l6 : Value} {st : List Value} : go d 25 50 [l0, .null, l2, l3, l4, l5, l6] st h = go d 25 51 [l0, .null, l2, l3, l4, l5, l6] (.null :: st) h := go_plain (q := (51, [l0, .null, l2, l3, l4, l5, l6], (.null :: st), h)) ke_25_50 rfl
theorem ke_25_51 : alook 25 51 = some (51, .getfield 46, 3, (0, 5, 5, 2, 0), ⟨"", "", ""⟩, "WordHides$Text") := rfl
theorem ee_25_51 {d : Nat} {ls st : List Value} {h : aH} {r : Nat} : go d 25 51 ls (.ref r :: st) h = (gf h r 0 5 5).bind fun z => go d 25 54 ls (z :: st) h := go_getf ke_25_51
theorem ke_25_54 : alook 25 54 = some (54, .iload 6, 2, (0, 0, 0, 0, 0), ⟨"", "", ""⟩, "") := rfl
theorem ee_25_54 {d : Nat} {h : aH} {l0 l1 l2 l3 l4 l5 : Value} {x : Int32} {st : List Value} : go d 25 54 [l0, l1, l2, l3, l4, l5, .int x] st h = go d 25 56 [l0, l1, l2, l3, l4, l5, .int x] (.int x :: st) h := go_plain (q := (56, [l0, l1, l2, l3, l4, l5, .int x], (.int x :: st), h)) ke_25_54 rfl
theorem ke_25_56 : alook 25 56 = some (56, .iaload, 1, (0, 0, 0, 0, 0), ⟨"", "", ""⟩, "") := rfl
theorem ee_25_56 {d : Nat} {ls st : List Value} {h : aH} {r : Nat} {i : Int32} : go d 25 56 ls (.int i :: .ref r :: st) h = (ia h r i).bind fun z => go d 25 57 ls (.int z :: st) h := go_iald ke_25_56
theorem ke_25_57 : alook 25 57 = some (57, .iastore, 1, (0, 0, 0, 0, 0), ⟨"", "", ""⟩, "") := rfl
theorem ee_25_57 {d : Nat} {ls st : List Value} {h : aH} {r : Nat} {i x : Int32} : go d 25 57 ls (.int x :: .int i :: .ref r :: st) h = (is_ h r i x).bind fun h' => go d 25 58 ls st h' := go_iast ke_25_57
theorem ke_25_58 : alook 25 58 = some (58, .iload_n 3, 1, (0, 0, 0, 0, 0), ⟨"", "", ""⟩, "") := rfl
theorem ee_25_58 {d : Nat} {h : aH} {l0 l1 l2 l4 l5 l6 : Value} {x : Int32} {st : List Value} : go d 25 58 [l0, l1, l2, .int x, l4, l5, l6] st h = go d 25 59 [l0, l1, l2, .int x, l4, l5, l6] (.int x :: st) h := go_plain (q := (59, [l0, l1, l2, .int x, l4, l5, l6], (.int x :: st), h)) ke_25_58 rfl
theorem ke_25_59 : alook 25 59 = some (59, .iconst 1, 1, (0, 0, 0, 0, 0), ⟨"", "", ""⟩, "") := rfl
theorem ee_25_59 {d : Nat} {h : aH} {ls st : List Value} : go d 25 59 ls st h = go d 25 60 ls (.int 1 :: st) h := go_plain (q := (60, ls, (.int 1 :: st), h)) ke_25_59 rfl
theorem ke_25_60 : alook 25 60 = some (60, .iload 5, 2, (0, 0, 0, 0, 0), ⟨"", "", ""⟩, "") := rfl
theorem ee_25_60 {d : Nat} {h : aH} {l0 l1 l2 l3 l4 l6 : Value} {x : Int32} {st : List Value} : go d 25 60 [l0, l1, l2, l3, l4, .int x, l6] st h = go d 25 62 [l0, l1, l2, l3, l4, .int x, l6] (.int x :: st) h := go_plain (q := (62, [l0, l1, l2, l3, l4, .int x, l6], (.int x :: st), h)) ke_25_60 rfl
theorem ke_25_62 : alook 25 62 = some (62, .ishl, 1, (0, 0, 0, 0, 0), ⟨"", "", ""⟩, "") := rfl
theorem ee_25_62 {d : Nat} {h : aH} {ls st : List Value} {x y : Int32} : go d 25 62 ls (.int y :: .int x :: st) h = go d 25 63 ls (.int (x <<< (y &&& 31)) :: st) h := go_plain (q := (63, ls, (.int (x <<< (y &&& 31)) :: st), h)) ke_25_62 rfl
theorem ke_25_63 : alook 25 63 = some (63, .ior, 1, (0, 0, 0, 0, 0), ⟨"", "", ""⟩, "") := rfl
theorem ee_25_63 {d : Nat} {h : aH} {ls st : List Value} {x y : Int32} : go d 25 63 ls (.int y :: .int x :: st) h = go d 25 64 ls (.int (x ||| y) :: st) h := go_plain (q := (64, ls, (.int (x ||| y) :: st), h)) ke_25_63 rfl
theorem ke_25_64 : alook 25 64 = some (64, .istore_n 3, 1, (0, 0, 0, 0, 0), ⟨"", "", ""⟩, "") := rfl
theorem ee_25_64 {d : Nat} {h : aH} {l0 l1 l2 l3 l4 l5 l6 : Value} {x : Int32} {st : List Value} : go d 25 64 [l0, l1, l2, l3, l4, l5, l6] (.int x :: st) h = go d 25 65 [l0, l1, l2, .int x, l4, l5, l6] st h := go_plain (q := (65, [l0, l1, l2, .int x, l4, l5, l6], st, h)) ke_25_64 rfl
theorem ke_25_65 : alook 25 65 = some (65, .iload 5, 2, (0, 0, 0, 0, 0), ⟨"", "", ""⟩, "") := rfl
theorem ee_25_65 {d : Nat} {h : aH} {l0 l1 l2 l3 l4 l6 : Value} {x : Int32} {st : List Value} : go d 25 65 [l0, l1, l2, l3, l4, .int x, l6] st h = go d 25 67 [l0, l1, l2, l3, l4, .int x, l6] (.int x :: st) h := go_plain (q := (67, [l0, l1, l2, l3, l4, .int x, l6], (.int x :: st), h)) ke_25_65 rfl
theorem ke_25_67 : alook 25 67 = some (67, .iload 4, 2, (0, 0, 0, 0, 0), ⟨"", "", ""⟩, "") := rfl
theorem ee_25_67 {d : Nat} {h : aH} {l0 l1 l2 l3 l5 l6 : Value} {x : Int32} {st : List Value} : go d 25 67 [l0, l1, l2, l3, .int x, l5, l6] st h = go d 25 69 [l0, l1, l2, l3, .int x, l5, l6] (.int x :: st) h := go_plain (q := (69, [l0, l1, l2, l3, .int x, l5, l6], (.int x :: st), h)) ke_25_67 rfl
theorem ke_25_69 : alook 25 69 = some (69, .iadd, 1, (0, 0, 0, 0, 0), ⟨"", "", ""⟩, "") := rfl
theorem ee_25_69 {d : Nat} {h : aH} {ls st : List Value} {x y : Int32} : go d 25 69 ls (.int y :: .int x :: st) h = go d 25 70 ls (.int (x + y) :: st) h := go_plain (q := (70, ls, (.int (x + y) :: st), h)) ke_25_69 rfl
theorem ke_25_70 : alook 25 70 = some (70, .istore 5, 2, (0, 0, 0, 0, 0), ⟨"", "", ""⟩, "") := rfl
theorem ee_25_70 {d : Nat} {h : aH} {l0 l1 l2 l3 l4 l5 l6 : Value} {x : Int32} {st : List Value} : go d 25 70 [l0, l1, l2, l3, l4, l5, l6] (.int x :: st) h = go d 25 72 [l0, l1, l2, l3, l4, .int x, l6] st h := go_plain (q := (72, [l0, l1, l2, l3, l4, .int x, l6], st, h)) ke_25_70 rfl
theorem ke_25_72 : alook 25 72 = some (72, .iinc 6 1, 3, (0, 0, 0, 0, 0), ⟨"", "", ""⟩, "") := rfl
theorem ee_25_72 {d : Nat} {h : aH} {l0 l1 l2 l3 l4 l5 : Value} {x : Int32} {st : List Value} : go d 25 72 [l0, l1, l2, l3, l4, l5, .int x] st h = go d 25 75 [l0, l1, l2, l3, l4, l5, .int (x + 1)] st h := go_plain (q := (75, [l0, l1, l2, l3, l4, l5, .int (x + 1)], st, h)) ke_25_72 rfl
theorem ke_25_75 : alook 25 75 = some (75, .goto (-50), 3, (25, 0, 0, 0, 0), ⟨"", "", ""⟩, "") := rfl
theorem ee_25_75 {d : Nat} {h : aH} {ls st : List Value} : go d 25 75 ls st h = go d 25 25 ls st h := go_plain (q := (25, ls, st, h)) ke_25_75 rfl
theorem ke_25_78 : alook 25 78 = some (78, .iload_n 3, 1, (0, 0, 0, 0, 0), ⟨"", "", ""⟩, "") := rfl
theorem ee_25_78 {d : Nat} {h : aH} {l0 l1 l2 l4 l5 l6 : Value} {x : Int32} {st : List Value} : go d 25 78 [l0, l1, l2, .int x, l4, l5, l6] st h = go d 25 79 [l0, l1, l2, .int x, l4, l5, l6] (.int x :: st) h := go_plain (q := (79, [l0, l1, l2, .int x, l4, l5, l6], (.int x :: st), h)) ke_25_78 rfl
theorem ke_25_79 : alook 25 79 = some (79, .ireturn, 1, (0, 0, 0, 0, 0), ⟨"", "", ""⟩, "") := rfl
theorem ee_25_79 {d : Nat} {ls : List Value} {h : aH} {v : Int32} : go d 25 79 ls [.int v] h = some (some (.int v), h) := go_iret ke_25_79
theorem ke_26_0 : alook 26 0 = some (0, .iconst 0, 1, (0, 0, 0, 0, 0), ⟨"", "", ""⟩, "") := rfl
theorem ee_26_0 {d : Nat} {h : aH} {ls st : List Value} : go d 26 0 ls st h = go d 26 1 ls (.int 0 :: st) h := go_plain (q := (1, ls, (.int 0 :: st), h)) ke_26_0 rfl
theorem ke_26_1 : alook 26 1 = some (1, .istore_n 2, 1, (0, 0, 0, 0, 0), ⟨"", "", ""⟩, "") := rfl
theorem ee_26_1 {d : Nat} {h : aH} {l0 l1 l2 : Value} {x : Int32} {st : List Value} : go d 26 1 [l0, l1, l2] (.int x :: st) h = go d 26 2 [l0, l1, .int x] st h := go_plain (q := (2, [l0, l1, .int x], st, h)) ke_26_1 rfl
theorem ke_26_2 : alook 26 2 = some (2, .iload_n 2, 1, (0, 0, 0, 0, 0), ⟨"", "", ""⟩, "") := rfl
theorem ee_26_2 {d : Nat} {h : aH} {l0 l1 : Value} {x : Int32} {st : List Value} : go d 26 2 [l0, l1, .int x] st h = go d 26 3 [l0, l1, .int x] (.int x :: st) h := go_plain (q := (3, [l0, l1, .int x], (.int x :: st), h)) ke_26_2 rfl
theorem ke_26_3 : alook 26 3 = some (3, .bipush 16, 2, (0, 0, 0, 0, 0), ⟨"", "", ""⟩, "") := rfl
theorem ee_26_3 {d : Nat} {h : aH} {ls st : List Value} : go d 26 3 ls st h = go d 26 5 ls (.int 16 :: st) h := go_plain (q := (5, ls, (.int 16 :: st), h)) ke_26_3 rfl
theorem ke_26_5 : alook 26 5 = some (5, .if_icmp .ge 24, 3, (29, 0, 0, 0, 0), ⟨"", "", ""⟩, "") := rfl
theorem ee_26_5 {d : Nat} {ls st : List Value} {h : aH} {x y : Int32} : go d 26 5 ls (.int y :: .int x :: st) h = if y ≤ x then go d 26 29 ls st h else go d 26 8 ls st h := go_ci (go_if2 (tg := 29) (q := 8) (f := fun x y => decide (y ≤ x)) ke_26_5 rfl)
theorem ke_26_8 : alook 26 8 = some (8, .iload_n 1, 1, (0, 0, 0, 0, 0), ⟨"", "", ""⟩, "") := rfl
theorem ee_26_8 {d : Nat} {h : aH} {l0 l2 : Value} {x : Int32} {st : List Value} : go d 26 8 [l0, .int x, l2] st h = go d 26 9 [l0, .int x, l2] (.int x :: st) h := go_plain (q := (9, [l0, .int x, l2], (.int x :: st), h)) ke_26_8 rfl
theorem ke_26_9 : alook 26 9 = some (9, .iload_n 2, 1, (0, 0, 0, 0, 0), ⟨"", "", ""⟩, "") := rfl
theorem ee_26_9 {d : Nat} {h : aH} {l0 l1 : Value} {x : Int32} {st : List Value} : go d 26 9 [l0, l1, .int x] st h = go d 26 10 [l0, l1, .int x] (.int x :: st) h := go_plain (q := (10, [l0, l1, .int x], (.int x :: st), h)) ke_26_9 rfl
theorem ke_26_10 : alook 26 10 = some (10, .ishr, 1, (0, 0, 0, 0, 0), ⟨"", "", ""⟩, "") := rfl
theorem ee_26_10 {d : Nat} {h : aH} {ls st : List Value} {x y : Int32} : go d 26 10 ls (.int y :: .int x :: st) h = go d 26 11 ls (.int (x >>> (y &&& 31)) :: st) h := go_plain (q := (11, ls, (.int (x >>> (y &&& 31)) :: st), h)) ke_26_10 rfl
theorem ke_26_11 : alook 26 11 = some (11, .iconst 1, 1, (0, 0, 0, 0, 0), ⟨"", "", ""⟩, "") := rfl
theorem ee_26_11 {d : Nat} {h : aH} {ls st : List Value} : go d 26 11 ls st h = go d 26 12 ls (.int 1 :: st) h := go_plain (q := (12, ls, (.int 1 :: st), h)) ke_26_11 rfl
theorem ke_26_12 : alook 26 12 = some (12, .iand, 1, (0, 0, 0, 0, 0), ⟨"", "", ""⟩, "") := rfl
theorem ee_26_12 {d : Nat} {h : aH} {ls st : List Value} {x y : Int32} : go d 26 12 ls (.int y :: .int x :: st) h = go d 26 13 ls (.int (x &&& y) :: st) h := go_plain (q := (13, ls, (.int (x &&& y) :: st), h)) ke_26_12 rfl
theorem ke_26_13 : alook 26 13 = some (13, .ifCond .eq 10, 3, (23, 0, 0, 0, 0), ⟨"", "", ""⟩, "") := rfl
theorem ee_26_13 {d : Nat} {ls st : List Value} {h : aH} {x : Int32} : go d 26 13 ls (.int x :: st) h = if x = 0 then go d 26 23 ls st h else go d 26 16 ls st h := go_c1 (go_if1 (tg := 23) (q := 16) (f := fun x => decide (x = 0)) ke_26_13 rfl)
theorem ke_26_16 : alook 26 16 = some (16, .aload_n 0, 1, (0, 0, 0, 0, 0), ⟨"", "", ""⟩, "") := rfl
theorem ee_26_16 {d : Nat} {h : aH} {l1 l2 : Value} {x : Nat} {st : List Value} : go d 26 16 [.ref x, l1, l2] st h = go d 26 17 [.ref x, l1, l2] (.ref x :: st) h := go_plain (q := (17, [.ref x, l1, l2], (.ref x :: st), h)) ke_26_16 rfl
theorem ee_26_16N {d : Nat} {h : aH} {l1 l2 : Value} {st : List Value} : go d 26 16 [.null, l1, l2] st h = go d 26 17 [.null, l1, l2] (.null :: st) h := go_plain (q := (17, [.null, l1, l2], (.null :: st), h)) ke_26_16 rfl
theorem ke_26_17 : alook 26 17 = some (17, .getfield 9, 3, (0, 4, 4, 2, 0), ⟨"", "", ""⟩, "WordHides$Square") := rfl
theorem ee_26_17 {d : Nat} {ls st : List Value} {h : aH} {r : Nat} : go d 26 17 ls (.ref r :: st) h = (gf h r 0 4 4).bind fun z => go d 26 20 ls (z :: st) h := go_getf ke_26_17
theorem ke_26_20 : alook 26 20 = some (20, .iload_n 2, 1, (0, 0, 0, 0, 0), ⟨"", "", ""⟩, "") := rfl
theorem ee_26_20 {d : Nat} {h : aH} {l0 l1 : Value} {x : Int32} {st : List Value} : go d 26 20 [l0, l1, .int x] st h = go d 26 21 [l0, l1, .int x] (.int x :: st) h := go_plain (q := (21, [l0, l1, .int x], (.int x :: st), h)) ke_26_20 rfl
theorem ke_26_21 : alook 26 21 = some (21, .iconst 0, 1, (0, 0, 0, 0, 0), ⟨"", "", ""⟩, "") := rfl
theorem ee_26_21 {d : Nat} {h : aH} {ls st : List Value} : go d 26 21 ls st h = go d 26 22 ls (.int 0 :: st) h := go_plain (q := (22, ls, (.int 0 :: st), h)) ke_26_21 rfl
theorem ke_26_22 : alook 26 22 = some (22, .iastore, 1, (0, 0, 0, 0, 0), ⟨"", "", ""⟩, "") := rfl
theorem ee_26_22 {d : Nat} {ls st : List Value} {h : aH} {r : Nat} {i x : Int32} : go d 26 22 ls (.int x :: .int i :: .ref r :: st) h = (is_ h r i x).bind fun h' => go d 26 23 ls st h' := go_iast ke_26_22
theorem ke_26_23 : alook 26 23 = some (23, .iinc 2 1, 3, (0, 0, 0, 0, 0), ⟨"", "", ""⟩, "") := rfl
theorem ee_26_23 {d : Nat} {h : aH} {l0 l1 : Value} {x : Int32} {st : List Value} : go d 26 23 [l0, l1, .int x] st h = go d 26 26 [l0, l1, .int (x + 1)] st h := go_plain (q := (26, [l0, l1, .int (x + 1)], st, h)) ke_26_23 rfl
theorem ke_26_26 : alook 26 26 = some (26, .goto (-24), 3, (2, 0, 0, 0, 0), ⟨"", "", ""⟩, "") := rfl
theorem ee_26_26 {d : Nat} {h : aH} {ls st : List Value} : go d 26 26 ls st h = go d 26 2 ls st h := go_plain (q := (2, ls, st, h)) ke_26_26 rfl
theorem ke_26_29 : alook 26 29 = some (29, .return_, 1, (0, 0, 0, 0, 0), ⟨"", "", ""⟩, "") := rfl
theorem ee_26_29 {d : Nat} {ls : List Value} {h : aH} : go d 26 29 ls [] h = some (none, h) := go_ret ke_26_29 rfl rfl rfl
theorem ke_27_0 : alook 27 0 = some (0, .iconst 0, 1, (0, 0, 0, 0, 0), ⟨"", "", ""⟩, "") := rfl
theorem ee_27_0 {d : Nat} {h : aH} {ls st : List Value} : go d 27 0 ls st h = go d 27 1 ls (.int 0 :: st) h := go_plain (q := (1, ls, (.int 0 :: st), h)) ke_27_0 rfl
theorem ke_27_1 : alook 27 1 = some (1, .istore_n 2, 1, (0, 0, 0, 0, 0), ⟨"", "", ""⟩, "") := rfl
theorem ee_27_1 {d : Nat} {h : aH} {l0 l1 l2 l3 l4 : Value} {x : Int32} {st : List Value} : go d 27 1 [l0, l1, l2, l3, l4] (.int x :: st) h = go d 27 2 [l0, l1, .int x, l3, l4] st h := go_plain (q := (2, [l0, l1, .int x, l3, l4], st, h)) ke_27_1 rfl
theorem ke_27_2 : alook 27 2 = some (2, .iconst 0, 1, (0, 0, 0, 0, 0), ⟨"", "", ""⟩, "") := rfl
theorem ee_27_2 {d : Nat} {h : aH} {ls st : List Value} : go d 27 2 ls st h = go d 27 3 ls (.int 0 :: st) h := go_plain (q := (3, ls, (.int 0 :: st), h)) ke_27_2 rfl
theorem ke_27_3 : alook 27 3 = some (3, .istore_n 3, 1, (0, 0, 0, 0, 0), ⟨"", "", ""⟩, "") := rfl
theorem ee_27_3 {d : Nat} {h : aH} {l0 l1 l2 l3 l4 : Value} {x : Int32} {st : List Value} : go d 27 3 [l0, l1, l2, l3, l4] (.int x :: st) h = go d 27 4 [l0, l1, l2, .int x, l4] st h := go_plain (q := (4, [l0, l1, l2, .int x, l4], st, h)) ke_27_3 rfl
theorem ke_27_4 : alook 27 4 = some (4, .iconst 0, 1, (0, 0, 0, 0, 0), ⟨"", "", ""⟩, "") := rfl
theorem ee_27_4 {d : Nat} {h : aH} {ls st : List Value} : go d 27 4 ls st h = go d 27 5 ls (.int 0 :: st) h := go_plain (q := (5, ls, (.int 0 :: st), h)) ke_27_4 rfl
theorem ke_27_5 : alook 27 5 = some (5, .istore 4, 2, (0, 0, 0, 0, 0), ⟨"", "", ""⟩, "") := rfl
theorem ee_27_5 {d : Nat} {h : aH} {l0 l1 l2 l3 l4 : Value} {x : Int32} {st : List Value} : go d 27 5 [l0, l1, l2, l3, l4] (.int x :: st) h = go d 27 7 [l0, l1, l2, l3, .int x] st h := go_plain (q := (7, [l0, l1, l2, l3, .int x], st, h)) ke_27_5 rfl
theorem ke_27_7 : alook 27 7 = some (7, .iload 4, 2, (0, 0, 0, 0, 0), ⟨"", "", ""⟩, "") := rfl
theorem ee_27_7 {d : Nat} {h : aH} {l0 l1 l2 l3 : Value} {x : Int32} {st : List Value} : go d 27 7 [l0, l1, l2, l3, .int x] st h = go d 27 9 [l0, l1, l2, l3, .int x] (.int x :: st) h := go_plain (q := (9, [l0, l1, l2, l3, .int x], (.int x :: st), h)) ke_27_7 rfl
theorem ke_27_9 : alook 27 9 = some (9, .aload_n 0, 1, (0, 0, 0, 0, 0), ⟨"", "", ""⟩, "") := rfl
theorem ee_27_9 {d : Nat} {h : aH} {l1 l2 l3 l4 : Value} {x : Nat} {st : List Value} : go d 27 9 [.ref x, l1, l2, l3, l4] st h = go d 27 10 [.ref x, l1, l2, l3, l4] (.ref x :: st) h := go_plain (q := (10, [.ref x, l1, l2, l3, l4], (.ref x :: st), h)) ke_27_9 rfl
theorem ee_27_9N {d : Nat} {h : aH} {l1 l2 l3 l4 : Value} {st : List Value} : go d 27 9 [.null, l1, l2, l3, l4] st h = go d 27 10 [.null, l1, l2, l3, l4] (.null :: st) h := go_plain (q := (10, [.null, l1, l2, l3, l4], (.null :: st), h)) ke_27_9 rfl
theorem ke_27_10 : alook 27 10 = some (10, .getfield 15, 3, (1, 4, 4, 2, 0), ⟨"", "", ""⟩, "WordHides$Square") := rfl
theorem ee_27_10 {d : Nat} {ls st : List Value} {h : aH} {r : Nat} : go d 27 10 ls (.ref r :: st) h = (gf h r 1 4 4).bind fun z => go d 27 13 ls (z :: st) h := go_getf ke_27_10
theorem ke_27_13 : alook 27 13 = some (13, .getfield 49, 3, (1, 3, 3, 0, 0), ⟨"", "", ""⟩, "WordHides$Lattice") := rfl
theorem ee_27_13 {d : Nat} {ls st : List Value} {h : aH} {r : Nat} : go d 27 13 ls (.ref r :: st) h = (gf h r 1 3 3).bind fun z => go d 27 16 ls (z :: st) h := go_getf ke_27_13
theorem ke_27_16 : alook 27 16 = some (16, .if_icmp .ge 53, 3, (69, 0, 0, 0, 0), ⟨"", "", ""⟩, "") := rfl
theorem ee_27_16 {d : Nat} {ls st : List Value} {h : aH} {x y : Int32} : go d 27 16 ls (.int y :: .int x :: st) h = if y ≤ x then go d 27 69 ls st h else go d 27 19 ls st h := go_ci (go_if2 (tg := 69) (q := 19) (f := fun x y => decide (y ≤ x)) ke_27_16 rfl)
theorem ke_27_19 : alook 27 19 = some (19, .aload_n 0, 1, (0, 0, 0, 0, 0), ⟨"", "", ""⟩, "") := rfl
theorem ee_27_19 {d : Nat} {h : aH} {l1 l2 l3 l4 : Value} {x : Nat} {st : List Value} : go d 27 19 [.ref x, l1, l2, l3, l4] st h = go d 27 20 [.ref x, l1, l2, l3, l4] (.ref x :: st) h := go_plain (q := (20, [.ref x, l1, l2, l3, l4], (.ref x :: st), h)) ke_27_19 rfl
theorem ee_27_19N {d : Nat} {h : aH} {l1 l2 l3 l4 : Value} {st : List Value} : go d 27 19 [.null, l1, l2, l3, l4] st h = go d 27 20 [.null, l1, l2, l3, l4] (.null :: st) h := go_plain (q := (20, [.null, l1, l2, l3, l4], (.null :: st), h)) ke_27_19 rfl
theorem ke_27_20 : alook 27 20 = some (20, .getfield 9, 3, (0, 4, 4, 2, 0), ⟨"", "", ""⟩, "WordHides$Square") := rfl
theorem ee_27_20 {d : Nat} {ls st : List Value} {h : aH} {r : Nat} : go d 27 20 ls (.ref r :: st) h = (gf h r 0 4 4).bind fun z => go d 27 23 ls (z :: st) h := go_getf ke_27_20
theorem ke_27_23 : alook 27 23 = some (23, .iload 4, 2, (0, 0, 0, 0, 0), ⟨"", "", ""⟩, "") := rfl
theorem ee_27_23 {d : Nat} {h : aH} {l0 l1 l2 l3 : Value} {x : Int32} {st : List Value} : go d 27 23 [l0, l1, l2, l3, .int x] st h = go d 27 25 [l0, l1, l2, l3, .int x] (.int x :: st) h := go_plain (q := (25, [l0, l1, l2, l3, .int x], (.int x :: st), h)) ke_27_23 rfl
theorem ke_27_25 : alook 27 25 = some (25, .iaload, 1, (0, 0, 0, 0, 0), ⟨"", "", ""⟩, "") := rfl
theorem ee_27_25 {d : Nat} {ls st : List Value} {h : aH} {r : Nat} {i : Int32} : go d 27 25 ls (.int i :: .ref r :: st) h = (ia h r i).bind fun z => go d 27 26 ls (.int z :: st) h := go_iald ke_27_25
theorem ke_27_26 : alook 27 26 = some (26, .ifCond .ne 37, 3, (63, 0, 0, 0, 0), ⟨"", "", ""⟩, "") := rfl
theorem ee_27_26 {d : Nat} {ls st : List Value} {h : aH} {x : Int32} : go d 27 26 ls (.int x :: st) h = if ¬ x = 0 then go d 27 63 ls st h else go d 27 29 ls st h := go_c1 (go_if1 (tg := 63) (q := 29) (f := fun x => decide (¬ x = 0)) ke_27_26 rfl)
theorem ke_27_29 : alook 27 29 = some (29, .aload_n 0, 1, (0, 0, 0, 0, 0), ⟨"", "", ""⟩, "") := rfl
theorem ee_27_29 {d : Nat} {h : aH} {l1 l2 l3 l4 : Value} {x : Nat} {st : List Value} : go d 27 29 [.ref x, l1, l2, l3, l4] st h = go d 27 30 [.ref x, l1, l2, l3, l4] (.ref x :: st) h := go_plain (q := (30, [.ref x, l1, l2, l3, l4], (.ref x :: st), h)) ke_27_29 rfl
theorem ee_27_29N {d : Nat} {h : aH} {l1 l2 l3 l4 : Value} {st : List Value} : go d 27 29 [.null, l1, l2, l3, l4] st h = go d 27 30 [.null, l1, l2, l3, l4] (.null :: st) h := go_plain (q := (30, [.null, l1, l2, l3, l4], (.null :: st), h)) ke_27_29 rfl
theorem ke_27_30 : alook 27 30 = some (30, .getfield 9, 3, (0, 4, 4, 2, 0), ⟨"", "", ""⟩, "WordHides$Square") := rfl
theorem ee_27_30 {d : Nat} {ls st : List Value} {h : aH} {r : Nat} : go d 27 30 ls (.ref r :: st) h = (gf h r 0 4 4).bind fun z => go d 27 33 ls (z :: st) h := go_getf ke_27_30
theorem ke_27_33 : alook 27 33 = some (33, .iload 4, 2, (0, 0, 0, 0, 0), ⟨"", "", ""⟩, "") := rfl
theorem ee_27_33 {d : Nat} {h : aH} {l0 l1 l2 l3 : Value} {x : Int32} {st : List Value} : go d 27 33 [l0, l1, l2, l3, .int x] st h = go d 27 35 [l0, l1, l2, l3, .int x] (.int x :: st) h := go_plain (q := (35, [l0, l1, l2, l3, .int x], (.int x :: st), h)) ke_27_33 rfl
theorem ke_27_35 : alook 27 35 = some (35, .aload_n 1, 1, (0, 0, 0, 0, 0), ⟨"", "", ""⟩, "") := rfl
theorem ee_27_35 {d : Nat} {h : aH} {l0 l2 l3 l4 : Value} {x : Nat} {st : List Value} : go d 27 35 [l0, .ref x, l2, l3, l4] st h = go d 27 36 [l0, .ref x, l2, l3, l4] (.ref x :: st) h := go_plain (q := (36, [l0, .ref x, l2, l3, l4], (.ref x :: st), h)) ke_27_35 rfl
theorem ee_27_35N {d : Nat} {h : aH} {l0 l2 l3 l4 : Value} {st : List Value} : go d 27 35 [l0, .null, l2, l3, l4] st h = go d 27 36 [l0, .null, l2, l3, l4] (.null :: st) h := go_plain (q := (36, [l0, .null, l2, l3, l4], (.null :: st), h)) ke_27_35 rfl
theorem ke_27_36 : alook 27 36 = some (36, .getfield 46, 3, (0, 5, 5, 2, 0), ⟨"", "", ""⟩, "WordHides$Text") := rfl
theorem ee_27_36 {d : Nat} {ls st : List Value} {h : aH} {r : Nat} : go d 27 36 ls (.ref r :: st) h = (gf h r 0 5 5).bind fun z => go d 27 39 ls (z :: st) h := go_getf ke_27_36
theorem ke_27_39 : alook 27 39 = some (39, .iload_n 3, 1, (0, 0, 0, 0, 0), ⟨"", "", ""⟩, "") := rfl
theorem ee_27_39 {d : Nat} {h : aH} {l0 l1 l2 l4 : Value} {x : Int32} {st : List Value} : go d 27 39 [l0, l1, l2, .int x, l4] st h = go d 27 40 [l0, l1, l2, .int x, l4] (.int x :: st) h := go_plain (q := (40, [l0, l1, l2, .int x, l4], (.int x :: st), h)) ke_27_39 rfl
theorem ke_27_40 : alook 27 40 = some (40, .iaload, 1, (0, 0, 0, 0, 0), ⟨"", "", ""⟩, "") := rfl
theorem ee_27_40 {d : Nat} {ls st : List Value} {h : aH} {r : Nat} {i : Int32} : go d 27 40 ls (.int i :: .ref r :: st) h = (ia h r i).bind fun z => go d 27 41 ls (.int z :: st) h := go_iald ke_27_40
theorem ke_27_41 : alook 27 41 = some (41, .iastore, 1, (0, 0, 0, 0, 0), ⟨"", "", ""⟩, "") := rfl
theorem ee_27_41 {d : Nat} {ls st : List Value} {h : aH} {r : Nat} {i x : Int32} : go d 27 41 ls (.int x :: .int i :: .ref r :: st) h = (is_ h r i x).bind fun h' => go d 27 42 ls st h' := go_iast ke_27_41
theorem ke_27_42 : alook 27 42 = some (42, .iload_n 3, 1, (0, 0, 0, 0, 0), ⟨"", "", ""⟩, "") := rfl
theorem ee_27_42 {d : Nat} {h : aH} {l0 l1 l2 l4 : Value} {x : Int32} {st : List Value} : go d 27 42 [l0, l1, l2, .int x, l4] st h = go d 27 43 [l0, l1, l2, .int x, l4] (.int x :: st) h := go_plain (q := (43, [l0, l1, l2, .int x, l4], (.int x :: st), h)) ke_27_42 rfl
theorem ke_27_43 : alook 27 43 = some (43, .iconst 1, 1, (0, 0, 0, 0, 0), ⟨"", "", ""⟩, "") := rfl
theorem ee_27_43 {d : Nat} {h : aH} {ls st : List Value} : go d 27 43 ls st h = go d 27 44 ls (.int 1 :: st) h := go_plain (q := (44, ls, (.int 1 :: st), h)) ke_27_43 rfl
theorem ke_27_44 : alook 27 44 = some (44, .iadd, 1, (0, 0, 0, 0, 0), ⟨"", "", ""⟩, "") := rfl
theorem ee_27_44 {d : Nat} {h : aH} {ls st : List Value} {x y : Int32} : go d 27 44 ls (.int y :: .int x :: st) h = go d 27 45 ls (.int (x + y) :: st) h := go_plain (q := (45, ls, (.int (x + y) :: st), h)) ke_27_44 rfl
theorem ke_27_45 : alook 27 45 = some (45, .aload_n 1, 1, (0, 0, 0, 0, 0), ⟨"", "", ""⟩, "") := rfl
theorem ee_27_45 {d : Nat} {h : aH} {l0 l2 l3 l4 : Value} {x : Nat} {st : List Value} : go d 27 45 [l0, .ref x, l2, l3, l4] st h = go d 27 46 [l0, .ref x, l2, l3, l4] (.ref x :: st) h := go_plain (q := (46, [l0, .ref x, l2, l3, l4], (.ref x :: st), h)) ke_27_45 rfl
theorem ee_27_45N {d : Nat} {h : aH} {l0 l2 l3 l4 : Value} {st : List Value} : go d 27 45 [l0, .null, l2, l3, l4] st h = go d 27 46 [l0, .null, l2, l3, l4] (.null :: st) h := go_plain (q := (46, [l0, .null, l2, l3, l4], (.null :: st), h)) ke_27_45 rfl
theorem ke_27_46 : alook 27 46 = some (46, .getfield 31, 3, (1, 5, 5, 0, 0), ⟨"", "", ""⟩, "WordHides$Text") := rfl
theorem ee_27_46 {d : Nat} {ls st : List Value} {h : aH} {r : Nat} : go d 27 46 ls (.ref r :: st) h = (gf h r 1 5 5).bind fun z => go d 27 49 ls (z :: st) h := go_getf ke_27_46
theorem ke_27_49 : alook 27 49 = some (49, .if_icmp .ge 9, 3, (58, 0, 0, 0, 0), ⟨"", "", ""⟩, "") := rfl
theorem ee_27_49 {d : Nat} {ls st : List Value} {h : aH} {x y : Int32} : go d 27 49 ls (.int y :: .int x :: st) h = if y ≤ x then go d 27 58 ls st h else go d 27 52 ls st h := go_ci (go_if2 (tg := 58) (q := 52) (f := fun x y => decide (y ≤ x)) ke_27_49 rfl)
theorem ke_27_52 : alook 27 52 = some (52, .iload_n 3, 1, (0, 0, 0, 0, 0), ⟨"", "", ""⟩, "") := rfl
theorem ee_27_52 {d : Nat} {h : aH} {l0 l1 l2 l4 : Value} {x : Int32} {st : List Value} : go d 27 52 [l0, l1, l2, .int x, l4] st h = go d 27 53 [l0, l1, l2, .int x, l4] (.int x :: st) h := go_plain (q := (53, [l0, l1, l2, .int x, l4], (.int x :: st), h)) ke_27_52 rfl
theorem ke_27_53 : alook 27 53 = some (53, .iconst 1, 1, (0, 0, 0, 0, 0), ⟨"", "", ""⟩, "") := rfl
theorem ee_27_53 {d : Nat} {h : aH} {ls st : List Value} : go d 27 53 ls st h = go d 27 54 ls (.int 1 :: st) h := go_plain (q := (54, ls, (.int 1 :: st), h)) ke_27_53 rfl
theorem ke_27_54 : alook 27 54 = some (54, .iadd, 1, (0, 0, 0, 0, 0), ⟨"", "", ""⟩, "") := rfl
theorem ee_27_54 {d : Nat} {h : aH} {ls st : List Value} {x y : Int32} : go d 27 54 ls (.int y :: .int x :: st) h = go d 27 55 ls (.int (x + y) :: st) h := go_plain (q := (55, ls, (.int (x + y) :: st), h)) ke_27_54 rfl
theorem ke_27_55 : alook 27 55 = some (55, .goto 4, 3, (59, 0, 0, 0, 0), ⟨"", "", ""⟩, "") := rfl
theorem ee_27_55 {d : Nat} {h : aH} {ls st : List Value} : go d 27 55 ls st h = go d 27 59 ls st h := go_plain (q := (59, ls, st, h)) ke_27_55 rfl
theorem ke_27_58 : alook 27 58 = some (58, .iconst 0, 1, (0, 0, 0, 0, 0), ⟨"", "", ""⟩, "") := rfl
theorem ee_27_58 {d : Nat} {h : aH} {ls st : List Value} : go d 27 58 ls st h = go d 27 59 ls (.int 0 :: st) h := go_plain (q := (59, ls, (.int 0 :: st), h)) ke_27_58 rfl
theorem ke_27_59 : alook 27 59 = some (59, .istore_n 3, 1, (0, 0, 0, 0, 0), ⟨"", "", ""⟩, "") := rfl
theorem ee_27_59 {d : Nat} {h : aH} {l0 l1 l2 l3 l4 : Value} {x : Int32} {st : List Value} : go d 27 59 [l0, l1, l2, l3, l4] (.int x :: st) h = go d 27 60 [l0, l1, l2, .int x, l4] st h := go_plain (q := (60, [l0, l1, l2, .int x, l4], st, h)) ke_27_59 rfl
theorem ke_27_60 : alook 27 60 = some (60, .iinc 2 1, 3, (0, 0, 0, 0, 0), ⟨"", "", ""⟩, "") := rfl
theorem ee_27_60 {d : Nat} {h : aH} {l0 l1 l3 l4 : Value} {x : Int32} {st : List Value} : go d 27 60 [l0, l1, .int x, l3, l4] st h = go d 27 63 [l0, l1, .int (x + 1), l3, l4] st h := go_plain (q := (63, [l0, l1, .int (x + 1), l3, l4], st, h)) ke_27_60 rfl
theorem ke_27_63 : alook 27 63 = some (63, .iinc 4 1, 3, (0, 0, 0, 0, 0), ⟨"", "", ""⟩, "") := rfl
theorem ee_27_63 {d : Nat} {h : aH} {l0 l1 l2 l3 : Value} {x : Int32} {st : List Value} : go d 27 63 [l0, l1, l2, l3, .int x] st h = go d 27 66 [l0, l1, l2, l3, .int (x + 1)] st h := go_plain (q := (66, [l0, l1, l2, l3, .int (x + 1)], st, h)) ke_27_63 rfl
theorem ke_27_66 : alook 27 66 = some (66, .goto (-59), 3, (7, 0, 0, 0, 0), ⟨"", "", ""⟩, "") := rfl
theorem ee_27_66 {d : Nat} {h : aH} {ls st : List Value} : go d 27 66 ls st h = go d 27 7 ls st h := go_plain (q := (7, ls, st, h)) ke_27_66 rfl
theorem ke_27_69 : alook 27 69 = some (69, .iload_n 2, 1, (0, 0, 0, 0, 0), ⟨"", "", ""⟩, "") := rfl
theorem ee_27_69 {d : Nat} {h : aH} {l0 l1 l3 l4 : Value} {x : Int32} {st : List Value} : go d 27 69 [l0, l1, .int x, l3, l4] st h = go d 27 70 [l0, l1, .int x, l3, l4] (.int x :: st) h := go_plain (q := (70, [l0, l1, .int x, l3, l4], (.int x :: st), h)) ke_27_69 rfl
theorem ke_27_70 : alook 27 70 = some (70, .ireturn, 1, (0, 0, 0, 0, 0), ⟨"", "", ""⟩, "") := rfl
theorem ee_27_70 {d : Nat} {ls : List Value} {h : aH} {v : Int32} : go d 27 70 ls [.int v] h = some (some (.int v), h) := go_iret ke_27_70
theorem ke_28_0 : alook 28 0 = some (0, .iconst 0, 1, (0, 0, 0, 0, 0), ⟨"", "", ""⟩, "") := rfl
theorem ee_28_0 {d : Nat} {h : aH} {ls st : List Value} : go d 28 0 ls st h = go d 28 1 ls (.int 0 :: st) h := go_plain (q := (1, ls, (.int 0 :: st), h)) ke_28_0 rfl
theorem ke_28_1 : alook 28 1 = some (1, .istore_n 3, 1, (0, 0, 0, 0, 0), ⟨"", "", ""⟩, "") := rfl
theorem ee_28_1 {d : Nat} {h : aH} {l0 l1 l2 l3 l4 l5 : Value} {x : Int32} {st : List Value} : go d 28 1 [l0, l1, l2, l3, l4, l5] (.int x :: st) h = go d 28 2 [l0, l1, l2, .int x, l4, l5] st h := go_plain (q := (2, [l0, l1, l2, .int x, l4, l5], st, h)) ke_28_1 rfl
theorem ke_28_2 : alook 28 2 = some (2, .iconst 0, 1, (0, 0, 0, 0, 0), ⟨"", "", ""⟩, "") := rfl
theorem ee_28_2 {d : Nat} {h : aH} {ls st : List Value} : go d 28 2 ls st h = go d 28 3 ls (.int 0 :: st) h := go_plain (q := (3, ls, (.int 0 :: st), h)) ke_28_2 rfl
theorem ke_28_3 : alook 28 3 = some (3, .istore 4, 2, (0, 0, 0, 0, 0), ⟨"", "", ""⟩, "") := rfl
theorem ee_28_3 {d : Nat} {h : aH} {l0 l1 l2 l3 l4 l5 : Value} {x : Int32} {st : List Value} : go d 28 3 [l0, l1, l2, l3, l4, l5] (.int x :: st) h = go d 28 5 [l0, l1, l2, l3, .int x, l5] st h := go_plain (q := (5, [l0, l1, l2, l3, .int x, l5], st, h)) ke_28_3 rfl
theorem ke_28_5 : alook 28 5 = some (5, .iload 4, 2, (0, 0, 0, 0, 0), ⟨"", "", ""⟩, "") := rfl
theorem ee_28_5 {d : Nat} {h : aH} {l0 l1 l2 l3 l5 : Value} {x : Int32} {st : List Value} : go d 28 5 [l0, l1, l2, l3, .int x, l5] st h = go d 28 7 [l0, l1, l2, l3, .int x, l5] (.int x :: st) h := go_plain (q := (7, [l0, l1, l2, l3, .int x, l5], (.int x :: st), h)) ke_28_5 rfl
theorem ke_28_7 : alook 28 7 = some (7, .aload_n 0, 1, (0, 0, 0, 0, 0), ⟨"", "", ""⟩, "") := rfl
theorem ee_28_7 {d : Nat} {h : aH} {l1 l2 l3 l4 l5 : Value} {x : Nat} {st : List Value} : go d 28 7 [.ref x, l1, l2, l3, l4, l5] st h = go d 28 8 [.ref x, l1, l2, l3, l4, l5] (.ref x :: st) h := go_plain (q := (8, [.ref x, l1, l2, l3, l4, l5], (.ref x :: st), h)) ke_28_7 rfl
theorem ee_28_7N {d : Nat} {h : aH} {l1 l2 l3 l4 l5 : Value} {st : List Value} : go d 28 7 [.null, l1, l2, l3, l4, l5] st h = go d 28 8 [.null, l1, l2, l3, l4, l5] (.null :: st) h := go_plain (q := (8, [.null, l1, l2, l3, l4, l5], (.null :: st), h)) ke_28_7 rfl
theorem ke_28_8 : alook 28 8 = some (8, .getfield 15, 3, (1, 4, 4, 2, 0), ⟨"", "", ""⟩, "WordHides$Square") := rfl
theorem ee_28_8 {d : Nat} {ls st : List Value} {h : aH} {r : Nat} : go d 28 8 ls (.ref r :: st) h = (gf h r 1 4 4).bind fun z => go d 28 11 ls (z :: st) h := go_getf ke_28_8
theorem ke_28_11 : alook 28 11 = some (11, .getfield 49, 3, (1, 3, 3, 0, 0), ⟨"", "", ""⟩, "WordHides$Lattice") := rfl
theorem ee_28_11 {d : Nat} {ls st : List Value} {h : aH} {r : Nat} : go d 28 11 ls (.ref r :: st) h = (gf h r 1 3 3).bind fun z => go d 28 14 ls (z :: st) h := go_getf ke_28_11
theorem ke_28_14 : alook 28 14 = some (14, .if_icmp .ge 75, 3, (89, 0, 0, 0, 0), ⟨"", "", ""⟩, "") := rfl
theorem ee_28_14 {d : Nat} {ls st : List Value} {h : aH} {x y : Int32} : go d 28 14 ls (.int y :: .int x :: st) h = if y ≤ x then go d 28 89 ls st h else go d 28 17 ls st h := go_ci (go_if2 (tg := 89) (q := 17) (f := fun x y => decide (y ≤ x)) ke_28_14 rfl)
theorem ke_28_17 : alook 28 17 = some (17, .aload_n 0, 1, (0, 0, 0, 0, 0), ⟨"", "", ""⟩, "") := rfl
theorem ee_28_17 {d : Nat} {h : aH} {l1 l2 l3 l4 l5 : Value} {x : Nat} {st : List Value} : go d 28 17 [.ref x, l1, l2, l3, l4, l5] st h = go d 28 18 [.ref x, l1, l2, l3, l4, l5] (.ref x :: st) h := go_plain (q := (18, [.ref x, l1, l2, l3, l4, l5], (.ref x :: st), h)) ke_28_17 rfl
theorem ee_28_17N {d : Nat} {h : aH} {l1 l2 l3 l4 l5 : Value} {st : List Value} : go d 28 17 [.null, l1, l2, l3, l4, l5] st h = go d 28 18 [.null, l1, l2, l3, l4, l5] (.null :: st) h := go_plain (q := (18, [.null, l1, l2, l3, l4, l5], (.null :: st), h)) ke_28_17 rfl
theorem ke_28_18 : alook 28 18 = some (18, .getfield 9, 3, (0, 4, 4, 2, 0), ⟨"", "", ""⟩, "WordHides$Square") := rfl
theorem ee_28_18 {d : Nat} {ls st : List Value} {h : aH} {r : Nat} : go d 28 18 ls (.ref r :: st) h = (gf h r 0 4 4).bind fun z => go d 28 21 ls (z :: st) h := go_getf ke_28_18
theorem ke_28_21 : alook 28 21 = some (21, .iload 4, 2, (0, 0, 0, 0, 0), ⟨"", "", ""⟩, "") := rfl
theorem ee_28_21 {d : Nat} {h : aH} {l0 l1 l2 l3 l5 : Value} {x : Int32} {st : List Value} : go d 28 21 [l0, l1, l2, l3, .int x, l5] st h = go d 28 23 [l0, l1, l2, l3, .int x, l5] (.int x :: st) h := go_plain (q := (23, [l0, l1, l2, l3, .int x, l5], (.int x :: st), h)) ke_28_21 rfl
theorem ke_28_23 : alook 28 23 = some (23, .iaload, 1, (0, 0, 0, 0, 0), ⟨"", "", ""⟩, "") := rfl
theorem ee_28_23 {d : Nat} {ls st : List Value} {h : aH} {r : Nat} {i : Int32} : go d 28 23 ls (.int i :: .ref r :: st) h = (ia h r i).bind fun z => go d 28 24 ls (.int z :: st) h := go_iald ke_28_23
theorem ke_28_24 : alook 28 24 = some (24, .aload_n 1, 1, (0, 0, 0, 0, 0), ⟨"", "", ""⟩, "") := rfl
theorem ee_28_24 {d : Nat} {h : aH} {l0 l2 l3 l4 l5 : Value} {x : Nat} {st : List Value} : go d 28 24 [l0, .ref x, l2, l3, l4, l5] st h = go d 28 25 [l0, .ref x, l2, l3, l4, l5] (.ref x :: st) h := go_plain (q := (25, [l0, .ref x, l2, l3, l4, l5], (.ref x :: st), h)) ke_28_24 rfl
theorem ee_28_24N {d : Nat} {h : aH} {l0 l2 l3 l4 l5 : Value} {st : List Value} : go d 28 24 [l0, .null, l2, l3, l4, l5] st h = go d 28 25 [l0, .null, l2, l3, l4, l5] (.null :: st) h := go_plain (q := (25, [l0, .null, l2, l3, l4, l5], (.null :: st), h)) ke_28_24 rfl
theorem ke_28_25 : alook 28 25 = some (25, .getfield 46, 3, (0, 5, 5, 2, 0), ⟨"", "", ""⟩, "WordHides$Text") := rfl
theorem ee_28_25 {d : Nat} {ls st : List Value} {h : aH} {r : Nat} : go d 28 25 ls (.ref r :: st) h = (gf h r 0 5 5).bind fun z => go d 28 28 ls (z :: st) h := go_getf ke_28_25
theorem ke_28_28 : alook 28 28 = some (28, .iconst 0, 1, (0, 0, 0, 0, 0), ⟨"", "", ""⟩, "") := rfl
theorem ee_28_28 {d : Nat} {h : aH} {ls st : List Value} : go d 28 28 ls st h = go d 28 29 ls (.int 0 :: st) h := go_plain (q := (29, ls, (.int 0 :: st), h)) ke_28_28 rfl
theorem ke_28_29 : alook 28 29 = some (29, .iaload, 1, (0, 0, 0, 0, 0), ⟨"", "", ""⟩, "") := rfl
theorem ee_28_29 {d : Nat} {ls st : List Value} {h : aH} {r : Nat} {i : Int32} : go d 28 29 ls (.int i :: .ref r :: st) h = (ia h r i).bind fun z => go d 28 30 ls (.int z :: st) h := go_iald ke_28_29
theorem ke_28_30 : alook 28 30 = some (30, .if_icmp .eq 6, 3, (36, 0, 0, 0, 0), ⟨"", "", ""⟩, "") := rfl
theorem ee_28_30 {d : Nat} {ls st : List Value} {h : aH} {x y : Int32} : go d 28 30 ls (.int y :: .int x :: st) h = if x = y then go d 28 36 ls st h else go d 28 33 ls st h := go_ci (go_if2 (tg := 36) (q := 33) (f := fun x y => decide (x = y)) ke_28_30 rfl)
theorem ke_28_33 : alook 28 33 = some (33, .goto 50, 3, (83, 0, 0, 0, 0), ⟨"", "", ""⟩, "") := rfl
theorem ee_28_33 {d : Nat} {h : aH} {ls st : List Value} : go d 28 33 ls st h = go d 28 83 ls st h := go_plain (q := (83, ls, st, h)) ke_28_33 rfl
theorem ke_28_36 : alook 28 36 = some (36, .iload 4, 2, (0, 0, 0, 0, 0), ⟨"", "", ""⟩, "") := rfl
theorem ee_28_36 {d : Nat} {h : aH} {l0 l1 l2 l3 l5 : Value} {x : Int32} {st : List Value} : go d 28 36 [l0, l1, l2, l3, .int x, l5] st h = go d 28 38 [l0, l1, l2, l3, .int x, l5] (.int x :: st) h := go_plain (q := (38, [l0, l1, l2, l3, .int x, l5], (.int x :: st), h)) ke_28_36 rfl
theorem ke_28_38 : alook 28 38 = some (38, .bipush 8, 2, (0, 0, 0, 0, 0), ⟨"", "", ""⟩, "") := rfl
theorem ee_28_38 {d : Nat} {h : aH} {ls st : List Value} : go d 28 38 ls st h = go d 28 40 ls (.int 8 :: st) h := go_plain (q := (40, ls, (.int 8 :: st), h)) ke_28_38 rfl
theorem ke_28_40 : alook 28 40 = some (40, .imul, 1, (0, 0, 0, 0, 0), ⟨"", "", ""⟩, "") := rfl
theorem ee_28_40 {d : Nat} {h : aH} {ls st : List Value} {x y : Int32} : go d 28 40 ls (.int y :: .int x :: st) h = go d 28 41 ls (.int (x * y) :: st) h := go_plain (q := (41, ls, (.int (x * y) :: st), h)) ke_28_40 rfl
theorem ke_28_41 : alook 28 41 = some (41, .istore 5, 2, (0, 0, 0, 0, 0), ⟨"", "", ""⟩, "") := rfl
theorem ee_28_41 {d : Nat} {h : aH} {l0 l1 l2 l3 l4 l5 : Value} {x : Int32} {st : List Value} : go d 28 41 [l0, l1, l2, l3, l4, l5] (.int x :: st) h = go d 28 43 [l0, l1, l2, l3, l4, .int x] st h := go_plain (q := (43, [l0, l1, l2, l3, l4, .int x], st, h)) ke_28_41 rfl
theorem ke_28_43 : alook 28 43 = some (43, .iload 5, 2, (0, 0, 0, 0, 0), ⟨"", "", ""⟩, "") := rfl
theorem ee_28_43 {d : Nat} {h : aH} {l0 l1 l2 l3 l4 : Value} {x : Int32} {st : List Value} : go d 28 43 [l0, l1, l2, l3, l4, .int x] st h = go d 28 45 [l0, l1, l2, l3, l4, .int x] (.int x :: st) h := go_plain (q := (45, [l0, l1, l2, l3, l4, .int x], (.int x :: st), h)) ke_28_43 rfl
theorem ke_28_45 : alook 28 45 = some (45, .iload 4, 2, (0, 0, 0, 0, 0), ⟨"", "", ""⟩, "") := rfl
theorem ee_28_45 {d : Nat} {h : aH} {l0 l1 l2 l3 l5 : Value} {x : Int32} {st : List Value} : go d 28 45 [l0, l1, l2, l3, .int x, l5] st h = go d 28 47 [l0, l1, l2, l3, .int x, l5] (.int x :: st) h := go_plain (q := (47, [l0, l1, l2, l3, .int x, l5], (.int x :: st), h)) ke_28_45 rfl
theorem ke_28_47 : alook 28 47 = some (47, .bipush 8, 2, (0, 0, 0, 0, 0), ⟨"", "", ""⟩, "") := rfl
theorem ee_28_47 {d : Nat} {h : aH} {ls st : List Value} : go d 28 47 ls st h = go d 28 49 ls (.int 8 :: st) h := go_plain (q := (49, ls, (.int 8 :: st), h)) ke_28_47 rfl
theorem ke_28_49 : alook 28 49 = some (49, .imul, 1, (0, 0, 0, 0, 0), ⟨"", "", ""⟩, "") := rfl
theorem ee_28_49 {d : Nat} {h : aH} {ls st : List Value} {x y : Int32} : go d 28 49 ls (.int y :: .int x :: st) h = go d 28 50 ls (.int (x * y) :: st) h := go_plain (q := (50, ls, (.int (x * y) :: st), h)) ke_28_49 rfl
theorem ke_28_50 : alook 28 50 = some (50, .bipush 8, 2, (0, 0, 0, 0, 0), ⟨"", "", ""⟩, "") := rfl
theorem ee_28_50 {d : Nat} {h : aH} {ls st : List Value} : go d 28 50 ls st h = go d 28 52 ls (.int 8 :: st) h := go_plain (q := (52, ls, (.int 8 :: st), h)) ke_28_50 rfl
theorem ke_28_52 : alook 28 52 = some (52, .iadd, 1, (0, 0, 0, 0, 0), ⟨"", "", ""⟩, "") := rfl
theorem ee_28_52 {d : Nat} {h : aH} {ls st : List Value} {x y : Int32} : go d 28 52 ls (.int y :: .int x :: st) h = go d 28 53 ls (.int (x + y) :: st) h := go_plain (q := (53, ls, (.int (x + y) :: st), h)) ke_28_52 rfl
theorem ke_28_53 : alook 28 53 = some (53, .if_icmp .ge 30, 3, (83, 0, 0, 0, 0), ⟨"", "", ""⟩, "") := rfl
theorem ee_28_53 {d : Nat} {ls st : List Value} {h : aH} {x y : Int32} : go d 28 53 ls (.int y :: .int x :: st) h = if y ≤ x then go d 28 83 ls st h else go d 28 56 ls st h := go_ci (go_if2 (tg := 83) (q := 56) (f := fun x y => decide (y ≤ x)) ke_28_53 rfl)
theorem ke_28_56 : alook 28 56 = some (56, .aload_n 0, 1, (0, 0, 0, 0, 0), ⟨"", "", ""⟩, "") := rfl
theorem ee_28_56 {d : Nat} {h : aH} {l1 l2 l3 l4 l5 : Value} {x : Nat} {st : List Value} : go d 28 56 [.ref x, l1, l2, l3, l4, l5] st h = go d 28 57 [.ref x, l1, l2, l3, l4, l5] (.ref x :: st) h := go_plain (q := (57, [.ref x, l1, l2, l3, l4, l5], (.ref x :: st), h)) ke_28_56 rfl
theorem ee_28_56N {d : Nat} {h : aH} {l1 l2 l3 l4 l5 : Value} {st : List Value} : go d 28 56 [.null, l1, l2, l3, l4, l5] st h = go d 28 57 [.null, l1, l2, l3, l4, l5] (.null :: st) h := go_plain (q := (57, [.null, l1, l2, l3, l4, l5], (.null :: st), h)) ke_28_56 rfl
theorem ke_28_57 : alook 28 57 = some (57, .aload_n 1, 1, (0, 0, 0, 0, 0), ⟨"", "", ""⟩, "") := rfl
theorem ee_28_57 {d : Nat} {h : aH} {l0 l2 l3 l4 l5 : Value} {x : Nat} {st : List Value} : go d 28 57 [l0, .ref x, l2, l3, l4, l5] st h = go d 28 58 [l0, .ref x, l2, l3, l4, l5] (.ref x :: st) h := go_plain (q := (58, [l0, .ref x, l2, l3, l4, l5], (.ref x :: st), h)) ke_28_57 rfl
theorem ee_28_57N {d : Nat} {h : aH} {l0 l2 l3 l4 l5 : Value} {st : List Value} : go d 28 57 [l0, .null, l2, l3, l4, l5] st h = go d 28 58 [l0, .null, l2, l3, l4, l5] (.null :: st) h := go_plain (q := (58, [l0, .null, l2, l3, l4, l5], (.null :: st), h)) ke_28_57 rfl
theorem ke_28_58 : alook 28 58 = some (58, .iload 5, 2, (0, 0, 0, 0, 0), ⟨"", "", ""⟩, "") := rfl
theorem ee_28_58 {d : Nat} {h : aH} {l0 l1 l2 l3 l4 : Value} {x : Int32} {st : List Value} : go d 28 58 [l0, l1, l2, l3, l4, .int x] st h = go d 28 60 [l0, l1, l2, l3, l4, .int x] (.int x :: st) h := go_plain (q := (60, [l0, l1, l2, l3, l4, .int x], (.int x :: st), h)) ke_28_58 rfl
theorem ke_28_60 : alook 28 60 = some (60, .invokevirtual 52, 3, (2, 4, 29, 4, 29), ⟨"WordHides$Square", "showsAt", "(LWordHides$Text;I)Z"⟩, "") := rfl
theorem ee_28_60 {d : Nat} {ls : List Value} {h : aH} {i0 : Int32} {r1 : Nat} {r2 : Nat} : go (d + 1) 28 60 ls [.int i0, .ref r1, .ref r2] h = if isC h r2 4 = true then (go d 29 0 [.ref r2, .ref r1, .int i0, aU, aU, aU] [] h).bind (fun q => go (d + 1) 28 63 ls (q.1.toList ++ []) q.2) else none := go_cv1 (as := [.ref r1, .int i0]) (rest := []) (L := [.ref r2, .ref r1, .int i0, aU, aU, aU]) ke_28_60 rfl rfl rfl
theorem ke_28_63 : alook 28 63 = some (63, .ifCond .eq 14, 3, (77, 0, 0, 0, 0), ⟨"", "", ""⟩, "") := rfl
theorem ee_28_63 {d : Nat} {ls st : List Value} {h : aH} {x : Int32} : go d 28 63 ls (.int x :: st) h = if x = 0 then go d 28 77 ls st h else go d 28 66 ls st h := go_c1 (go_if1 (tg := 77) (q := 66) (f := fun x => decide (x = 0)) ke_28_63 rfl)
theorem ke_28_66 : alook 28 66 = some (66, .iload_n 3, 1, (0, 0, 0, 0, 0), ⟨"", "", ""⟩, "") := rfl
theorem ee_28_66 {d : Nat} {h : aH} {l0 l1 l2 l4 l5 : Value} {x : Int32} {st : List Value} : go d 28 66 [l0, l1, l2, .int x, l4, l5] st h = go d 28 67 [l0, l1, l2, .int x, l4, l5] (.int x :: st) h := go_plain (q := (67, [l0, l1, l2, .int x, l4, l5], (.int x :: st), h)) ke_28_66 rfl
theorem ke_28_67 : alook 28 67 = some (67, .iload_n 2, 1, (0, 0, 0, 0, 0), ⟨"", "", ""⟩, "") := rfl
theorem ee_28_67 {d : Nat} {h : aH} {l0 l1 l3 l4 l5 : Value} {x : Int32} {st : List Value} : go d 28 67 [l0, l1, .int x, l3, l4, l5] st h = go d 28 68 [l0, l1, .int x, l3, l4, l5] (.int x :: st) h := go_plain (q := (68, [l0, l1, .int x, l3, l4, l5], (.int x :: st), h)) ke_28_67 rfl
theorem ke_28_68 : alook 28 68 = some (68, .if_icmp .ne 6, 3, (74, 0, 0, 0, 0), ⟨"", "", ""⟩, "") := rfl
theorem ee_28_68 {d : Nat} {ls st : List Value} {h : aH} {x y : Int32} : go d 28 68 ls (.int y :: .int x :: st) h = if ¬ x = y then go d 28 74 ls st h else go d 28 71 ls st h := go_ci (go_if2 (tg := 74) (q := 71) (f := fun x y => decide (¬ x = y)) ke_28_68 rfl)
theorem ke_28_71 : alook 28 71 = some (71, .iload 5, 2, (0, 0, 0, 0, 0), ⟨"", "", ""⟩, "") := rfl
theorem ee_28_71 {d : Nat} {h : aH} {l0 l1 l2 l3 l4 : Value} {x : Int32} {st : List Value} : go d 28 71 [l0, l1, l2, l3, l4, .int x] st h = go d 28 73 [l0, l1, l2, l3, l4, .int x] (.int x :: st) h := go_plain (q := (73, [l0, l1, l2, l3, l4, .int x], (.int x :: st), h)) ke_28_71 rfl
theorem ke_28_73 : alook 28 73 = some (73, .ireturn, 1, (0, 0, 0, 0, 0), ⟨"", "", ""⟩, "") := rfl
theorem ee_28_73 {d : Nat} {ls : List Value} {h : aH} {v : Int32} : go d 28 73 ls [.int v] h = some (some (.int v), h) := go_iret ke_28_73
theorem ke_28_74 : alook 28 74 = some (74, .iinc 3 1, 3, (0, 0, 0, 0, 0), ⟨"", "", ""⟩, "") := rfl
theorem ee_28_74 {d : Nat} {h : aH} {l0 l1 l2 l4 l5 : Value} {x : Int32} {st : List Value} : go d 28 74 [l0, l1, l2, .int x, l4, l5] st h = go d 28 77 [l0, l1, l2, .int (x + 1), l4, l5] st h := go_plain (q := (77, [l0, l1, l2, .int (x + 1), l4, l5], st, h)) ke_28_74 rfl
theorem ke_28_77 : alook 28 77 = some (77, .iinc 5 1, 3, (0, 0, 0, 0, 0), ⟨"", "", ""⟩, "") := rfl
theorem ee_28_77 {d : Nat} {h : aH} {l0 l1 l2 l3 l4 : Value} {x : Int32} {st : List Value} : go d 28 77 [l0, l1, l2, l3, l4, .int x] st h = go d 28 80 [l0, l1, l2, l3, l4, .int (x + 1)] st h := go_plain (q := (80, [l0, l1, l2, l3, l4, .int (x + 1)], st, h)) ke_28_77 rfl
theorem ke_28_80 : alook 28 80 = some (80, .goto (-37), 3, (43, 0, 0, 0, 0), ⟨"", "", ""⟩, "") := rfl
theorem ee_28_80 {d : Nat} {h : aH} {ls st : List Value} : go d 28 80 ls st h = go d 28 43 ls st h := go_plain (q := (43, ls, st, h)) ke_28_80 rfl
theorem ke_28_83 : alook 28 83 = some (83, .iinc 4 1, 3, (0, 0, 0, 0, 0), ⟨"", "", ""⟩, "") := rfl
theorem ee_28_83 {d : Nat} {h : aH} {l0 l1 l2 l3 l5 : Value} {x : Int32} {st : List Value} : go d 28 83 [l0, l1, l2, l3, .int x, l5] st h = go d 28 86 [l0, l1, l2, l3, .int (x + 1), l5] st h := go_plain (q := (86, [l0, l1, l2, l3, .int (x + 1), l5], st, h)) ke_28_83 rfl
theorem ke_28_86 : alook 28 86 = some (86, .goto (-81), 3, (5, 0, 0, 0, 0), ⟨"", "", ""⟩, "") := rfl
theorem ee_28_86 {d : Nat} {h : aH} {ls st : List Value} : go d 28 86 ls st h = go d 28 5 ls st h := go_plain (q := (5, ls, st, h)) ke_28_86 rfl
theorem ke_28_89 : alook 28 89 = some (89, .iload_n 2, 1, (0, 0, 0, 0, 0), ⟨"", "", ""⟩, "") := rfl
theorem ee_28_89 {d : Nat} {h : aH} {l0 l1 l3 l4 l5 : Value} {x : Int32} {st : List Value} : go d 28 89 [l0, l1, .int x, l3, l4, l5] st h = go d 28 90 [l0, l1, .int x, l3, l4, l5] (.int x :: st) h := go_plain (q := (90, [l0, l1, .int x, l3, l4, l5], (.int x :: st), h)) ke_28_89 rfl
theorem ke_28_90 : alook 28 90 = some (90, .iconst (-1), 1, (0, 0, 0, 0, 0), ⟨"", "", ""⟩, "") := rfl
theorem ee_28_90 {d : Nat} {h : aH} {ls st : List Value} : go d 28 90 ls st h = go d 28 91 ls (.int (-1) :: st) h := go_plain (q := (91, ls, (.int (-1) :: st), h)) ke_28_90 rfl
theorem ke_28_91 : alook 28 91 = some (91, .if_icmp .ne 7, 3, (98, 0, 0, 0, 0), ⟨"", "", ""⟩, "") := rfl
theorem ee_28_91 {d : Nat} {ls st : List Value} {h : aH} {x y : Int32} : go d 28 91 ls (.int y :: .int x :: st) h = if ¬ x = y then go d 28 98 ls st h else go d 28 94 ls st h := go_ci (go_if2 (tg := 98) (q := 94) (f := fun x y => decide (¬ x = y)) ke_28_91 rfl)
theorem ke_28_94 : alook 28 94 = some (94, .iload_n 3, 1, (0, 0, 0, 0, 0), ⟨"", "", ""⟩, "") := rfl
theorem ee_28_94 {d : Nat} {h : aH} {l0 l1 l2 l4 l5 : Value} {x : Int32} {st : List Value} : go d 28 94 [l0, l1, l2, .int x, l4, l5] st h = go d 28 95 [l0, l1, l2, .int x, l4, l5] (.int x :: st) h := go_plain (q := (95, [l0, l1, l2, .int x, l4, l5], (.int x :: st), h)) ke_28_94 rfl
theorem ke_28_95 : alook 28 95 = some (95, .goto 5, 3, (100, 0, 0, 0, 0), ⟨"", "", ""⟩, "") := rfl
theorem ee_28_95 {d : Nat} {h : aH} {ls st : List Value} : go d 28 95 ls st h = go d 28 100 ls st h := go_plain (q := (100, ls, st, h)) ke_28_95 rfl
theorem ke_28_98 : alook 28 98 = some (98, .bipush (-6), 2, (0, 0, 0, 0, 0), ⟨"", "", ""⟩, "") := rfl
theorem ee_28_98 {d : Nat} {h : aH} {ls st : List Value} : go d 28 98 ls st h = go d 28 100 ls (.int (-6) :: st) h := go_plain (q := (100, ls, (.int (-6) :: st), h)) ke_28_98 rfl
theorem ke_28_100 : alook 28 100 = some (100, .ireturn, 1, (0, 0, 0, 0, 0), ⟨"", "", ""⟩, "") := rfl
theorem ee_28_100 {d : Nat} {ls : List Value} {h : aH} {v : Int32} : go d 28 100 ls [.int v] h = some (some (.int v), h) := go_iret ke_28_100
theorem ke_29_0 : alook 29 0 = some (0, .aload_n 0, 1, (0, 0, 0, 0, 0), ⟨"", "", ""⟩, "") := rfl
theorem ee_29_0 {d : Nat} {h : aH} {l1 l2 l3 l4 l5 : Value} {x : Nat} {st : List Value} : go d 29 0 [.ref x, l1, l2, l3, l4, l5] st h = go d 29 1 [.ref x, l1, l2, l3, l4, l5] (.ref x :: st) h := go_plain (q := (1, [.ref x, l1, l2, l3, l4, l5], (.ref x :: st), h)) ke_29_0 rfl
theorem ee_29_0N {d : Nat} {h : aH} {l1 l2 l3 l4 l5 : Value} {st : List Value} : go d 29 0 [.null, l1, l2, l3, l4, l5] st h = go d 29 1 [.null, l1, l2, l3, l4, l5] (.null :: st) h := go_plain (q := (1, [.null, l1, l2, l3, l4, l5], (.null :: st), h)) ke_29_0 rfl
theorem ke_29_1 : alook 29 1 = some (1, .getfield 15, 3, (1, 4, 4, 2, 0), ⟨"", "", ""⟩, "WordHides$Square") := rfl
theorem ee_29_1 {d : Nat} {ls st : List Value} {h : aH} {r : Nat} : go d 29 1 ls (.ref r :: st) h = (gf h r 1 4 4).bind fun z => go d 29 4 ls (z :: st) h := go_getf ke_29_1
theorem ke_29_4 : alook 29 4 = some (4, .getfield 56, 3, (4, 3, 3, 2, 0), ⟨"", "", ""⟩, "WordHides$Lattice") := rfl
theorem ee_29_4 {d : Nat} {ls st : List Value} {h : aH} {r : Nat} : go d 29 4 ls (.ref r :: st) h = (gf h r 4 3 3).bind fun z => go d 29 7 ls (z :: st) h := go_getf ke_29_4
theorem ke_29_7 : alook 29 7 = some (7, .iload_n 2, 1, (0, 0, 0, 0, 0), ⟨"", "", ""⟩, "") := rfl
theorem ee_29_7 {d : Nat} {h : aH} {l0 l1 l3 l4 l5 : Value} {x : Int32} {st : List Value} : go d 29 7 [l0, l1, .int x, l3, l4, l5] st h = go d 29 8 [l0, l1, .int x, l3, l4, l5] (.int x :: st) h := go_plain (q := (8, [l0, l1, .int x, l3, l4, l5], (.int x :: st), h)) ke_29_7 rfl
theorem ke_29_8 : alook 29 8 = some (8, .iaload, 1, (0, 0, 0, 0, 0), ⟨"", "", ""⟩, "") := rfl
theorem ee_29_8 {d : Nat} {ls st : List Value} {h : aH} {r : Nat} {i : Int32} : go d 29 8 ls (.int i :: .ref r :: st) h = (ia h r i).bind fun z => go d 29 9 ls (.int z :: st) h := go_iald ke_29_8
theorem ke_29_9 : alook 29 9 = some (9, .aload_n 1, 1, (0, 0, 0, 0, 0), ⟨"", "", ""⟩, "") := rfl
theorem ee_29_9 {d : Nat} {h : aH} {l0 l2 l3 l4 l5 : Value} {x : Nat} {st : List Value} : go d 29 9 [l0, .ref x, l2, l3, l4, l5] st h = go d 29 10 [l0, .ref x, l2, l3, l4, l5] (.ref x :: st) h := go_plain (q := (10, [l0, .ref x, l2, l3, l4, l5], (.ref x :: st), h)) ke_29_9 rfl
theorem ee_29_9N {d : Nat} {h : aH} {l0 l2 l3 l4 l5 : Value} {st : List Value} : go d 29 9 [l0, .null, l2, l3, l4, l5] st h = go d 29 10 [l0, .null, l2, l3, l4, l5] (.null :: st) h := go_plain (q := (10, [l0, .null, l2, l3, l4, l5], (.null :: st), h)) ke_29_9 rfl
theorem ke_29_10 : alook 29 10 = some (10, .getfield 31, 3, (1, 5, 5, 0, 0), ⟨"", "", ""⟩, "WordHides$Text") := rfl
theorem ee_29_10 {d : Nat} {ls st : List Value} {h : aH} {r : Nat} : go d 29 10 ls (.ref r :: st) h = (gf h r 1 5 5).bind fun z => go d 29 13 ls (z :: st) h := go_getf ke_29_10
theorem ke_29_13 : alook 29 13 = some (13, .if_icmp .ge 5, 3, (18, 0, 0, 0, 0), ⟨"", "", ""⟩, "") := rfl
theorem ee_29_13 {d : Nat} {ls st : List Value} {h : aH} {x y : Int32} : go d 29 13 ls (.int y :: .int x :: st) h = if y ≤ x then go d 29 18 ls st h else go d 29 16 ls st h := go_ci (go_if2 (tg := 18) (q := 16) (f := fun x y => decide (y ≤ x)) ke_29_13 rfl)
theorem ke_29_16 : alook 29 16 = some (16, .iconst 0, 1, (0, 0, 0, 0, 0), ⟨"", "", ""⟩, "") := rfl
theorem ee_29_16 {d : Nat} {h : aH} {ls st : List Value} : go d 29 16 ls st h = go d 29 17 ls (.int 0 :: st) h := go_plain (q := (17, ls, (.int 0 :: st), h)) ke_29_16 rfl
theorem ke_29_17 : alook 29 17 = some (17, .ireturn, 1, (1, 0, 0, 0, 0), ⟨"", "", ""⟩, "") := rfl
theorem ee_29_17 {d : Nat} {ls : List Value} {h : aH} : go d 29 17 ls [.int 0] h = some (some (.int 0), h) := go_zret0 ke_29_17
theorem ee_29_17T {d : Nat} {ls : List Value} {h : aH} : go d 29 17 ls [.int 1] h = some (some (.int 1), h) := go_zret1 ke_29_17
theorem ke_29_18 : alook 29 18 = some (18, .aload_n 0, 1, (0, 0, 0, 0, 0), ⟨"", "", ""⟩, "") := rfl
theorem ee_29_18 {d : Nat} {h : aH} {l1 l2 l3 l4 l5 : Value} {x : Nat} {st : List Value} : go d 29 18 [.ref x, l1, l2, l3, l4, l5] st h = go d 29 19 [.ref x, l1, l2, l3, l4, l5] (.ref x :: st) h := go_plain (q := (19, [.ref x, l1, l2, l3, l4, l5], (.ref x :: st), h)) ke_29_18 rfl
theorem ee_29_18N {d : Nat} {h : aH} {l1 l2 l3 l4 l5 : Value} {st : List Value} : go d 29 18 [.null, l1, l2, l3, l4, l5] st h = go d 29 19 [.null, l1, l2, l3, l4, l5] (.null :: st) h := go_plain (q := (19, [.null, l1, l2, l3, l4, l5], (.null :: st), h)) ke_29_18 rfl
theorem ke_29_19 : alook 29 19 = some (19, .getfield 15, 3, (1, 4, 4, 2, 0), ⟨"", "", ""⟩, "WordHides$Square") := rfl
theorem ee_29_19 {d : Nat} {ls st : List Value} {h : aH} {r : Nat} : go d 29 19 ls (.ref r :: st) h = (gf h r 1 4 4).bind fun z => go d 29 22 ls (z :: st) h := go_getf ke_29_19
theorem ke_29_22 : alook 29 22 = some (22, .getfield 43, 3, (3, 3, 3, 2, 0), ⟨"", "", ""⟩, "WordHides$Lattice") := rfl
theorem ee_29_22 {d : Nat} {ls st : List Value} {h : aH} {r : Nat} : go d 29 22 ls (.ref r :: st) h = (gf h r 3 3 3).bind fun z => go d 29 25 ls (z :: st) h := go_getf ke_29_22
theorem ke_29_25 : alook 29 25 = some (25, .iload_n 2, 1, (0, 0, 0, 0, 0), ⟨"", "", ""⟩, "") := rfl
theorem ee_29_25 {d : Nat} {h : aH} {l0 l1 l3 l4 l5 : Value} {x : Int32} {st : List Value} : go d 29 25 [l0, l1, .int x, l3, l4, l5] st h = go d 29 26 [l0, l1, .int x, l3, l4, l5] (.int x :: st) h := go_plain (q := (26, [l0, l1, .int x, l3, l4, l5], (.int x :: st), h)) ke_29_25 rfl
theorem ke_29_26 : alook 29 26 = some (26, .bipush 8, 2, (0, 0, 0, 0, 0), ⟨"", "", ""⟩, "") := rfl
theorem ee_29_26 {d : Nat} {h : aH} {ls st : List Value} : go d 29 26 ls st h = go d 29 28 ls (.int 8 :: st) h := go_plain (q := (28, ls, (.int 8 :: st), h)) ke_29_26 rfl
theorem ke_29_28 : alook 29 28 = some (28, .irem, 1, (0, 0, 0, 0, 0), ⟨"", "", ""⟩, "") := rfl
theorem ee_29_28 {d : Nat} {ls st : List Value} {h : aH} {x y : Int32} : go d 29 28 ls (.int y :: .int x :: st) h = if y = 0 then none else go d 29 29 ls (.int (x - x / y * y) :: st) h := go_div (f := fun x y => x - x / y * y) (q := 29) ke_29_28 rfl rfl rfl
theorem ke_29_29 : alook 29 29 = some (29, .iaload, 1, (0, 0, 0, 0, 0), ⟨"", "", ""⟩, "") := rfl
theorem ee_29_29 {d : Nat} {ls st : List Value} {h : aH} {r : Nat} {i : Int32} : go d 29 29 ls (.int i :: .ref r :: st) h = (ia h r i).bind fun z => go d 29 30 ls (.int z :: st) h := go_iald ke_29_29
theorem ke_29_30 : alook 29 30 = some (30, .istore_n 3, 1, (0, 0, 0, 0, 0), ⟨"", "", ""⟩, "") := rfl
theorem ee_29_30 {d : Nat} {h : aH} {l0 l1 l2 l3 l4 l5 : Value} {x : Int32} {st : List Value} : go d 29 30 [l0, l1, l2, l3, l4, l5] (.int x :: st) h = go d 29 31 [l0, l1, l2, .int x, l4, l5] st h := go_plain (q := (31, [l0, l1, l2, .int x, l4, l5], st, h)) ke_29_30 rfl
theorem ke_29_31 : alook 29 31 = some (31, .iload_n 2, 1, (0, 0, 0, 0, 0), ⟨"", "", ""⟩, "") := rfl
theorem ee_29_31 {d : Nat} {h : aH} {l0 l1 l3 l4 l5 : Value} {x : Int32} {st : List Value} : go d 29 31 [l0, l1, .int x, l3, l4, l5] st h = go d 29 32 [l0, l1, .int x, l3, l4, l5] (.int x :: st) h := go_plain (q := (32, [l0, l1, .int x, l3, l4, l5], (.int x :: st), h)) ke_29_31 rfl
theorem ke_29_32 : alook 29 32 = some (32, .bipush 8, 2, (0, 0, 0, 0, 0), ⟨"", "", ""⟩, "") := rfl
theorem ee_29_32 {d : Nat} {h : aH} {ls st : List Value} : go d 29 32 ls st h = go d 29 34 ls (.int 8 :: st) h := go_plain (q := (34, ls, (.int 8 :: st), h)) ke_29_32 rfl
theorem ke_29_34 : alook 29 34 = some (34, .idiv, 1, (0, 0, 0, 0, 0), ⟨"", "", ""⟩, "") := rfl
theorem ee_29_34 {d : Nat} {ls st : List Value} {h : aH} {x y : Int32} : go d 29 34 ls (.int y :: .int x :: st) h = if y = 0 then none else go d 29 35 ls (.int (x / y) :: st) h := go_div (f := fun x y => x / y) (q := 35) ke_29_34 rfl rfl rfl
theorem ke_29_35 : alook 29 35 = some (35, .istore 4, 2, (0, 0, 0, 0, 0), ⟨"", "", ""⟩, "") := rfl
theorem ee_29_35 {d : Nat} {h : aH} {l0 l1 l2 l3 l4 l5 : Value} {x : Int32} {st : List Value} : go d 29 35 [l0, l1, l2, l3, l4, l5] (.int x :: st) h = go d 29 37 [l0, l1, l2, l3, .int x, l5] st h := go_plain (q := (37, [l0, l1, l2, l3, .int x, l5], st, h)) ke_29_35 rfl
theorem ke_29_37 : alook 29 37 = some (37, .iconst 0, 1, (0, 0, 0, 0, 0), ⟨"", "", ""⟩, "") := rfl
theorem ee_29_37 {d : Nat} {h : aH} {ls st : List Value} : go d 29 37 ls st h = go d 29 38 ls (.int 0 :: st) h := go_plain (q := (38, ls, (.int 0 :: st), h)) ke_29_37 rfl
theorem ke_29_38 : alook 29 38 = some (38, .istore 5, 2, (0, 0, 0, 0, 0), ⟨"", "", ""⟩, "") := rfl
theorem ee_29_38 {d : Nat} {h : aH} {l0 l1 l2 l3 l4 l5 : Value} {x : Int32} {st : List Value} : go d 29 38 [l0, l1, l2, l3, l4, l5] (.int x :: st) h = go d 29 40 [l0, l1, l2, l3, l4, .int x] st h := go_plain (q := (40, [l0, l1, l2, l3, l4, .int x], st, h)) ke_29_38 rfl
theorem ke_29_40 : alook 29 40 = some (40, .iload 5, 2, (0, 0, 0, 0, 0), ⟨"", "", ""⟩, "") := rfl
theorem ee_29_40 {d : Nat} {h : aH} {l0 l1 l2 l3 l4 : Value} {x : Int32} {st : List Value} : go d 29 40 [l0, l1, l2, l3, l4, .int x] st h = go d 29 42 [l0, l1, l2, l3, l4, .int x] (.int x :: st) h := go_plain (q := (42, [l0, l1, l2, l3, l4, .int x], (.int x :: st), h)) ke_29_40 rfl
theorem ke_29_42 : alook 29 42 = some (42, .aload_n 1, 1, (0, 0, 0, 0, 0), ⟨"", "", ""⟩, "") := rfl
theorem ee_29_42 {d : Nat} {h : aH} {l0 l2 l3 l4 l5 : Value} {x : Nat} {st : List Value} : go d 29 42 [l0, .ref x, l2, l3, l4, l5] st h = go d 29 43 [l0, .ref x, l2, l3, l4, l5] (.ref x :: st) h := go_plain (q := (43, [l0, .ref x, l2, l3, l4, l5], (.ref x :: st), h)) ke_29_42 rfl
theorem ee_29_42N {d : Nat} {h : aH} {l0 l2 l3 l4 l5 : Value} {st : List Value} : go d 29 42 [l0, .null, l2, l3, l4, l5] st h = go d 29 43 [l0, .null, l2, l3, l4, l5] (.null :: st) h := go_plain (q := (43, [l0, .null, l2, l3, l4, l5], (.null :: st), h)) ke_29_42 rfl
theorem ke_29_43 : alook 29 43 = some (43, .getfield 31, 3, (1, 5, 5, 0, 0), ⟨"", "", ""⟩, "WordHides$Text") := rfl
theorem ee_29_43 {d : Nat} {ls st : List Value} {h : aH} {r : Nat} : go d 29 43 ls (.ref r :: st) h = (gf h r 1 5 5).bind fun z => go d 29 46 ls (z :: st) h := go_getf ke_29_43
theorem ke_29_46 : alook 29 46 = some (46, .if_icmp .ge 34, 3, (80, 0, 0, 0, 0), ⟨"", "", ""⟩, "") := rfl
theorem ee_29_46 {d : Nat} {ls st : List Value} {h : aH} {x y : Int32} : go d 29 46 ls (.int y :: .int x :: st) h = if y ≤ x then go d 29 80 ls st h else go d 29 49 ls st h := go_ci (go_if2 (tg := 80) (q := 49) (f := fun x y => decide (y ≤ x)) ke_29_46 rfl)
theorem ke_29_49 : alook 29 49 = some (49, .aload_n 0, 1, (0, 0, 0, 0, 0), ⟨"", "", ""⟩, "") := rfl
theorem ee_29_49 {d : Nat} {h : aH} {l1 l2 l3 l4 l5 : Value} {x : Nat} {st : List Value} : go d 29 49 [.ref x, l1, l2, l3, l4, l5] st h = go d 29 50 [.ref x, l1, l2, l3, l4, l5] (.ref x :: st) h := go_plain (q := (50, [.ref x, l1, l2, l3, l4, l5], (.ref x :: st), h)) ke_29_49 rfl
theorem ee_29_49N {d : Nat} {h : aH} {l1 l2 l3 l4 l5 : Value} {st : List Value} : go d 29 49 [.null, l1, l2, l3, l4, l5] st h = go d 29 50 [.null, l1, l2, l3, l4, l5] (.null :: st) h := go_plain (q := (50, [.null, l1, l2, l3, l4, l5], (.null :: st), h)) ke_29_49 rfl
theorem ke_29_50 : alook 29 50 = some (50, .getfield 9, 3, (0, 4, 4, 2, 0), ⟨"", "", ""⟩, "WordHides$Square") := rfl
theorem ee_29_50 {d : Nat} {ls st : List Value} {h : aH} {r : Nat} : go d 29 50 ls (.ref r :: st) h = (gf h r 0 4 4).bind fun z => go d 29 53 ls (z :: st) h := go_getf ke_29_50
theorem ke_29_53 : alook 29 53 = some (53, .iload 4, 2, (0, 0, 0, 0, 0), ⟨"", "", ""⟩, "") := rfl
theorem ee_29_53 {d : Nat} {h : aH} {l0 l1 l2 l3 l5 : Value} {x : Int32} {st : List Value} : go d 29 53 [l0, l1, l2, l3, .int x, l5] st h = go d 29 55 [l0, l1, l2, l3, .int x, l5] (.int x :: st) h := go_plain (q := (55, [l0, l1, l2, l3, .int x, l5], (.int x :: st), h)) ke_29_53 rfl
theorem ke_29_55 : alook 29 55 = some (55, .iaload, 1, (0, 0, 0, 0, 0), ⟨"", "", ""⟩, "") := rfl
theorem ee_29_55 {d : Nat} {ls st : List Value} {h : aH} {r : Nat} {i : Int32} : go d 29 55 ls (.int i :: .ref r :: st) h = (ia h r i).bind fun z => go d 29 56 ls (.int z :: st) h := go_iald ke_29_55
theorem ke_29_56 : alook 29 56 = some (56, .aload_n 1, 1, (0, 0, 0, 0, 0), ⟨"", "", ""⟩, "") := rfl
theorem ee_29_56 {d : Nat} {h : aH} {l0 l2 l3 l4 l5 : Value} {x : Nat} {st : List Value} : go d 29 56 [l0, .ref x, l2, l3, l4, l5] st h = go d 29 57 [l0, .ref x, l2, l3, l4, l5] (.ref x :: st) h := go_plain (q := (57, [l0, .ref x, l2, l3, l4, l5], (.ref x :: st), h)) ke_29_56 rfl
theorem ee_29_56N {d : Nat} {h : aH} {l0 l2 l3 l4 l5 : Value} {st : List Value} : go d 29 56 [l0, .null, l2, l3, l4, l5] st h = go d 29 57 [l0, .null, l2, l3, l4, l5] (.null :: st) h := go_plain (q := (57, [l0, .null, l2, l3, l4, l5], (.null :: st), h)) ke_29_56 rfl
theorem ke_29_57 : alook 29 57 = some (57, .getfield 46, 3, (0, 5, 5, 2, 0), ⟨"", "", ""⟩, "WordHides$Text") := rfl
theorem ee_29_57 {d : Nat} {ls st : List Value} {h : aH} {r : Nat} : go d 29 57 ls (.ref r :: st) h = (gf h r 0 5 5).bind fun z => go d 29 60 ls (z :: st) h := go_getf ke_29_57
theorem ke_29_60 : alook 29 60 = some (60, .iload 5, 2, (0, 0, 0, 0, 0), ⟨"", "", ""⟩, "") := rfl
theorem ee_29_60 {d : Nat} {h : aH} {l0 l1 l2 l3 l4 : Value} {x : Int32} {st : List Value} : go d 29 60 [l0, l1, l2, l3, l4, .int x] st h = go d 29 62 [l0, l1, l2, l3, l4, .int x] (.int x :: st) h := go_plain (q := (62, [l0, l1, l2, l3, l4, .int x], (.int x :: st), h)) ke_29_60 rfl
theorem ke_29_62 : alook 29 62 = some (62, .iaload, 1, (0, 0, 0, 0, 0), ⟨"", "", ""⟩, "") := rfl
theorem ee_29_62 {d : Nat} {ls st : List Value} {h : aH} {r : Nat} {i : Int32} : go d 29 62 ls (.int i :: .ref r :: st) h = (ia h r i).bind fun z => go d 29 63 ls (.int z :: st) h := go_iald ke_29_62
theorem ke_29_63 : alook 29 63 = some (63, .if_icmp .eq 5, 3, (68, 0, 0, 0, 0), ⟨"", "", ""⟩, "") := rfl
theorem ee_29_63 {d : Nat} {ls st : List Value} {h : aH} {x y : Int32} : go d 29 63 ls (.int y :: .int x :: st) h = if x = y then go d 29 68 ls st h else go d 29 66 ls st h := go_ci (go_if2 (tg := 68) (q := 66) (f := fun x y => decide (x = y)) ke_29_63 rfl)
theorem ke_29_66 : alook 29 66 = some (66, .iconst 0, 1, (0, 0, 0, 0, 0), ⟨"", "", ""⟩, "") := rfl
theorem ee_29_66 {d : Nat} {h : aH} {ls st : List Value} : go d 29 66 ls st h = go d 29 67 ls (.int 0 :: st) h := go_plain (q := (67, ls, (.int 0 :: st), h)) ke_29_66 rfl
theorem ke_29_67 : alook 29 67 = some (67, .ireturn, 1, (1, 0, 0, 0, 0), ⟨"", "", ""⟩, "") := rfl
theorem ee_29_67 {d : Nat} {ls : List Value} {h : aH} : go d 29 67 ls [.int 0] h = some (some (.int 0), h) := go_zret0 ke_29_67
theorem ee_29_67T {d : Nat} {ls : List Value} {h : aH} : go d 29 67 ls [.int 1] h = some (some (.int 1), h) := go_zret1 ke_29_67
theorem ke_29_68 : alook 29 68 = some (68, .iload 4, 2, (0, 0, 0, 0, 0), ⟨"", "", ""⟩, "") := rfl
theorem ee_29_68 {d : Nat} {h : aH} {l0 l1 l2 l3 l5 : Value} {x : Int32} {st : List Value} : go d 29 68 [l0, l1, l2, l3, .int x, l5] st h = go d 29 70 [l0, l1, l2, l3, .int x, l5] (.int x :: st) h := go_plain (q := (70, [l0, l1, l2, l3, .int x, l5], (.int x :: st), h)) ke_29_68 rfl
theorem ke_29_70 : alook 29 70 = some (70, .iload_n 3, 1, (0, 0, 0, 0, 0), ⟨"", "", ""⟩, "") := rfl
theorem ee_29_70 {d : Nat} {h : aH} {l0 l1 l2 l4 l5 : Value} {x : Int32} {st : List Value} : go d 29 70 [l0, l1, l2, .int x, l4, l5] st h = go d 29 71 [l0, l1, l2, .int x, l4, l5] (.int x :: st) h := go_plain (q := (71, [l0, l1, l2, .int x, l4, l5], (.int x :: st), h)) ke_29_70 rfl
theorem ke_29_71 : alook 29 71 = some (71, .iadd, 1, (0, 0, 0, 0, 0), ⟨"", "", ""⟩, "") := rfl
theorem ee_29_71 {d : Nat} {h : aH} {ls st : List Value} {x y : Int32} : go d 29 71 ls (.int y :: .int x :: st) h = go d 29 72 ls (.int (x + y) :: st) h := go_plain (q := (72, ls, (.int (x + y) :: st), h)) ke_29_71 rfl
theorem ke_29_72 : alook 29 72 = some (72, .istore 4, 2, (0, 0, 0, 0, 0), ⟨"", "", ""⟩, "") := rfl
theorem ee_29_72 {d : Nat} {h : aH} {l0 l1 l2 l3 l4 l5 : Value} {x : Int32} {st : List Value} : go d 29 72 [l0, l1, l2, l3, l4, l5] (.int x :: st) h = go d 29 74 [l0, l1, l2, l3, .int x, l5] st h := go_plain (q := (74, [l0, l1, l2, l3, .int x, l5], st, h)) ke_29_72 rfl
theorem ke_29_74 : alook 29 74 = some (74, .iinc 5 1, 3, (0, 0, 0, 0, 0), ⟨"", "", ""⟩, "") := rfl
theorem ee_29_74 {d : Nat} {h : aH} {l0 l1 l2 l3 l4 : Value} {x : Int32} {st : List Value} : go d 29 74 [l0, l1, l2, l3, l4, .int x] st h = go d 29 77 [l0, l1, l2, l3, l4, .int (x + 1)] st h := go_plain (q := (77, [l0, l1, l2, l3, l4, .int (x + 1)], st, h)) ke_29_74 rfl
theorem ke_29_77 : alook 29 77 = some (77, .goto (-37), 3, (40, 0, 0, 0, 0), ⟨"", "", ""⟩, "") := rfl
theorem ee_29_77 {d : Nat} {h : aH} {ls st : List Value} : go d 29 77 ls st h = go d 29 40 ls st h := go_plain (q := (40, ls, st, h)) ke_29_77 rfl
theorem ke_29_80 : alook 29 80 = some (80, .iconst 1, 1, (0, 0, 0, 0, 0), ⟨"", "", ""⟩, "") := rfl
theorem ee_29_80 {d : Nat} {h : aH} {ls st : List Value} : go d 29 80 ls st h = go d 29 81 ls (.int 1 :: st) h := go_plain (q := (81, ls, (.int 1 :: st), h)) ke_29_80 rfl
theorem ke_29_81 : alook 29 81 = some (81, .ireturn, 1, (1, 0, 0, 0, 0), ⟨"", "", ""⟩, "") := rfl
theorem ee_29_81 {d : Nat} {ls : List Value} {h : aH} : go d 29 81 ls [.int 0] h = some (some (.int 0), h) := go_zret0 ke_29_81
theorem ee_29_81T {d : Nat} {ls : List Value} {h : aH} : go d 29 81 ls [.int 1] h = some (some (.int 1), h) := go_zret1 ke_29_81
theorem ke_30_0 : alook 30 0 = some (0, .iconst 0, 1, (0, 0, 0, 0, 0), ⟨"", "", ""⟩, "") := rfl
theorem ee_30_0 {d : Nat} {h : aH} {ls st : List Value} : go d 30 0 ls st h = go d 30 1 ls (.int 0 :: st) h := go_plain (q := (1, ls, (.int 0 :: st), h)) ke_30_0 rfl
theorem ke_30_1 : alook 30 1 = some (1, .istore_n 1, 1, (0, 0, 0, 0, 0), ⟨"", "", ""⟩, "") := rfl
theorem ee_30_1 {d : Nat} {h : aH} {l0 l1 l2 : Value} {x : Int32} {st : List Value} : go d 30 1 [l0, l1, l2] (.int x :: st) h = go d 30 2 [l0, .int x, l2] st h := go_plain (q := (2, [l0, .int x, l2], st, h)) ke_30_1 rfl
theorem ke_30_2 : alook 30 2 = some (2, .iconst 0, 1, (0, 0, 0, 0, 0), ⟨"", "", ""⟩, "") := rfl
theorem ee_30_2 {d : Nat} {h : aH} {ls st : List Value} : go d 30 2 ls st h = go d 30 3 ls (.int 0 :: st) h := go_plain (q := (3, ls, (.int 0 :: st), h)) ke_30_2 rfl
theorem ke_30_3 : alook 30 3 = some (3, .istore_n 2, 1, (0, 0, 0, 0, 0), ⟨"", "", ""⟩, "") := rfl
theorem ee_30_3 {d : Nat} {h : aH} {l0 l1 l2 : Value} {x : Int32} {st : List Value} : go d 30 3 [l0, l1, l2] (.int x :: st) h = go d 30 4 [l0, l1, .int x] st h := go_plain (q := (4, [l0, l1, .int x], st, h)) ke_30_3 rfl
theorem ke_30_4 : alook 30 4 = some (4, .iload_n 2, 1, (0, 0, 0, 0, 0), ⟨"", "", ""⟩, "") := rfl
theorem ee_30_4 {d : Nat} {h : aH} {l0 l1 : Value} {x : Int32} {st : List Value} : go d 30 4 [l0, l1, .int x] st h = go d 30 5 [l0, l1, .int x] (.int x :: st) h := go_plain (q := (5, [l0, l1, .int x], (.int x :: st), h)) ke_30_4 rfl
theorem ke_30_5 : alook 30 5 = some (5, .aload_n 0, 1, (0, 0, 0, 0, 0), ⟨"", "", ""⟩, "") := rfl
theorem ee_30_5 {d : Nat} {h : aH} {l1 l2 : Value} {x : Nat} {st : List Value} : go d 30 5 [.ref x, l1, l2] st h = go d 30 6 [.ref x, l1, l2] (.ref x :: st) h := go_plain (q := (6, [.ref x, l1, l2], (.ref x :: st), h)) ke_30_5 rfl
theorem ee_30_5N {d : Nat} {h : aH} {l1 l2 : Value} {st : List Value} : go d 30 5 [.null, l1, l2] st h = go d 30 6 [.null, l1, l2] (.null :: st) h := go_plain (q := (6, [.null, l1, l2], (.null :: st), h)) ke_30_5 rfl
theorem ke_30_6 : alook 30 6 = some (6, .getfield 15, 3, (1, 4, 4, 2, 0), ⟨"", "", ""⟩, "WordHides$Square") := rfl
theorem ee_30_6 {d : Nat} {ls st : List Value} {h : aH} {r : Nat} : go d 30 6 ls (.ref r :: st) h = (gf h r 1 4 4).bind fun z => go d 30 9 ls (z :: st) h := go_getf ke_30_6
theorem ke_30_9 : alook 30 9 = some (9, .getfield 49, 3, (1, 3, 3, 0, 0), ⟨"", "", ""⟩, "WordHides$Lattice") := rfl
theorem ee_30_9 {d : Nat} {ls st : List Value} {h : aH} {r : Nat} : go d 30 9 ls (.ref r :: st) h = (gf h r 1 3 3).bind fun z => go d 30 12 ls (z :: st) h := go_getf ke_30_9
theorem ke_30_12 : alook 30 12 = some (12, .if_icmp .ge 21, 3, (33, 0, 0, 0, 0), ⟨"", "", ""⟩, "") := rfl
theorem ee_30_12 {d : Nat} {ls st : List Value} {h : aH} {x y : Int32} : go d 30 12 ls (.int y :: .int x :: st) h = if y ≤ x then go d 30 33 ls st h else go d 30 15 ls st h := go_ci (go_if2 (tg := 33) (q := 15) (f := fun x y => decide (y ≤ x)) ke_30_12 rfl)
theorem ke_30_15 : alook 30 15 = some (15, .aload_n 0, 1, (0, 0, 0, 0, 0), ⟨"", "", ""⟩, "") := rfl
theorem ee_30_15 {d : Nat} {h : aH} {l1 l2 : Value} {x : Nat} {st : List Value} : go d 30 15 [.ref x, l1, l2] st h = go d 30 16 [.ref x, l1, l2] (.ref x :: st) h := go_plain (q := (16, [.ref x, l1, l2], (.ref x :: st), h)) ke_30_15 rfl
theorem ee_30_15N {d : Nat} {h : aH} {l1 l2 : Value} {st : List Value} : go d 30 15 [.null, l1, l2] st h = go d 30 16 [.null, l1, l2] (.null :: st) h := go_plain (q := (16, [.null, l1, l2], (.null :: st), h)) ke_30_15 rfl
theorem ke_30_16 : alook 30 16 = some (16, .getfield 9, 3, (0, 4, 4, 2, 0), ⟨"", "", ""⟩, "WordHides$Square") := rfl
theorem ee_30_16 {d : Nat} {ls st : List Value} {h : aH} {r : Nat} : go d 30 16 ls (.ref r :: st) h = (gf h r 0 4 4).bind fun z => go d 30 19 ls (z :: st) h := go_getf ke_30_16
theorem ke_30_19 : alook 30 19 = some (19, .iload_n 2, 1, (0, 0, 0, 0, 0), ⟨"", "", ""⟩, "") := rfl
theorem ee_30_19 {d : Nat} {h : aH} {l0 l1 : Value} {x : Int32} {st : List Value} : go d 30 19 [l0, l1, .int x] st h = go d 30 20 [l0, l1, .int x] (.int x :: st) h := go_plain (q := (20, [l0, l1, .int x], (.int x :: st), h)) ke_30_19 rfl
theorem ke_30_20 : alook 30 20 = some (20, .iaload, 1, (0, 0, 0, 0, 0), ⟨"", "", ""⟩, "") := rfl
theorem ee_30_20 {d : Nat} {ls st : List Value} {h : aH} {r : Nat} {i : Int32} : go d 30 20 ls (.int i :: .ref r :: st) h = (ia h r i).bind fun z => go d 30 21 ls (.int z :: st) h := go_iald ke_30_20
theorem ke_30_21 : alook 30 21 = some (21, .ifCond .ne 6, 3, (27, 0, 0, 0, 0), ⟨"", "", ""⟩, "") := rfl
theorem ee_30_21 {d : Nat} {ls st : List Value} {h : aH} {x : Int32} : go d 30 21 ls (.int x :: st) h = if ¬ x = 0 then go d 30 27 ls st h else go d 30 24 ls st h := go_c1 (go_if1 (tg := 27) (q := 24) (f := fun x => decide (¬ x = 0)) ke_30_21 rfl)
theorem ke_30_24 : alook 30 24 = some (24, .iinc 1 1, 3, (0, 0, 0, 0, 0), ⟨"", "", ""⟩, "") := rfl
theorem ee_30_24 {d : Nat} {h : aH} {l0 l2 : Value} {x : Int32} {st : List Value} : go d 30 24 [l0, .int x, l2] st h = go d 30 27 [l0, .int (x + 1), l2] st h := go_plain (q := (27, [l0, .int (x + 1), l2], st, h)) ke_30_24 rfl
theorem ke_30_27 : alook 30 27 = some (27, .iinc 2 1, 3, (0, 0, 0, 0, 0), ⟨"", "", ""⟩, "") := rfl
theorem ee_30_27 {d : Nat} {h : aH} {l0 l1 : Value} {x : Int32} {st : List Value} : go d 30 27 [l0, l1, .int x] st h = go d 30 30 [l0, l1, .int (x + 1)] st h := go_plain (q := (30, [l0, l1, .int (x + 1)], st, h)) ke_30_27 rfl
theorem ke_30_30 : alook 30 30 = some (30, .goto (-26), 3, (4, 0, 0, 0, 0), ⟨"", "", ""⟩, "") := rfl
theorem ee_30_30 {d : Nat} {h : aH} {ls st : List Value} : go d 30 30 ls st h = go d 30 4 ls st h := go_plain (q := (4, ls, st, h)) ke_30_30 rfl
theorem ke_30_33 : alook 30 33 = some (33, .iload_n 1, 1, (0, 0, 0, 0, 0), ⟨"", "", ""⟩, "") := rfl
theorem ee_30_33 {d : Nat} {h : aH} {l0 l2 : Value} {x : Int32} {st : List Value} : go d 30 33 [l0, .int x, l2] st h = go d 30 34 [l0, .int x, l2] (.int x :: st) h := go_plain (q := (34, [l0, .int x, l2], (.int x :: st), h)) ke_30_33 rfl
theorem ke_30_34 : alook 30 34 = some (34, .ireturn, 1, (0, 0, 0, 0, 0), ⟨"", "", ""⟩, "") := rfl
theorem ee_30_34 {d : Nat} {ls : List Value} {h : aH} {v : Int32} : go d 30 34 ls [.int v] h = some (some (.int v), h) := go_iret ke_30_34
theorem ke_31_0 : alook 31 0 = some (0, .iconst 0, 1, (0, 0, 0, 0, 0), ⟨"", "", ""⟩, "") := rfl
theorem ee_31_0 {d : Nat} {h : aH} {ls st : List Value} : go d 31 0 ls st h = go d 31 1 ls (.int 0 :: st) h := go_plain (q := (1, ls, (.int 0 :: st), h)) ke_31_0 rfl
theorem ke_31_1 : alook 31 1 = some (1, .istore_n 1, 1, (0, 0, 0, 0, 0), ⟨"", "", ""⟩, "") := rfl
theorem ee_31_1 {d : Nat} {h : aH} {l0 l1 l2 : Value} {x : Int32} {st : List Value} : go d 31 1 [l0, l1, l2] (.int x :: st) h = go d 31 2 [l0, .int x, l2] st h := go_plain (q := (2, [l0, .int x, l2], st, h)) ke_31_1 rfl
theorem ke_31_2 : alook 31 2 = some (2, .iconst 0, 1, (0, 0, 0, 0, 0), ⟨"", "", ""⟩, "") := rfl
theorem ee_31_2 {d : Nat} {h : aH} {ls st : List Value} : go d 31 2 ls st h = go d 31 3 ls (.int 0 :: st) h := go_plain (q := (3, ls, (.int 0 :: st), h)) ke_31_2 rfl
theorem ke_31_3 : alook 31 3 = some (3, .istore_n 2, 1, (0, 0, 0, 0, 0), ⟨"", "", ""⟩, "") := rfl
theorem ee_31_3 {d : Nat} {h : aH} {l0 l1 l2 : Value} {x : Int32} {st : List Value} : go d 31 3 [l0, l1, l2] (.int x :: st) h = go d 31 4 [l0, l1, .int x] st h := go_plain (q := (4, [l0, l1, .int x], st, h)) ke_31_3 rfl
theorem ke_31_4 : alook 31 4 = some (4, .iload_n 2, 1, (0, 0, 0, 0, 0), ⟨"", "", ""⟩, "") := rfl
theorem ee_31_4 {d : Nat} {h : aH} {l0 l1 : Value} {x : Int32} {st : List Value} : go d 31 4 [l0, l1, .int x] st h = go d 31 5 [l0, l1, .int x] (.int x :: st) h := go_plain (q := (5, [l0, l1, .int x], (.int x :: st), h)) ke_31_4 rfl
theorem ke_31_5 : alook 31 5 = some (5, .aload_n 0, 1, (0, 0, 0, 0, 0), ⟨"", "", ""⟩, "") := rfl
theorem ee_31_5 {d : Nat} {h : aH} {l1 l2 : Value} {x : Nat} {st : List Value} : go d 31 5 [.ref x, l1, l2] st h = go d 31 6 [.ref x, l1, l2] (.ref x :: st) h := go_plain (q := (6, [.ref x, l1, l2], (.ref x :: st), h)) ke_31_5 rfl
theorem ee_31_5N {d : Nat} {h : aH} {l1 l2 : Value} {st : List Value} : go d 31 5 [.null, l1, l2] st h = go d 31 6 [.null, l1, l2] (.null :: st) h := go_plain (q := (6, [.null, l1, l2], (.null :: st), h)) ke_31_5 rfl
theorem ke_31_6 : alook 31 6 = some (6, .getfield 15, 3, (1, 4, 4, 2, 0), ⟨"", "", ""⟩, "WordHides$Square") := rfl
theorem ee_31_6 {d : Nat} {ls st : List Value} {h : aH} {r : Nat} : go d 31 6 ls (.ref r :: st) h = (gf h r 1 4 4).bind fun z => go d 31 9 ls (z :: st) h := go_getf ke_31_6
theorem ke_31_9 : alook 31 9 = some (9, .getfield 49, 3, (1, 3, 3, 0, 0), ⟨"", "", ""⟩, "WordHides$Lattice") := rfl
theorem ee_31_9 {d : Nat} {ls st : List Value} {h : aH} {r : Nat} : go d 31 9 ls (.ref r :: st) h = (gf h r 1 3 3).bind fun z => go d 31 12 ls (z :: st) h := go_getf ke_31_9
theorem ke_31_12 : alook 31 12 = some (12, .if_icmp .ge 32, 3, (44, 0, 0, 0, 0), ⟨"", "", ""⟩, "") := rfl
theorem ee_31_12 {d : Nat} {ls st : List Value} {h : aH} {x y : Int32} : go d 31 12 ls (.int y :: .int x :: st) h = if y ≤ x then go d 31 44 ls st h else go d 31 15 ls st h := go_ci (go_if2 (tg := 44) (q := 15) (f := fun x y => decide (y ≤ x)) ke_31_12 rfl)
theorem ke_31_15 : alook 31 15 = some (15, .aload_n 0, 1, (0, 0, 0, 0, 0), ⟨"", "", ""⟩, "") := rfl
theorem ee_31_15 {d : Nat} {h : aH} {l1 l2 : Value} {x : Nat} {st : List Value} : go d 31 15 [.ref x, l1, l2] st h = go d 31 16 [.ref x, l1, l2] (.ref x :: st) h := go_plain (q := (16, [.ref x, l1, l2], (.ref x :: st), h)) ke_31_15 rfl
theorem ee_31_15N {d : Nat} {h : aH} {l1 l2 : Value} {st : List Value} : go d 31 15 [.null, l1, l2] st h = go d 31 16 [.null, l1, l2] (.null :: st) h := go_plain (q := (16, [.null, l1, l2], (.null :: st), h)) ke_31_15 rfl
theorem ke_31_16 : alook 31 16 = some (16, .getfield 9, 3, (0, 4, 4, 2, 0), ⟨"", "", ""⟩, "WordHides$Square") := rfl
theorem ee_31_16 {d : Nat} {ls st : List Value} {h : aH} {r : Nat} : go d 31 16 ls (.ref r :: st) h = (gf h r 0 4 4).bind fun z => go d 31 19 ls (z :: st) h := go_getf ke_31_16
theorem ke_31_19 : alook 31 19 = some (19, .iload_n 2, 1, (0, 0, 0, 0, 0), ⟨"", "", ""⟩, "") := rfl
theorem ee_31_19 {d : Nat} {h : aH} {l0 l1 : Value} {x : Int32} {st : List Value} : go d 31 19 [l0, l1, .int x] st h = go d 31 20 [l0, l1, .int x] (.int x :: st) h := go_plain (q := (20, [l0, l1, .int x], (.int x :: st), h)) ke_31_19 rfl
theorem ke_31_20 : alook 31 20 = some (20, .iaload, 1, (0, 0, 0, 0, 0), ⟨"", "", ""⟩, "") := rfl
theorem ee_31_20 {d : Nat} {ls st : List Value} {h : aH} {r : Nat} {i : Int32} : go d 31 20 ls (.int i :: .ref r :: st) h = (ia h r i).bind fun z => go d 31 21 ls (.int z :: st) h := go_iald ke_31_20
theorem ke_31_21 : alook 31 21 = some (21, .ifCond .eq 17, 3, (38, 0, 0, 0, 0), ⟨"", "", ""⟩, "") := rfl
theorem ee_31_21 {d : Nat} {ls st : List Value} {h : aH} {x : Int32} : go d 31 21 ls (.int x :: st) h = if x = 0 then go d 31 38 ls st h else go d 31 24 ls st h := go_c1 (go_if1 (tg := 38) (q := 24) (f := fun x => decide (x = 0)) ke_31_21 rfl)
theorem ke_31_24 : alook 31 24 = some (24, .iload_n 1, 1, (0, 0, 0, 0, 0), ⟨"", "", ""⟩, "") := rfl
theorem ee_31_24 {d : Nat} {h : aH} {l0 l2 : Value} {x : Int32} {st : List Value} : go d 31 24 [l0, .int x, l2] st h = go d 31 25 [l0, .int x, l2] (.int x :: st) h := go_plain (q := (25, [l0, .int x, l2], (.int x :: st), h)) ke_31_24 rfl
theorem ke_31_25 : alook 31 25 = some (25, .iconst 1, 1, (0, 0, 0, 0, 0), ⟨"", "", ""⟩, "") := rfl
theorem ee_31_25 {d : Nat} {h : aH} {ls st : List Value} : go d 31 25 ls st h = go d 31 26 ls (.int 1 :: st) h := go_plain (q := (26, ls, (.int 1 :: st), h)) ke_31_25 rfl
theorem ke_31_26 : alook 31 26 = some (26, .aload_n 0, 1, (0, 0, 0, 0, 0), ⟨"", "", ""⟩, "") := rfl
theorem ee_31_26 {d : Nat} {h : aH} {l1 l2 : Value} {x : Nat} {st : List Value} : go d 31 26 [.ref x, l1, l2] st h = go d 31 27 [.ref x, l1, l2] (.ref x :: st) h := go_plain (q := (27, [.ref x, l1, l2], (.ref x :: st), h)) ke_31_26 rfl
theorem ee_31_26N {d : Nat} {h : aH} {l1 l2 : Value} {st : List Value} : go d 31 26 [.null, l1, l2] st h = go d 31 27 [.null, l1, l2] (.null :: st) h := go_plain (q := (27, [.null, l1, l2], (.null :: st), h)) ke_31_26 rfl
theorem ke_31_27 : alook 31 27 = some (27, .getfield 9, 3, (0, 4, 4, 2, 0), ⟨"", "", ""⟩, "WordHides$Square") := rfl
theorem ee_31_27 {d : Nat} {ls st : List Value} {h : aH} {r : Nat} : go d 31 27 ls (.ref r :: st) h = (gf h r 0 4 4).bind fun z => go d 31 30 ls (z :: st) h := go_getf ke_31_27
theorem ke_31_30 : alook 31 30 = some (30, .iload_n 2, 1, (0, 0, 0, 0, 0), ⟨"", "", ""⟩, "") := rfl
theorem ee_31_30 {d : Nat} {h : aH} {l0 l1 : Value} {x : Int32} {st : List Value} : go d 31 30 [l0, l1, .int x] st h = go d 31 31 [l0, l1, .int x] (.int x :: st) h := go_plain (q := (31, [l0, l1, .int x], (.int x :: st), h)) ke_31_30 rfl
theorem ke_31_31 : alook 31 31 = some (31, .iaload, 1, (0, 0, 0, 0, 0), ⟨"", "", ""⟩, "") := rfl
theorem ee_31_31 {d : Nat} {ls st : List Value} {h : aH} {r : Nat} {i : Int32} : go d 31 31 ls (.int i :: .ref r :: st) h = (ia h r i).bind fun z => go d 31 32 ls (.int z :: st) h := go_iald ke_31_31
theorem ke_31_32 : alook 31 32 = some (32, .bipush 97, 2, (0, 0, 0, 0, 0), ⟨"", "", ""⟩, "") := rfl
theorem ee_31_32 {d : Nat} {h : aH} {ls st : List Value} : go d 31 32 ls st h = go d 31 34 ls (.int 97 :: st) h := go_plain (q := (34, ls, (.int 97 :: st), h)) ke_31_32 rfl
theorem ke_31_34 : alook 31 34 = some (34, .isub, 1, (0, 0, 0, 0, 0), ⟨"", "", ""⟩, "") := rfl
theorem ee_31_34 {d : Nat} {h : aH} {ls st : List Value} {x y : Int32} : go d 31 34 ls (.int y :: .int x :: st) h = go d 31 35 ls (.int (x - y) :: st) h := go_plain (q := (35, ls, (.int (x - y) :: st), h)) ke_31_34 rfl
theorem ke_31_35 : alook 31 35 = some (35, .ishl, 1, (0, 0, 0, 0, 0), ⟨"", "", ""⟩, "") := rfl
theorem ee_31_35 {d : Nat} {h : aH} {ls st : List Value} {x y : Int32} : go d 31 35 ls (.int y :: .int x :: st) h = go d 31 36 ls (.int (x <<< (y &&& 31)) :: st) h := go_plain (q := (36, ls, (.int (x <<< (y &&& 31)) :: st), h)) ke_31_35 rfl
theorem ke_31_36 : alook 31 36 = some (36, .ior, 1, (0, 0, 0, 0, 0), ⟨"", "", ""⟩, "") := rfl
theorem ee_31_36 {d : Nat} {h : aH} {ls st : List Value} {x y : Int32} : go d 31 36 ls (.int y :: .int x :: st) h = go d 31 37 ls (.int (x ||| y) :: st) h := go_plain (q := (37, ls, (.int (x ||| y) :: st), h)) ke_31_36 rfl
theorem ke_31_37 : alook 31 37 = some (37, .istore_n 1, 1, (0, 0, 0, 0, 0), ⟨"", "", ""⟩, "") := rfl
theorem ee_31_37 {d : Nat} {h : aH} {l0 l1 l2 : Value} {x : Int32} {st : List Value} : go d 31 37 [l0, l1, l2] (.int x :: st) h = go d 31 38 [l0, .int x, l2] st h := go_plain (q := (38, [l0, .int x, l2], st, h)) ke_31_37 rfl
theorem ke_31_38 : alook 31 38 = some (38, .iinc 2 1, 3, (0, 0, 0, 0, 0), ⟨"", "", ""⟩, "") := rfl
theorem ee_31_38 {d : Nat} {h : aH} {l0 l1 : Value} {x : Int32} {st : List Value} : go d 31 38 [l0, l1, .int x] st h = go d 31 41 [l0, l1, .int (x + 1)] st h := go_plain (q := (41, [l0, l1, .int (x + 1)], st, h)) ke_31_38 rfl
theorem ke_31_41 : alook 31 41 = some (41, .goto (-37), 3, (4, 0, 0, 0, 0), ⟨"", "", ""⟩, "") := rfl
theorem ee_31_41 {d : Nat} {h : aH} {ls st : List Value} : go d 31 41 ls st h = go d 31 4 ls st h := go_plain (q := (4, ls, st, h)) ke_31_41 rfl
theorem ke_31_44 : alook 31 44 = some (44, .iload_n 1, 1, (0, 0, 0, 0, 0), ⟨"", "", ""⟩, "") := rfl
theorem ee_31_44 {d : Nat} {h : aH} {l0 l2 : Value} {x : Int32} {st : List Value} : go d 31 44 [l0, .int x, l2] st h = go d 31 45 [l0, .int x, l2] (.int x :: st) h := go_plain (q := (45, [l0, .int x, l2], (.int x :: st), h)) ke_31_44 rfl
theorem ke_31_45 : alook 31 45 = some (45, .invokestatic 59, 3, (1, 0, 119, 0, 0), ⟨"java/lang/Integer", "bitCount", "(I)I"⟩, "") := rfl
theorem ee_31_45 {d : Nat} {ls : List Value} {h : aH} {i0 : Int32} : go (d + 1) 31 45 ls [.int i0] h = (go d 119 0 [.int i0] [] h).bind (fun q => go (d + 1) 31 48 ls (q.1.toList ++ []) q.2) := go_cs (as := [.int i0]) (rest := []) (L := [.int i0]) ke_31_45 rfl rfl rfl
theorem ke_31_48 : alook 31 48 = some (48, .ireturn, 1, (0, 0, 0, 0, 0), ⟨"", "", ""⟩, "") := rfl
theorem ee_31_48 {d : Nat} {ls : List Value} {h : aH} {v : Int32} : go d 31 48 ls [.int v] h = some (some (.int v), h) := go_iret ke_31_48
theorem ke_33_0 : alook 33 0 = some (0, .aload_n 0, 1, (0, 0, 0, 0, 0), ⟨"", "", ""⟩, "") := rfl
theorem ee_33_0 {d : Nat} {h : aH} {l1 : Value} {x : Nat} {st : List Value} : go d 33 0 [.ref x, l1] st h = go d 33 1 [.ref x, l1] (.ref x :: st) h := go_plain (q := (1, [.ref x, l1], (.ref x :: st), h)) ke_33_0 rfl
theorem ee_33_0N {d : Nat} {h : aH} {l1 : Value} {st : List Value} : go d 33 0 [.null, l1] st h = go d 33 1 [.null, l1] (.null :: st) h := go_plain (q := (1, [.null, l1], (.null :: st), h)) ke_33_0 rfl
theorem ke_33_1 : alook 33 1 = some (1, .getfield 7, 3, (1, 5, 5, 0, 0), ⟨"", "", ""⟩, "WordHides$Text") := rfl
theorem ee_33_1 {d : Nat} {ls st : List Value} {h : aH} {r : Nat} : go d 33 1 ls (.ref r :: st) h = (gf h r 1 5 5).bind fun z => go d 33 4 ls (z :: st) h := go_getf ke_33_1
theorem ke_33_4 : alook 33 4 = some (4, .aload_n 0, 1, (0, 0, 0, 0, 0), ⟨"", "", ""⟩, "") := rfl
theorem ee_33_4 {d : Nat} {h : aH} {l1 : Value} {x : Nat} {st : List Value} : go d 33 4 [.ref x, l1] st h = go d 33 5 [.ref x, l1] (.ref x :: st) h := go_plain (q := (5, [.ref x, l1], (.ref x :: st), h)) ke_33_4 rfl
theorem ee_33_4N {d : Nat} {h : aH} {l1 : Value} {st : List Value} : go d 33 4 [.null, l1] st h = go d 33 5 [.null, l1] (.null :: st) h := go_plain (q := (5, [.null, l1], (.null :: st), h)) ke_33_4 rfl
theorem ke_33_5 : alook 33 5 = some (5, .getfield 19, 3, (0, 5, 5, 2, 0), ⟨"", "", ""⟩, "WordHides$Text") := rfl
theorem ee_33_5 {d : Nat} {ls st : List Value} {h : aH} {r : Nat} : go d 33 5 ls (.ref r :: st) h = (gf h r 0 5 5).bind fun z => go d 33 8 ls (z :: st) h := go_getf ke_33_5
theorem ke_33_8 : alook 33 8 = some (8, .arraylength, 1, (0, 0, 0, 0, 0), ⟨"", "", ""⟩, "") := rfl
theorem ee_33_8 {d : Nat} {ls st : List Value} {h : aH} {r : Nat} : go d 33 8 ls (.ref r :: st) h = (al h r).bind fun z => go d 33 9 ls (.int z :: st) h := go_alen ke_33_8
theorem ke_33_9 : alook 33 9 = some (9, .if_icmp .ge 23, 3, (32, 0, 0, 0, 0), ⟨"", "", ""⟩, "") := rfl
theorem ee_33_9 {d : Nat} {ls st : List Value} {h : aH} {x y : Int32} : go d 33 9 ls (.int y :: .int x :: st) h = if y ≤ x then go d 33 32 ls st h else go d 33 12 ls st h := go_ci (go_if2 (tg := 32) (q := 12) (f := fun x y => decide (y ≤ x)) ke_33_9 rfl)
theorem ke_33_12 : alook 33 12 = some (12, .aload_n 0, 1, (0, 0, 0, 0, 0), ⟨"", "", ""⟩, "") := rfl
theorem ee_33_12 {d : Nat} {h : aH} {l1 : Value} {x : Nat} {st : List Value} : go d 33 12 [.ref x, l1] st h = go d 33 13 [.ref x, l1] (.ref x :: st) h := go_plain (q := (13, [.ref x, l1], (.ref x :: st), h)) ke_33_12 rfl
theorem ee_33_12N {d : Nat} {h : aH} {l1 : Value} {st : List Value} : go d 33 12 [.null, l1] st h = go d 33 13 [.null, l1] (.null :: st) h := go_plain (q := (13, [.null, l1], (.null :: st), h)) ke_33_12 rfl
theorem ke_33_13 : alook 33 13 = some (13, .getfield 19, 3, (0, 5, 5, 2, 0), ⟨"", "", ""⟩, "WordHides$Text") := rfl
theorem ee_33_13 {d : Nat} {ls st : List Value} {h : aH} {r : Nat} : go d 33 13 ls (.ref r :: st) h = (gf h r 0 5 5).bind fun z => go d 33 16 ls (z :: st) h := go_getf ke_33_13
theorem ke_33_16 : alook 33 16 = some (16, .aload_n 0, 1, (0, 0, 0, 0, 0), ⟨"", "", ""⟩, "") := rfl
theorem ee_33_16 {d : Nat} {h : aH} {l1 : Value} {x : Nat} {st : List Value} : go d 33 16 [.ref x, l1] st h = go d 33 17 [.ref x, l1] (.ref x :: st) h := go_plain (q := (17, [.ref x, l1], (.ref x :: st), h)) ke_33_16 rfl
theorem ee_33_16N {d : Nat} {h : aH} {l1 : Value} {st : List Value} : go d 33 16 [.null, l1] st h = go d 33 17 [.null, l1] (.null :: st) h := go_plain (q := (17, [.null, l1], (.null :: st), h)) ke_33_16 rfl
theorem ke_33_17 : alook 33 17 = some (17, .getfield 7, 3, (1, 5, 5, 0, 0), ⟨"", "", ""⟩, "WordHides$Text") := rfl
theorem ee_33_17 {d : Nat} {ls st : List Value} {h : aH} {r : Nat} : go d 33 17 ls (.ref r :: st) h = (gf h r 1 5 5).bind fun z => go d 33 20 ls (z :: st) h := go_getf ke_33_17
theorem ke_33_20 : alook 33 20 = some (20, .iload_n 1, 1, (0, 0, 0, 0, 0), ⟨"", "", ""⟩, "") := rfl
theorem ee_33_20 {d : Nat} {h : aH} {l0 : Value} {x : Int32} {st : List Value} : go d 33 20 [l0, .int x] st h = go d 33 21 [l0, .int x] (.int x :: st) h := go_plain (q := (21, [l0, .int x], (.int x :: st), h)) ke_33_20 rfl
theorem ke_33_21 : alook 33 21 = some (21, .iastore, 1, (0, 0, 0, 0, 0), ⟨"", "", ""⟩, "") := rfl
theorem ee_33_21 {d : Nat} {ls st : List Value} {h : aH} {r : Nat} {i x : Int32} : go d 33 21 ls (.int x :: .int i :: .ref r :: st) h = (is_ h r i x).bind fun h' => go d 33 22 ls st h' := go_iast ke_33_21
theorem ke_33_22 : alook 33 22 = some (22, .aload_n 0, 1, (0, 0, 0, 0, 0), ⟨"", "", ""⟩, "") := rfl
theorem ee_33_22 {d : Nat} {h : aH} {l1 : Value} {x : Nat} {st : List Value} : go d 33 22 [.ref x, l1] st h = go d 33 23 [.ref x, l1] (.ref x :: st) h := go_plain (q := (23, [.ref x, l1], (.ref x :: st), h)) ke_33_22 rfl
theorem ee_33_22N {d : Nat} {h : aH} {l1 : Value} {st : List Value} : go d 33 22 [.null, l1] st h = go d 33 23 [.null, l1] (.null :: st) h := go_plain (q := (23, [.null, l1], (.null :: st), h)) ke_33_22 rfl
theorem ke_33_23 : alook 33 23 = some (23, .dup, 1, (0, 0, 0, 0, 0), ⟨"", "", ""⟩, "") := rfl
theorem ee_33_23 {d : Nat} {h : aH} {ls st : List Value} {x : Nat} : go d 33 23 ls (.ref x :: st) h = go d 33 24 ls (.ref x :: .ref x :: st) h := go_plain (q := (24, ls, (.ref x :: .ref x :: st), h)) ke_33_23 rfl
theorem ke_33_24 : alook 33 24 = some (24, .getfield 7, 3, (1, 5, 5, 0, 0), ⟨"", "", ""⟩, "WordHides$Text") := rfl
theorem ee_33_24 {d : Nat} {ls st : List Value} {h : aH} {r : Nat} : go d 33 24 ls (.ref r :: st) h = (gf h r 1 5 5).bind fun z => go d 33 27 ls (z :: st) h := go_getf ke_33_24
theorem ke_33_27 : alook 33 27 = some (27, .iconst 1, 1, (0, 0, 0, 0, 0), ⟨"", "", ""⟩, "") := rfl
theorem ee_33_27 {d : Nat} {h : aH} {ls st : List Value} : go d 33 27 ls st h = go d 33 28 ls (.int 1 :: st) h := go_plain (q := (28, ls, (.int 1 :: st), h)) ke_33_27 rfl
theorem ke_33_28 : alook 33 28 = some (28, .iadd, 1, (0, 0, 0, 0, 0), ⟨"", "", ""⟩, "") := rfl
theorem ee_33_28 {d : Nat} {h : aH} {ls st : List Value} {x y : Int32} : go d 33 28 ls (.int y :: .int x :: st) h = go d 33 29 ls (.int (x + y) :: st) h := go_plain (q := (29, ls, (.int (x + y) :: st), h)) ke_33_28 rfl
theorem ke_33_29 : alook 33 29 = some (29, .putfield 7, 3, (1, 5, 5, 0, 0), ⟨"", "", ""⟩, "WordHides$Text") := rfl
theorem ee_33_29 {d : Nat} {ls st : List Value} {h : aH} {r : Nat} {w : Value} : go d 33 29 ls (w :: .ref r :: st) h = (pf h r 1 5 5 0 w).bind fun h' => go d 33 32 ls st h' := go_putf ke_33_29
theorem ke_33_32 : alook 33 32 = some (32, .return_, 1, (0, 0, 0, 0, 0), ⟨"", "", ""⟩, "") := rfl
theorem ee_33_32 {d : Nat} {ls : List Value} {h : aH} : go d 33 32 ls [] h = some (none, h) := go_ret ke_33_32 rfl rfl rfl
theorem ke_34_0 : alook 34 0 = some (0, .aload_n 0, 1, (0, 0, 0, 0, 0), ⟨"", "", ""⟩, "") := rfl
theorem ee_34_0 {d : Nat} {h : aH} {l1 : Value} {x : Nat} {st : List Value} : go d 34 0 [.ref x, l1] st h = go d 34 1 [.ref x, l1] (.ref x :: st) h := go_plain (q := (1, [.ref x, l1], (.ref x :: st), h)) ke_34_0 rfl
theorem ee_34_0N {d : Nat} {h : aH} {l1 : Value} {st : List Value} : go d 34 0 [.null, l1] st h = go d 34 1 [.null, l1] (.null :: st) h := go_plain (q := (1, [.null, l1], (.null :: st), h)) ke_34_0 rfl
theorem ke_34_1 : alook 34 1 = some (1, .aload_n 1, 1, (0, 0, 0, 0, 0), ⟨"", "", ""⟩, "") := rfl
theorem ee_34_1 {d : Nat} {h : aH} {l0 : Value} {x : Nat} {st : List Value} : go d 34 1 [l0, .ref x] st h = go d 34 2 [l0, .ref x] (.ref x :: st) h := go_plain (q := (2, [l0, .ref x], (.ref x :: st), h)) ke_34_1 rfl
theorem ee_34_1N {d : Nat} {h : aH} {l0 : Value} {st : List Value} : go d 34 1 [l0, .null] st h = go d 34 2 [l0, .null] (.null :: st) h := go_plain (q := (2, [l0, .null], (.null :: st), h)) ke_34_1 rfl
theorem ke_34_2 : alook 34 2 = some (2, .getfield 7, 3, (1, 5, 5, 0, 0), ⟨"", "", ""⟩, "WordHides$Text") := rfl
theorem ee_34_2 {d : Nat} {ls st : List Value} {h : aH} {r : Nat} : go d 34 2 ls (.ref r :: st) h = (gf h r 1 5 5).bind fun z => go d 34 5 ls (z :: st) h := go_getf ke_34_2
theorem ke_34_5 : alook 34 5 = some (5, .aload_n 0, 1, (0, 0, 0, 0, 0), ⟨"", "", ""⟩, "") := rfl
theorem ee_34_5 {d : Nat} {h : aH} {l1 : Value} {x : Nat} {st : List Value} : go d 34 5 [.ref x, l1] st h = go d 34 6 [.ref x, l1] (.ref x :: st) h := go_plain (q := (6, [.ref x, l1], (.ref x :: st), h)) ke_34_5 rfl
theorem ee_34_5N {d : Nat} {h : aH} {l1 : Value} {st : List Value} : go d 34 5 [.null, l1] st h = go d 34 6 [.null, l1] (.null :: st) h := go_plain (q := (6, [.null, l1], (.null :: st), h)) ke_34_5 rfl
theorem ke_34_6 : alook 34 6 = some (6, .getfield 19, 3, (0, 5, 5, 2, 0), ⟨"", "", ""⟩, "WordHides$Text") := rfl
theorem ee_34_6 {d : Nat} {ls st : List Value} {h : aH} {r : Nat} : go d 34 6 ls (.ref r :: st) h = (gf h r 0 5 5).bind fun z => go d 34 9 ls (z :: st) h := go_getf ke_34_6
theorem ke_34_9 : alook 34 9 = some (9, .arraylength, 1, (0, 0, 0, 0, 0), ⟨"", "", ""⟩, "") := rfl
theorem ee_34_9 {d : Nat} {ls st : List Value} {h : aH} {r : Nat} : go d 34 9 ls (.ref r :: st) h = (al h r).bind fun z => go d 34 10 ls (.int z :: st) h := go_alen ke_34_9
theorem ke_34_10 : alook 34 10 = some (10, .invokestatic 23, 3, (0, 0, 0, 0, 3), ⟨"java/lang/Math", "min", "(II)I"⟩, "") := rfl
theorem ee_34_10 {d : Nat} {h : aH} {ls : List Value} {x y : Int32} {r0 : Nat} : go d 34 10 ls [.int y, .int x, .ref r0] h = go d 34 13 ls [.int (if y < x then y else x), .ref r0] h := go_plain (q := (13, ls, [.int (if y < x then y else x), .ref r0], h)) ke_34_10 rfl
theorem ke_34_13 : alook 34 13 = some (13, .putfield 7, 3, (1, 5, 5, 0, 0), ⟨"", "", ""⟩, "WordHides$Text") := rfl
theorem ee_34_13 {d : Nat} {ls st : List Value} {h : aH} {r : Nat} {w : Value} : go d 34 13 ls (w :: .ref r :: st) h = (pf h r 1 5 5 0 w).bind fun h' => go d 34 16 ls st h' := go_putf ke_34_13
theorem ke_34_16 : alook 34 16 = some (16, .aload_n 1, 1, (0, 0, 0, 0, 0), ⟨"", "", ""⟩, "") := rfl
theorem ee_34_16 {d : Nat} {h : aH} {l0 : Value} {x : Nat} {st : List Value} : go d 34 16 [l0, .ref x] st h = go d 34 17 [l0, .ref x] (.ref x :: st) h := go_plain (q := (17, [l0, .ref x], (.ref x :: st), h)) ke_34_16 rfl
theorem ee_34_16N {d : Nat} {h : aH} {l0 : Value} {st : List Value} : go d 34 16 [l0, .null] st h = go d 34 17 [l0, .null] (.null :: st) h := go_plain (q := (17, [l0, .null], (.null :: st), h)) ke_34_16 rfl
theorem ke_34_17 : alook 34 17 = some (17, .getfield 19, 3, (0, 5, 5, 2, 0), ⟨"", "", ""⟩, "WordHides$Text") := rfl
theorem ee_34_17 {d : Nat} {ls st : List Value} {h : aH} {r : Nat} : go d 34 17 ls (.ref r :: st) h = (gf h r 0 5 5).bind fun z => go d 34 20 ls (z :: st) h := go_getf ke_34_17
theorem ke_34_20 : alook 34 20 = some (20, .iconst 0, 1, (0, 0, 0, 0, 0), ⟨"", "", ""⟩, "") := rfl
theorem ee_34_20 {d : Nat} {h : aH} {ls st : List Value} : go d 34 20 ls st h = go d 34 21 ls (.int 0 :: st) h := go_plain (q := (21, ls, (.int 0 :: st), h)) ke_34_20 rfl
theorem ke_34_21 : alook 34 21 = some (21, .aload_n 0, 1, (0, 0, 0, 0, 0), ⟨"", "", ""⟩, "") := rfl
theorem ee_34_21 {d : Nat} {h : aH} {l1 : Value} {x : Nat} {st : List Value} : go d 34 21 [.ref x, l1] st h = go d 34 22 [.ref x, l1] (.ref x :: st) h := go_plain (q := (22, [.ref x, l1], (.ref x :: st), h)) ke_34_21 rfl
theorem ee_34_21N {d : Nat} {h : aH} {l1 : Value} {st : List Value} : go d 34 21 [.null, l1] st h = go d 34 22 [.null, l1] (.null :: st) h := go_plain (q := (22, [.null, l1], (.null :: st), h)) ke_34_21 rfl
theorem ke_34_22 : alook 34 22 = some (22, .getfield 19, 3, (0, 5, 5, 2, 0), ⟨"", "", ""⟩, "WordHides$Text") := rfl
theorem ee_34_22 {d : Nat} {ls st : List Value} {h : aH} {r : Nat} : go d 34 22 ls (.ref r :: st) h = (gf h r 0 5 5).bind fun z => go d 34 25 ls (z :: st) h := go_getf ke_34_22
theorem ke_34_25 : alook 34 25 = some (25, .iconst 0, 1, (0, 0, 0, 0, 0), ⟨"", "", ""⟩, "") := rfl
theorem ee_34_25 {d : Nat} {h : aH} {ls st : List Value} : go d 34 25 ls st h = go d 34 26 ls (.int 0 :: st) h := go_plain (q := (26, ls, (.int 0 :: st), h)) ke_34_25 rfl
theorem ke_34_26 : alook 34 26 = some (26, .aload_n 0, 1, (0, 0, 0, 0, 0), ⟨"", "", ""⟩, "") := rfl
theorem ee_34_26 {d : Nat} {h : aH} {l1 : Value} {x : Nat} {st : List Value} : go d 34 26 [.ref x, l1] st h = go d 34 27 [.ref x, l1] (.ref x :: st) h := go_plain (q := (27, [.ref x, l1], (.ref x :: st), h)) ke_34_26 rfl
theorem ee_34_26N {d : Nat} {h : aH} {l1 : Value} {st : List Value} : go d 34 26 [.null, l1] st h = go d 34 27 [.null, l1] (.null :: st) h := go_plain (q := (27, [.null, l1], (.null :: st), h)) ke_34_26 rfl
theorem ke_34_27 : alook 34 27 = some (27, .getfield 7, 3, (1, 5, 5, 0, 0), ⟨"", "", ""⟩, "WordHides$Text") := rfl
theorem ee_34_27 {d : Nat} {ls st : List Value} {h : aH} {r : Nat} : go d 34 27 ls (.ref r :: st) h = (gf h r 1 5 5).bind fun z => go d 34 30 ls (z :: st) h := go_getf ke_34_27
theorem ke_34_30 : alook 34 30 = some (30, .invokestatic 26, 3, (0, 0, 0, 0, 1), ⟨"java/lang/System", "arraycopy", "(Ljava/lang/Object;ILjava/lang/Object;II)V"⟩, "") := rfl
theorem ee_34_30 {d : Nat} {ls : List Value} {h : aH} {v w : Nat} {n : Int32} : go d 34 30 ls [.int n, .int 0, .ref w, .int 0, .ref v] h = (cpy h v w n).bind fun h' => go d 34 33 ls [] h' := go_copy ke_34_30 (Nat.zero_le _) rfl
theorem ke_34_33 : alook 34 33 = some (33, .return_, 1, (0, 0, 0, 0, 0), ⟨"", "", ""⟩, "") := rfl
theorem ee_34_33 {d : Nat} {ls : List Value} {h : aH} : go d 34 33 ls [] h = some (none, h) := go_ret ke_34_33 rfl rfl rfl
theorem ke_35_0 : alook 35 0 = some (0, .iconst 0, 1, (0, 0, 0, 0, 0), ⟨"", "", ""⟩, "") := rfl
theorem ee_35_0 {d : Nat} {h : aH} {ls st : List Value} : go d 35 0 ls st h = go d 35 1 ls (.int 0 :: st) h := go_plain (q := (1, ls, (.int 0 :: st), h)) ke_35_0 rfl
theorem ke_35_1 : alook 35 1 = some (1, .istore_n 1, 1, (0, 0, 0, 0, 0), ⟨"", "", ""⟩, "") := rfl
theorem ee_35_1 {d : Nat} {h : aH} {l0 l1 : Value} {x : Int32} {st : List Value} : go d 35 1 [l0, l1] (.int x :: st) h = go d 35 2 [l0, .int x] st h := go_plain (q := (2, [l0, .int x], st, h)) ke_35_1 rfl
theorem ke_35_2 : alook 35 2 = some (2, .iload_n 1, 1, (0, 0, 0, 0, 0), ⟨"", "", ""⟩, "") := rfl
theorem ee_35_2 {d : Nat} {h : aH} {l0 : Value} {x : Int32} {st : List Value} : go d 35 2 [l0, .int x] st h = go d 35 3 [l0, .int x] (.int x :: st) h := go_plain (q := (3, [l0, .int x], (.int x :: st), h)) ke_35_2 rfl
theorem ke_35_3 : alook 35 3 = some (3, .aload_n 0, 1, (0, 0, 0, 0, 0), ⟨"", "", ""⟩, "") := rfl
theorem ee_35_3 {d : Nat} {h : aH} {l1 : Value} {x : Nat} {st : List Value} : go d 35 3 [.ref x, l1] st h = go d 35 4 [.ref x, l1] (.ref x :: st) h := go_plain (q := (4, [.ref x, l1], (.ref x :: st), h)) ke_35_3 rfl
theorem ee_35_3N {d : Nat} {h : aH} {l1 : Value} {st : List Value} : go d 35 3 [.null, l1] st h = go d 35 4 [.null, l1] (.null :: st) h := go_plain (q := (4, [.null, l1], (.null :: st), h)) ke_35_3 rfl
theorem ke_35_4 : alook 35 4 = some (4, .getfield 7, 3, (1, 5, 5, 0, 0), ⟨"", "", ""⟩, "WordHides$Text") := rfl
theorem ee_35_4 {d : Nat} {ls st : List Value} {h : aH} {r : Nat} : go d 35 4 ls (.ref r :: st) h = (gf h r 1 5 5).bind fun z => go d 35 7 ls (z :: st) h := go_getf ke_35_4
theorem ke_35_7 : alook 35 7 = some (7, .if_icmp .ge 33, 3, (40, 0, 0, 0, 0), ⟨"", "", ""⟩, "") := rfl
theorem ee_35_7 {d : Nat} {ls st : List Value} {h : aH} {x y : Int32} : go d 35 7 ls (.int y :: .int x :: st) h = if y ≤ x then go d 35 40 ls st h else go d 35 10 ls st h := go_ci (go_if2 (tg := 40) (q := 10) (f := fun x y => decide (y ≤ x)) ke_35_7 rfl)
theorem ke_35_10 : alook 35 10 = some (10, .aload_n 0, 1, (0, 0, 0, 0, 0), ⟨"", "", ""⟩, "") := rfl
theorem ee_35_10 {d : Nat} {h : aH} {l1 : Value} {x : Nat} {st : List Value} : go d 35 10 [.ref x, l1] st h = go d 35 11 [.ref x, l1] (.ref x :: st) h := go_plain (q := (11, [.ref x, l1], (.ref x :: st), h)) ke_35_10 rfl
theorem ee_35_10N {d : Nat} {h : aH} {l1 : Value} {st : List Value} : go d 35 10 [.null, l1] st h = go d 35 11 [.null, l1] (.null :: st) h := go_plain (q := (11, [.null, l1], (.null :: st), h)) ke_35_10 rfl
theorem ke_35_11 : alook 35 11 = some (11, .getfield 19, 3, (0, 5, 5, 2, 0), ⟨"", "", ""⟩, "WordHides$Text") := rfl
theorem ee_35_11 {d : Nat} {ls st : List Value} {h : aH} {r : Nat} : go d 35 11 ls (.ref r :: st) h = (gf h r 0 5 5).bind fun z => go d 35 14 ls (z :: st) h := go_getf ke_35_11
theorem ke_35_14 : alook 35 14 = some (14, .iload_n 1, 1, (0, 0, 0, 0, 0), ⟨"", "", ""⟩, "") := rfl
theorem ee_35_14 {d : Nat} {h : aH} {l0 : Value} {x : Int32} {st : List Value} : go d 35 14 [l0, .int x] st h = go d 35 15 [l0, .int x] (.int x :: st) h := go_plain (q := (15, [l0, .int x], (.int x :: st), h)) ke_35_14 rfl
theorem ke_35_15 : alook 35 15 = some (15, .iaload, 1, (0, 0, 0, 0, 0), ⟨"", "", ""⟩, "") := rfl
theorem ee_35_15 {d : Nat} {ls st : List Value} {h : aH} {r : Nat} {i : Int32} : go d 35 15 ls (.int i :: .ref r :: st) h = (ia h r i).bind fun z => go d 35 16 ls (.int z :: st) h := go_iald ke_35_15
theorem ke_35_16 : alook 35 16 = some (16, .aload_n 0, 1, (0, 0, 0, 0, 0), ⟨"", "", ""⟩, "") := rfl
theorem ee_35_16 {d : Nat} {h : aH} {l1 : Value} {x : Nat} {st : List Value} : go d 35 16 [.ref x, l1] st h = go d 35 17 [.ref x, l1] (.ref x :: st) h := go_plain (q := (17, [.ref x, l1], (.ref x :: st), h)) ke_35_16 rfl
theorem ee_35_16N {d : Nat} {h : aH} {l1 : Value} {st : List Value} : go d 35 16 [.null, l1] st h = go d 35 17 [.null, l1] (.null :: st) h := go_plain (q := (17, [.null, l1], (.null :: st), h)) ke_35_16 rfl
theorem ke_35_17 : alook 35 17 = some (17, .getfield 19, 3, (0, 5, 5, 2, 0), ⟨"", "", ""⟩, "WordHides$Text") := rfl
theorem ee_35_17 {d : Nat} {ls st : List Value} {h : aH} {r : Nat} : go d 35 17 ls (.ref r :: st) h = (gf h r 0 5 5).bind fun z => go d 35 20 ls (z :: st) h := go_getf ke_35_17
theorem ke_35_20 : alook 35 20 = some (20, .aload_n 0, 1, (0, 0, 0, 0, 0), ⟨"", "", ""⟩, "") := rfl
theorem ee_35_20 {d : Nat} {h : aH} {l1 : Value} {x : Nat} {st : List Value} : go d 35 20 [.ref x, l1] st h = go d 35 21 [.ref x, l1] (.ref x :: st) h := go_plain (q := (21, [.ref x, l1], (.ref x :: st), h)) ke_35_20 rfl
theorem ee_35_20N {d : Nat} {h : aH} {l1 : Value} {st : List Value} : go d 35 20 [.null, l1] st h = go d 35 21 [.null, l1] (.null :: st) h := go_plain (q := (21, [.null, l1], (.null :: st), h)) ke_35_20 rfl
theorem ke_35_21 : alook 35 21 = some (21, .getfield 7, 3, (1, 5, 5, 0, 0), ⟨"", "", ""⟩, "WordHides$Text") := rfl
theorem ee_35_21 {d : Nat} {ls st : List Value} {h : aH} {r : Nat} : go d 35 21 ls (.ref r :: st) h = (gf h r 1 5 5).bind fun z => go d 35 24 ls (z :: st) h := go_getf ke_35_21
theorem ke_35_24 : alook 35 24 = some (24, .iconst 1, 1, (0, 0, 0, 0, 0), ⟨"", "", ""⟩, "") := rfl
theorem ee_35_24 {d : Nat} {h : aH} {ls st : List Value} : go d 35 24 ls st h = go d 35 25 ls (.int 1 :: st) h := go_plain (q := (25, ls, (.int 1 :: st), h)) ke_35_24 rfl
theorem ke_35_25 : alook 35 25 = some (25, .isub, 1, (0, 0, 0, 0, 0), ⟨"", "", ""⟩, "") := rfl
theorem ee_35_25 {d : Nat} {h : aH} {ls st : List Value} {x y : Int32} : go d 35 25 ls (.int y :: .int x :: st) h = go d 35 26 ls (.int (x - y) :: st) h := go_plain (q := (26, ls, (.int (x - y) :: st), h)) ke_35_25 rfl
theorem ke_35_26 : alook 35 26 = some (26, .iload_n 1, 1, (0, 0, 0, 0, 0), ⟨"", "", ""⟩, "") := rfl
theorem ee_35_26 {d : Nat} {h : aH} {l0 : Value} {x : Int32} {st : List Value} : go d 35 26 [l0, .int x] st h = go d 35 27 [l0, .int x] (.int x :: st) h := go_plain (q := (27, [l0, .int x], (.int x :: st), h)) ke_35_26 rfl
theorem ke_35_27 : alook 35 27 = some (27, .isub, 1, (0, 0, 0, 0, 0), ⟨"", "", ""⟩, "") := rfl
theorem ee_35_27 {d : Nat} {h : aH} {ls st : List Value} {x y : Int32} : go d 35 27 ls (.int y :: .int x :: st) h = go d 35 28 ls (.int (x - y) :: st) h := go_plain (q := (28, ls, (.int (x - y) :: st), h)) ke_35_27 rfl
theorem ke_35_28 : alook 35 28 = some (28, .iaload, 1, (0, 0, 0, 0, 0), ⟨"", "", ""⟩, "") := rfl
theorem ee_35_28 {d : Nat} {ls st : List Value} {h : aH} {r : Nat} {i : Int32} : go d 35 28 ls (.int i :: .ref r :: st) h = (ia h r i).bind fun z => go d 35 29 ls (.int z :: st) h := go_iald ke_35_28
theorem ke_35_29 : alook 35 29 = some (29, .if_icmp .eq 5, 3, (34, 0, 0, 0, 0), ⟨"", "", ""⟩, "") := rfl
theorem ee_35_29 {d : Nat} {ls st : List Value} {h : aH} {x y : Int32} : go d 35 29 ls (.int y :: .int x :: st) h = if x = y then go d 35 34 ls st h else go d 35 32 ls st h := go_ci (go_if2 (tg := 34) (q := 32) (f := fun x y => decide (x = y)) ke_35_29 rfl)
theorem ke_35_32 : alook 35 32 = some (32, .iconst 0, 1, (0, 0, 0, 0, 0), ⟨"", "", ""⟩, "") := rfl
theorem ee_35_32 {d : Nat} {h : aH} {ls st : List Value} : go d 35 32 ls st h = go d 35 33 ls (.int 0 :: st) h := go_plain (q := (33, ls, (.int 0 :: st), h)) ke_35_32 rfl
theorem ke_35_33 : alook 35 33 = some (33, .ireturn, 1, (1, 0, 0, 0, 0), ⟨"", "", ""⟩, "") := rfl
theorem ee_35_33 {d : Nat} {ls : List Value} {h : aH} : go d 35 33 ls [.int 0] h = some (some (.int 0), h) := go_zret0 ke_35_33
theorem ee_35_33T {d : Nat} {ls : List Value} {h : aH} : go d 35 33 ls [.int 1] h = some (some (.int 1), h) := go_zret1 ke_35_33
theorem ke_35_34 : alook 35 34 = some (34, .iinc 1 1, 3, (0, 0, 0, 0, 0), ⟨"", "", ""⟩, "") := rfl
theorem ee_35_34 {d : Nat} {h : aH} {l0 : Value} {x : Int32} {st : List Value} : go d 35 34 [l0, .int x] st h = go d 35 37 [l0, .int (x + 1)] st h := go_plain (q := (37, [l0, .int (x + 1)], st, h)) ke_35_34 rfl
theorem ke_35_37 : alook 35 37 = some (37, .goto (-35), 3, (2, 0, 0, 0, 0), ⟨"", "", ""⟩, "") := rfl
theorem ee_35_37 {d : Nat} {h : aH} {ls st : List Value} : go d 35 37 ls st h = go d 35 2 ls st h := go_plain (q := (2, ls, st, h)) ke_35_37 rfl
theorem ke_35_40 : alook 35 40 = some (40, .iconst 1, 1, (0, 0, 0, 0, 0), ⟨"", "", ""⟩, "") := rfl
theorem ee_35_40 {d : Nat} {h : aH} {ls st : List Value} : go d 35 40 ls st h = go d 35 41 ls (.int 1 :: st) h := go_plain (q := (41, ls, (.int 1 :: st), h)) ke_35_40 rfl
theorem ke_35_41 : alook 35 41 = some (41, .ireturn, 1, (1, 0, 0, 0, 0), ⟨"", "", ""⟩, "") := rfl
theorem ee_35_41 {d : Nat} {ls : List Value} {h : aH} : go d 35 41 ls [.int 0] h = some (some (.int 0), h) := go_zret0 ke_35_41
theorem ee_35_41T {d : Nat} {ls : List Value} {h : aH} : go d 35 41 ls [.int 1] h = some (some (.int 1), h) := go_zret1 ke_35_41
theorem ke_37_0 : alook 37 0 = some (0, .iload_n 1, 1, (0, 0, 0, 0, 0), ⟨"", "", ""⟩, "") := rfl
theorem ee_37_0 {d : Nat} {h : aH} {l0 : Value} {x : Int32} {st : List Value} : go d 37 0 [l0, .int x] st h = go d 37 1 [l0, .int x] (.int x :: st) h := go_plain (q := (1, [l0, .int x], (.int x :: st), h)) ke_37_0 rfl
theorem ke_37_1 : alook 37 1 = some (1, .ifCond .lt 25, 3, (26, 0, 0, 0, 0), ⟨"", "", ""⟩, "") := rfl
theorem ee_37_1 {d : Nat} {ls st : List Value} {h : aH} {x : Int32} : go d 37 1 ls (.int x :: st) h = if x < 0 then go d 37 26 ls st h else go d 37 4 ls st h := go_c1 (go_if1 (tg := 26) (q := 4) (f := fun x => decide (x < 0)) ke_37_1 rfl)
theorem ke_37_4 : alook 37 4 = some (4, .iload_n 1, 1, (0, 0, 0, 0, 0), ⟨"", "", ""⟩, "") := rfl
theorem ee_37_4 {d : Nat} {h : aH} {l0 : Value} {x : Int32} {st : List Value} : go d 37 4 [l0, .int x] st h = go d 37 5 [l0, .int x] (.int x :: st) h := go_plain (q := (5, [l0, .int x], (.int x :: st), h)) ke_37_4 rfl
theorem ke_37_5 : alook 37 5 = some (5, .aload_n 0, 1, (0, 0, 0, 0, 0), ⟨"", "", ""⟩, "") := rfl
theorem ee_37_5 {d : Nat} {h : aH} {l1 : Value} {x : Nat} {st : List Value} : go d 37 5 [.ref x, l1] st h = go d 37 6 [.ref x, l1] (.ref x :: st) h := go_plain (q := (6, [.ref x, l1], (.ref x :: st), h)) ke_37_5 rfl
theorem ee_37_5N {d : Nat} {h : aH} {l1 : Value} {st : List Value} : go d 37 5 [.null, l1] st h = go d 37 6 [.null, l1] (.null :: st) h := go_plain (q := (6, [.null, l1], (.null :: st), h)) ke_37_5 rfl
theorem ke_37_6 : alook 37 6 = some (6, .getfield 17, 3, (1, 6, 6, 0, 0), ⟨"", "", ""⟩, "WordHides$TextList") := rfl
theorem ee_37_6 {d : Nat} {ls st : List Value} {h : aH} {r : Nat} : go d 37 6 ls (.ref r :: st) h = (gf h r 1 6 6).bind fun z => go d 37 9 ls (z :: st) h := go_getf ke_37_6
theorem ke_37_9 : alook 37 9 = some (9, .if_icmp .ge 17, 3, (26, 0, 0, 0, 0), ⟨"", "", ""⟩, "") := rfl
theorem ee_37_9 {d : Nat} {ls st : List Value} {h : aH} {x y : Int32} : go d 37 9 ls (.int y :: .int x :: st) h = if y ≤ x then go d 37 26 ls st h else go d 37 12 ls st h := go_ci (go_if2 (tg := 26) (q := 12) (f := fun x y => decide (y ≤ x)) ke_37_9 rfl)
theorem ke_37_12 : alook 37 12 = some (12, .iload_n 1, 1, (0, 0, 0, 0, 0), ⟨"", "", ""⟩, "") := rfl
theorem ee_37_12 {d : Nat} {h : aH} {l0 : Value} {x : Int32} {st : List Value} : go d 37 12 [l0, .int x] st h = go d 37 13 [l0, .int x] (.int x :: st) h := go_plain (q := (13, [l0, .int x], (.int x :: st), h)) ke_37_12 rfl
theorem ke_37_13 : alook 37 13 = some (13, .iconst 3, 1, (0, 0, 0, 0, 0), ⟨"", "", ""⟩, "") := rfl
theorem ee_37_13 {d : Nat} {h : aH} {ls st : List Value} : go d 37 13 ls st h = go d 37 14 ls (.int 3 :: st) h := go_plain (q := (14, ls, (.int 3 :: st), h)) ke_37_13 rfl
theorem ke_37_14 : alook 37 14 = some (14, .if_icmp .ge 12, 3, (26, 0, 0, 0, 0), ⟨"", "", ""⟩, "") := rfl
theorem ee_37_14 {d : Nat} {ls st : List Value} {h : aH} {x y : Int32} : go d 37 14 ls (.int y :: .int x :: st) h = if y ≤ x then go d 37 26 ls st h else go d 37 17 ls st h := go_ci (go_if2 (tg := 26) (q := 17) (f := fun x y => decide (y ≤ x)) ke_37_14 rfl)
theorem ke_37_17 : alook 37 17 = some (17, .aload_n 0, 1, (0, 0, 0, 0, 0), ⟨"", "", ""⟩, "") := rfl
theorem ee_37_17 {d : Nat} {h : aH} {l1 : Value} {x : Nat} {st : List Value} : go d 37 17 [.ref x, l1] st h = go d 37 18 [.ref x, l1] (.ref x :: st) h := go_plain (q := (18, [.ref x, l1], (.ref x :: st), h)) ke_37_17 rfl
theorem ee_37_17N {d : Nat} {h : aH} {l1 : Value} {st : List Value} : go d 37 17 [.null, l1] st h = go d 37 18 [.null, l1] (.null :: st) h := go_plain (q := (18, [.null, l1], (.null :: st), h)) ke_37_17 rfl
theorem ke_37_18 : alook 37 18 = some (18, .getfield 11, 3, (0, 6, 6, 2, 0), ⟨"", "", ""⟩, "WordHides$TextList") := rfl
theorem ee_37_18 {d : Nat} {ls st : List Value} {h : aH} {r : Nat} : go d 37 18 ls (.ref r :: st) h = (gf h r 0 6 6).bind fun z => go d 37 21 ls (z :: st) h := go_getf ke_37_18
theorem ke_37_21 : alook 37 21 = some (21, .iload_n 1, 1, (0, 0, 0, 0, 0), ⟨"", "", ""⟩, "") := rfl
theorem ee_37_21 {d : Nat} {h : aH} {l0 : Value} {x : Int32} {st : List Value} : go d 37 21 [l0, .int x] st h = go d 37 22 [l0, .int x] (.int x :: st) h := go_plain (q := (22, [l0, .int x], (.int x :: st), h)) ke_37_21 rfl
theorem ke_37_22 : alook 37 22 = some (22, .aaload, 1, (0, 0, 0, 0, 0), ⟨"", "", ""⟩, "") := rfl
theorem ee_37_22 {d : Nat} {ls st : List Value} {h : aH} {r : Nat} {i : Int32} : go d 37 22 ls (.int i :: .ref r :: st) h = (aa h r i).bind fun z => go d 37 23 ls (z :: st) h := go_aald ke_37_22
theorem ke_37_23 : alook 37 23 = some (23, .goto 4, 3, (27, 0, 0, 0, 0), ⟨"", "", ""⟩, "") := rfl
theorem ee_37_23 {d : Nat} {h : aH} {ls st : List Value} : go d 37 23 ls st h = go d 37 27 ls st h := go_plain (q := (27, ls, st, h)) ke_37_23 rfl
theorem ke_37_26 : alook 37 26 = some (26, .aconst_null, 1, (0, 0, 0, 0, 0), ⟨"", "", ""⟩, "") := rfl
theorem ee_37_26 {d : Nat} {h : aH} {ls st : List Value} : go d 37 26 ls st h = go d 37 27 ls (.null :: st) h := go_plain (q := (27, ls, (.null :: st), h)) ke_37_26 rfl
theorem ke_37_27 : alook 37 27 = some (27, .areturn, 1, (0, 0, 0, 0, 0), ⟨"", "", ""⟩, "") := rfl
theorem ee_37_27 {d : Nat} {ls : List Value} {h : aH} {v : Nat} : go d 37 27 ls [.ref v] h = some (some (.ref v), h) := go_ret ke_37_27 rfl rfl rfl
theorem ee_37_27N {d : Nat} {ls : List Value} {h : aH} : go d 37 27 ls [.null] h = some (some .null, h) := go_ret ke_37_27 rfl rfl rfl
theorem ke_38_0 : alook 38 0 = some (0, .aload_n 0, 1, (0, 0, 0, 0, 0), ⟨"", "", ""⟩, "") := rfl
theorem ee_38_0 {d : Nat} {h : aH} {l1 : Value} {x : Nat} {st : List Value} : go d 38 0 [.ref x, l1] st h = go d 38 1 [.ref x, l1] (.ref x :: st) h := go_plain (q := (1, [.ref x, l1], (.ref x :: st), h)) ke_38_0 rfl
theorem ee_38_0N {d : Nat} {h : aH} {l1 : Value} {st : List Value} : go d 38 0 [.null, l1] st h = go d 38 1 [.null, l1] (.null :: st) h := go_plain (q := (1, [.null, l1], (.null :: st), h)) ke_38_0 rfl
theorem ke_38_1 : alook 38 1 = some (1, .getfield 17, 3, (1, 6, 6, 0, 0), ⟨"", "", ""⟩, "WordHides$TextList") := rfl
theorem ee_38_1 {d : Nat} {ls st : List Value} {h : aH} {r : Nat} : go d 38 1 ls (.ref r :: st) h = (gf h r 1 6 6).bind fun z => go d 38 4 ls (z :: st) h := go_getf ke_38_1
theorem ke_38_4 : alook 38 4 = some (4, .iconst 3, 1, (0, 0, 0, 0, 0), ⟨"", "", ""⟩, "") := rfl
theorem ee_38_4 {d : Nat} {h : aH} {ls st : List Value} : go d 38 4 ls st h = go d 38 5 ls (.int 3 :: st) h := go_plain (q := (5, ls, (.int 3 :: st), h)) ke_38_4 rfl
theorem ke_38_5 : alook 38 5 = some (5, .if_icmp .lt 6, 3, (11, 0, 0, 0, 0), ⟨"", "", ""⟩, "") := rfl
theorem ee_38_5 {d : Nat} {ls st : List Value} {h : aH} {x y : Int32} : go d 38 5 ls (.int y :: .int x :: st) h = if x < y then go d 38 11 ls st h else go d 38 8 ls st h := go_ci (go_if2 (tg := 11) (q := 8) (f := fun x y => decide (x < y)) ke_38_5 rfl)
theorem ke_38_8 : alook 38 8 = some (8, .bipush (-4), 2, (0, 0, 0, 0, 0), ⟨"", "", ""⟩, "") := rfl
theorem ee_38_8 {d : Nat} {h : aH} {ls st : List Value} : go d 38 8 ls st h = go d 38 10 ls (.int (-4) :: st) h := go_plain (q := (10, ls, (.int (-4) :: st), h)) ke_38_8 rfl
theorem ke_38_10 : alook 38 10 = some (10, .ireturn, 1, (0, 0, 0, 0, 0), ⟨"", "", ""⟩, "") := rfl
theorem ee_38_10 {d : Nat} {ls : List Value} {h : aH} {v : Int32} : go d 38 10 ls [.int v] h = some (some (.int v), h) := go_iret ke_38_10
theorem ke_38_11 : alook 38 11 = some (11, .aload_n 0, 1, (0, 0, 0, 0, 0), ⟨"", "", ""⟩, "") := rfl
theorem ee_38_11 {d : Nat} {h : aH} {l1 : Value} {x : Nat} {st : List Value} : go d 38 11 [.ref x, l1] st h = go d 38 12 [.ref x, l1] (.ref x :: st) h := go_plain (q := (12, [.ref x, l1], (.ref x :: st), h)) ke_38_11 rfl
theorem ee_38_11N {d : Nat} {h : aH} {l1 : Value} {st : List Value} : go d 38 11 [.null, l1] st h = go d 38 12 [.null, l1] (.null :: st) h := go_plain (q := (12, [.null, l1], (.null :: st), h)) ke_38_11 rfl
theorem ke_38_12 : alook 38 12 = some (12, .getfield 11, 3, (0, 6, 6, 2, 0), ⟨"", "", ""⟩, "WordHides$TextList") := rfl
theorem ee_38_12 {d : Nat} {ls st : List Value} {h : aH} {r : Nat} : go d 38 12 ls (.ref r :: st) h = (gf h r 0 6 6).bind fun z => go d 38 15 ls (z :: st) h := go_getf ke_38_12
theorem ke_38_15 : alook 38 15 = some (15, .aload_n 0, 1, (0, 0, 0, 0, 0), ⟨"", "", ""⟩, "") := rfl
theorem ee_38_15 {d : Nat} {h : aH} {l1 : Value} {x : Nat} {st : List Value} : go d 38 15 [.ref x, l1] st h = go d 38 16 [.ref x, l1] (.ref x :: st) h := go_plain (q := (16, [.ref x, l1], (.ref x :: st), h)) ke_38_15 rfl
theorem ee_38_15N {d : Nat} {h : aH} {l1 : Value} {st : List Value} : go d 38 15 [.null, l1] st h = go d 38 16 [.null, l1] (.null :: st) h := go_plain (q := (16, [.null, l1], (.null :: st), h)) ke_38_15 rfl
theorem ke_38_16 : alook 38 16 = some (16, .getfield 17, 3, (1, 6, 6, 0, 0), ⟨"", "", ""⟩, "WordHides$TextList") := rfl
theorem ee_38_16 {d : Nat} {ls st : List Value} {h : aH} {r : Nat} : go d 38 16 ls (.ref r :: st) h = (gf h r 1 6 6).bind fun z => go d 38 19 ls (z :: st) h := go_getf ke_38_16
theorem ke_38_19 : alook 38 19 = some (19, .aaload, 1, (0, 0, 0, 0, 0), ⟨"", "", ""⟩, "") := rfl
theorem ee_38_19 {d : Nat} {ls st : List Value} {h : aH} {r : Nat} {i : Int32} : go d 38 19 ls (.int i :: .ref r :: st) h = (aa h r i).bind fun z => go d 38 20 ls (z :: st) h := go_aald ke_38_19
theorem ke_38_20 : alook 38 20 = some (20, .aload_n 1, 1, (0, 0, 0, 0, 0), ⟨"", "", ""⟩, "") := rfl
theorem ee_38_20 {d : Nat} {h : aH} {l0 : Value} {x : Nat} {st : List Value} : go d 38 20 [l0, .ref x] st h = go d 38 21 [l0, .ref x] (.ref x :: st) h := go_plain (q := (21, [l0, .ref x], (.ref x :: st), h)) ke_38_20 rfl
theorem ee_38_20N {d : Nat} {h : aH} {l0 : Value} {st : List Value} : go d 38 20 [l0, .null] st h = go d 38 21 [l0, .null] (.null :: st) h := go_plain (q := (21, [l0, .null], (.null :: st), h)) ke_38_20 rfl
theorem ke_38_21 : alook 38 21 = some (21, .invokevirtual 24, 3, (1, 5, 34, 5, 34), ⟨"WordHides$Text", "copyFrom", "(LWordHides$Text;)V"⟩, "") := rfl
theorem ee_38_21 {d : Nat} {ls : List Value} {h : aH} {r0 : Nat} {r1 : Nat} : go (d + 1) 38 21 ls [.ref r0, .ref r1] h = if isC h r1 5 = true then (go d 34 0 [.ref r1, .ref r0] [] h).bind (fun q => go (d + 1) 38 24 ls (q.1.toList ++ []) q.2) else none := go_cv1 (as := [.ref r0]) (rest := []) (L := [.ref r1, .ref r0]) ke_38_21 rfl rfl rfl
theorem ke_38_24 : alook 38 24 = some (24, .aload_n 0, 1, (0, 0, 0, 0, 0), ⟨"", "", ""⟩, "") := rfl
theorem ee_38_24 {d : Nat} {h : aH} {l1 : Value} {x : Nat} {st : List Value} : go d 38 24 [.ref x, l1] st h = go d 38 25 [.ref x, l1] (.ref x :: st) h := go_plain (q := (25, [.ref x, l1], (.ref x :: st), h)) ke_38_24 rfl
theorem ee_38_24N {d : Nat} {h : aH} {l1 : Value} {st : List Value} : go d 38 24 [.null, l1] st h = go d 38 25 [.null, l1] (.null :: st) h := go_plain (q := (25, [.null, l1], (.null :: st), h)) ke_38_24 rfl
theorem ke_38_25 : alook 38 25 = some (25, .dup, 1, (0, 0, 0, 0, 0), ⟨"", "", ""⟩, "") := rfl
theorem ee_38_25 {d : Nat} {h : aH} {ls st : List Value} {x : Nat} : go d 38 25 ls (.ref x :: st) h = go d 38 26 ls (.ref x :: .ref x :: st) h := go_plain (q := (26, ls, (.ref x :: .ref x :: st), h)) ke_38_25 rfl
theorem ke_38_26 : alook 38 26 = some (26, .getfield 17, 3, (1, 6, 6, 0, 0), ⟨"", "", ""⟩, "WordHides$TextList") := rfl
theorem ee_38_26 {d : Nat} {ls st : List Value} {h : aH} {r : Nat} : go d 38 26 ls (.ref r :: st) h = (gf h r 1 6 6).bind fun z => go d 38 29 ls (z :: st) h := go_getf ke_38_26
theorem ke_38_29 : alook 38 29 = some (29, .iconst 1, 1, (0, 0, 0, 0, 0), ⟨"", "", ""⟩, "") := rfl
theorem ee_38_29 {d : Nat} {h : aH} {ls st : List Value} : go d 38 29 ls st h = go d 38 30 ls (.int 1 :: st) h := go_plain (q := (30, ls, (.int 1 :: st), h)) ke_38_29 rfl
theorem ke_38_30 : alook 38 30 = some (30, .iadd, 1, (0, 0, 0, 0, 0), ⟨"", "", ""⟩, "") := rfl
theorem ee_38_30 {d : Nat} {h : aH} {ls st : List Value} {x y : Int32} : go d 38 30 ls (.int y :: .int x :: st) h = go d 38 31 ls (.int (x + y) :: st) h := go_plain (q := (31, ls, (.int (x + y) :: st), h)) ke_38_30 rfl
theorem ke_38_31 : alook 38 31 = some (31, .putfield 17, 3, (1, 6, 6, 0, 0), ⟨"", "", ""⟩, "WordHides$TextList") := rfl
theorem ee_38_31 {d : Nat} {ls st : List Value} {h : aH} {r : Nat} {w : Value} : go d 38 31 ls (w :: .ref r :: st) h = (pf h r 1 6 6 0 w).bind fun h' => go d 38 34 ls st h' := go_putf ke_38_31
theorem ke_38_34 : alook 38 34 = some (34, .aload_n 0, 1, (0, 0, 0, 0, 0), ⟨"", "", ""⟩, "") := rfl
theorem ee_38_34 {d : Nat} {h : aH} {l1 : Value} {x : Nat} {st : List Value} : go d 38 34 [.ref x, l1] st h = go d 38 35 [.ref x, l1] (.ref x :: st) h := go_plain (q := (35, [.ref x, l1], (.ref x :: st), h)) ke_38_34 rfl
theorem ee_38_34N {d : Nat} {h : aH} {l1 : Value} {st : List Value} : go d 38 34 [.null, l1] st h = go d 38 35 [.null, l1] (.null :: st) h := go_plain (q := (35, [.null, l1], (.null :: st), h)) ke_38_34 rfl
theorem ke_38_35 : alook 38 35 = some (35, .getfield 17, 3, (1, 6, 6, 0, 0), ⟨"", "", ""⟩, "WordHides$TextList") := rfl
theorem ee_38_35 {d : Nat} {ls st : List Value} {h : aH} {r : Nat} : go d 38 35 ls (.ref r :: st) h = (gf h r 1 6 6).bind fun z => go d 38 38 ls (z :: st) h := go_getf ke_38_35
theorem ke_38_38 : alook 38 38 = some (38, .iconst 1, 1, (0, 0, 0, 0, 0), ⟨"", "", ""⟩, "") := rfl
theorem ee_38_38 {d : Nat} {h : aH} {ls st : List Value} : go d 38 38 ls st h = go d 38 39 ls (.int 1 :: st) h := go_plain (q := (39, ls, (.int 1 :: st), h)) ke_38_38 rfl
theorem ke_38_39 : alook 38 39 = some (39, .isub, 1, (0, 0, 0, 0, 0), ⟨"", "", ""⟩, "") := rfl
theorem ee_38_39 {d : Nat} {h : aH} {ls st : List Value} {x y : Int32} : go d 38 39 ls (.int y :: .int x :: st) h = go d 38 40 ls (.int (x - y) :: st) h := go_plain (q := (40, ls, (.int (x - y) :: st), h)) ke_38_39 rfl
theorem ke_38_40 : alook 38 40 = some (40, .ireturn, 1, (0, 0, 0, 0, 0), ⟨"", "", ""⟩, "") := rfl
theorem ee_38_40 {d : Nat} {ls : List Value} {h : aH} {v : Int32} : go d 38 40 ls [.int v] h = some (some (.int v), h) := go_iret ke_38_40
theorem ke_39_0 : alook 39 0 = some (0, .iconst 0, 1, (0, 0, 0, 0, 0), ⟨"", "", ""⟩, "") := rfl
theorem ee_39_0 {d : Nat} {h : aH} {ls st : List Value} : go d 39 0 ls st h = go d 39 1 ls (.int 0 :: st) h := go_plain (q := (1, ls, (.int 0 :: st), h)) ke_39_0 rfl
theorem ke_39_1 : alook 39 1 = some (1, .istore_n 2, 1, (0, 0, 0, 0, 0), ⟨"", "", ""⟩, "") := rfl
theorem ee_39_1 {d : Nat} {h : aH} {l0 l1 l2 : Value} {x : Int32} {st : List Value} : go d 39 1 [l0, l1, l2] (.int x :: st) h = go d 39 2 [l0, l1, .int x] st h := go_plain (q := (2, [l0, l1, .int x], st, h)) ke_39_1 rfl
theorem ke_39_2 : alook 39 2 = some (2, .iload_n 2, 1, (0, 0, 0, 0, 0), ⟨"", "", ""⟩, "") := rfl
theorem ee_39_2 {d : Nat} {h : aH} {l0 l1 : Value} {x : Int32} {st : List Value} : go d 39 2 [l0, l1, .int x] st h = go d 39 3 [l0, l1, .int x] (.int x :: st) h := go_plain (q := (3, [l0, l1, .int x], (.int x :: st), h)) ke_39_2 rfl
theorem ke_39_3 : alook 39 3 = some (3, .iconst 3, 1, (0, 0, 0, 0, 0), ⟨"", "", ""⟩, "") := rfl
theorem ee_39_3 {d : Nat} {h : aH} {ls st : List Value} : go d 39 3 ls st h = go d 39 4 ls (.int 3 :: st) h := go_plain (q := (4, ls, (.int 3 :: st), h)) ke_39_3 rfl
theorem ke_39_4 : alook 39 4 = some (4, .if_icmp .ge 24, 3, (28, 0, 0, 0, 0), ⟨"", "", ""⟩, "") := rfl
theorem ee_39_4 {d : Nat} {ls st : List Value} {h : aH} {x y : Int32} : go d 39 4 ls (.int y :: .int x :: st) h = if y ≤ x then go d 39 28 ls st h else go d 39 7 ls st h := go_ci (go_if2 (tg := 28) (q := 7) (f := fun x y => decide (y ≤ x)) ke_39_4 rfl)
theorem ke_39_7 : alook 39 7 = some (7, .aload_n 0, 1, (0, 0, 0, 0, 0), ⟨"", "", ""⟩, "") := rfl
theorem ee_39_7 {d : Nat} {h : aH} {l1 l2 : Value} {x : Nat} {st : List Value} : go d 39 7 [.ref x, l1, l2] st h = go d 39 8 [.ref x, l1, l2] (.ref x :: st) h := go_plain (q := (8, [.ref x, l1, l2], (.ref x :: st), h)) ke_39_7 rfl
theorem ee_39_7N {d : Nat} {h : aH} {l1 l2 : Value} {st : List Value} : go d 39 7 [.null, l1, l2] st h = go d 39 8 [.null, l1, l2] (.null :: st) h := go_plain (q := (8, [.null, l1, l2], (.null :: st), h)) ke_39_7 rfl
theorem ke_39_8 : alook 39 8 = some (8, .getfield 11, 3, (0, 6, 6, 2, 0), ⟨"", "", ""⟩, "WordHides$TextList") := rfl
theorem ee_39_8 {d : Nat} {ls st : List Value} {h : aH} {r : Nat} : go d 39 8 ls (.ref r :: st) h = (gf h r 0 6 6).bind fun z => go d 39 11 ls (z :: st) h := go_getf ke_39_8
theorem ke_39_11 : alook 39 11 = some (11, .iload_n 2, 1, (0, 0, 0, 0, 0), ⟨"", "", ""⟩, "") := rfl
theorem ee_39_11 {d : Nat} {h : aH} {l0 l1 : Value} {x : Int32} {st : List Value} : go d 39 11 [l0, l1, .int x] st h = go d 39 12 [l0, l1, .int x] (.int x :: st) h := go_plain (q := (12, [l0, l1, .int x], (.int x :: st), h)) ke_39_11 rfl
theorem ke_39_12 : alook 39 12 = some (12, .aaload, 1, (0, 0, 0, 0, 0), ⟨"", "", ""⟩, "") := rfl
theorem ee_39_12 {d : Nat} {ls st : List Value} {h : aH} {r : Nat} {i : Int32} : go d 39 12 ls (.int i :: .ref r :: st) h = (aa h r i).bind fun z => go d 39 13 ls (z :: st) h := go_aald ke_39_12
theorem ke_39_13 : alook 39 13 = some (13, .aload_n 1, 1, (0, 0, 0, 0, 0), ⟨"", "", ""⟩, "") := rfl
theorem ee_39_13 {d : Nat} {h : aH} {l0 l2 : Value} {x : Nat} {st : List Value} : go d 39 13 [l0, .ref x, l2] st h = go d 39 14 [l0, .ref x, l2] (.ref x :: st) h := go_plain (q := (14, [l0, .ref x, l2], (.ref x :: st), h)) ke_39_13 rfl
theorem ee_39_13N {d : Nat} {h : aH} {l0 l2 : Value} {st : List Value} : go d 39 13 [l0, .null, l2] st h = go d 39 14 [l0, .null, l2] (.null :: st) h := go_plain (q := (14, [l0, .null, l2], (.null :: st), h)) ke_39_13 rfl
theorem ke_39_14 : alook 39 14 = some (14, .getfield 11, 3, (0, 6, 6, 2, 0), ⟨"", "", ""⟩, "WordHides$TextList") := rfl
theorem ee_39_14 {d : Nat} {ls st : List Value} {h : aH} {r : Nat} : go d 39 14 ls (.ref r :: st) h = (gf h r 0 6 6).bind fun z => go d 39 17 ls (z :: st) h := go_getf ke_39_14
theorem ke_39_17 : alook 39 17 = some (17, .iload_n 2, 1, (0, 0, 0, 0, 0), ⟨"", "", ""⟩, "") := rfl
theorem ee_39_17 {d : Nat} {h : aH} {l0 l1 : Value} {x : Int32} {st : List Value} : go d 39 17 [l0, l1, .int x] st h = go d 39 18 [l0, l1, .int x] (.int x :: st) h := go_plain (q := (18, [l0, l1, .int x], (.int x :: st), h)) ke_39_17 rfl
theorem ke_39_18 : alook 39 18 = some (18, .aaload, 1, (0, 0, 0, 0, 0), ⟨"", "", ""⟩, "") := rfl
theorem ee_39_18 {d : Nat} {ls st : List Value} {h : aH} {r : Nat} {i : Int32} : go d 39 18 ls (.int i :: .ref r :: st) h = (aa h r i).bind fun z => go d 39 19 ls (z :: st) h := go_aald ke_39_18
theorem ke_39_19 : alook 39 19 = some (19, .invokevirtual 24, 3, (1, 5, 34, 5, 34), ⟨"WordHides$Text", "copyFrom", "(LWordHides$Text;)V"⟩, "") := rfl
theorem ee_39_19 {d : Nat} {ls : List Value} {h : aH} {r0 : Nat} {r1 : Nat} : go (d + 1) 39 19 ls [.ref r0, .ref r1] h = if isC h r1 5 = true then (go d 34 0 [.ref r1, .ref r0] [] h).bind (fun q => go (d + 1) 39 22 ls (q.1.toList ++ []) q.2) else none := go_cv1 (as := [.ref r0]) (rest := []) (L := [.ref r1, .ref r0]) ke_39_19 rfl rfl rfl
theorem ke_39_22 : alook 39 22 = some (22, .iinc 2 1, 3, (0, 0, 0, 0, 0), ⟨"", "", ""⟩, "") := rfl
theorem ee_39_22 {d : Nat} {h : aH} {l0 l1 : Value} {x : Int32} {st : List Value} : go d 39 22 [l0, l1, .int x] st h = go d 39 25 [l0, l1, .int (x + 1)] st h := go_plain (q := (25, [l0, l1, .int (x + 1)], st, h)) ke_39_22 rfl
theorem ke_39_25 : alook 39 25 = some (25, .goto (-23), 3, (2, 0, 0, 0, 0), ⟨"", "", ""⟩, "") := rfl
theorem ee_39_25 {d : Nat} {h : aH} {ls st : List Value} : go d 39 25 ls st h = go d 39 2 ls st h := go_plain (q := (2, ls, st, h)) ke_39_25 rfl
theorem ke_39_28 : alook 39 28 = some (28, .aload_n 0, 1, (0, 0, 0, 0, 0), ⟨"", "", ""⟩, "") := rfl
theorem ee_39_28 {d : Nat} {h : aH} {l1 l2 : Value} {x : Nat} {st : List Value} : go d 39 28 [.ref x, l1, l2] st h = go d 39 29 [.ref x, l1, l2] (.ref x :: st) h := go_plain (q := (29, [.ref x, l1, l2], (.ref x :: st), h)) ke_39_28 rfl
theorem ee_39_28N {d : Nat} {h : aH} {l1 l2 : Value} {st : List Value} : go d 39 28 [.null, l1, l2] st h = go d 39 29 [.null, l1, l2] (.null :: st) h := go_plain (q := (29, [.null, l1, l2], (.null :: st), h)) ke_39_28 rfl
theorem ke_39_29 : alook 39 29 = some (29, .aload_n 1, 1, (0, 0, 0, 0, 0), ⟨"", "", ""⟩, "") := rfl
theorem ee_39_29 {d : Nat} {h : aH} {l0 l2 : Value} {x : Nat} {st : List Value} : go d 39 29 [l0, .ref x, l2] st h = go d 39 30 [l0, .ref x, l2] (.ref x :: st) h := go_plain (q := (30, [l0, .ref x, l2], (.ref x :: st), h)) ke_39_29 rfl
theorem ee_39_29N {d : Nat} {h : aH} {l0 l2 : Value} {st : List Value} : go d 39 29 [l0, .null, l2] st h = go d 39 30 [l0, .null, l2] (.null :: st) h := go_plain (q := (30, [l0, .null, l2], (.null :: st), h)) ke_39_29 rfl
theorem ke_39_30 : alook 39 30 = some (30, .getfield 17, 3, (1, 6, 6, 0, 0), ⟨"", "", ""⟩, "WordHides$TextList") := rfl
theorem ee_39_30 {d : Nat} {ls st : List Value} {h : aH} {r : Nat} : go d 39 30 ls (.ref r :: st) h = (gf h r 1 6 6).bind fun z => go d 39 33 ls (z :: st) h := go_getf ke_39_30
theorem ke_39_33 : alook 39 33 = some (33, .putfield 17, 3, (1, 6, 6, 0, 0), ⟨"", "", ""⟩, "WordHides$TextList") := rfl
theorem ee_39_33 {d : Nat} {ls st : List Value} {h : aH} {r : Nat} {w : Value} : go d 39 33 ls (w :: .ref r :: st) h = (pf h r 1 6 6 0 w).bind fun h' => go d 39 36 ls st h' := go_putf ke_39_33
theorem ke_39_36 : alook 39 36 = some (36, .return_, 1, (0, 0, 0, 0, 0), ⟨"", "", ""⟩, "") := rfl
theorem ee_39_36 {d : Nat} {ls : List Value} {h : aH} : go d 39 36 ls [] h = some (none, h) := go_ret ke_39_36 rfl rfl rfl
