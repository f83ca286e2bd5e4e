/-! the program as equations -/
theorem ke_41_0 : alook 41 0 = some (0, .iload_n 1, 1, (0, 0, 0, 0, 0), ⟨"", "", ""⟩, "") := rfl
theorem ee_41_0 {d : Nat} {h : aH} {l0 l2 : Value} {x : Int32} {st : List Value} : go d 41 0 [l0, .int x, l2] st h = go d 41 1 [l0, .int x, l2] (.int x :: st) h := go_plain (q := (1, [l0, .int x, l2], (.int x :: st), h)) ke_41_0 rfl
theorem ke_41_1 : alook 41 1 = some (1, .iconst 3, 1, (0, 0, 0, 0, 0), ⟨"", "", ""⟩, "") := rfl
theorem ee_41_1 {d : Nat} {h : aH} {ls st : List Value} : go d 41 1 ls st h = go d 41 2 ls (.int 3 :: st) h := go_plain (q := (2, ls, (.int 3 :: st), h)) ke_41_1 rfl
theorem ke_41_2 : alook 41 2 = some (2, .if_icmp .lt 8, 3, (10, 0, 0, 0, 0), ⟨"", "", ""⟩, "") := rfl
theorem ee_41_2 {d : Nat} {ls st : List Value} {h : aH} {x y : Int32} : go d 41 2 ls (.int y :: .int x :: st) h = if x < y then go d 41 10 ls st h else go d 41 5 ls st h := go_ci (go_if2 (tg := 10) (q := 5) (f := fun x y => decide (x < y)) ke_41_2 rfl)
theorem ke_41_5 : alook 41 5 = some (5, .iload_n 1, 1, (0, 0, 0, 0, 0), ⟨"", "", ""⟩, "") := rfl
theorem ee_41_5 {d : Nat} {h : aH} {l0 l2 : Value} {x : Int32} {st : List Value} : go d 41 5 [l0, .int x, l2] st h = go d 41 6 [l0, .int x, l2] (.int x :: st) h := go_plain (q := (6, [l0, .int x, l2], (.int x :: st), h)) ke_41_5 rfl
theorem ke_41_6 : alook 41 6 = some (6, .iconst 4, 1, (0, 0, 0, 0, 0), ⟨"", "", ""⟩, "") := rfl
theorem ee_41_6 {d : Nat} {h : aH} {ls st : List Value} : go d 41 6 ls st h = go d 41 7 ls (.int 4 :: st) h := go_plain (q := (7, ls, (.int 4 :: st), h)) ke_41_6 rfl
theorem ke_41_7 : alook 41 7 = some (7, .if_icmp .le 6, 3, (13, 0, 0, 0, 0), ⟨"", "", ""⟩, "") := rfl
theorem ee_41_7 {d : Nat} {ls st : List Value} {h : aH} {x y : Int32} : go d 41 7 ls (.int y :: .int x :: st) h = if x ≤ y then go d 41 13 ls st h else go d 41 10 ls st h := go_ci (go_if2 (tg := 13) (q := 10) (f := fun x y => decide (x ≤ y)) ke_41_7 rfl)
theorem ke_41_10 : alook 41 10 = some (10, .bipush (-2), 2, (0, 0, 0, 0, 0), ⟨"", "", ""⟩, "") := rfl
theorem ee_41_10 {d : Nat} {h : aH} {ls st : List Value} : go d 41 10 ls st h = go d 41 12 ls (.int (-2) :: st) h := go_plain (q := (12, ls, (.int (-2) :: st), h)) ke_41_10 rfl
theorem ke_41_12 : alook 41 12 = some (12, .ireturn, 1, (0, 0, 0, 0, 0), ⟨"", "", ""⟩, "") := rfl
theorem ee_41_12 {d : Nat} {ls : List Value} {h : aH} {v : Int32} : go d 41 12 ls [.int v] h = some (some (.int v), h) := go_iret ke_41_12
theorem ke_41_13 : alook 41 13 = some (13, .aload_n 0, 1, (0, 0, 0, 0, 0), ⟨"", "", ""⟩, "") := rfl
theorem ee_41_13 {d : Nat} {h : aH} {l1 l2 : Value} {x : Nat} {st : List Value} : go d 41 13 [.ref x, l1, l2] st h = go d 41 14 [.ref x, l1, l2] (.ref x :: st) h := go_plain (q := (14, [.ref x, l1, l2], (.ref x :: st), h)) ke_41_13 rfl
theorem ee_41_13N {d : Nat} {h : aH} {l1 l2 : Value} {st : List Value} : go d 41 13 [.null, l1, l2] st h = go d 41 14 [.null, l1, l2] (.null :: st) h := go_plain (q := (14, [.null, l1, l2], (.null :: st), h)) ke_41_13 rfl
theorem ke_41_14 : alook 41 14 = some (14, .getfield 26, 3, (2, 7, 7, 2, 0), ⟨"", "", ""⟩, "WordHides") := rfl
theorem ee_41_14 {d : Nat} {ls st : List Value} {h : aH} {r : Nat} : go d 41 14 ls (.ref r :: st) h = (gf h r 2 7 7).bind fun z => go d 41 17 ls (z :: st) h := go_getf ke_41_14
theorem ke_41_17 : alook 41 17 = some (17, .getfield 68, 3, (0, 0, 0, 2, 0), ⟨"", "", ""⟩, "WordHides$Board") := rfl
theorem ee_41_17 {d : Nat} {ls st : List Value} {h : aH} {r : Nat} : go d 41 17 ls (.ref r :: st) h = (gf h r 0 0 0).bind fun z => go d 41 20 ls (z :: st) h := go_getf ke_41_17
theorem ke_41_20 : alook 41 20 = some (20, .getfield 71, 3, (1, 4, 4, 2, 0), ⟨"", "", ""⟩, "WordHides$Square") := rfl
theorem ee_41_20 {d : Nat} {ls st : List Value} {h : aH} {r : Nat} : go d 41 20 ls (.ref r :: st) h = (gf h r 1 4 4).bind fun z => go d 41 23 ls (z :: st) h := go_getf ke_41_20
theorem ke_41_23 : alook 41 23 = some (23, .getfield 74, 3, (0, 3, 3, 0, 0), ⟨"", "", ""⟩, "WordHides$Lattice") := rfl
theorem ee_41_23 {d : Nat} {ls st : List Value} {h : aH} {r : Nat} : go d 41 23 ls (.ref r :: st) h = (gf h r 0 3 3).bind fun z => go d 41 26 ls (z :: st) h := go_getf ke_41_23
theorem ke_41_26 : alook 41 26 = some (26, .istore_n 2, 1, (0, 0, 0, 0, 0), ⟨"", "", ""⟩, "") := rfl
theorem ee_41_26 {d : Nat} {h : aH} {l0 l1 l2 : Value} {x : Int32} {st : List Value} : go d 41 26 [l0, l1, l2] (.int x :: st) h = go d 41 27 [l0, l1, .int x] st h := go_plain (q := (27, [l0, l1, .int x], st, h)) ke_41_26 rfl
theorem ke_41_27 : alook 41 27 = some (27, .aload_n 0, 1, (0, 0, 0, 0, 0), ⟨"", "", ""⟩, "") := rfl
theorem ee_41_27 {d : Nat} {h : aH} {l1 l2 : Value} {x : Nat} {st : List Value} : go d 41 27 [.ref x, l1, l2] st h = go d 41 28 [.ref x, l1, l2] (.ref x :: st) h := go_plain (q := (28, [.ref x, l1, l2], (.ref x :: st), h)) ke_41_27 rfl
theorem ee_41_27N {d : Nat} {h : aH} {l1 l2 : Value} {st : List Value} : go d 41 27 [.null, l1, l2] st h = go d 41 28 [.null, l1, l2] (.null :: st) h := go_plain (q := (28, [.null, l1, l2], (.null :: st), h)) ke_41_27 rfl
theorem ke_41_28 : alook 41 28 = some (28, .getfield 26, 3, (2, 7, 7, 2, 0), ⟨"", "", ""⟩, "WordHides") := rfl
theorem ee_41_28 {d : Nat} {ls st : List Value} {h : aH} {r : Nat} : go d 41 28 ls (.ref r :: st) h = (gf h r 2 7 7).bind fun z => go d 41 31 ls (z :: st) h := go_getf ke_41_28
theorem ke_41_31 : alook 41 31 = some (31, .getfield 68, 3, (0, 0, 0, 2, 0), ⟨"", "", ""⟩, "WordHides$Board") := rfl
theorem ee_41_31 {d : Nat} {ls st : List Value} {h : aH} {r : Nat} : go d 41 31 ls (.ref r :: st) h = (gf h r 0 0 0).bind fun z => go d 41 34 ls (z :: st) h := go_getf ke_41_31
theorem ke_41_34 : alook 41 34 = some (34, .iload_n 1, 1, (0, 0, 0, 0, 0), ⟨"", "", ""⟩, "") := rfl
theorem ee_41_34 {d : Nat} {h : aH} {l0 l2 : Value} {x : Int32} {st : List Value} : go d 41 34 [l0, .int x, l2] st h = go d 41 35 [l0, .int x, l2] (.int x :: st) h := go_plain (q := (35, [l0, .int x, l2], (.int x :: st), h)) ke_41_34 rfl
theorem ke_41_35 : alook 41 35 = some (35, .iconst 3, 1, (0, 0, 0, 0, 0), ⟨"", "", ""⟩, "") := rfl
theorem ee_41_35 {d : Nat} {h : aH} {ls st : List Value} : go d 41 35 ls st h = go d 41 36 ls (.int 3 :: st) h := go_plain (q := (36, ls, (.int 3 :: st), h)) ke_41_35 rfl
theorem ke_41_36 : alook 41 36 = some (36, .if_icmp .ne 10, 3, (46, 0, 0, 0, 0), ⟨"", "", ""⟩, "") := rfl
theorem ee_41_36 {d : Nat} {ls st : List Value} {h : aH} {x y : Int32} : go d 41 36 ls (.int y :: .int x :: st) h = if ¬ x = y then go d 41 46 ls st h else go d 41 39 ls st h := go_ci (go_if2 (tg := 46) (q := 39) (f := fun x y => decide (¬ x = y)) ke_41_36 rfl)
theorem ke_41_39 : alook 41 39 = some (39, .aload_n 0, 1, (0, 0, 0, 0, 0), ⟨"", "", ""⟩, "") := rfl
theorem ee_41_39 {d : Nat} {h : aH} {l1 l2 : Value} {x : Nat} {st : List Value} : go d 41 39 [.ref x, l1, l2] st h = go d 41 40 [.ref x, l1, l2] (.ref x :: st) h := go_plain (q := (40, [.ref x, l1, l2], (.ref x :: st), h)) ke_41_39 rfl
theorem ee_41_39N {d : Nat} {h : aH} {l1 l2 : Value} {st : List Value} : go d 41 39 [.null, l1, l2] st h = go d 41 40 [.null, l1, l2] (.null :: st) h := go_plain (q := (40, [.null, l1, l2], (.null :: st), h)) ke_41_39 rfl
theorem ke_41_40 : alook 41 40 = some (40, .getfield 14, 3, (0, 7, 7, 2, 0), ⟨"", "", ""⟩, "WordHides") := rfl
theorem ee_41_40 {d : Nat} {ls st : List Value} {h : aH} {r : Nat} : go d 41 40 ls (.ref r :: st) h = (gf h r 0 7 7).bind fun z => go d 41 43 ls (z :: st) h := go_getf ke_41_40
theorem ke_41_43 : alook 41 43 = some (43, .goto 7, 3, (50, 0, 0, 0, 0), ⟨"", "", ""⟩, "") := rfl
theorem ee_41_43 {d : Nat} {h : aH} {ls st : List Value} : go d 41 43 ls st h = go d 41 50 ls st h := go_plain (q := (50, ls, st, h)) ke_41_43 rfl
theorem ke_41_46 : alook 41 46 = some (46, .aload_n 0, 1, (0, 0, 0, 0, 0), ⟨"", "", ""⟩, "") := rfl
theorem ee_41_46 {d : Nat} {h : aH} {l1 l2 : Value} {x : Nat} {st : List Value} : go d 41 46 [.ref x, l1, l2] st h = go d 41 47 [.ref x, l1, l2] (.ref x :: st) h := go_plain (q := (47, [.ref x, l1, l2], (.ref x :: st), h)) ke_41_46 rfl
theorem ee_41_46N {d : Nat} {h : aH} {l1 l2 : Value} {st : List Value} : go d 41 46 [.null, l1, l2] st h = go d 41 47 [.null, l1, l2] (.null :: st) h := go_plain (q := (47, [.null, l1, l2], (.null :: st), h)) ke_41_46 rfl
theorem ke_41_47 : alook 41 47 = some (47, .getfield 18, 3, (1, 7, 7, 2, 0), ⟨"", "", ""⟩, "WordHides") := rfl
theorem ee_41_47 {d : Nat} {ls st : List Value} {h : aH} {r : Nat} : go d 41 47 ls (.ref r :: st) h = (gf h r 1 7 7).bind fun z => go d 41 50 ls (z :: st) h := go_getf ke_41_47
theorem ke_41_50 : alook 41 50 = some (50, .invokevirtual 77, 3, (1, 4, 22, 4, 22), ⟨"WordHides$Square", "clear", "(LWordHides$Lattice;)V"⟩, "") := rfl
theorem ee_41_50 {d : Nat} {ls : List Value} {h : aH} {r0 : Nat} {r1 : Nat} : go (d + 1) 41 50 ls [.ref r0, .ref r1] h = if isC h r1 4 = true then (go d 22 0 [.ref r1, .ref r0] [] h).bind (fun q => go (d + 1) 41 53 ls (q.1.toList ++ []) q.2) else none := go_cv1 (as := [.ref r0]) (rest := []) (L := [.ref r1, .ref r0]) ke_41_50 rfl rfl rfl
theorem ke_41_53 : alook 41 53 = some (53, .aload_n 0, 1, (0, 0, 0, 0, 0), ⟨"", "", ""⟩, "") := rfl
theorem ee_41_53 {d : Nat} {h : aH} {l1 l2 : Value} {x : Nat} {st : List Value} : go d 41 53 [.ref x, l1, l2] st h = go d 41 54 [.ref x, l1, l2] (.ref x :: st) h := go_plain (q := (54, [.ref x, l1, l2], (.ref x :: st), h)) ke_41_53 rfl
theorem ee_41_53N {d : Nat} {h : aH} {l1 l2 : Value} {st : List Value} : go d 41 53 [.null, l1, l2] st h = go d 41 54 [.null, l1, l2] (.null :: st) h := go_plain (q := (54, [.null, l1, l2], (.null :: st), h)) ke_41_53 rfl
theorem ke_41_54 : alook 41 54 = some (54, .invokevirtual 80, 3, (0, 7, 63, 7, 63), ⟨"WordHides", "forgetLayings", "()V"⟩, "") := rfl
theorem ee_41_54 {d : Nat} {ls : List Value} {h : aH} {r0 : Nat} : go (d + 1) 41 54 ls [.ref r0] h = if isC h r0 7 = true then (go d 63 0 [.ref r0] [] h).bind (fun q => go (d + 1) 41 57 ls (q.1.toList ++ []) q.2) else none := go_cv1 (as := []) (rest := []) (L := [.ref r0]) ke_41_54 rfl rfl rfl
theorem ke_41_57 : alook 41 57 = some (57, .iload_n 2, 1, (0, 0, 0, 0, 0), ⟨"", "", ""⟩, "") := rfl
theorem ee_41_57 {d : Nat} {h : aH} {l0 l1 : Value} {x : Int32} {st : List Value} : go d 41 57 [l0, l1, .int x] st h = go d 41 58 [l0, l1, .int x] (.int x :: st) h := go_plain (q := (58, [l0, l1, .int x], (.int x :: st), h)) ke_41_57 rfl
theorem ke_41_58 : alook 41 58 = some (58, .ireturn, 1, (0, 0, 0, 0, 0), ⟨"", "", ""⟩, "") := rfl
theorem ee_41_58 {d : Nat} {ls : List Value} {h : aH} {v : Int32} : go d 41 58 ls [.int v] h = some (some (.int v), h) := go_iret ke_41_58
theorem ke_42_0 : alook 42 0 = some (0, .aload_n 0, 1, (0, 0, 0, 0, 0), ⟨"", "", ""⟩, "") := rfl
theorem ee_42_0 {d : Nat} {h : aH} {l1 l2 l3 : Value} {x : Nat} {st : List Value} : go d 42 0 [.ref x, l1, l2, l3] st h = go d 42 1 [.ref x, l1, l2, l3] (.ref x :: st) h := go_plain (q := (1, [.ref x, l1, l2, l3], (.ref x :: st), h)) ke_42_0 rfl
theorem ee_42_0N {d : Nat} {h : aH} {l1 l2 l3 : Value} {st : List Value} : go d 42 0 [.null, l1, l2, l3] st h = go d 42 1 [.null, l1, l2, l3] (.null :: st) h := go_plain (q := (1, [.null, l1, l2, l3], (.null :: st), h)) ke_42_0 rfl
theorem ke_42_1 : alook 42 1 = some (1, .getfield 26, 3, (2, 7, 7, 2, 0), ⟨"", "", ""⟩, "WordHides") := rfl
theorem ee_42_1 {d : Nat} {ls st : List Value} {h : aH} {r : Nat} : go d 42 1 ls (.ref r :: st) h = (gf h r 2 7 7).bind fun z => go d 42 4 ls (z :: st) h := go_getf ke_42_1
theorem ke_42_4 : alook 42 4 = some (4, .getfield 68, 3, (0, 0, 0, 2, 0), ⟨"", "", ""⟩, "WordHides$Board") := rfl
theorem ee_42_4 {d : Nat} {ls st : List Value} {h : aH} {r : Nat} : go d 42 4 ls (.ref r :: st) h = (gf h r 0 0 0).bind fun z => go d 42 7 ls (z :: st) h := go_getf ke_42_4
theorem ke_42_7 : alook 42 7 = some (7, .getfield 71, 3, (1, 4, 4, 2, 0), ⟨"", "", ""⟩, "WordHides$Square") := rfl
theorem ee_42_7 {d : Nat} {ls st : List Value} {h : aH} {r : Nat} : go d 42 7 ls (.ref r :: st) h = (gf h r 1 4 4).bind fun z => go d 42 10 ls (z :: st) h := go_getf ke_42_7
theorem ke_42_10 : alook 42 10 = some (10, .iload_n 1, 1, (0, 0, 0, 0, 0), ⟨"", "", ""⟩, "") := rfl
theorem ee_42_10 {d : Nat} {h : aH} {l0 l2 l3 : Value} {x : Int32} {st : List Value} : go d 42 10 [l0, .int x, l2, l3] st h = go d 42 11 [l0, .int x, l2, l3] (.int x :: st) h := go_plain (q := (11, [l0, .int x, l2, l3], (.int x :: st), h)) ke_42_10 rfl
theorem ke_42_11 : alook 42 11 = some (11, .invokevirtual 83, 3, (1, 3, 12, 3, 12), ⟨"WordHides$Lattice", "hasCell", "(I)Z"⟩, "") := rfl
theorem ee_42_11 {d : Nat} {ls : List Value} {h : aH} {i0 : Int32} {r1 : Nat} : go (d + 1) 42 11 ls [.int i0, .ref r1] h = if isC h r1 3 = true then (go d 12 0 [.ref r1, .int i0] [] h).bind (fun q => go (d + 1) 42 14 ls (q.1.toList ++ []) q.2) else none := go_cv1 (as := [.int i0]) (rest := []) (L := [.ref r1, .int i0]) ke_42_11 rfl rfl rfl
theorem ke_42_14 : alook 42 14 = some (14, .ifCond .ne 5, 3, (19, 0, 0, 0, 0), ⟨"", "", ""⟩, "") := rfl
theorem ee_42_14 {d : Nat} {ls st : List Value} {h : aH} {x : Int32} : go d 42 14 ls (.int x :: st) h = if ¬ x = 0 then go d 42 19 ls st h else go d 42 17 ls st h := go_c1 (go_if1 (tg := 19) (q := 17) (f := fun x => decide (¬ x = 0)) ke_42_14 rfl)
theorem ke_42_17 : alook 42 17 = some (17, .iconst (-1), 1, (0, 0, 0, 0, 0), ⟨"", "", ""⟩, "") := rfl
theorem ee_42_17 {d : Nat} {h : aH} {ls st : List Value} : go d 42 17 ls st h = go d 42 18 ls (.int (-1) :: st) h := go_plain (q := (18, ls, (.int (-1) :: st), h)) ke_42_17 rfl
theorem ke_42_18 : alook 42 18 = some (18, .ireturn, 1, (0, 0, 0, 0, 0), ⟨"", "", ""⟩, "") := rfl
theorem ee_42_18 {d : Nat} {ls : List Value} {h : aH} {v : Int32} : go d 42 18 ls [.int v] h = some (some (.int v), h) := go_iret ke_42_18
theorem ke_42_19 : alook 42 19 = some (19, .iload_n 2, 1, (0, 0, 0, 0, 0), ⟨"", "", ""⟩, "") := rfl
theorem ee_42_19 {d : Nat} {h : aH} {l0 l1 l3 : Value} {x : Int32} {st : List Value} : go d 42 19 [l0, l1, .int x, l3] st h = go d 42 20 [l0, l1, .int x, l3] (.int x :: st) h := go_plain (q := (20, [l0, l1, .int x, l3], (.int x :: st), h)) ke_42_19 rfl
theorem ke_42_20 : alook 42 20 = some (20, .ifCond .eq 13, 3, (33, 0, 0, 0, 0), ⟨"", "", ""⟩, "") := rfl
theorem ee_42_20 {d : Nat} {ls st : List Value} {h : aH} {x : Int32} : go d 42 20 ls (.int x :: st) h = if x = 0 then go d 42 33 ls st h else go d 42 23 ls st h := go_c1 (go_if1 (tg := 33) (q := 23) (f := fun x => decide (x = 0)) ke_42_20 rfl)
theorem ke_42_23 : alook 42 23 = some (23, .iload_n 2, 1, (0, 0, 0, 0, 0), ⟨"", "", ""⟩, "") := rfl
theorem ee_42_23 {d : Nat} {h : aH} {l0 l1 l3 : Value} {x : Int32} {st : List Value} : go d 42 23 [l0, l1, .int x, l3] st h = go d 42 24 [l0, l1, .int x, l3] (.int x :: st) h := go_plain (q := (24, [l0, l1, .int x, l3], (.int x :: st), h)) ke_42_23 rfl
theorem ke_42_24 : alook 42 24 = some (24, .invokestatic 87, 3, (1, 0, 60, 0, 0), ⟨"WordHides", "isLetter", "(I)Z"⟩, "") := rfl
theorem ee_42_24 {d : Nat} {ls : List Value} {h : aH} {i0 : Int32} : go (d + 1) 42 24 ls [.int i0] h = (go d 60 0 [.int i0] [] h).bind (fun q => go (d + 1) 42 27 ls (q.1.toList ++ []) q.2) := go_cs (as := [.int i0]) (rest := []) (L := [.int i0]) ke_42_24 rfl rfl rfl
theorem ke_42_27 : alook 42 27 = some (27, .ifCond .ne 6, 3, (33, 0, 0, 0, 0), ⟨"", "", ""⟩, "") := rfl
theorem ee_42_27 {d : Nat} {ls st : List Value} {h : aH} {x : Int32} : go d 42 27 ls (.int x :: st) h = if ¬ x = 0 then go d 42 33 ls st h else go d 42 30 ls st h := go_c1 (go_if1 (tg := 33) (q := 30) (f := fun x => decide (¬ x = 0)) ke_42_27 rfl)
theorem ke_42_30 : alook 42 30 = some (30, .bipush (-2), 2, (0, 0, 0, 0, 0), ⟨"", "", ""⟩, "") := rfl
theorem ee_42_30 {d : Nat} {h : aH} {ls st : List Value} : go d 42 30 ls st h = go d 42 32 ls (.int (-2) :: st) h := go_plain (q := (32, ls, (.int (-2) :: st), h)) ke_42_30 rfl
theorem ke_42_32 : alook 42 32 = some (32, .ireturn, 1, (0, 0, 0, 0, 0), ⟨"", "", ""⟩, "") := rfl
theorem ee_42_32 {d : Nat} {ls : List Value} {h : aH} {v : Int32} : go d 42 32 ls [.int v] h = some (some (.int v), h) := go_iret ke_42_32
theorem ke_42_33 : alook 42 33 = some (33, .aload_n 0, 1, (0, 0, 0, 0, 0), ⟨"", "", ""⟩, "") := rfl
theorem ee_42_33 {d : Nat} {h : aH} {l1 l2 l3 : Value} {x : Nat} {st : List Value} : go d 42 33 [.ref x, l1, l2, l3] st h = go d 42 34 [.ref x, l1, l2, l3] (.ref x :: st) h := go_plain (q := (34, [.ref x, l1, l2, l3], (.ref x :: st), h)) ke_42_33 rfl
theorem ee_42_33N {d : Nat} {h : aH} {l1 l2 l3 : Value} {st : List Value} : go d 42 33 [.null, l1, l2, l3] st h = go d 42 34 [.null, l1, l2, l3] (.null :: st) h := go_plain (q := (34, [.null, l1, l2, l3], (.null :: st), h)) ke_42_33 rfl
theorem ke_42_34 : alook 42 34 = some (34, .getfield 26, 3, (2, 7, 7, 2, 0), ⟨"", "", ""⟩, "WordHides") := rfl
theorem ee_42_34 {d : Nat} {ls st : List Value} {h : aH} {r : Nat} : go d 42 34 ls (.ref r :: st) h = (gf h r 2 7 7).bind fun z => go d 42 37 ls (z :: st) h := go_getf ke_42_34
theorem ke_42_37 : alook 42 37 = some (37, .getfield 68, 3, (0, 0, 0, 2, 0), ⟨"", "", ""⟩, "WordHides$Board") := rfl
theorem ee_42_37 {d : Nat} {ls st : List Value} {h : aH} {r : Nat} : go d 42 37 ls (.ref r :: st) h = (gf h r 0 0 0).bind fun z => go d 42 40 ls (z :: st) h := go_getf ke_42_37
theorem ke_42_40 : alook 42 40 = some (40, .getfield 90, 3, (0, 4, 4, 2, 0), ⟨"", "", ""⟩, "WordHides$Square") := rfl
theorem ee_42_40 {d : Nat} {ls st : List Value} {h : aH} {r : Nat} : go d 42 40 ls (.ref r :: st) h = (gf h r 0 4 4).bind fun z => go d 42 43 ls (z :: st) h := go_getf ke_42_40
theorem ke_42_43 : alook 42 43 = some (43, .iload_n 1, 1, (0, 0, 0, 0, 0), ⟨"", "", ""⟩, "") := rfl
theorem ee_42_43 {d : Nat} {h : aH} {l0 l2 l3 : Value} {x : Int32} {st : List Value} : go d 42 43 [l0, .int x, l2, l3] st h = go d 42 44 [l0, .int x, l2, l3] (.int x :: st) h := go_plain (q := (44, [l0, .int x, l2, l3], (.int x :: st), h)) ke_42_43 rfl
theorem ke_42_44 : alook 42 44 = some (44, .iaload, 1, (0, 0, 0, 0, 0), ⟨"", "", ""⟩, "") := rfl
theorem ee_42_44 {d : Nat} {ls st : List Value} {h : aH} {r : Nat} {i : Int32} : go d 42 44 ls (.int i :: .ref r :: st) h = (ia h r i).bind fun z => go d 42 45 ls (.int z :: st) h := go_iald ke_42_44
theorem ke_42_45 : alook 42 45 = some (45, .istore_n 3, 1, (0, 0, 0, 0, 0), ⟨"", "", ""⟩, "") := rfl
theorem ee_42_45 {d : Nat} {h : aH} {l0 l1 l2 l3 : Value} {x : Int32} {st : List Value} : go d 42 45 [l0, l1, l2, l3] (.int x :: st) h = go d 42 46 [l0, l1, l2, .int x] st h := go_plain (q := (46, [l0, l1, l2, .int x], st, h)) ke_42_45 rfl
theorem ke_42_46 : alook 42 46 = some (46, .aload_n 0, 1, (0, 0, 0, 0, 0), ⟨"", "", ""⟩, "") := rfl
theorem ee_42_46 {d : Nat} {h : aH} {l1 l2 l3 : Value} {x : Nat} {st : List Value} : go d 42 46 [.ref x, l1, l2, l3] st h = go d 42 47 [.ref x, l1, l2, l3] (.ref x :: st) h := go_plain (q := (47, [.ref x, l1, l2, l3], (.ref x :: st), h)) ke_42_46 rfl
theorem ee_42_46N {d : Nat} {h : aH} {l1 l2 l3 : Value} {st : List Value} : go d 42 46 [.null, l1, l2, l3] st h = go d 42 47 [.null, l1, l2, l3] (.null :: st) h := go_plain (q := (47, [.null, l1, l2, l3], (.null :: st), h)) ke_42_46 rfl
theorem ke_42_47 : alook 42 47 = some (47, .getfield 26, 3, (2, 7, 7, 2, 0), ⟨"", "", ""⟩, "WordHides") := rfl
theorem ee_42_47 {d : Nat} {ls st : List Value} {h : aH} {r : Nat} : go d 42 47 ls (.ref r :: st) h = (gf h r 2 7 7).bind fun z => go d 42 50 ls (z :: st) h := go_getf ke_42_47
theorem ke_42_50 : alook 42 50 = some (50, .getfield 68, 3, (0, 0, 0, 2, 0), ⟨"", "", ""⟩, "WordHides$Board") := rfl
theorem ee_42_50 {d : Nat} {ls st : List Value} {h : aH} {r : Nat} : go d 42 50 ls (.ref r :: st) h = (gf h r 0 0 0).bind fun z => go d 42 53 ls (z :: st) h := go_getf ke_42_50
theorem ke_42_53 : alook 42 53 = some (53, .getfield 90, 3, (0, 4, 4, 2, 0), ⟨"", "", ""⟩, "WordHides$Square") := rfl
theorem ee_42_53 {d : Nat} {ls st : List Value} {h : aH} {r : Nat} : go d 42 53 ls (.ref r :: st) h = (gf h r 0 4 4).bind fun z => go d 42 56 ls (z :: st) h := go_getf ke_42_53
theorem ke_42_56 : alook 42 56 = some (56, .iload_n 1, 1, (0, 0, 0, 0, 0), ⟨"", "", ""⟩, "") := rfl
theorem ee_42_56 {d : Nat} {h : aH} {l0 l2 l3 : Value} {x : Int32} {st : List Value} : go d 42 56 [l0, .int x, l2, l3] st h = go d 42 57 [l0, .int x, l2, l3] (.int x :: st) h := go_plain (q := (57, [l0, .int x, l2, l3], (.int x :: st), h)) ke_42_56 rfl
theorem ke_42_57 : alook 42 57 = some (57, .iload_n 2, 1, (0, 0, 0, 0, 0), ⟨"", "", ""⟩, "") := rfl
theorem ee_42_57 {d : Nat} {h : aH} {l0 l1 l3 : Value} {x : Int32} {st : List Value} : go d 42 57 [l0, l1, .int x, l3] st h = go d 42 58 [l0, l1, .int x, l3] (.int x :: st) h := go_plain (q := (58, [l0, l1, .int x, l3], (.int x :: st), h)) ke_42_57 rfl
theorem ke_42_58 : alook 42 58 = some (58, .iastore, 1, (0, 0, 0, 0, 0), ⟨"", "", ""⟩, "") := rfl
theorem ee_42_58 {d : Nat} {ls st : List Value} {h : aH} {r : Nat} {i x : Int32} : go d 42 58 ls (.int x :: .int i :: .ref r :: st) h = (is_ h r i x).bind fun h' => go d 42 59 ls st h' := go_iast ke_42_58
theorem ke_42_59 : alook 42 59 = some (59, .aload_n 0, 1, (0, 0, 0, 0, 0), ⟨"", "", ""⟩, "") := rfl
theorem ee_42_59 {d : Nat} {h : aH} {l1 l2 l3 : Value} {x : Nat} {st : List Value} : go d 42 59 [.ref x, l1, l2, l3] st h = go d 42 60 [.ref x, l1, l2, l3] (.ref x :: st) h := go_plain (q := (60, [.ref x, l1, l2, l3], (.ref x :: st), h)) ke_42_59 rfl
theorem ee_42_59N {d : Nat} {h : aH} {l1 l2 l3 : Value} {st : List Value} : go d 42 59 [.null, l1, l2, l3] st h = go d 42 60 [.null, l1, l2, l3] (.null :: st) h := go_plain (q := (60, [.null, l1, l2, l3], (.null :: st), h)) ke_42_59 rfl
theorem ke_42_60 : alook 42 60 = some (60, .invokevirtual 80, 3, (0, 7, 63, 7, 63), ⟨"WordHides", "forgetLayings", "()V"⟩, "") := rfl
theorem ee_42_60 {d : Nat} {ls : List Value} {h : aH} {r0 : Nat} : go (d + 1) 42 60 ls [.ref r0] h = if isC h r0 7 = true then (go d 63 0 [.ref r0] [] h).bind (fun q => go (d + 1) 42 63 ls (q.1.toList ++ []) q.2) else none := go_cv1 (as := []) (rest := []) (L := [.ref r0]) ke_42_60 rfl rfl rfl
theorem ke_42_63 : alook 42 63 = some (63, .iload_n 3, 1, (0, 0, 0, 0, 0), ⟨"", "", ""⟩, "") := rfl
theorem ee_42_63 {d : Nat} {h : aH} {l0 l1 l2 : Value} {x : Int32} {st : List Value} : go d 42 63 [l0, l1, l2, .int x] st h = go d 42 64 [l0, l1, l2, .int x] (.int x :: st) h := go_plain (q := (64, [l0, l1, l2, .int x], (.int x :: st), h)) ke_42_63 rfl
theorem ke_42_64 : alook 42 64 = some (64, .ireturn, 1, (0, 0, 0, 0, 0), ⟨"", "", ""⟩, "") := rfl
theorem ee_42_64 {d : Nat} {ls : List Value} {h : aH} {v : Int32} : go d 42 64 ls [.int v] h = some (some (.int v), h) := go_iret ke_42_64
theorem ke_43_0 : alook 43 0 = some (0, .aload_n 0, 1, (0, 0, 0, 0, 0), ⟨"", "", ""⟩, "") := rfl
theorem ee_43_0 {d : Nat} {h : aH} {l1 l2 : Value} {x : Nat} {st : List Value} : go d 43 0 [.ref x, l1, l2] st h = go d 43 1 [.ref x, l1, l2] (.ref x :: st) h := go_plain (q := (1, [.ref x, l1, l2], (.ref x :: st), h)) ke_43_0 rfl
theorem ee_43_0N {d : Nat} {h : aH} {l1 l2 : Value} {st : List Value} : go d 43 0 [.null, l1, l2] st h = go d 43 1 [.null, l1, l2] (.null :: st) h := go_plain (q := (1, [.null, l1, l2], (.null :: st), h)) ke_43_0 rfl
theorem ke_43_1 : alook 43 1 = some (1, .getfield 26, 3, (2, 7, 7, 2, 0), ⟨"", "", ""⟩, "WordHides") := rfl
theorem ee_43_1 {d : Nat} {ls st : List Value} {h : aH} {r : Nat} : go d 43 1 ls (.ref r :: st) h = (gf h r 2 7 7).bind fun z => go d 43 4 ls (z :: st) h := go_getf ke_43_1
theorem ke_43_4 : alook 43 4 = some (4, .getfield 68, 3, (0, 0, 0, 2, 0), ⟨"", "", ""⟩, "WordHides$Board") := rfl
theorem ee_43_4 {d : Nat} {ls st : List Value} {h : aH} {r : Nat} : go d 43 4 ls (.ref r :: st) h = (gf h r 0 0 0).bind fun z => go d 43 7 ls (z :: st) h := go_getf ke_43_4
theorem ke_43_7 : alook 43 7 = some (7, .getfield 71, 3, (1, 4, 4, 2, 0), ⟨"", "", ""⟩, "WordHides$Square") := rfl
theorem ee_43_7 {d : Nat} {ls st : List Value} {h : aH} {r : Nat} : go d 43 7 ls (.ref r :: st) h = (gf h r 1 4 4).bind fun z => go d 43 10 ls (z :: st) h := go_getf ke_43_7
theorem ke_43_10 : alook 43 10 = some (10, .iload_n 1, 1, (0, 0, 0, 0, 0), ⟨"", "", ""⟩, "") := rfl
theorem ee_43_10 {d : Nat} {h : aH} {l0 l2 : Value} {x : Int32} {st : List Value} : go d 43 10 [l0, .int x, l2] st h = go d 43 11 [l0, .int x, l2] (.int x :: st) h := go_plain (q := (11, [l0, .int x, l2], (.int x :: st), h)) ke_43_10 rfl
theorem ke_43_11 : alook 43 11 = some (11, .invokevirtual 83, 3, (1, 3, 12, 3, 12), ⟨"WordHides$Lattice", "hasCell", "(I)Z"⟩, "") := rfl
theorem ee_43_11 {d : Nat} {ls : List Value} {h : aH} {i0 : Int32} {r1 : Nat} : go (d + 1) 43 11 ls [.int i0, .ref r1] h = if isC h r1 3 = true then (go d 12 0 [.ref r1, .int i0] [] h).bind (fun q => go (d + 1) 43 14 ls (q.1.toList ++ []) q.2) else none := go_cv1 (as := [.int i0]) (rest := []) (L := [.ref r1, .int i0]) ke_43_11 rfl rfl rfl
theorem ke_43_14 : alook 43 14 = some (14, .ifCond .ne 5, 3, (19, 0, 0, 0, 0), ⟨"", "", ""⟩, "") := rfl
theorem ee_43_14 {d : Nat} {ls st : List Value} {h : aH} {x : Int32} : go d 43 14 ls (.int x :: st) h = if ¬ x = 0 then go d 43 19 ls st h else go d 43 17 ls st h := go_c1 (go_if1 (tg := 19) (q := 17) (f := fun x => decide (¬ x = 0)) ke_43_14 rfl)
theorem ke_43_17 : alook 43 17 = some (17, .iconst (-1), 1, (0, 0, 0, 0, 0), ⟨"", "", ""⟩, "") := rfl
theorem ee_43_17 {d : Nat} {h : aH} {ls st : List Value} : go d 43 17 ls st h = go d 43 18 ls (.int (-1) :: st) h := go_plain (q := (18, ls, (.int (-1) :: st), h)) ke_43_17 rfl
theorem ke_43_18 : alook 43 18 = some (18, .ireturn, 1, (0, 0, 0, 0, 0), ⟨"", "", ""⟩, "") := rfl
theorem ee_43_18 {d : Nat} {ls : List Value} {h : aH} {v : Int32} : go d 43 18 ls [.int v] h = some (some (.int v), h) := go_iret ke_43_18
theorem ke_43_19 : alook 43 19 = some (19, .aload_n 0, 1, (0, 0, 0, 0, 0), ⟨"", "", ""⟩, "") := rfl
theorem ee_43_19 {d : Nat} {h : aH} {l1 l2 : Value} {x : Nat} {st : List Value} : go d 43 19 [.ref x, l1, l2] st h = go d 43 20 [.ref x, l1, l2] (.ref x :: st) h := go_plain (q := (20, [.ref x, l1, l2], (.ref x :: st), h)) ke_43_19 rfl
theorem ee_43_19N {d : Nat} {h : aH} {l1 l2 : Value} {st : List Value} : go d 43 19 [.null, l1, l2] st h = go d 43 20 [.null, l1, l2] (.null :: st) h := go_plain (q := (20, [.null, l1, l2], (.null :: st), h)) ke_43_19 rfl
theorem ke_43_20 : alook 43 20 = some (20, .getfield 26, 3, (2, 7, 7, 2, 0), ⟨"", "", ""⟩, "WordHides") := rfl
theorem ee_43_20 {d : Nat} {ls st : List Value} {h : aH} {r : Nat} : go d 43 20 ls (.ref r :: st) h = (gf h r 2 7 7).bind fun z => go d 43 23 ls (z :: st) h := go_getf ke_43_20
theorem ke_43_23 : alook 43 23 = some (23, .getfield 68, 3, (0, 0, 0, 2, 0), ⟨"", "", ""⟩, "WordHides$Board") := rfl
theorem ee_43_23 {d : Nat} {ls st : List Value} {h : aH} {r : Nat} : go d 43 23 ls (.ref r :: st) h = (gf h r 0 0 0).bind fun z => go d 43 26 ls (z :: st) h := go_getf ke_43_23
theorem ke_43_26 : alook 43 26 = some (26, .getfield 90, 3, (0, 4, 4, 2, 0), ⟨"", "", ""⟩, "WordHides$Square") := rfl
theorem ee_43_26 {d : Nat} {ls st : List Value} {h : aH} {r : Nat} : go d 43 26 ls (.ref r :: st) h = (gf h r 0 4 4).bind fun z => go d 43 29 ls (z :: st) h := go_getf ke_43_26
theorem ke_43_29 : alook 43 29 = some (29, .iload_n 1, 1, (0, 0, 0, 0, 0), ⟨"", "", ""⟩, "") := rfl
theorem ee_43_29 {d : Nat} {h : aH} {l0 l2 : Value} {x : Int32} {st : List Value} : go d 43 29 [l0, .int x, l2] st h = go d 43 30 [l0, .int x, l2] (.int x :: st) h := go_plain (q := (30, [l0, .int x, l2], (.int x :: st), h)) ke_43_29 rfl
theorem ke_43_30 : alook 43 30 = some (30, .iaload, 1, (0, 0, 0, 0, 0), ⟨"", "", ""⟩, "") := rfl
theorem ee_43_30 {d : Nat} {ls st : List Value} {h : aH} {r : Nat} {i : Int32} : go d 43 30 ls (.int i :: .ref r :: st) h = (ia h r i).bind fun z => go d 43 31 ls (.int z :: st) h := go_iald ke_43_30
theorem ke_43_31 : alook 43 31 = some (31, .istore_n 2, 1, (0, 0, 0, 0, 0), ⟨"", "", ""⟩, "") := rfl
theorem ee_43_31 {d : Nat} {h : aH} {l0 l1 l2 : Value} {x : Int32} {st : List Value} : go d 43 31 [l0, l1, l2] (.int x :: st) h = go d 43 32 [l0, l1, .int x] st h := go_plain (q := (32, [l0, l1, .int x], st, h)) ke_43_31 rfl
theorem ke_43_32 : alook 43 32 = some (32, .iload_n 2, 1, (0, 0, 0, 0, 0), ⟨"", "", ""⟩, "") := rfl
theorem ee_43_32 {d : Nat} {h : aH} {l0 l1 : Value} {x : Int32} {st : List Value} : go d 43 32 [l0, l1, .int x] st h = go d 43 33 [l0, l1, .int x] (.int x :: st) h := go_plain (q := (33, [l0, l1, .int x], (.int x :: st), h)) ke_43_32 rfl
theorem ke_43_33 : alook 43 33 = some (33, .ifCond .ne 8, 3, (41, 0, 0, 0, 0), ⟨"", "", ""⟩, "") := rfl
theorem ee_43_33 {d : Nat} {ls st : List Value} {h : aH} {x : Int32} : go d 43 33 ls (.int x :: st) h = if ¬ x = 0 then go d 43 41 ls st h else go d 43 36 ls st h := go_c1 (go_if1 (tg := 41) (q := 36) (f := fun x => decide (¬ x = 0)) ke_43_33 rfl)
theorem ke_43_36 : alook 43 36 = some (36, .bipush (-6), 2, (0, 0, 0, 0, 0), ⟨"", "", ""⟩, "") := rfl
theorem ee_43_36 {d : Nat} {h : aH} {ls st : List Value} : go d 43 36 ls st h = go d 43 38 ls (.int (-6) :: st) h := go_plain (q := (38, ls, (.int (-6) :: st), h)) ke_43_36 rfl
theorem ke_43_38 : alook 43 38 = some (38, .goto 4, 3, (42, 0, 0, 0, 0), ⟨"", "", ""⟩, "") := rfl
theorem ee_43_38 {d : Nat} {h : aH} {ls st : List Value} : go d 43 38 ls st h = go d 43 42 ls st h := go_plain (q := (42, ls, st, h)) ke_43_38 rfl
theorem ke_43_41 : alook 43 41 = some (41, .iload_n 2, 1, (0, 0, 0, 0, 0), ⟨"", "", ""⟩, "") := rfl
theorem ee_43_41 {d : Nat} {h : aH} {l0 l1 : Value} {x : Int32} {st : List Value} : go d 43 41 [l0, l1, .int x] st h = go d 43 42 [l0, l1, .int x] (.int x :: st) h := go_plain (q := (42, [l0, l1, .int x], (.int x :: st), h)) ke_43_41 rfl
theorem ke_43_42 : alook 43 42 = some (42, .ireturn, 1, (0, 0, 0, 0, 0), ⟨"", "", ""⟩, "") := rfl
theorem ee_43_42 {d : Nat} {ls : List Value} {h : aH} {v : Int32} : go d 43 42 ls [.int v] h = some (some (.int v), h) := go_iret ke_43_42
theorem ke_44_0 : alook 44 0 = some (0, .iload_n 1, 1, (0, 0, 0, 0, 0), ⟨"", "", ""⟩, "") := rfl
theorem ee_44_0 {d : Nat} {h : aH} {l0 : Value} {x : Int32} {st : List Value} : go d 44 0 [l0, .int x] st h = go d 44 1 [l0, .int x] (.int x :: st) h := go_plain (q := (1, [l0, .int x], (.int x :: st), h)) ke_44_0 rfl
theorem ke_44_1 : alook 44 1 = some (1, .invokestatic 87, 3, (1, 0, 60, 0, 0), ⟨"WordHides", "isLetter", "(I)Z"⟩, "") := rfl
theorem ee_44_1 {d : Nat} {ls : List Value} {h : aH} {i0 : Int32} : go (d + 1) 44 1 ls [.int i0] h = (go d 60 0 [.int i0] [] h).bind (fun q => go (d + 1) 44 4 ls (q.1.toList ++ []) q.2) := go_cs (as := [.int i0]) (rest := []) (L := [.int i0]) ke_44_1 rfl rfl rfl
theorem ke_44_4 : alook 44 4 = some (4, .ifCond .ne 6, 3, (10, 0, 0, 0, 0), ⟨"", "", ""⟩, "") := rfl
theorem ee_44_4 {d : Nat} {ls st : List Value} {h : aH} {x : Int32} : go d 44 4 ls (.int x :: st) h = if ¬ x = 0 then go d 44 10 ls st h else go d 44 7 ls st h := go_c1 (go_if1 (tg := 10) (q := 7) (f := fun x => decide (¬ x = 0)) ke_44_4 rfl)
theorem ke_44_7 : alook 44 7 = some (7, .bipush (-2), 2, (0, 0, 0, 0, 0), ⟨"", "", ""⟩, "") := rfl
theorem ee_44_7 {d : Nat} {h : aH} {ls st : List Value} : go d 44 7 ls st h = go d 44 9 ls (.int (-2) :: st) h := go_plain (q := (9, ls, (.int (-2) :: st), h)) ke_44_7 rfl
theorem ke_44_9 : alook 44 9 = some (9, .ireturn, 1, (0, 0, 0, 0, 0), ⟨"", "", ""⟩, "") := rfl
theorem ee_44_9 {d : Nat} {ls : List Value} {h : aH} {v : Int32} : go d 44 9 ls [.int v] h = some (some (.int v), h) := go_iret ke_44_9
theorem ke_44_10 : alook 44 10 = some (10, .aload_n 0, 1, (0, 0, 0, 0, 0), ⟨"", "", ""⟩, "") := rfl
theorem ee_44_10 {d : Nat} {h : aH} {l1 : Value} {x : Nat} {st : List Value} : go d 44 10 [.ref x, l1] st h = go d 44 11 [.ref x, l1] (.ref x :: st) h := go_plain (q := (11, [.ref x, l1], (.ref x :: st), h)) ke_44_10 rfl
theorem ee_44_10N {d : Nat} {h : aH} {l1 : Value} {st : List Value} : go d 44 10 [.null, l1] st h = go d 44 11 [.null, l1] (.null :: st) h := go_plain (q := (11, [.null, l1], (.null :: st), h)) ke_44_10 rfl
theorem ke_44_11 : alook 44 11 = some (11, .getfield 37, 3, (4, 7, 7, 2, 0), ⟨"", "", ""⟩, "WordHides") := rfl
theorem ee_44_11 {d : Nat} {ls st : List Value} {h : aH} {r : Nat} : go d 44 11 ls (.ref r :: st) h = (gf h r 4 7 7).bind fun z => go d 44 14 ls (z :: st) h := go_getf ke_44_11
theorem ke_44_14 : alook 44 14 = some (14, .getfield 94, 3, (1, 5, 5, 0, 0), ⟨"", "", ""⟩, "WordHides$Text") := rfl
theorem ee_44_14 {d : Nat} {ls st : List Value} {h : aH} {r : Nat} : go d 44 14 ls (.ref r :: st) h = (gf h r 1 5 5).bind fun z => go d 44 17 ls (z :: st) h := go_getf ke_44_14
theorem ke_44_17 : alook 44 17 = some (17, .bipush 16, 2, (0, 0, 0, 0, 0), ⟨"", "", ""⟩, "") := rfl
theorem ee_44_17 {d : Nat} {h : aH} {ls st : List Value} : go d 44 17 ls st h = go d 44 19 ls (.int 16 :: st) h := go_plain (q := (19, ls, (.int 16 :: st), h)) ke_44_17 rfl
theorem ke_44_19 : alook 44 19 = some (19, .if_icmp .lt 6, 3, (25, 0, 0, 0, 0), ⟨"", "", ""⟩, "") := rfl
theorem ee_44_19 {d : Nat} {ls st : List Value} {h : aH} {x y : Int32} : go d 44 19 ls (.int y :: .int x :: st) h = if x < y then go d 44 25 ls st h else go d 44 22 ls st h := go_ci (go_if2 (tg := 25) (q := 22) (f := fun x y => decide (x < y)) ke_44_19 rfl)
theorem ke_44_22 : alook 44 22 = some (22, .bipush (-4), 2, (0, 0, 0, 0, 0), ⟨"", "", ""⟩, "") := rfl
theorem ee_44_22 {d : Nat} {h : aH} {ls st : List Value} : go d 44 22 ls st h = go d 44 24 ls (.int (-4) :: st) h := go_plain (q := (24, ls, (.int (-4) :: st), h)) ke_44_22 rfl
theorem ke_44_24 : alook 44 24 = some (24, .ireturn, 1, (0, 0, 0, 0, 0), ⟨"", "", ""⟩, "") := rfl
theorem ee_44_24 {d : Nat} {ls : List Value} {h : aH} {v : Int32} : go d 44 24 ls [.int v] h = some (some (.int v), h) := go_iret ke_44_24
theorem ke_44_25 : alook 44 25 = some (25, .aload_n 0, 1, (0, 0, 0, 0, 0), ⟨"", "", ""⟩, "") := rfl
theorem ee_44_25 {d : Nat} {h : aH} {l1 : Value} {x : Nat} {st : List Value} : go d 44 25 [.ref x, l1] st h = go d 44 26 [.ref x, l1] (.ref x :: st) h := go_plain (q := (26, [.ref x, l1], (.ref x :: st), h)) ke_44_25 rfl
theorem ee_44_25N {d : Nat} {h : aH} {l1 : Value} {st : List Value} : go d 44 25 [.null, l1] st h = go d 44 26 [.null, l1] (.null :: st) h := go_plain (q := (26, [.null, l1], (.null :: st), h)) ke_44_25 rfl
theorem ke_44_26 : alook 44 26 = some (26, .getfield 37, 3, (4, 7, 7, 2, 0), ⟨"", "", ""⟩, "WordHides") := rfl
theorem ee_44_26 {d : Nat} {ls st : List Value} {h : aH} {r : Nat} : go d 44 26 ls (.ref r :: st) h = (gf h r 4 7 7).bind fun z => go d 44 29 ls (z :: st) h := go_getf ke_44_26
theorem ke_44_29 : alook 44 29 = some (29, .iload_n 1, 1, (0, 0, 0, 0, 0), ⟨"", "", ""⟩, "") := rfl
theorem ee_44_29 {d : Nat} {h : aH} {l0 : Value} {x : Int32} {st : List Value} : go d 44 29 [l0, .int x] st h = go d 44 30 [l0, .int x] (.int x :: st) h := go_plain (q := (30, [l0, .int x], (.int x :: st), h)) ke_44_29 rfl
theorem ke_44_30 : alook 44 30 = some (30, .invokevirtual 97, 3, (1, 5, 33, 5, 33), ⟨"WordHides$Text", "append", "(I)V"⟩, "") := rfl
theorem ee_44_30 {d : Nat} {ls : List Value} {h : aH} {i0 : Int32} {r1 : Nat} : go (d + 1) 44 30 ls [.int i0, .ref r1] h = if isC h r1 5 = true then (go d 33 0 [.ref r1, .int i0] [] h).bind (fun q => go (d + 1) 44 33 ls (q.1.toList ++ []) q.2) else none := go_cv1 (as := [.int i0]) (rest := []) (L := [.ref r1, .int i0]) ke_44_30 rfl rfl rfl
theorem ke_44_33 : alook 44 33 = some (33, .aload_n 0, 1, (0, 0, 0, 0, 0), ⟨"", "", ""⟩, "") := rfl
theorem ee_44_33 {d : Nat} {h : aH} {l1 : Value} {x : Nat} {st : List Value} : go d 44 33 [.ref x, l1] st h = go d 44 34 [.ref x, l1] (.ref x :: st) h := go_plain (q := (34, [.ref x, l1], (.ref x :: st), h)) ke_44_33 rfl
theorem ee_44_33N {d : Nat} {h : aH} {l1 : Value} {st : List Value} : go d 44 33 [.null, l1] st h = go d 44 34 [.null, l1] (.null :: st) h := go_plain (q := (34, [.null, l1], (.null :: st), h)) ke_44_33 rfl
theorem ke_44_34 : alook 44 34 = some (34, .getfield 37, 3, (4, 7, 7, 2, 0), ⟨"", "", ""⟩, "WordHides") := rfl
theorem ee_44_34 {d : Nat} {ls st : List Value} {h : aH} {r : Nat} : go d 44 34 ls (.ref r :: st) h = (gf h r 4 7 7).bind fun z => go d 44 37 ls (z :: st) h := go_getf ke_44_34
theorem ke_44_37 : alook 44 37 = some (37, .getfield 94, 3, (1, 5, 5, 0, 0), ⟨"", "", ""⟩, "WordHides$Text") := rfl
theorem ee_44_37 {d : Nat} {ls st : List Value} {h : aH} {r : Nat} : go d 44 37 ls (.ref r :: st) h = (gf h r 1 5 5).bind fun z => go d 44 40 ls (z :: st) h := go_getf ke_44_37
theorem ke_44_40 : alook 44 40 = some (40, .ireturn, 1, (0, 0, 0, 0, 0), ⟨"", "", ""⟩, "") := rfl
theorem ee_44_40 {d : Nat} {ls : List Value} {h : aH} {v : Int32} : go d 44 40 ls [.int v] h = some (some (.int v), h) := go_iret ke_44_40
theorem ke_45_0 : alook 45 0 = some (0, .aload_n 0, 1, (0, 0, 0, 0, 0), ⟨"", "", ""⟩, "") := rfl
theorem ee_45_0 {d : Nat} {h : aH} {l1 : Value} {x : Nat} {st : List Value} : go d 45 0 [.ref x, l1] st h = go d 45 1 [.ref x, l1] (.ref x :: st) h := go_plain (q := (1, [.ref x, l1], (.ref x :: st), h)) ke_45_0 rfl
theorem ee_45_0N {d : Nat} {h : aH} {l1 : Value} {st : List Value} : go d 45 0 [.null, l1] st h = go d 45 1 [.null, l1] (.null :: st) h := go_plain (q := (1, [.null, l1], (.null :: st), h)) ke_45_0 rfl
theorem ke_45_1 : alook 45 1 = some (1, .getfield 37, 3, (4, 7, 7, 2, 0), ⟨"", "", ""⟩, "WordHides") := rfl
theorem ee_45_1 {d : Nat} {ls st : List Value} {h : aH} {r : Nat} : go d 45 1 ls (.ref r :: st) h = (gf h r 4 7 7).bind fun z => go d 45 4 ls (z :: st) h := go_getf ke_45_1
theorem ke_45_4 : alook 45 4 = some (4, .getfield 94, 3, (1, 5, 5, 0, 0), ⟨"", "", ""⟩, "WordHides$Text") := rfl
theorem ee_45_4 {d : Nat} {ls st : List Value} {h : aH} {r : Nat} : go d 45 4 ls (.ref r :: st) h = (gf h r 1 5 5).bind fun z => go d 45 7 ls (z :: st) h := go_getf ke_45_4
theorem ke_45_7 : alook 45 7 = some (7, .istore_n 1, 1, (0, 0, 0, 0, 0), ⟨"", "", ""⟩, "") := rfl
theorem ee_45_7 {d : Nat} {h : aH} {l0 l1 : Value} {x : Int32} {st : List Value} : go d 45 7 [l0, l1] (.int x :: st) h = go d 45 8 [l0, .int x] st h := go_plain (q := (8, [l0, .int x], st, h)) ke_45_7 rfl
theorem ke_45_8 : alook 45 8 = some (8, .aload_n 0, 1, (0, 0, 0, 0, 0), ⟨"", "", ""⟩, "") := rfl
theorem ee_45_8 {d : Nat} {h : aH} {l1 : Value} {x : Nat} {st : List Value} : go d 45 8 [.ref x, l1] st h = go d 45 9 [.ref x, l1] (.ref x :: st) h := go_plain (q := (9, [.ref x, l1], (.ref x :: st), h)) ke_45_8 rfl
theorem ee_45_8N {d : Nat} {h : aH} {l1 : Value} {st : List Value} : go d 45 8 [.null, l1] st h = go d 45 9 [.null, l1] (.null :: st) h := go_plain (q := (9, [.null, l1], (.null :: st), h)) ke_45_8 rfl
theorem ke_45_9 : alook 45 9 = some (9, .getfield 37, 3, (4, 7, 7, 2, 0), ⟨"", "", ""⟩, "WordHides") := rfl
theorem ee_45_9 {d : Nat} {ls st : List Value} {h : aH} {r : Nat} : go d 45 9 ls (.ref r :: st) h = (gf h r 4 7 7).bind fun z => go d 45 12 ls (z :: st) h := go_getf ke_45_9
theorem ke_45_12 : alook 45 12 = some (12, .iconst 0, 1, (0, 0, 0, 0, 0), ⟨"", "", ""⟩, "") := rfl
theorem ee_45_12 {d : Nat} {h : aH} {ls st : List Value} : go d 45 12 ls st h = go d 45 13 ls (.int 0 :: st) h := go_plain (q := (13, ls, (.int 0 :: st), h)) ke_45_12 rfl
theorem ke_45_13 : alook 45 13 = some (13, .putfield 94, 3, (1, 5, 5, 0, 0), ⟨"", "", ""⟩, "WordHides$Text") := rfl
theorem ee_45_13 {d : Nat} {ls st : List Value} {h : aH} {r : Nat} {w : Value} : go d 45 13 ls (w :: .ref r :: st) h = (pf h r 1 5 5 0 w).bind fun h' => go d 45 16 ls st h' := go_putf ke_45_13
theorem ke_45_16 : alook 45 16 = some (16, .iload_n 1, 1, (0, 0, 0, 0, 0), ⟨"", "", ""⟩, "") := rfl
theorem ee_45_16 {d : Nat} {h : aH} {l0 : Value} {x : Int32} {st : List Value} : go d 45 16 [l0, .int x] st h = go d 45 17 [l0, .int x] (.int x :: st) h := go_plain (q := (17, [l0, .int x], (.int x :: st), h)) ke_45_16 rfl
theorem ke_45_17 : alook 45 17 = some (17, .ireturn, 1, (0, 0, 0, 0, 0), ⟨"", "", ""⟩, "") := rfl
theorem ee_45_17 {d : Nat} {ls : List Value} {h : aH} {v : Int32} : go d 45 17 ls [.int v] h = some (some (.int v), h) := go_iret ke_45_17
theorem ke_46_0 : alook 46 0 = some (0, .iload_n 1, 1, (0, 0, 0, 0, 0), ⟨"", "", ""⟩, "") := rfl
theorem ee_46_0 {d : Nat} {h : aH} {l0 l2 : Value} {x : Int32} {st : List Value} : go d 46 0 [l0, .int x, l2] st h = go d 46 1 [l0, .int x, l2] (.int x :: st) h := go_plain (q := (1, [l0, .int x, l2], (.int x :: st), h)) ke_46_0 rfl
theorem ke_46_1 : alook 46 1 = some (1, .ifCond .lt 8, 3, (9, 0, 0, 0, 0), ⟨"", "", ""⟩, "") := rfl
theorem ee_46_1 {d : Nat} {ls st : List Value} {h : aH} {x : Int32} : go d 46 1 ls (.int x :: st) h = if x < 0 then go d 46 9 ls st h else go d 46 4 ls st h := go_c1 (go_if1 (tg := 9) (q := 4) (f := fun x => decide (x < 0)) ke_46_1 rfl)
theorem ke_46_4 : alook 46 4 = some (4, .iload_n 1, 1, (0, 0, 0, 0, 0), ⟨"", "", ""⟩, "") := rfl
theorem ee_46_4 {d : Nat} {h : aH} {l0 l2 : Value} {x : Int32} {st : List Value} : go d 46 4 [l0, .int x, l2] st h = go d 46 5 [l0, .int x, l2] (.int x :: st) h := go_plain (q := (5, [l0, .int x, l2], (.int x :: st), h)) ke_46_4 rfl
theorem ke_46_5 : alook 46 5 = some (5, .iconst 2, 1, (0, 0, 0, 0, 0), ⟨"", "", ""⟩, "") := rfl
theorem ee_46_5 {d : Nat} {h : aH} {ls st : List Value} : go d 46 5 ls st h = go d 46 6 ls (.int 2 :: st) h := go_plain (q := (6, ls, (.int 2 :: st), h)) ke_46_5 rfl
theorem ke_46_6 : alook 46 6 = some (6, .if_icmp .le 6, 3, (12, 0, 0, 0, 0), ⟨"", "", ""⟩, "") := rfl
theorem ee_46_6 {d : Nat} {ls st : List Value} {h : aH} {x y : Int32} : go d 46 6 ls (.int y :: .int x :: st) h = if x ≤ y then go d 46 12 ls st h else go d 46 9 ls st h := go_ci (go_if2 (tg := 12) (q := 9) (f := fun x y => decide (x ≤ y)) ke_46_6 rfl)
theorem ke_46_9 : alook 46 9 = some (9, .bipush (-2), 2, (0, 0, 0, 0, 0), ⟨"", "", ""⟩, "") := rfl
theorem ee_46_9 {d : Nat} {h : aH} {ls st : List Value} : go d 46 9 ls st h = go d 46 11 ls (.int (-2) :: st) h := go_plain (q := (11, ls, (.int (-2) :: st), h)) ke_46_9 rfl
theorem ke_46_11 : alook 46 11 = some (11, .ireturn, 1, (0, 0, 0, 0, 0), ⟨"", "", ""⟩, "") := rfl
theorem ee_46_11 {d : Nat} {ls : List Value} {h : aH} {v : Int32} : go d 46 11 ls [.int v] h = some (some (.int v), h) := go_iret ke_46_11
theorem ke_46_12 : alook 46 12 = some (12, .aload_n 0, 1, (0, 0, 0, 0, 0), ⟨"", "", ""⟩, "") := rfl
theorem ee_46_12 {d : Nat} {h : aH} {l1 l2 : Value} {x : Nat} {st : List Value} : go d 46 12 [.ref x, l1, l2] st h = go d 46 13 [.ref x, l1, l2] (.ref x :: st) h := go_plain (q := (13, [.ref x, l1, l2], (.ref x :: st), h)) ke_46_12 rfl
theorem ee_46_12N {d : Nat} {h : aH} {l1 l2 : Value} {st : List Value} : go d 46 12 [.null, l1, l2] st h = go d 46 13 [.null, l1, l2] (.null :: st) h := go_plain (q := (13, [.null, l1, l2], (.null :: st), h)) ke_46_12 rfl
theorem ke_46_13 : alook 46 13 = some (13, .getfield 37, 3, (4, 7, 7, 2, 0), ⟨"", "", ""⟩, "WordHides") := rfl
theorem ee_46_13 {d : Nat} {ls st : List Value} {h : aH} {r : Nat} : go d 46 13 ls (.ref r :: st) h = (gf h r 4 7 7).bind fun z => go d 46 16 ls (z :: st) h := go_getf ke_46_13
theorem ke_46_16 : alook 46 16 = some (16, .getfield 94, 3, (1, 5, 5, 0, 0), ⟨"", "", ""⟩, "WordHides$Text") := rfl
theorem ee_46_16 {d : Nat} {ls st : List Value} {h : aH} {r : Nat} : go d 46 16 ls (.ref r :: st) h = (gf h r 1 5 5).bind fun z => go d 46 19 ls (z :: st) h := go_getf ke_46_16
theorem ke_46_19 : alook 46 19 = some (19, .getstatic 100, 3, (2, 0, 0, 0, 0), ⟨"WordHides", "LEAST_LETTERS", "[I"⟩, "WordHides") := rfl
theorem ee_46_19 {d : Nat} {h : aH} {ls st : List Value} : go d 46 19 ls st h = go d 46 22 ls (.ref 2 :: st) h := go_plain (q := (22, ls, (.ref 2 :: st), h)) ke_46_19 rfl
theorem ke_46_22 : alook 46 22 = some (22, .iload_n 1, 1, (0, 0, 0, 0, 0), ⟨"", "", ""⟩, "") := rfl
theorem ee_46_22 {d : Nat} {h : aH} {l0 l2 : Value} {x : Int32} {st : List Value} : go d 46 22 [l0, .int x, l2] st h = go d 46 23 [l0, .int x, l2] (.int x :: st) h := go_plain (q := (23, [l0, .int x, l2], (.int x :: st), h)) ke_46_22 rfl
theorem ke_46_23 : alook 46 23 = some (23, .iaload, 1, (0, 0, 0, 0, 0), ⟨"", "", ""⟩, "") := rfl
theorem ee_46_23 {d : Nat} {ls st : List Value} {h : aH} {r : Nat} {i : Int32} : go d 46 23 ls (.int i :: .ref r :: st) h = (ia h r i).bind fun z => go d 46 24 ls (.int z :: st) h := go_iald ke_46_23
theorem ke_46_24 : alook 46 24 = some (24, .if_icmp .lt 18, 3, (42, 0, 0, 0, 0), ⟨"", "", ""⟩, "") := rfl
theorem ee_46_24 {d : Nat} {ls st : List Value} {h : aH} {x y : Int32} : go d 46 24 ls (.int y :: .int x :: st) h = if x < y then go d 46 42 ls st h else go d 46 27 ls st h := go_ci (go_if2 (tg := 42) (q := 27) (f := fun x y => decide (x < y)) ke_46_24 rfl)
theorem ke_46_27 : alook 46 27 = some (27, .aload_n 0, 1, (0, 0, 0, 0, 0), ⟨"", "", ""⟩, "") := rfl
theorem ee_46_27 {d : Nat} {h : aH} {l1 l2 : Value} {x : Nat} {st : List Value} : go d 46 27 [.ref x, l1, l2] st h = go d 46 28 [.ref x, l1, l2] (.ref x :: st) h := go_plain (q := (28, [.ref x, l1, l2], (.ref x :: st), h)) ke_46_27 rfl
theorem ee_46_27N {d : Nat} {h : aH} {l1 l2 : Value} {st : List Value} : go d 46 27 [.null, l1, l2] st h = go d 46 28 [.null, l1, l2] (.null :: st) h := go_plain (q := (28, [.null, l1, l2], (.null :: st), h)) ke_46_27 rfl
theorem ke_46_28 : alook 46 28 = some (28, .getfield 37, 3, (4, 7, 7, 2, 0), ⟨"", "", ""⟩, "WordHides") := rfl
theorem ee_46_28 {d : Nat} {ls st : List Value} {h : aH} {r : Nat} : go d 46 28 ls (.ref r :: st) h = (gf h r 4 7 7).bind fun z => go d 46 31 ls (z :: st) h := go_getf ke_46_28
theorem ke_46_31 : alook 46 31 = some (31, .getfield 94, 3, (1, 5, 5, 0, 0), ⟨"", "", ""⟩, "WordHides$Text") := rfl
theorem ee_46_31 {d : Nat} {ls st : List Value} {h : aH} {r : Nat} : go d 46 31 ls (.ref r :: st) h = (gf h r 1 5 5).bind fun z => go d 46 34 ls (z :: st) h := go_getf ke_46_31
theorem ke_46_34 : alook 46 34 = some (34, .getstatic 103, 3, (3, 0, 0, 0, 0), ⟨"WordHides", "MOST_LETTERS", "[I"⟩, "WordHides") := rfl
theorem ee_46_34 {d : Nat} {h : aH} {ls st : List Value} : go d 46 34 ls st h = go d 46 37 ls (.ref 3 :: st) h := go_plain (q := (37, ls, (.ref 3 :: st), h)) ke_46_34 rfl
theorem ke_46_37 : alook 46 37 = some (37, .iload_n 1, 1, (0, 0, 0, 0, 0), ⟨"", "", ""⟩, "") := rfl
theorem ee_46_37 {d : Nat} {h : aH} {l0 l2 : Value} {x : Int32} {st : List Value} : go d 46 37 [l0, .int x, l2] st h = go d 46 38 [l0, .int x, l2] (.int x :: st) h := go_plain (q := (38, [l0, .int x, l2], (.int x :: st), h)) ke_46_37 rfl
theorem ke_46_38 : alook 46 38 = some (38, .iaload, 1, (0, 0, 0, 0, 0), ⟨"", "", ""⟩, "") := rfl
theorem ee_46_38 {d : Nat} {ls st : List Value} {h : aH} {r : Nat} {i : Int32} : go d 46 38 ls (.int i :: .ref r :: st) h = (ia h r i).bind fun z => go d 46 39 ls (.int z :: st) h := go_iald ke_46_38
theorem ke_46_39 : alook 46 39 = some (39, .if_icmp .le 6, 3, (45, 0, 0, 0, 0), ⟨"", "", ""⟩, "") := rfl
theorem ee_46_39 {d : Nat} {ls st : List Value} {h : aH} {x y : Int32} : go d 46 39 ls (.int y :: .int x :: st) h = if x ≤ y then go d 46 45 ls st h else go d 46 42 ls st h := go_ci (go_if2 (tg := 45) (q := 42) (f := fun x y => decide (x ≤ y)) ke_46_39 rfl)
theorem ke_46_42 : alook 46 42 = some (42, .bipush (-7), 2, (0, 0, 0, 0, 0), ⟨"", "", ""⟩, "") := rfl
theorem ee_46_42 {d : Nat} {h : aH} {ls st : List Value} : go d 46 42 ls st h = go d 46 44 ls (.int (-7) :: st) h := go_plain (q := (44, ls, (.int (-7) :: st), h)) ke_46_42 rfl
theorem ke_46_44 : alook 46 44 = some (44, .ireturn, 1, (0, 0, 0, 0, 0), ⟨"", "", ""⟩, "") := rfl
theorem ee_46_44 {d : Nat} {ls : List Value} {h : aH} {v : Int32} : go d 46 44 ls [.int v] h = some (some (.int v), h) := go_iret ke_46_44
theorem ke_46_45 : alook 46 45 = some (45, .iload_n 1, 1, (0, 0, 0, 0, 0), ⟨"", "", ""⟩, "") := rfl
theorem ee_46_45 {d : Nat} {h : aH} {l0 l2 : Value} {x : Int32} {st : List Value} : go d 46 45 [l0, .int x, l2] st h = go d 46 46 [l0, .int x, l2] (.int x :: st) h := go_plain (q := (46, [l0, .int x, l2], (.int x :: st), h)) ke_46_45 rfl
theorem ke_46_46 : alook 46 46 = some (46, .iconst 2, 1, (0, 0, 0, 0, 0), ⟨"", "", ""⟩, "") := rfl
theorem ee_46_46 {d : Nat} {h : aH} {ls st : List Value} : go d 46 46 ls st h = go d 46 47 ls (.int 2 :: st) h := go_plain (q := (47, ls, (.int 2 :: st), h)) ke_46_46 rfl
theorem ke_46_47 : alook 46 47 = some (47, .if_icmp .eq 18, 3, (65, 0, 0, 0, 0), ⟨"", "", ""⟩, "") := rfl
theorem ee_46_47 {d : Nat} {ls st : List Value} {h : aH} {x y : Int32} : go d 46 47 ls (.int y :: .int x :: st) h = if x = y then go d 46 65 ls st h else go d 46 50 ls st h := go_ci (go_if2 (tg := 65) (q := 50) (f := fun x y => decide (x = y)) ke_46_47 rfl)
theorem ke_46_50 : alook 46 50 = some (50, .aload_n 0, 1, (0, 0, 0, 0, 0), ⟨"", "", ""⟩, "") := rfl
theorem ee_46_50 {d : Nat} {h : aH} {l1 l2 : Value} {x : Nat} {st : List Value} : go d 46 50 [.ref x, l1, l2] st h = go d 46 51 [.ref x, l1, l2] (.ref x :: st) h := go_plain (q := (51, [.ref x, l1, l2], (.ref x :: st), h)) ke_46_50 rfl
theorem ee_46_50N {d : Nat} {h : aH} {l1 l2 : Value} {st : List Value} : go d 46 50 [.null, l1, l2] st h = go d 46 51 [.null, l1, l2] (.null :: st) h := go_plain (q := (51, [.null, l1, l2], (.null :: st), h)) ke_46_50 rfl
theorem ke_46_51 : alook 46 51 = some (51, .iload_n 1, 1, (0, 0, 0, 0, 0), ⟨"", "", ""⟩, "") := rfl
theorem ee_46_51 {d : Nat} {h : aH} {l0 l2 : Value} {x : Int32} {st : List Value} : go d 46 51 [l0, .int x, l2] st h = go d 46 52 [l0, .int x, l2] (.int x :: st) h := go_plain (q := (52, [l0, .int x, l2], (.int x :: st), h)) ke_46_51 rfl
theorem ke_46_52 : alook 46 52 = some (52, .invokevirtual 106, 3, (1, 7, 62, 7, 62), ⟨"WordHides", "listOf", "(I)LWordHides$TextList;"⟩, "") := rfl
theorem ee_46_52 {d : Nat} {ls : List Value} {h : aH} {i0 : Int32} {r1 : Nat} : go (d + 1) 46 52 ls [.int i0, .ref r1] h = if isC h r1 7 = true then (go d 62 0 [.ref r1, .int i0] [] h).bind (fun q => go (d + 1) 46 55 ls (q.1.toList ++ []) q.2) else none := go_cv1 (as := [.int i0]) (rest := []) (L := [.ref r1, .int i0]) ke_46_52 rfl rfl rfl
theorem ke_46_55 : alook 46 55 = some (55, .getfield 110, 3, (1, 6, 6, 0, 0), ⟨"", "", ""⟩, "WordHides$TextList") := rfl
theorem ee_46_55 {d : Nat} {ls st : List Value} {h : aH} {r : Nat} : go d 46 55 ls (.ref r :: st) h = (gf h r 1 6 6).bind fun z => go d 46 58 ls (z :: st) h := go_getf ke_46_55
theorem ke_46_58 : alook 46 58 = some (58, .iconst 3, 1, (0, 0, 0, 0, 0), ⟨"", "", ""⟩, "") := rfl
theorem ee_46_58 {d : Nat} {h : aH} {ls st : List Value} : go d 46 58 ls st h = go d 46 59 ls (.int 3 :: st) h := go_plain (q := (59, ls, (.int 3 :: st), h)) ke_46_58 rfl
theorem ke_46_59 : alook 46 59 = some (59, .if_icmp .lt 6, 3, (65, 0, 0, 0, 0), ⟨"", "", ""⟩, "") := rfl
theorem ee_46_59 {d : Nat} {ls st : List Value} {h : aH} {x y : Int32} : go d 46 59 ls (.int y :: .int x :: st) h = if x < y then go d 46 65 ls st h else go d 46 62 ls st h := go_ci (go_if2 (tg := 65) (q := 62) (f := fun x y => decide (x < y)) ke_46_59 rfl)
theorem ke_46_62 : alook 46 62 = some (62, .bipush (-4), 2, (0, 0, 0, 0, 0), ⟨"", "", ""⟩, "") := rfl
theorem ee_46_62 {d : Nat} {h : aH} {ls st : List Value} : go d 46 62 ls st h = go d 46 64 ls (.int (-4) :: st) h := go_plain (q := (64, ls, (.int (-4) :: st), h)) ke_46_62 rfl
theorem ke_46_64 : alook 46 64 = some (64, .ireturn, 1, (0, 0, 0, 0, 0), ⟨"", "", ""⟩, "") := rfl
theorem ee_46_64 {d : Nat} {ls : List Value} {h : aH} {v : Int32} : go d 46 64 ls [.int v] h = some (some (.int v), h) := go_iret ke_46_64
theorem ke_46_65 : alook 46 65 = some (65, .iload_n 1, 1, (0, 0, 0, 0, 0), ⟨"", "", ""⟩, "") := rfl
theorem ee_46_65 {d : Nat} {h : aH} {l0 l2 : Value} {x : Int32} {st : List Value} : go d 46 65 [l0, .int x, l2] st h = go d 46 66 [l0, .int x, l2] (.int x :: st) h := go_plain (q := (66, [l0, .int x, l2], (.int x :: st), h)) ke_46_65 rfl
theorem ke_46_66 : alook 46 66 = some (66, .iconst 2, 1, (0, 0, 0, 0, 0), ⟨"", "", ""⟩, "") := rfl
theorem ee_46_66 {d : Nat} {h : aH} {ls st : List Value} : go d 46 66 ls st h = go d 46 67 ls (.int 2 :: st) h := go_plain (q := (67, ls, (.int 2 :: st), h)) ke_46_66 rfl
theorem ke_46_67 : alook 46 67 = some (67, .if_icmp .ne 31, 3, (98, 0, 0, 0, 0), ⟨"", "", ""⟩, "") := rfl
theorem ee_46_67 {d : Nat} {ls st : List Value} {h : aH} {x y : Int32} : go d 46 67 ls (.int y :: .int x :: st) h = if ¬ x = y then go d 46 98 ls st h else go d 46 70 ls st h := go_ci (go_if2 (tg := 98) (q := 70) (f := fun x y => decide (¬ x = y)) ke_46_67 rfl)
theorem ke_46_70 : alook 46 70 = some (70, .aload_n 0, 1, (0, 0, 0, 0, 0), ⟨"", "", ""⟩, "") := rfl
theorem ee_46_70 {d : Nat} {h : aH} {l1 l2 : Value} {x : Nat} {st : List Value} : go d 46 70 [.ref x, l1, l2] st h = go d 46 71 [.ref x, l1, l2] (.ref x :: st) h := go_plain (q := (71, [.ref x, l1, l2], (.ref x :: st), h)) ke_46_70 rfl
theorem ee_46_70N {d : Nat} {h : aH} {l1 l2 : Value} {st : List Value} : go d 46 70 [.null, l1, l2] st h = go d 46 71 [.null, l1, l2] (.null :: st) h := go_plain (q := (71, [.null, l1, l2], (.null :: st), h)) ke_46_70 rfl
theorem ke_46_71 : alook 46 71 = some (71, .getfield 26, 3, (2, 7, 7, 2, 0), ⟨"", "", ""⟩, "WordHides") := rfl
theorem ee_46_71 {d : Nat} {ls st : List Value} {h : aH} {r : Nat} : go d 46 71 ls (.ref r :: st) h = (gf h r 2 7 7).bind fun z => go d 46 74 ls (z :: st) h := go_getf ke_46_71
theorem ke_46_74 : alook 46 74 = some (74, .getfield 113, 3, (3, 0, 0, 2, 0), ⟨"", "", ""⟩, "WordHides$Board") := rfl
theorem ee_46_74 {d : Nat} {ls st : List Value} {h : aH} {r : Nat} : go d 46 74 ls (.ref r :: st) h = (gf h r 3 0 0).bind fun z => go d 46 77 ls (z :: st) h := go_getf ke_46_74
theorem ke_46_77 : alook 46 77 = some (77, .aload_n 0, 1, (0, 0, 0, 0, 0), ⟨"", "", ""⟩, "") := rfl
theorem ee_46_77 {d : Nat} {h : aH} {l1 l2 : Value} {x : Nat} {st : List Value} : go d 46 77 [.ref x, l1, l2] st h = go d 46 78 [.ref x, l1, l2] (.ref x :: st) h := go_plain (q := (78, [.ref x, l1, l2], (.ref x :: st), h)) ke_46_77 rfl
theorem ee_46_77N {d : Nat} {h : aH} {l1 l2 : Value} {st : List Value} : go d 46 77 [.null, l1, l2] st h = go d 46 78 [.null, l1, l2] (.null :: st) h := go_plain (q := (78, [.null, l1, l2], (.null :: st), h)) ke_46_77 rfl
theorem ke_46_78 : alook 46 78 = some (78, .getfield 37, 3, (4, 7, 7, 2, 0), ⟨"", "", ""⟩, "WordHides") := rfl
theorem ee_46_78 {d : Nat} {ls st : List Value} {h : aH} {r : Nat} : go d 46 78 ls (.ref r :: st) h = (gf h r 4 7 7).bind fun z => go d 46 81 ls (z :: st) h := go_getf ke_46_78
theorem ke_46_81 : alook 46 81 = some (81, .invokevirtual 116, 3, (1, 5, 34, 5, 34), ⟨"WordHides$Text", "copyFrom", "(LWordHides$Text;)V"⟩, "") := rfl
theorem ee_46_81 {d : Nat} {ls : List Value} {h : aH} {r0 : Nat} {r1 : Nat} : go (d + 1) 46 81 ls [.ref r0, .ref r1] h = if isC h r1 5 = true then (go d 34 0 [.ref r1, .ref r0] [] h).bind (fun q => go (d + 1) 46 84 ls (q.1.toList ++ []) q.2) else none := go_cv1 (as := [.ref r0]) (rest := []) (L := [.ref r1, .ref r0]) ke_46_81 rfl rfl rfl
theorem ke_46_84 : alook 46 84 = some (84, .aload_n 0, 1, (0, 0, 0, 0, 0), ⟨"", "", ""⟩, "") := rfl
theorem ee_46_84 {d : Nat} {h : aH} {l1 l2 : Value} {x : Nat} {st : List Value} : go d 46 84 [.ref x, l1, l2] st h = go d 46 85 [.ref x, l1, l2] (.ref x :: st) h := go_plain (q := (85, [.ref x, l1, l2], (.ref x :: st), h)) ke_46_84 rfl
theorem ee_46_84N {d : Nat} {h : aH} {l1 l2 : Value} {st : List Value} : go d 46 84 [.null, l1, l2] st h = go d 46 85 [.null, l1, l2] (.null :: st) h := go_plain (q := (85, [.null, l1, l2], (.null :: st), h)) ke_46_84 rfl
theorem ke_46_85 : alook 46 85 = some (85, .getfield 26, 3, (2, 7, 7, 2, 0), ⟨"", "", ""⟩, "WordHides") := rfl
theorem ee_46_85 {d : Nat} {ls st : List Value} {h : aH} {r : Nat} : go d 46 85 ls (.ref r :: st) h = (gf h r 2 7 7).bind fun z => go d 46 88 ls (z :: st) h := go_getf ke_46_85
theorem ke_46_88 : alook 46 88 = some (88, .getfield 113, 3, (3, 0, 0, 2, 0), ⟨"", "", ""⟩, "WordHides$Board") := rfl
theorem ee_46_88 {d : Nat} {ls st : List Value} {h : aH} {r : Nat} : go d 46 88 ls (.ref r :: st) h = (gf h r 3 0 0).bind fun z => go d 46 91 ls (z :: st) h := go_getf ke_46_88
theorem ke_46_91 : alook 46 91 = some (91, .getfield 94, 3, (1, 5, 5, 0, 0), ⟨"", "", ""⟩, "WordHides$Text") := rfl
theorem ee_46_91 {d : Nat} {ls st : List Value} {h : aH} {r : Nat} : go d 46 91 ls (.ref r :: st) h = (gf h r 1 5 5).bind fun z => go d 46 94 ls (z :: st) h := go_getf ke_46_91
theorem ke_46_94 : alook 46 94 = some (94, .istore_n 2, 1, (0, 0, 0, 0, 0), ⟨"", "", ""⟩, "") := rfl
theorem ee_46_94 {d : Nat} {h : aH} {l0 l1 l2 : Value} {x : Int32} {st : List Value} : go d 46 94 [l0, l1, l2] (.int x :: st) h = go d 46 95 [l0, l1, .int x] st h := go_plain (q := (95, [l0, l1, .int x], st, h)) ke_46_94 rfl
theorem ke_46_95 : alook 46 95 = some (95, .goto 16, 3, (111, 0, 0, 0, 0), ⟨"", "", ""⟩, "") := rfl
theorem ee_46_95 {d : Nat} {h : aH} {ls st : List Value} : go d 46 95 ls st h = go d 46 111 ls st h := go_plain (q := (111, ls, st, h)) ke_46_95 rfl
theorem ke_46_98 : alook 46 98 = some (98, .aload_n 0, 1, (0, 0, 0, 0, 0), ⟨"", "", ""⟩, "") := rfl
theorem ee_46_98 {d : Nat} {h : aH} {l1 l2 : Value} {x : Nat} {st : List Value} : go d 46 98 [.ref x, l1, l2] st h = go d 46 99 [.ref x, l1, l2] (.ref x :: st) h := go_plain (q := (99, [.ref x, l1, l2], (.ref x :: st), h)) ke_46_98 rfl
theorem ee_46_98N {d : Nat} {h : aH} {l1 l2 : Value} {st : List Value} : go d 46 98 [.null, l1, l2] st h = go d 46 99 [.null, l1, l2] (.null :: st) h := go_plain (q := (99, [.null, l1, l2], (.null :: st), h)) ke_46_98 rfl
theorem ke_46_99 : alook 46 99 = some (99, .iload_n 1, 1, (0, 0, 0, 0, 0), ⟨"", "", ""⟩, "") := rfl
theorem ee_46_99 {d : Nat} {h : aH} {l0 l2 : Value} {x : Int32} {st : List Value} : go d 46 99 [l0, .int x, l2] st h = go d 46 100 [l0, .int x, l2] (.int x :: st) h := go_plain (q := (100, [l0, .int x, l2], (.int x :: st), h)) ke_46_99 rfl
theorem ke_46_100 : alook 46 100 = some (100, .invokevirtual 106, 3, (1, 7, 62, 7, 62), ⟨"WordHides", "listOf", "(I)LWordHides$TextList;"⟩, "") := rfl
theorem ee_46_100 {d : Nat} {ls : List Value} {h : aH} {i0 : Int32} {r1 : Nat} : go (d + 1) 46 100 ls [.int i0, .ref r1] h = if isC h r1 7 = true then (go d 62 0 [.ref r1, .int i0] [] h).bind (fun q => go (d + 1) 46 103 ls (q.1.toList ++ []) q.2) else none := go_cv1 (as := [.int i0]) (rest := []) (L := [.ref r1, .int i0]) ke_46_100 rfl rfl rfl
theorem ke_46_103 : alook 46 103 = some (103, .aload_n 0, 1, (0, 0, 0, 0, 0), ⟨"", "", ""⟩, "") := rfl
theorem ee_46_103 {d : Nat} {h : aH} {l1 l2 : Value} {x : Nat} {st : List Value} : go d 46 103 [.ref x, l1, l2] st h = go d 46 104 [.ref x, l1, l2] (.ref x :: st) h := go_plain (q := (104, [.ref x, l1, l2], (.ref x :: st), h)) ke_46_103 rfl
theorem ee_46_103N {d : Nat} {h : aH} {l1 l2 : Value} {st : List Value} : go d 46 103 [.null, l1, l2] st h = go d 46 104 [.null, l1, l2] (.null :: st) h := go_plain (q := (104, [.null, l1, l2], (.null :: st), h)) ke_46_103 rfl
theorem ke_46_104 : alook 46 104 = some (104, .getfield 37, 3, (4, 7, 7, 2, 0), ⟨"", "", ""⟩, "WordHides") := rfl
theorem ee_46_104 {d : Nat} {ls st : List Value} {h : aH} {r : Nat} : go d 46 104 ls (.ref r :: st) h = (gf h r 4 7 7).bind fun z => go d 46 107 ls (z :: st) h := go_getf ke_46_104
theorem ke_46_107 : alook 46 107 = some (107, .invokevirtual 120, 3, (1, 6, 38, 6, 38), ⟨"WordHides$TextList", "append", "(LWordHides$Text;)I"⟩, "") := rfl
theorem ee_46_107 {d : Nat} {ls : List Value} {h : aH} {r0 : Nat} {r1 : Nat} : go (d + 1) 46 107 ls [.ref r0, .ref r1] h = if isC h r1 6 = true then (go d 38 0 [.ref r1, .ref r0] [] h).bind (fun q => go (d + 1) 46 110 ls (q.1.toList ++ []) q.2) else none := go_cv1 (as := [.ref r0]) (rest := []) (L := [.ref r1, .ref r0]) ke_46_107 rfl rfl rfl
theorem ke_46_110 : alook 46 110 = some (110, .istore_n 2, 1, (0, 0, 0, 0, 0), ⟨"", "", ""⟩, "") := rfl
theorem ee_46_110 {d : Nat} {h : aH} {l0 l1 l2 : Value} {x : Int32} {st : List Value} : go d 46 110 [l0, l1, l2] (.int x :: st) h = go d 46 111 [l0, l1, .int x] st h := go_plain (q := (111, [l0, l1, .int x], st, h)) ke_46_110 rfl
theorem ke_46_111 : alook 46 111 = some (111, .aload_n 0, 1, (0, 0, 0, 0, 0), ⟨"", "", ""⟩, "") := rfl
theorem ee_46_111 {d : Nat} {h : aH} {l1 l2 : Value} {x : Nat} {st : List Value} : go d 46 111 [.ref x, l1, l2] st h = go d 46 112 [.ref x, l1, l2] (.ref x :: st) h := go_plain (q := (112, [.ref x, l1, l2], (.ref x :: st), h)) ke_46_111 rfl
theorem ee_46_111N {d : Nat} {h : aH} {l1 l2 : Value} {st : List Value} : go d 46 111 [.null, l1, l2] st h = go d 46 112 [.null, l1, l2] (.null :: st) h := go_plain (q := (112, [.null, l1, l2], (.null :: st), h)) ke_46_111 rfl
theorem ke_46_112 : alook 46 112 = some (112, .getfield 37, 3, (4, 7, 7, 2, 0), ⟨"", "", ""⟩, "WordHides") := rfl
theorem ee_46_112 {d : Nat} {ls st : List Value} {h : aH} {r : Nat} : go d 46 112 ls (.ref r :: st) h = (gf h r 4 7 7).bind fun z => go d 46 115 ls (z :: st) h := go_getf ke_46_112
theorem ke_46_115 : alook 46 115 = some (115, .iconst 0, 1, (0, 0, 0, 0, 0), ⟨"", "", ""⟩, "") := rfl
theorem ee_46_115 {d : Nat} {h : aH} {ls st : List Value} : go d 46 115 ls st h = go d 46 116 ls (.int 0 :: st) h := go_plain (q := (116, ls, (.int 0 :: st), h)) ke_46_115 rfl
theorem ke_46_116 : alook 46 116 = some (116, .putfield 94, 3, (1, 5, 5, 0, 0), ⟨"", "", ""⟩, "WordHides$Text") := rfl
theorem ee_46_116 {d : Nat} {ls st : List Value} {h : aH} {r : Nat} {w : Value} : go d 46 116 ls (w :: .ref r :: st) h = (pf h r 1 5 5 0 w).bind fun h' => go d 46 119 ls st h' := go_putf ke_46_116
theorem ke_46_119 : alook 46 119 = some (119, .aload_n 0, 1, (0, 0, 0, 0, 0), ⟨"", "", ""⟩, "") := rfl
theorem ee_46_119 {d : Nat} {h : aH} {l1 l2 : Value} {x : Nat} {st : List Value} : go d 46 119 [.ref x, l1, l2] st h = go d 46 120 [.ref x, l1, l2] (.ref x :: st) h := go_plain (q := (120, [.ref x, l1, l2], (.ref x :: st), h)) ke_46_119 rfl
theorem ee_46_119N {d : Nat} {h : aH} {l1 l2 : Value} {st : List Value} : go d 46 119 [.null, l1, l2] st h = go d 46 120 [.null, l1, l2] (.null :: st) h := go_plain (q := (120, [.null, l1, l2], (.null :: st), h)) ke_46_119 rfl
theorem ke_46_120 : alook 46 120 = some (120, .invokevirtual 80, 3, (0, 7, 63, 7, 63), ⟨"WordHides", "forgetLayings", "()V"⟩, "") := rfl
theorem ee_46_120 {d : Nat} {ls : List Value} {h : aH} {r0 : Nat} : go (d + 1) 46 120 ls [.ref r0] h = if isC h r0 7 = true then (go d 63 0 [.ref r0] [] h).bind (fun q => go (d + 1) 46 123 ls (q.1.toList ++ []) q.2) else none := go_cv1 (as := []) (rest := []) (L := [.ref r0]) ke_46_120 rfl rfl rfl
theorem ke_46_123 : alook 46 123 = some (123, .iload_n 2, 1, (0, 0, 0, 0, 0), ⟨"", "", ""⟩, "") := rfl
theorem ee_46_123 {d : Nat} {h : aH} {l0 l1 : Value} {x : Int32} {st : List Value} : go d 46 123 [l0, l1, .int x] st h = go d 46 124 [l0, l1, .int x] (.int x :: st) h := go_plain (q := (124, [l0, l1, .int x], (.int x :: st), h)) ke_46_123 rfl
theorem ke_46_124 : alook 46 124 = some (124, .ireturn, 1, (0, 0, 0, 0, 0), ⟨"", "", ""⟩, "") := rfl
theorem ee_46_124 {d : Nat} {ls : List Value} {h : aH} {v : Int32} : go d 46 124 ls [.int v] h = some (some (.int v), h) := go_iret ke_46_124
theorem ke_47_0 : alook 47 0 = some (0, .iload_n 1, 1, (0, 0, 0, 0, 0), ⟨"", "", ""⟩, "") := rfl
theorem ee_47_0 {d : Nat} {h : aH} {l0 l2 : Value} {x : Int32} {st : List Value} : go d 47 0 [l0, .int x, l2] st h = go d 47 1 [l0, .int x, l2] (.int x :: st) h := go_plain (q := (1, [l0, .int x, l2], (.int x :: st), h)) ke_47_0 rfl
theorem ke_47_1 : alook 47 1 = some (1, .ifCond .eq 11, 3, (12, 0, 0, 0, 0), ⟨"", "", ""⟩, "") := rfl
theorem ee_47_1 {d : Nat} {ls st : List Value} {h : aH} {x : Int32} : go d 47 1 ls (.int x :: st) h = if x = 0 then go d 47 12 ls st h else go d 47 4 ls st h := go_c1 (go_if1 (tg := 12) (q := 4) (f := fun x => decide (x = 0)) ke_47_1 rfl)
theorem ke_47_4 : alook 47 4 = some (4, .iload_n 1, 1, (0, 0, 0, 0, 0), ⟨"", "", ""⟩, "") := rfl
theorem ee_47_4 {d : Nat} {h : aH} {l0 l2 : Value} {x : Int32} {st : List Value} : go d 47 4 [l0, .int x, l2] st h = go d 47 5 [l0, .int x, l2] (.int x :: st) h := go_plain (q := (5, [l0, .int x, l2], (.int x :: st), h)) ke_47_4 rfl
theorem ke_47_5 : alook 47 5 = some (5, .iconst 1, 1, (0, 0, 0, 0, 0), ⟨"", "", ""⟩, "") := rfl
theorem ee_47_5 {d : Nat} {h : aH} {ls st : List Value} : go d 47 5 ls st h = go d 47 6 ls (.int 1 :: st) h := go_plain (q := (6, ls, (.int 1 :: st), h)) ke_47_5 rfl
theorem ke_47_6 : alook 47 6 = some (6, .if_icmp .eq 6, 3, (12, 0, 0, 0, 0), ⟨"", "", ""⟩, "") := rfl
theorem ee_47_6 {d : Nat} {ls st : List Value} {h : aH} {x y : Int32} : go d 47 6 ls (.int y :: .int x :: st) h = if x = y then go d 47 12 ls st h else go d 47 9 ls st h := go_ci (go_if2 (tg := 12) (q := 9) (f := fun x y => decide (x = y)) ke_47_6 rfl)
theorem ke_47_9 : alook 47 9 = some (9, .bipush (-2), 2, (0, 0, 0, 0, 0), ⟨"", "", ""⟩, "") := rfl
theorem ee_47_9 {d : Nat} {h : aH} {ls st : List Value} : go d 47 9 ls st h = go d 47 11 ls (.int (-2) :: st) h := go_plain (q := (11, ls, (.int (-2) :: st), h)) ke_47_9 rfl
theorem ke_47_11 : alook 47 11 = some (11, .ireturn, 1, (0, 0, 0, 0, 0), ⟨"", "", ""⟩, "") := rfl
theorem ee_47_11 {d : Nat} {ls : List Value} {h : aH} {v : Int32} : go d 47 11 ls [.int v] h = some (some (.int v), h) := go_iret ke_47_11
theorem ke_47_12 : alook 47 12 = some (12, .aload_n 0, 1, (0, 0, 0, 0, 0), ⟨"", "", ""⟩, "") := rfl
theorem ee_47_12 {d : Nat} {h : aH} {l1 l2 : Value} {x : Nat} {st : List Value} : go d 47 12 [.ref x, l1, l2] st h = go d 47 13 [.ref x, l1, l2] (.ref x :: st) h := go_plain (q := (13, [.ref x, l1, l2], (.ref x :: st), h)) ke_47_12 rfl
theorem ee_47_12N {d : Nat} {h : aH} {l1 l2 : Value} {st : List Value} : go d 47 12 [.null, l1, l2] st h = go d 47 13 [.null, l1, l2] (.null :: st) h := go_plain (q := (13, [.null, l1, l2], (.null :: st), h)) ke_47_12 rfl
theorem ke_47_13 : alook 47 13 = some (13, .iload_n 1, 1, (0, 0, 0, 0, 0), ⟨"", "", ""⟩, "") := rfl
theorem ee_47_13 {d : Nat} {h : aH} {l0 l2 : Value} {x : Int32} {st : List Value} : go d 47 13 [l0, .int x, l2] st h = go d 47 14 [l0, .int x, l2] (.int x :: st) h := go_plain (q := (14, [l0, .int x, l2], (.int x :: st), h)) ke_47_13 rfl
theorem ke_47_14 : alook 47 14 = some (14, .invokevirtual 106, 3, (1, 7, 62, 7, 62), ⟨"WordHides", "listOf", "(I)LWordHides$TextList;"⟩, "") := rfl
theorem ee_47_14 {d : Nat} {ls : List Value} {h : aH} {i0 : Int32} {r1 : Nat} : go (d + 1) 47 14 ls [.int i0, .ref r1] h = if isC h r1 7 = true then (go d 62 0 [.ref r1, .int i0] [] h).bind (fun q => go (d + 1) 47 17 ls (q.1.toList ++ []) q.2) else none := go_cv1 (as := [.int i0]) (rest := []) (L := [.ref r1, .int i0]) ke_47_14 rfl rfl rfl
theorem ke_47_17 : alook 47 17 = some (17, .getfield 110, 3, (1, 6, 6, 0, 0), ⟨"", "", ""⟩, "WordHides$TextList") := rfl
theorem ee_47_17 {d : Nat} {ls st : List Value} {h : aH} {r : Nat} : go d 47 17 ls (.ref r :: st) h = (gf h r 1 6 6).bind fun z => go d 47 20 ls (z :: st) h := go_getf ke_47_17
theorem ke_47_20 : alook 47 20 = some (20, .istore_n 2, 1, (0, 0, 0, 0, 0), ⟨"", "", ""⟩, "") := rfl
theorem ee_47_20 {d : Nat} {h : aH} {l0 l1 l2 : Value} {x : Int32} {st : List Value} : go d 47 20 [l0, l1, l2] (.int x :: st) h = go d 47 21 [l0, l1, .int x] st h := go_plain (q := (21, [l0, l1, .int x], st, h)) ke_47_20 rfl
theorem ke_47_21 : alook 47 21 = some (21, .aload_n 0, 1, (0, 0, 0, 0, 0), ⟨"", "", ""⟩, "") := rfl
theorem ee_47_21 {d : Nat} {h : aH} {l1 l2 : Value} {x : Nat} {st : List Value} : go d 47 21 [.ref x, l1, l2] st h = go d 47 22 [.ref x, l1, l2] (.ref x :: st) h := go_plain (q := (22, [.ref x, l1, l2], (.ref x :: st), h)) ke_47_21 rfl
theorem ee_47_21N {d : Nat} {h : aH} {l1 l2 : Value} {st : List Value} : go d 47 21 [.null, l1, l2] st h = go d 47 22 [.null, l1, l2] (.null :: st) h := go_plain (q := (22, [.null, l1, l2], (.null :: st), h)) ke_47_21 rfl
theorem ke_47_22 : alook 47 22 = some (22, .iload_n 1, 1, (0, 0, 0, 0, 0), ⟨"", "", ""⟩, "") := rfl
theorem ee_47_22 {d : Nat} {h : aH} {l0 l2 : Value} {x : Int32} {st : List Value} : go d 47 22 [l0, .int x, l2] st h = go d 47 23 [l0, .int x, l2] (.int x :: st) h := go_plain (q := (23, [l0, .int x, l2], (.int x :: st), h)) ke_47_22 rfl
theorem ke_47_23 : alook 47 23 = some (23, .invokevirtual 106, 3, (1, 7, 62, 7, 62), ⟨"WordHides", "listOf", "(I)LWordHides$TextList;"⟩, "") := rfl
theorem ee_47_23 {d : Nat} {ls : List Value} {h : aH} {i0 : Int32} {r1 : Nat} : go (d + 1) 47 23 ls [.int i0, .ref r1] h = if isC h r1 7 = true then (go d 62 0 [.ref r1, .int i0] [] h).bind (fun q => go (d + 1) 47 26 ls (q.1.toList ++ []) q.2) else none := go_cv1 (as := [.int i0]) (rest := []) (L := [.ref r1, .int i0]) ke_47_23 rfl rfl rfl
theorem ke_47_26 : alook 47 26 = some (26, .iconst 0, 1, (0, 0, 0, 0, 0), ⟨"", "", ""⟩, "") := rfl
theorem ee_47_26 {d : Nat} {h : aH} {ls st : List Value} : go d 47 26 ls st h = go d 47 27 ls (.int 0 :: st) h := go_plain (q := (27, ls, (.int 0 :: st), h)) ke_47_26 rfl
theorem ke_47_27 : alook 47 27 = some (27, .putfield 110, 3, (1, 6, 6, 0, 0), ⟨"", "", ""⟩, "WordHides$TextList") := rfl
theorem ee_47_27 {d : Nat} {ls st : List Value} {h : aH} {r : Nat} {w : Value} : go d 47 27 ls (w :: .ref r :: st) h = (pf h r 1 6 6 0 w).bind fun h' => go d 47 30 ls st h' := go_putf ke_47_27
theorem ke_47_30 : alook 47 30 = some (30, .aload_n 0, 1, (0, 0, 0, 0, 0), ⟨"", "", ""⟩, "") := rfl
theorem ee_47_30 {d : Nat} {h : aH} {l1 l2 : Value} {x : Nat} {st : List Value} : go d 47 30 [.ref x, l1, l2] st h = go d 47 31 [.ref x, l1, l2] (.ref x :: st) h := go_plain (q := (31, [.ref x, l1, l2], (.ref x :: st), h)) ke_47_30 rfl
theorem ee_47_30N {d : Nat} {h : aH} {l1 l2 : Value} {st : List Value} : go d 47 30 [.null, l1, l2] st h = go d 47 31 [.null, l1, l2] (.null :: st) h := go_plain (q := (31, [.null, l1, l2], (.null :: st), h)) ke_47_30 rfl
theorem ke_47_31 : alook 47 31 = some (31, .invokevirtual 80, 3, (0, 7, 63, 7, 63), ⟨"WordHides", "forgetLayings", "()V"⟩, "") := rfl
theorem ee_47_31 {d : Nat} {ls : List Value} {h : aH} {r0 : Nat} : go (d + 1) 47 31 ls [.ref r0] h = if isC h r0 7 = true then (go d 63 0 [.ref r0] [] h).bind (fun q => go (d + 1) 47 34 ls (q.1.toList ++ []) q.2) else none := go_cv1 (as := []) (rest := []) (L := [.ref r0]) ke_47_31 rfl rfl rfl
theorem ke_47_34 : alook 47 34 = some (34, .iload_n 2, 1, (0, 0, 0, 0, 0), ⟨"", "", ""⟩, "") := rfl
theorem ee_47_34 {d : Nat} {h : aH} {l0 l1 : Value} {x : Int32} {st : List Value} : go d 47 34 [l0, l1, .int x] st h = go d 47 35 [l0, l1, .int x] (.int x :: st) h := go_plain (q := (35, [l0, l1, .int x], (.int x :: st), h)) ke_47_34 rfl
theorem ke_47_35 : alook 47 35 = some (35, .ireturn, 1, (0, 0, 0, 0, 0), ⟨"", "", ""⟩, "") := rfl
theorem ee_47_35 {d : Nat} {ls : List Value} {h : aH} {v : Int32} : go d 47 35 ls [.int v] h = some (some (.int v), h) := go_iret ke_47_35
theorem ke_48_0 : alook 48 0 = some (0, .aload_n 0, 1, (0, 0, 0, 0, 0), ⟨"", "", ""⟩, "") := rfl
theorem ee_48_0 {d : Nat} {h : aH} {l1 l2 : Value} {x : Nat} {st : List Value} : go d 48 0 [.ref x, l1, l2] st h = go d 48 1 [.ref x, l1, l2] (.ref x :: st) h := go_plain (q := (1, [.ref x, l1, l2], (.ref x :: st), h)) ke_48_0 rfl
theorem ee_48_0N {d : Nat} {h : aH} {l1 l2 : Value} {st : List Value} : go d 48 0 [.null, l1, l2] st h = go d 48 1 [.null, l1, l2] (.null :: st) h := go_plain (q := (1, [.null, l1, l2], (.null :: st), h)) ke_48_0 rfl
theorem ke_48_1 : alook 48 1 = some (1, .getfield 37, 3, (4, 7, 7, 2, 0), ⟨"", "", ""⟩, "WordHides") := rfl
theorem ee_48_1 {d : Nat} {ls st : List Value} {h : aH} {r : Nat} : go d 48 1 ls (.ref r :: st) h = (gf h r 4 7 7).bind fun z => go d 48 4 ls (z :: st) h := go_getf ke_48_1
theorem ke_48_4 : alook 48 4 = some (4, .getfield 94, 3, (1, 5, 5, 0, 0), ⟨"", "", ""⟩, "WordHides$Text") := rfl
theorem ee_48_4 {d : Nat} {ls st : List Value} {h : aH} {r : Nat} : go d 48 4 ls (.ref r :: st) h = (gf h r 1 5 5).bind fun z => go d 48 7 ls (z :: st) h := go_getf ke_48_4
theorem ke_48_7 : alook 48 7 = some (7, .aload_n 0, 1, (0, 0, 0, 0, 0), ⟨"", "", ""⟩, "") := rfl
theorem ee_48_7 {d : Nat} {h : aH} {l1 l2 : Value} {x : Nat} {st : List Value} : go d 48 7 [.ref x, l1, l2] st h = go d 48 8 [.ref x, l1, l2] (.ref x :: st) h := go_plain (q := (8, [.ref x, l1, l2], (.ref x :: st), h)) ke_48_7 rfl
theorem ee_48_7N {d : Nat} {h : aH} {l1 l2 : Value} {st : List Value} : go d 48 7 [.null, l1, l2] st h = go d 48 8 [.null, l1, l2] (.null :: st) h := go_plain (q := (8, [.null, l1, l2], (.null :: st), h)) ke_48_7 rfl
theorem ke_48_8 : alook 48 8 = some (8, .getfield 26, 3, (2, 7, 7, 2, 0), ⟨"", "", ""⟩, "WordHides") := rfl
theorem ee_48_8 {d : Nat} {ls st : List Value} {h : aH} {r : Nat} : go d 48 8 ls (.ref r :: st) h = (gf h r 2 7 7).bind fun z => go d 48 11 ls (z :: st) h := go_getf ke_48_8
theorem ke_48_11 : alook 48 11 = some (11, .getfield 68, 3, (0, 0, 0, 2, 0), ⟨"", "", ""⟩, "WordHides$Board") := rfl
theorem ee_48_11 {d : Nat} {ls st : List Value} {h : aH} {r : Nat} : go d 48 11 ls (.ref r :: st) h = (gf h r 0 0 0).bind fun z => go d 48 14 ls (z :: st) h := go_getf ke_48_11
theorem ke_48_14 : alook 48 14 = some (14, .getfield 71, 3, (1, 4, 4, 2, 0), ⟨"", "", ""⟩, "WordHides$Square") := rfl
theorem ee_48_14 {d : Nat} {ls st : List Value} {h : aH} {r : Nat} : go d 48 14 ls (.ref r :: st) h = (gf h r 1 4 4).bind fun z => go d 48 17 ls (z :: st) h := go_getf ke_48_14
theorem ke_48_17 : alook 48 17 = some (17, .getfield 123, 3, (1, 3, 3, 0, 0), ⟨"", "", ""⟩, "WordHides$Lattice") := rfl
theorem ee_48_17 {d : Nat} {ls st : List Value} {h : aH} {r : Nat} : go d 48 17 ls (.ref r :: st) h = (gf h r 1 3 3).bind fun z => go d 48 20 ls (z :: st) h := go_getf ke_48_17
theorem ke_48_20 : alook 48 20 = some (20, .if_icmp .eq 6, 3, (26, 0, 0, 0, 0), ⟨"", "", ""⟩, "") := rfl
theorem ee_48_20 {d : Nat} {ls st : List Value} {h : aH} {x y : Int32} : go d 48 20 ls (.int y :: .int x :: st) h = if x = y then go d 48 26 ls st h else go d 48 23 ls st h := go_ci (go_if2 (tg := 26) (q := 23) (f := fun x y => decide (x = y)) ke_48_20 rfl)
theorem ke_48_23 : alook 48 23 = some (23, .bipush (-7), 2, (0, 0, 0, 0, 0), ⟨"", "", ""⟩, "") := rfl
theorem ee_48_23 {d : Nat} {h : aH} {ls st : List Value} : go d 48 23 ls st h = go d 48 25 ls (.int (-7) :: st) h := go_plain (q := (25, ls, (.int (-7) :: st), h)) ke_48_23 rfl
theorem ke_48_25 : alook 48 25 = some (25, .ireturn, 1, (0, 0, 0, 0, 0), ⟨"", "", ""⟩, "") := rfl
theorem ee_48_25 {d : Nat} {ls : List Value} {h : aH} {v : Int32} : go d 48 25 ls [.int v] h = some (some (.int v), h) := go_iret ke_48_25
theorem ke_48_26 : alook 48 26 = some (26, .iconst 0, 1, (0, 0, 0, 0, 0), ⟨"", "", ""⟩, "") := rfl
theorem ee_48_26 {d : Nat} {h : aH} {ls st : List Value} : go d 48 26 ls st h = go d 48 27 ls (.int 0 :: st) h := go_plain (q := (27, ls, (.int 0 :: st), h)) ke_48_26 rfl
theorem ke_48_27 : alook 48 27 = some (27, .istore_n 1, 1, (0, 0, 0, 0, 0), ⟨"", "", ""⟩, "") := rfl
theorem ee_48_27 {d : Nat} {h : aH} {l0 l1 l2 : Value} {x : Int32} {st : List Value} : go d 48 27 [l0, l1, l2] (.int x :: st) h = go d 48 28 [l0, .int x, l2] st h := go_plain (q := (28, [l0, .int x, l2], st, h)) ke_48_27 rfl
theorem ke_48_28 : alook 48 28 = some (28, .iconst 0, 1, (0, 0, 0, 0, 0), ⟨"", "", ""⟩, "") := rfl
theorem ee_48_28 {d : Nat} {h : aH} {ls st : List Value} : go d 48 28 ls st h = go d 48 29 ls (.int 0 :: st) h := go_plain (q := (29, ls, (.int 0 :: st), h)) ke_48_28 rfl
theorem ke_48_29 : alook 48 29 = some (29, .istore_n 2, 1, (0, 0, 0, 0, 0), ⟨"", "", ""⟩, "") := rfl
theorem ee_48_29 {d : Nat} {h : aH} {l0 l1 l2 : Value} {x : Int32} {st : List Value} : go d 48 29 [l0, l1, l2] (.int x :: st) h = go d 48 30 [l0, l1, .int x] st h := go_plain (q := (30, [l0, l1, .int x], st, h)) ke_48_29 rfl
theorem ke_48_30 : alook 48 30 = some (30, .iload_n 2, 1, (0, 0, 0, 0, 0), ⟨"", "", ""⟩, "") := rfl
theorem ee_48_30 {d : Nat} {h : aH} {l0 l1 : Value} {x : Int32} {st : List Value} : go d 48 30 [l0, l1, .int x] st h = go d 48 31 [l0, l1, .int x] (.int x :: st) h := go_plain (q := (31, [l0, l1, .int x], (.int x :: st), h)) ke_48_30 rfl
theorem ke_48_31 : alook 48 31 = some (31, .aload_n 0, 1, (0, 0, 0, 0, 0), ⟨"", "", ""⟩, "") := rfl
theorem ee_48_31 {d : Nat} {h : aH} {l1 l2 : Value} {x : Nat} {st : List Value} : go d 48 31 [.ref x, l1, l2] st h = go d 48 32 [.ref x, l1, l2] (.ref x :: st) h := go_plain (q := (32, [.ref x, l1, l2], (.ref x :: st), h)) ke_48_31 rfl
theorem ee_48_31N {d : Nat} {h : aH} {l1 l2 : Value} {st : List Value} : go d 48 31 [.null, l1, l2] st h = go d 48 32 [.null, l1, l2] (.null :: st) h := go_plain (q := (32, [.null, l1, l2], (.null :: st), h)) ke_48_31 rfl
theorem ke_48_32 : alook 48 32 = some (32, .getfield 37, 3, (4, 7, 7, 2, 0), ⟨"", "", ""⟩, "WordHides") := rfl
theorem ee_48_32 {d : Nat} {ls st : List Value} {h : aH} {r : Nat} : go d 48 32 ls (.ref r :: st) h = (gf h r 4 7 7).bind fun z => go d 48 35 ls (z :: st) h := go_getf ke_48_32
theorem ke_48_35 : alook 48 35 = some (35, .getfield 94, 3, (1, 5, 5, 0, 0), ⟨"", "", ""⟩, "WordHides$Text") := rfl
theorem ee_48_35 {d : Nat} {ls st : List Value} {h : aH} {r : Nat} : go d 48 35 ls (.ref r :: st) h = (gf h r 1 5 5).bind fun z => go d 48 38 ls (z :: st) h := go_getf ke_48_35
theorem ke_48_38 : alook 48 38 = some (38, .if_icmp .ge 57, 3, (95, 0, 0, 0, 0), ⟨"", "", ""⟩, "") := rfl
theorem ee_48_38 {d : Nat} {ls st : List Value} {h : aH} {x y : Int32} : go d 48 38 ls (.int y :: .int x :: st) h = if y ≤ x then go d 48 95 ls st h else go d 48 41 ls st h := go_ci (go_if2 (tg := 95) (q := 41) (f := fun x y => decide (y ≤ x)) ke_48_38 rfl)
theorem ke_48_41 : alook 48 41 = some (41, .aload_n 0, 1, (0, 0, 0, 0, 0), ⟨"", "", ""⟩, "") := rfl
theorem ee_48_41 {d : Nat} {h : aH} {l1 l2 : Value} {x : Nat} {st : List Value} : go d 48 41 [.ref x, l1, l2] st h = go d 48 42 [.ref x, l1, l2] (.ref x :: st) h := go_plain (q := (42, [.ref x, l1, l2], (.ref x :: st), h)) ke_48_41 rfl
theorem ee_48_41N {d : Nat} {h : aH} {l1 l2 : Value} {st : List Value} : go d 48 41 [.null, l1, l2] st h = go d 48 42 [.null, l1, l2] (.null :: st) h := go_plain (q := (42, [.null, l1, l2], (.null :: st), h)) ke_48_41 rfl
theorem ke_48_42 : alook 48 42 = some (42, .getfield 26, 3, (2, 7, 7, 2, 0), ⟨"", "", ""⟩, "WordHides") := rfl
theorem ee_48_42 {d : Nat} {ls st : List Value} {h : aH} {r : Nat} : go d 48 42 ls (.ref r :: st) h = (gf h r 2 7 7).bind fun z => go d 48 45 ls (z :: st) h := go_getf ke_48_42
theorem ke_48_45 : alook 48 45 = some (45, .getfield 68, 3, (0, 0, 0, 2, 0), ⟨"", "", ""⟩, "WordHides$Board") := rfl
theorem ee_48_45 {d : Nat} {ls st : List Value} {h : aH} {r : Nat} : go d 48 45 ls (.ref r :: st) h = (gf h r 0 0 0).bind fun z => go d 48 48 ls (z :: st) h := go_getf ke_48_45
theorem ke_48_48 : alook 48 48 = some (48, .getfield 90, 3, (0, 4, 4, 2, 0), ⟨"", "", ""⟩, "WordHides$Square") := rfl
theorem ee_48_48 {d : Nat} {ls st : List Value} {h : aH} {r : Nat} : go d 48 48 ls (.ref r :: st) h = (gf h r 0 4 4).bind fun z => go d 48 51 ls (z :: st) h := go_getf ke_48_48
theorem ke_48_51 : alook 48 51 = some (51, .iload_n 2, 1, (0, 0, 0, 0, 0), ⟨"", "", ""⟩, "") := rfl
theorem ee_48_51 {d : Nat} {h : aH} {l0 l1 : Value} {x : Int32} {st : List Value} : go d 48 51 [l0, l1, .int x] st h = go d 48 52 [l0, l1, .int x] (.int x :: st) h := go_plain (q := (52, [l0, l1, .int x], (.int x :: st), h)) ke_48_51 rfl
theorem ke_48_52 : alook 48 52 = some (52, .iaload, 1, (0, 0, 0, 0, 0), ⟨"", "", ""⟩, "") := rfl
theorem ee_48_52 {d : Nat} {ls st : List Value} {h : aH} {r : Nat} {i : Int32} : go d 48 52 ls (.int i :: .ref r :: st) h = (ia h r i).bind fun z => go d 48 53 ls (.int z :: st) h := go_iald ke_48_52
theorem ke_48_53 : alook 48 53 = some (53, .aload_n 0, 1, (0, 0, 0, 0, 0), ⟨"", "", ""⟩, "") := rfl
theorem ee_48_53 {d : Nat} {h : aH} {l1 l2 : Value} {x : Nat} {st : List Value} : go d 48 53 [.ref x, l1, l2] st h = go d 48 54 [.ref x, l1, l2] (.ref x :: st) h := go_plain (q := (54, [.ref x, l1, l2], (.ref x :: st), h)) ke_48_53 rfl
theorem ee_48_53N {d : Nat} {h : aH} {l1 l2 : Value} {st : List Value} : go d 48 53 [.null, l1, l2] st h = go d 48 54 [.null, l1, l2] (.null :: st) h := go_plain (q := (54, [.null, l1, l2], (.null :: st), h)) ke_48_53 rfl
theorem ke_48_54 : alook 48 54 = some (54, .getfield 37, 3, (4, 7, 7, 2, 0), ⟨"", "", ""⟩, "WordHides") := rfl
theorem ee_48_54 {d : Nat} {ls st : List Value} {h : aH} {r : Nat} : go d 48 54 ls (.ref r :: st) h = (gf h r 4 7 7).bind fun z => go d 48 57 ls (z :: st) h := go_getf ke_48_54
theorem ke_48_57 : alook 48 57 = some (57, .getfield 126, 3, (0, 5, 5, 2, 0), ⟨"", "", ""⟩, "WordHides$Text") := rfl
theorem ee_48_57 {d : Nat} {ls st : List Value} {h : aH} {r : Nat} : go d 48 57 ls (.ref r :: st) h = (gf h r 0 5 5).bind fun z => go d 48 60 ls (z :: st) h := go_getf ke_48_57
theorem ke_48_60 : alook 48 60 = some (60, .iload_n 2, 1, (0, 0, 0, 0, 0), ⟨"", "", ""⟩, "") := rfl
theorem ee_48_60 {d : Nat} {h : aH} {l0 l1 : Value} {x : Int32} {st : List Value} : go d 48 60 [l0, l1, .int x] st h = go d 48 61 [l0, l1, .int x] (.int x :: st) h := go_plain (q := (61, [l0, l1, .int x], (.int x :: st), h)) ke_48_60 rfl
theorem ke_48_61 : alook 48 61 = some (61, .iaload, 1, (0, 0, 0, 0, 0), ⟨"", "", ""⟩, "") := rfl
theorem ee_48_61 {d : Nat} {ls st : List Value} {h : aH} {r : Nat} {i : Int32} : go d 48 61 ls (.int i :: .ref r :: st) h = (ia h r i).bind fun z => go d 48 62 ls (.int z :: st) h := go_iald ke_48_61
theorem ke_48_62 : alook 48 62 = some (62, .if_icmp .eq 6, 3, (68, 0, 0, 0, 0), ⟨"", "", ""⟩, "") := rfl
theorem ee_48_62 {d : Nat} {ls st : List Value} {h : aH} {x y : Int32} : go d 48 62 ls (.int y :: .int x :: st) h = if x = y then go d 48 68 ls st h else go d 48 65 ls st h := go_ci (go_if2 (tg := 68) (q := 65) (f := fun x y => decide (x = y)) ke_48_62 rfl)
theorem ke_48_65 : alook 48 65 = some (65, .iinc 1 1, 3, (0, 0, 0, 0, 0), ⟨"", "", ""⟩, "") := rfl
theorem ee_48_65 {d : Nat} {h : aH} {l0 l2 : Value} {x : Int32} {st : List Value} : go d 48 65 [l0, .int x, l2] st h = go d 48 68 [l0, .int (x + 1), l2] st h := go_plain (q := (68, [l0, .int (x + 1), l2], st, h)) ke_48_65 rfl
theorem ke_48_68 : alook 48 68 = some (68, .aload_n 0, 1, (0, 0, 0, 0, 0), ⟨"", "", ""⟩, "") := rfl
theorem ee_48_68 {d : Nat} {h : aH} {l1 l2 : Value} {x : Nat} {st : List Value} : go d 48 68 [.ref x, l1, l2] st h = go d 48 69 [.ref x, l1, l2] (.ref x :: st) h := go_plain (q := (69, [.ref x, l1, l2], (.ref x :: st), h)) ke_48_68 rfl
theorem ee_48_68N {d : Nat} {h : aH} {l1 l2 : Value} {st : List Value} : go d 48 68 [.null, l1, l2] st h = go d 48 69 [.null, l1, l2] (.null :: st) h := go_plain (q := (69, [.null, l1, l2], (.null :: st), h)) ke_48_68 rfl
theorem ke_48_69 : alook 48 69 = some (69, .getfield 26, 3, (2, 7, 7, 2, 0), ⟨"", "", ""⟩, "WordHides") := rfl
theorem ee_48_69 {d : Nat} {ls st : List Value} {h : aH} {r : Nat} : go d 48 69 ls (.ref r :: st) h = (gf h r 2 7 7).bind fun z => go d 48 72 ls (z :: st) h := go_getf ke_48_69
theorem ke_48_72 : alook 48 72 = some (72, .getfield 68, 3, (0, 0, 0, 2, 0), ⟨"", "", ""⟩, "WordHides$Board") := rfl
theorem ee_48_72 {d : Nat} {ls st : List Value} {h : aH} {r : Nat} : go d 48 72 ls (.ref r :: st) h = (gf h r 0 0 0).bind fun z => go d 48 75 ls (z :: st) h := go_getf ke_48_72
theorem ke_48_75 : alook 48 75 = some (75, .getfield 90, 3, (0, 4, 4, 2, 0), ⟨"", "", ""⟩, "WordHides$Square") := rfl
theorem ee_48_75 {d : Nat} {ls st : List Value} {h : aH} {r : Nat} : go d 48 75 ls (.ref r :: st) h = (gf h r 0 4 4).bind fun z => go d 48 78 ls (z :: st) h := go_getf ke_48_75
theorem ke_48_78 : alook 48 78 = some (78, .iload_n 2, 1, (0, 0, 0, 0, 0), ⟨"", "", ""⟩, "") := rfl
theorem ee_48_78 {d : Nat} {h : aH} {l0 l1 : Value} {x : Int32} {st : List Value} : go d 48 78 [l0, l1, .int x] st h = go d 48 79 [l0, l1, .int x] (.int x :: st) h := go_plain (q := (79, [l0, l1, .int x], (.int x :: st), h)) ke_48_78 rfl
theorem ke_48_79 : alook 48 79 = some (79, .aload_n 0, 1, (0, 0, 0, 0, 0), ⟨"", "", ""⟩, "") := rfl
theorem ee_48_79 {d : Nat} {h : aH} {l1 l2 : Value} {x : Nat} {st : List Value} : go d 48 79 [.ref x, l1, l2] st h = go d 48 80 [.ref x, l1, l2] (.ref x :: st) h := go_plain (q := (80, [.ref x, l1, l2], (.ref x :: st), h)) ke_48_79 rfl
theorem ee_48_79N {d : Nat} {h : aH} {l1 l2 : Value} {st : List Value} : go d 48 79 [.null, l1, l2] st h = go d 48 80 [.null, l1, l2] (.null :: st) h := go_plain (q := (80, [.null, l1, l2], (.null :: st), h)) ke_48_79 rfl
theorem ke_48_80 : alook 48 80 = some (80, .getfield 37, 3, (4, 7, 7, 2, 0), ⟨"", "", ""⟩, "WordHides") := rfl
theorem ee_48_80 {d : Nat} {ls st : List Value} {h : aH} {r : Nat} : go d 48 80 ls (.ref r :: st) h = (gf h r 4 7 7).bind fun z => go d 48 83 ls (z :: st) h := go_getf ke_48_80
theorem ke_48_83 : alook 48 83 = some (83, .getfield 126, 3, (0, 5, 5, 2, 0), ⟨"", "", ""⟩, "WordHides$Text") := rfl
theorem ee_48_83 {d : Nat} {ls st : List Value} {h : aH} {r : Nat} : go d 48 83 ls (.ref r :: st) h = (gf h r 0 5 5).bind fun z => go d 48 86 ls (z :: st) h := go_getf ke_48_83
theorem ke_48_86 : alook 48 86 = some (86, .iload_n 2, 1, (0, 0, 0, 0, 0), ⟨"", "", ""⟩, "") := rfl
theorem ee_48_86 {d : Nat} {h : aH} {l0 l1 : Value} {x : Int32} {st : List Value} : go d 48 86 [l0, l1, .int x] st h = go d 48 87 [l0, l1, .int x] (.int x :: st) h := go_plain (q := (87, [l0, l1, .int x], (.int x :: st), h)) ke_48_86 rfl
theorem ke_48_87 : alook 48 87 = some (87, .iaload, 1, (0, 0, 0, 0, 0), ⟨"", "", ""⟩, "") := rfl
theorem ee_48_87 {d : Nat} {ls st : List Value} {h : aH} {r : Nat} {i : Int32} : go d 48 87 ls (.int i :: .ref r :: st) h = (ia h r i).bind fun z => go d 48 88 ls (.int z :: st) h := go_iald ke_48_87
theorem ke_48_88 : alook 48 88 = some (88, .iastore, 1, (0, 0, 0, 0, 0), ⟨"", "", ""⟩, "") := rfl
theorem ee_48_88 {d : Nat} {ls st : List Value} {h : aH} {r : Nat} {i x : Int32} : go d 48 88 ls (.int x :: .int i :: .ref r :: st) h = (is_ h r i x).bind fun h' => go d 48 89 ls st h' := go_iast ke_48_88
theorem ke_48_89 : alook 48 89 = some (89, .iinc 2 1, 3, (0, 0, 0, 0, 0), ⟨"", "", ""⟩, "") := rfl
theorem ee_48_89 {d : Nat} {h : aH} {l0 l1 : Value} {x : Int32} {st : List Value} : go d 48 89 [l0, l1, .int x] st h = go d 48 92 [l0, l1, .int (x + 1)] st h := go_plain (q := (92, [l0, l1, .int (x + 1)], st, h)) ke_48_89 rfl
theorem ke_48_92 : alook 48 92 = some (92, .goto (-62), 3, (30, 0, 0, 0, 0), ⟨"", "", ""⟩, "") := rfl
theorem ee_48_92 {d : Nat} {h : aH} {ls st : List Value} : go d 48 92 ls st h = go d 48 30 ls st h := go_plain (q := (30, ls, st, h)) ke_48_92 rfl
theorem ke_48_95 : alook 48 95 = some (95, .aload_n 0, 1, (0, 0, 0, 0, 0), ⟨"", "", ""⟩, "") := rfl
theorem ee_48_95 {d : Nat} {h : aH} {l1 l2 : Value} {x : Nat} {st : List Value} : go d 48 95 [.ref x, l1, l2] st h = go d 48 96 [.ref x, l1, l2] (.ref x :: st) h := go_plain (q := (96, [.ref x, l1, l2], (.ref x :: st), h)) ke_48_95 rfl
theorem ee_48_95N {d : Nat} {h : aH} {l1 l2 : Value} {st : List Value} : go d 48 95 [.null, l1, l2] st h = go d 48 96 [.null, l1, l2] (.null :: st) h := go_plain (q := (96, [.null, l1, l2], (.null :: st), h)) ke_48_95 rfl
theorem ke_48_96 : alook 48 96 = some (96, .getfield 37, 3, (4, 7, 7, 2, 0), ⟨"", "", ""⟩, "WordHides") := rfl
theorem ee_48_96 {d : Nat} {ls st : List Value} {h : aH} {r : Nat} : go d 48 96 ls (.ref r :: st) h = (gf h r 4 7 7).bind fun z => go d 48 99 ls (z :: st) h := go_getf ke_48_96
theorem ke_48_99 : alook 48 99 = some (99, .iconst 0, 1, (0, 0, 0, 0, 0), ⟨"", "", ""⟩, "") := rfl
theorem ee_48_99 {d : Nat} {h : aH} {ls st : List Value} : go d 48 99 ls st h = go d 48 100 ls (.int 0 :: st) h := go_plain (q := (100, ls, (.int 0 :: st), h)) ke_48_99 rfl
theorem ke_48_100 : alook 48 100 = some (100, .putfield 94, 3, (1, 5, 5, 0, 0), ⟨"", "", ""⟩, "WordHides$Text") := rfl
theorem ee_48_100 {d : Nat} {ls st : List Value} {h : aH} {r : Nat} {w : Value} : go d 48 100 ls (w :: .ref r :: st) h = (pf h r 1 5 5 0 w).bind fun h' => go d 48 103 ls st h' := go_putf ke_48_100
theorem ke_48_103 : alook 48 103 = some (103, .aload_n 0, 1, (0, 0, 0, 0, 0), ⟨"", "", ""⟩, "") := rfl
theorem ee_48_103 {d : Nat} {h : aH} {l1 l2 : Value} {x : Nat} {st : List Value} : go d 48 103 [.ref x, l1, l2] st h = go d 48 104 [.ref x, l1, l2] (.ref x :: st) h := go_plain (q := (104, [.ref x, l1, l2], (.ref x :: st), h)) ke_48_103 rfl
theorem ee_48_103N {d : Nat} {h : aH} {l1 l2 : Value} {st : List Value} : go d 48 103 [.null, l1, l2] st h = go d 48 104 [.null, l1, l2] (.null :: st) h := go_plain (q := (104, [.null, l1, l2], (.null :: st), h)) ke_48_103 rfl
theorem ke_48_104 : alook 48 104 = some (104, .invokevirtual 80, 3, (0, 7, 63, 7, 63), ⟨"WordHides", "forgetLayings", "()V"⟩, "") := rfl
theorem ee_48_104 {d : Nat} {ls : List Value} {h : aH} {r0 : Nat} : go (d + 1) 48 104 ls [.ref r0] h = if isC h r0 7 = true then (go d 63 0 [.ref r0] [] h).bind (fun q => go (d + 1) 48 107 ls (q.1.toList ++ []) q.2) else none := go_cv1 (as := []) (rest := []) (L := [.ref r0]) ke_48_104 rfl rfl rfl
theorem ke_48_107 : alook 48 107 = some (107, .iload_n 1, 1, (0, 0, 0, 0, 0), ⟨"", "", ""⟩, "") := rfl
theorem ee_48_107 {d : Nat} {h : aH} {l0 l2 : Value} {x : Int32} {st : List Value} : go d 48 107 [l0, .int x, l2] st h = go d 48 108 [l0, .int x, l2] (.int x :: st) h := go_plain (q := (108, [l0, .int x, l2], (.int x :: st), h)) ke_48_107 rfl
theorem ke_48_108 : alook 48 108 = some (108, .ireturn, 1, (0, 0, 0, 0, 0), ⟨"", "", ""⟩, "") := rfl
theorem ee_48_108 {d : Nat} {ls : List Value} {h : aH} {v : Int32} : go d 48 108 ls [.int v] h = some (some (.int v), h) := go_iret ke_48_108
theorem ke_49_0 : alook 49 0 = some (0, .iload_n 1, 1, (0, 0, 0, 0, 0), ⟨"", "", ""⟩, "") := rfl
theorem ee_49_0 {d : Nat} {h : aH} {l0 l2 l3 l4 : Value} {x : Int32} {st : List Value} : go d 49 0 [l0, .int x, l2, l3, l4] st h = go d 49 1 [l0, .int x, l2, l3, l4] (.int x :: st) h := go_plain (q := (1, [l0, .int x, l2, l3, l4], (.int x :: st), h)) ke_49_0 rfl
theorem ke_49_1 : alook 49 1 = some (1, .ifCond .lt 13, 3, (14, 0, 0, 0, 0), ⟨"", "", ""⟩, "") := rfl
theorem ee_49_1 {d : Nat} {ls st : List Value} {h : aH} {x : Int32} : go d 49 1 ls (.int x :: st) h = if x < 0 then go d 49 14 ls st h else go d 49 4 ls st h := go_c1 (go_if1 (tg := 14) (q := 4) (f := fun x => decide (x < 0)) ke_49_1 rfl)
theorem ke_49_4 : alook 49 4 = some (4, .iload_n 1, 1, (0, 0, 0, 0, 0), ⟨"", "", ""⟩, "") := rfl
theorem ee_49_4 {d : Nat} {h : aH} {l0 l2 l3 l4 : Value} {x : Int32} {st : List Value} : go d 49 4 [l0, .int x, l2, l3, l4] st h = go d 49 5 [l0, .int x, l2, l3, l4] (.int x :: st) h := go_plain (q := (5, [l0, .int x, l2, l3, l4], (.int x :: st), h)) ke_49_4 rfl
theorem ke_49_5 : alook 49 5 = some (5, .iconst 2, 1, (0, 0, 0, 0, 0), ⟨"", "", ""⟩, "") := rfl
theorem ee_49_5 {d : Nat} {h : aH} {ls st : List Value} : go d 49 5 ls st h = go d 49 6 ls (.int 2 :: st) h := go_plain (q := (6, ls, (.int 2 :: st), h)) ke_49_5 rfl
theorem ke_49_6 : alook 49 6 = some (6, .if_icmp .gt 8, 3, (14, 0, 0, 0, 0), ⟨"", "", ""⟩, "") := rfl
theorem ee_49_6 {d : Nat} {ls st : List Value} {h : aH} {x y : Int32} : go d 49 6 ls (.int y :: .int x :: st) h = if y < x then go d 49 14 ls st h else go d 49 9 ls st h := go_ci (go_if2 (tg := 14) (q := 9) (f := fun x y => decide (y < x)) ke_49_6 rfl)
theorem ke_49_9 : alook 49 9 = some (9, .iload_n 3, 1, (0, 0, 0, 0, 0), ⟨"", "", ""⟩, "") := rfl
theorem ee_49_9 {d : Nat} {h : aH} {l0 l1 l2 l4 : Value} {x : Int32} {st : List Value} : go d 49 9 [l0, l1, l2, .int x, l4] st h = go d 49 10 [l0, l1, l2, .int x, l4] (.int x :: st) h := go_plain (q := (10, [l0, l1, l2, .int x, l4], (.int x :: st), h)) ke_49_9 rfl
theorem ke_49_10 : alook 49 10 = some (10, .iconst (-1), 1, (0, 0, 0, 0, 0), ⟨"", "", ""⟩, "") := rfl
theorem ee_49_10 {d : Nat} {h : aH} {ls st : List Value} : go d 49 10 ls st h = go d 49 11 ls (.int (-1) :: st) h := go_plain (q := (11, ls, (.int (-1) :: st), h)) ke_49_10 rfl
theorem ke_49_11 : alook 49 11 = some (11, .if_icmp .ge 6, 3, (17, 0, 0, 0, 0), ⟨"", "", ""⟩, "") := rfl
theorem ee_49_11 {d : Nat} {ls st : List Value} {h : aH} {x y : Int32} : go d 49 11 ls (.int y :: .int x :: st) h = if y ≤ x then go d 49 17 ls st h else go d 49 14 ls st h := go_ci (go_if2 (tg := 17) (q := 14) (f := fun x y => decide (y ≤ x)) ke_49_11 rfl)
theorem ke_49_14 : alook 49 14 = some (14, .bipush (-2), 2, (0, 0, 0, 0, 0), ⟨"", "", ""⟩, "") := rfl
theorem ee_49_14 {d : Nat} {h : aH} {ls st : List Value} : go d 49 14 ls st h = go d 49 16 ls (.int (-2) :: st) h := go_plain (q := (16, ls, (.int (-2) :: st), h)) ke_49_14 rfl
theorem ke_49_16 : alook 49 16 = some (16, .ireturn, 1, (0, 0, 0, 0, 0), ⟨"", "", ""⟩, "") := rfl
theorem ee_49_16 {d : Nat} {ls : List Value} {h : aH} {v : Int32} : go d 49 16 ls [.int v] h = some (some (.int v), h) := go_iret ke_49_16
theorem ke_49_17 : alook 49 17 = some (17, .iload_n 1, 1, (0, 0, 0, 0, 0), ⟨"", "", ""⟩, "") := rfl
theorem ee_49_17 {d : Nat} {h : aH} {l0 l2 l3 l4 : Value} {x : Int32} {st : List Value} : go d 49 17 [l0, .int x, l2, l3, l4] st h = go d 49 18 [l0, .int x, l2, l3, l4] (.int x :: st) h := go_plain (q := (18, [l0, .int x, l2, l3, l4], (.int x :: st), h)) ke_49_17 rfl
theorem ke_49_18 : alook 49 18 = some (18, .iconst 2, 1, (0, 0, 0, 0, 0), ⟨"", "", ""⟩, "") := rfl
theorem ee_49_18 {d : Nat} {h : aH} {ls st : List Value} : go d 49 18 ls st h = go d 49 19 ls (.int 2 :: st) h := go_plain (q := (19, ls, (.int 2 :: st), h)) ke_49_18 rfl
theorem ke_49_19 : alook 49 19 = some (19, .if_icmp .ne 13, 3, (32, 0, 0, 0, 0), ⟨"", "", ""⟩, "") := rfl
theorem ee_49_19 {d : Nat} {ls st : List Value} {h : aH} {x y : Int32} : go d 49 19 ls (.int y :: .int x :: st) h = if ¬ x = y then go d 49 32 ls st h else go d 49 22 ls st h := go_ci (go_if2 (tg := 32) (q := 22) (f := fun x y => decide (¬ x = y)) ke_49_19 rfl)
theorem ke_49_22 : alook 49 22 = some (22, .aload_n 0, 1, (0, 0, 0, 0, 0), ⟨"", "", ""⟩, "") := rfl
theorem ee_49_22 {d : Nat} {h : aH} {l1 l2 l3 l4 : Value} {x : Nat} {st : List Value} : go d 49 22 [.ref x, l1, l2, l3, l4] st h = go d 49 23 [.ref x, l1, l2, l3, l4] (.ref x :: st) h := go_plain (q := (23, [.ref x, l1, l2, l3, l4], (.ref x :: st), h)) ke_49_22 rfl
theorem ee_49_22N {d : Nat} {h : aH} {l1 l2 l3 l4 : Value} {st : List Value} : go d 49 22 [.null, l1, l2, l3, l4] st h = go d 49 23 [.null, l1, l2, l3, l4] (.null :: st) h := go_plain (q := (23, [.null, l1, l2, l3, l4], (.null :: st), h)) ke_49_22 rfl
theorem ke_49_23 : alook 49 23 = some (23, .getfield 26, 3, (2, 7, 7, 2, 0), ⟨"", "", ""⟩, "WordHides") := rfl
theorem ee_49_23 {d : Nat} {ls st : List Value} {h : aH} {r : Nat} : go d 49 23 ls (.ref r :: st) h = (gf h r 2 7 7).bind fun z => go d 49 26 ls (z :: st) h := go_getf ke_49_23
theorem ke_49_26 : alook 49 26 = some (26, .getfield 113, 3, (3, 0, 0, 2, 0), ⟨"", "", ""⟩, "WordHides$Board") := rfl
theorem ee_49_26 {d : Nat} {ls st : List Value} {h : aH} {r : Nat} : go d 49 26 ls (.ref r :: st) h = (gf h r 3 0 0).bind fun z => go d 49 29 ls (z :: st) h := go_getf ke_49_26
theorem ke_49_29 : alook 49 29 = some (29, .goto 12, 3, (41, 0, 0, 0, 0), ⟨"", "", ""⟩, "") := rfl
theorem ee_49_29 {d : Nat} {h : aH} {ls st : List Value} : go d 49 29 ls st h = go d 49 41 ls st h := go_plain (q := (41, ls, st, h)) ke_49_29 rfl
theorem ke_49_32 : alook 49 32 = some (32, .aload_n 0, 1, (0, 0, 0, 0, 0), ⟨"", "", ""⟩, "") := rfl
theorem ee_49_32 {d : Nat} {h : aH} {l1 l2 l3 l4 : Value} {x : Nat} {st : List Value} : go d 49 32 [.ref x, l1, l2, l3, l4] st h = go d 49 33 [.ref x, l1, l2, l3, l4] (.ref x :: st) h := go_plain (q := (33, [.ref x, l1, l2, l3, l4], (.ref x :: st), h)) ke_49_32 rfl
theorem ee_49_32N {d : Nat} {h : aH} {l1 l2 l3 l4 : Value} {st : List Value} : go d 49 32 [.null, l1, l2, l3, l4] st h = go d 49 33 [.null, l1, l2, l3, l4] (.null :: st) h := go_plain (q := (33, [.null, l1, l2, l3, l4], (.null :: st), h)) ke_49_32 rfl
theorem ke_49_33 : alook 49 33 = some (33, .iload_n 1, 1, (0, 0, 0, 0, 0), ⟨"", "", ""⟩, "") := rfl
theorem ee_49_33 {d : Nat} {h : aH} {l0 l2 l3 l4 : Value} {x : Int32} {st : List Value} : go d 49 33 [l0, .int x, l2, l3, l4] st h = go d 49 34 [l0, .int x, l2, l3, l4] (.int x :: st) h := go_plain (q := (34, [l0, .int x, l2, l3, l4], (.int x :: st), h)) ke_49_33 rfl
theorem ke_49_34 : alook 49 34 = some (34, .invokevirtual 106, 3, (1, 7, 62, 7, 62), ⟨"WordHides", "listOf", "(I)LWordHides$TextList;"⟩, "") := rfl
theorem ee_49_34 {d : Nat} {ls : List Value} {h : aH} {i0 : Int32} {r1 : Nat} : go (d + 1) 49 34 ls [.int i0, .ref r1] h = if isC h r1 7 = true then (go d 62 0 [.ref r1, .int i0] [] h).bind (fun q => go (d + 1) 49 37 ls (q.1.toList ++ []) q.2) else none := go_cv1 (as := [.int i0]) (rest := []) (L := [.ref r1, .int i0]) ke_49_34 rfl rfl rfl
theorem ke_49_37 : alook 49 37 = some (37, .iload_n 2, 1, (0, 0, 0, 0, 0), ⟨"", "", ""⟩, "") := rfl
theorem ee_49_37 {d : Nat} {h : aH} {l0 l1 l3 l4 : Value} {x : Int32} {st : List Value} : go d 49 37 [l0, l1, .int x, l3, l4] st h = go d 49 38 [l0, l1, .int x, l3, l4] (.int x :: st) h := go_plain (q := (38, [l0, l1, .int x, l3, l4], (.int x :: st), h)) ke_49_37 rfl
theorem ke_49_38 : alook 49 38 = some (38, .invokevirtual 129, 3, (1, 6, 37, 6, 37), ⟨"WordHides$TextList", "find", "(I)LWordHides$Text;"⟩, "") := rfl
theorem ee_49_38 {d : Nat} {ls : List Value} {h : aH} {i0 : Int32} {r1 : Nat} : go (d + 1) 49 38 ls [.int i0, .ref r1] h = if isC h r1 6 = true then (go d 37 0 [.ref r1, .int i0] [] h).bind (fun q => go (d + 1) 49 41 ls (q.1.toList ++ []) q.2) else none := go_cv1 (as := [.int i0]) (rest := []) (L := [.ref r1, .int i0]) ke_49_38 rfl rfl rfl
theorem ke_49_41 : alook 49 41 = some (41, .astore 4, 2, (0, 0, 0, 0, 0), ⟨"", "", ""⟩, "") := rfl
theorem ee_49_41 {d : Nat} {h : aH} {l0 l1 l2 l3 l4 : Value} {x : Nat} {st : List Value} : go d 49 41 [l0, l1, l2, l3, l4] (.ref x :: st) h = go d 49 43 [l0, l1, l2, l3, .ref x] st h := go_plain (q := (43, [l0, l1, l2, l3, .ref x], st, h)) ke_49_41 rfl
theorem ee_49_41N {d : Nat} {h : aH} {l0 l1 l2 l3 l4 : Value} {st : List Value} : go d 49 41 [l0, l1, l2, l3, l4] (.null :: st) h = go d 49 43 [l0, l1, l2, l3, .null] st h := go_plain (q := (43, [l0, l1, l2, l3, .null], st, h)) ke_49_41 rfl
theorem ke_49_43 : alook 49 43 = some (43, .aload 4, 2, (0, 0, 0, 0, 0), ⟨"", "", ""⟩, "") := rfl
theorem ee_49_43 {d : Nat} {h : aH} {l0 l1 l2 l3 : Value} {x : Nat} {st : List Value} : go d 49 43 [l0, l1, l2, l3, .ref x] st h = go d 49 45 [l0, l1, l2, l3, .ref x] (.ref x :: st) h := go_plain (q := (45, [l0, l1, l2, l3, .ref x], (.ref x :: st), h)) ke_49_43 rfl
theorem ee_49_43N {d : Nat} {h : aH} {l0 l1 l2 l3 : Value} {st : List Value} : go d 49 43 [l0, l1, l2, l3, .null] st h = go d 49 45 [l0, l1, l2, l3, .null] (.null :: st) h := go_plain (q := (45, [l0, l1, l2, l3, .null], (.null :: st), h)) ke_49_43 rfl
theorem ke_49_45 : alook 49 45 = some (45, .ifnonnull 5, 3, (50, 0, 0, 0, 0), ⟨"", "", ""⟩, "") := rfl
theorem ee_49_45 {d : Nat} {h : aH} {ls st : List Value} {x : Nat} : go d 49 45 ls (.ref x :: st) h = go d 49 50 ls st h := go_plain (q := (50, ls, st, h)) ke_49_45 rfl
theorem ee_49_45N {d : Nat} {h : aH} {ls st : List Value} : go d 49 45 ls (.null :: st) h = go d 49 48 ls st h := go_plain (q := (48, ls, st, h)) ke_49_45 rfl
theorem ke_49_48 : alook 49 48 = some (48, .iconst (-1), 1, (0, 0, 0, 0, 0), ⟨"", "", ""⟩, "") := rfl
theorem ee_49_48 {d : Nat} {h : aH} {ls st : List Value} : go d 49 48 ls st h = go d 49 49 ls (.int (-1) :: st) h := go_plain (q := (49, ls, (.int (-1) :: st), h)) ke_49_48 rfl
theorem ke_49_49 : alook 49 49 = some (49, .ireturn, 1, (0, 0, 0, 0, 0), ⟨"", "", ""⟩, "") := rfl
theorem ee_49_49 {d : Nat} {ls : List Value} {h : aH} {v : Int32} : go d 49 49 ls [.int v] h = some (some (.int v), h) := go_iret ke_49_49
theorem ke_49_50 : alook 49 50 = some (50, .iload_n 3, 1, (0, 0, 0, 0, 0), ⟨"", "", ""⟩, "") := rfl
theorem ee_49_50 {d : Nat} {h : aH} {l0 l1 l2 l4 : Value} {x : Int32} {st : List Value} : go d 49 50 [l0, l1, l2, .int x, l4] st h = go d 49 51 [l0, l1, l2, .int x, l4] (.int x :: st) h := go_plain (q := (51, [l0, l1, l2, .int x, l4], (.int x :: st), h)) ke_49_50 rfl
theorem ke_49_51 : alook 49 51 = some (51, .iconst (-1), 1, (0, 0, 0, 0, 0), ⟨"", "", ""⟩, "") := rfl
theorem ee_49_51 {d : Nat} {h : aH} {ls st : List Value} : go d 49 51 ls st h = go d 49 52 ls (.int (-1) :: st) h := go_plain (q := (52, ls, (.int (-1) :: st), h)) ke_49_51 rfl
theorem ke_49_52 : alook 49 52 = some (52, .if_icmp .ne 9, 3, (61, 0, 0, 0, 0), ⟨"", "", ""⟩, "") := rfl
theorem ee_49_52 {d : Nat} {ls st : List Value} {h : aH} {x y : Int32} : go d 49 52 ls (.int y :: .int x :: st) h = if ¬ x = y then go d 49 61 ls st h else go d 49 55 ls st h := go_ci (go_if2 (tg := 61) (q := 55) (f := fun x y => decide (¬ x = y)) ke_49_52 rfl)
theorem ke_49_55 : alook 49 55 = some (55, .aload 4, 2, (0, 0, 0, 0, 0), ⟨"", "", ""⟩, "") := rfl
theorem ee_49_55 {d : Nat} {h : aH} {l0 l1 l2 l3 : Value} {x : Nat} {st : List Value} : go d 49 55 [l0, l1, l2, l3, .ref x] st h = go d 49 57 [l0, l1, l2, l3, .ref x] (.ref x :: st) h := go_plain (q := (57, [l0, l1, l2, l3, .ref x], (.ref x :: st), h)) ke_49_55 rfl
theorem ee_49_55N {d : Nat} {h : aH} {l0 l1 l2 l3 : Value} {st : List Value} : go d 49 55 [l0, l1, l2, l3, .null] st h = go d 49 57 [l0, l1, l2, l3, .null] (.null :: st) h := go_plain (q := (57, [l0, l1, l2, l3, .null], (.null :: st), h)) ke_49_55 rfl
theorem ke_49_57 : alook 49 57 = some (57, .getfield 94, 3, (1, 5, 5, 0, 0), ⟨"", "", ""⟩, "WordHides$Text") := rfl
theorem ee_49_57 {d : Nat} {ls st : List Value} {h : aH} {r : Nat} : go d 49 57 ls (.ref r :: st) h = (gf h r 1 5 5).bind fun z => go d 49 60 ls (z :: st) h := go_getf ke_49_57
theorem ke_49_60 : alook 49 60 = some (60, .ireturn, 1, (0, 0, 0, 0, 0), ⟨"", "", ""⟩, "") := rfl
theorem ee_49_60 {d : Nat} {ls : List Value} {h : aH} {v : Int32} : go d 49 60 ls [.int v] h = some (some (.int v), h) := go_iret ke_49_60
theorem ke_49_61 : alook 49 61 = some (61, .iload_n 3, 1, (0, 0, 0, 0, 0), ⟨"", "", ""⟩, "") := rfl
theorem ee_49_61 {d : Nat} {h : aH} {l0 l1 l2 l4 : Value} {x : Int32} {st : List Value} : go d 49 61 [l0, l1, l2, .int x, l4] st h = go d 49 62 [l0, l1, l2, .int x, l4] (.int x :: st) h := go_plain (q := (62, [l0, l1, l2, .int x, l4], (.int x :: st), h)) ke_49_61 rfl
theorem ke_49_62 : alook 49 62 = some (62, .aload 4, 2, (0, 0, 0, 0, 0), ⟨"", "", ""⟩, "") := rfl
theorem ee_49_62 {d : Nat} {h : aH} {l0 l1 l2 l3 : Value} {x : Nat} {st : List Value} : go d 49 62 [l0, l1, l2, l3, .ref x] st h = go d 49 64 [l0, l1, l2, l3, .ref x] (.ref x :: st) h := go_plain (q := (64, [l0, l1, l2, l3, .ref x], (.ref x :: st), h)) ke_49_62 rfl
theorem ee_49_62N {d : Nat} {h : aH} {l0 l1 l2 l3 : Value} {st : List Value} : go d 49 62 [l0, l1, l2, l3, .null] st h = go d 49 64 [l0, l1, l2, l3, .null] (.null :: st) h := go_plain (q := (64, [l0, l1, l2, l3, .null], (.null :: st), h)) ke_49_62 rfl
theorem ke_49_64 : alook 49 64 = some (64, .getfield 94, 3, (1, 5, 5, 0, 0), ⟨"", "", ""⟩, "WordHides$Text") := rfl
theorem ee_49_64 {d : Nat} {ls st : List Value} {h : aH} {r : Nat} : go d 49 64 ls (.ref r :: st) h = (gf h r 1 5 5).bind fun z => go d 49 67 ls (z :: st) h := go_getf ke_49_64
theorem ke_49_67 : alook 49 67 = some (67, .if_icmp .ge 13, 3, (80, 0, 0, 0, 0), ⟨"", "", ""⟩, "") := rfl
theorem ee_49_67 {d : Nat} {ls st : List Value} {h : aH} {x y : Int32} : go d 49 67 ls (.int y :: .int x :: st) h = if y ≤ x then go d 49 80 ls st h else go d 49 70 ls st h := go_ci (go_if2 (tg := 80) (q := 70) (f := fun x y => decide (y ≤ x)) ke_49_67 rfl)
theorem ke_49_70 : alook 49 70 = some (70, .aload 4, 2, (0, 0, 0, 0, 0), ⟨"", "", ""⟩, "") := rfl
theorem ee_49_70 {d : Nat} {h : aH} {l0 l1 l2 l3 : Value} {x : Nat} {st : List Value} : go d 49 70 [l0, l1, l2, l3, .ref x] st h = go d 49 72 [l0, l1, l2, l3, .ref x] (.ref x :: st) h := go_plain (q := (72, [l0, l1, l2, l3, .ref x], (.ref x :: st), h)) ke_49_70 rfl
theorem ee_49_70N {d : Nat} {h : aH} {l0 l1 l2 l3 : Value} {st : List Value} : go d 49 70 [l0, l1, l2, l3, .null] st h = go d 49 72 [l0, l1, l2, l3, .null] (.null :: st) h := go_plain (q := (72, [l0, l1, l2, l3, .null], (.null :: st), h)) ke_49_70 rfl
theorem ke_49_72 : alook 49 72 = some (72, .getfield 126, 3, (0, 5, 5, 2, 0), ⟨"", "", ""⟩, "WordHides$Text") := rfl
theorem ee_49_72 {d : Nat} {ls st : List Value} {h : aH} {r : Nat} : go d 49 72 ls (.ref r :: st) h = (gf h r 0 5 5).bind fun z => go d 49 75 ls (z :: st) h := go_getf ke_49_72
theorem ke_49_75 : alook 49 75 = some (75, .iload_n 3, 1, (0, 0, 0, 0, 0), ⟨"", "", ""⟩, "") := rfl
theorem ee_49_75 {d : Nat} {h : aH} {l0 l1 l2 l4 : Value} {x : Int32} {st : List Value} : go d 49 75 [l0, l1, l2, .int x, l4] st h = go d 49 76 [l0, l1, l2, .int x, l4] (.int x :: st) h := go_plain (q := (76, [l0, l1, l2, .int x, l4], (.int x :: st), h)) ke_49_75 rfl
theorem ke_49_76 : alook 49 76 = some (76, .iaload, 1, (0, 0, 0, 0, 0), ⟨"", "", ""⟩, "") := rfl
theorem ee_49_76 {d : Nat} {ls st : List Value} {h : aH} {r : Nat} {i : Int32} : go d 49 76 ls (.int i :: .ref r :: st) h = (ia h r i).bind fun z => go d 49 77 ls (.int z :: st) h := go_iald ke_49_76
theorem ke_49_77 : alook 49 77 = some (77, .goto 5, 3, (82, 0, 0, 0, 0), ⟨"", "", ""⟩, "") := rfl
theorem ee_49_77 {d : Nat} {h : aH} {ls st : List Value} : go d 49 77 ls st h = go d 49 82 ls st h := go_plain (q := (82, ls, st, h)) ke_49_77 rfl
theorem ke_49_80 : alook 49 80 = some (80, .bipush (-6), 2, (0, 0, 0, 0, 0), ⟨"", "", ""⟩, "") := rfl
theorem ee_49_80 {d : Nat} {h : aH} {ls st : List Value} : go d 49 80 ls st h = go d 49 82 ls (.int (-6) :: st) h := go_plain (q := (82, ls, (.int (-6) :: st), h)) ke_49_80 rfl
theorem ke_49_82 : alook 49 82 = some (82, .ireturn, 1, (0, 0, 0, 0, 0), ⟨"", "", ""⟩, "") := rfl
theorem ee_49_82 {d : Nat} {ls : List Value} {h : aH} {v : Int32} : go d 49 82 ls [.int v] h = some (some (.int v), h) := go_iret ke_49_82
theorem ke_50_0 : alook 50 0 = some (0, .iload_n 1, 1, (0, 0, 0, 0, 0), ⟨"", "", ""⟩, "") := rfl
theorem ee_50_0 {d : Nat} {h : aH} {l0 l2 l3 l4 : Value} {x : Int32} {st : List Value} : go d 50 0 [l0, .int x, l2, l3, l4] st h = go d 50 1 [l0, .int x, l2, l3, l4] (.int x :: st) h := go_plain (q := (1, [l0, .int x, l2, l3, l4], (.int x :: st), h)) ke_50_0 rfl
theorem ke_50_1 : alook 50 1 = some (1, .ifCond .eq 8, 3, (9, 0, 0, 0, 0), ⟨"", "", ""⟩, "") := rfl
theorem ee_50_1 {d : Nat} {ls st : List Value} {h : aH} {x : Int32} : go d 50 1 ls (.int x :: st) h = if x = 0 then go d 50 9 ls st h else go d 50 4 ls st h := go_c1 (go_if1 (tg := 9) (q := 4) (f := fun x => decide (x = 0)) ke_50_1 rfl)
theorem ke_50_4 : alook 50 4 = some (4, .iload_n 1, 1, (0, 0, 0, 0, 0), ⟨"", "", ""⟩, "") := rfl
theorem ee_50_4 {d : Nat} {h : aH} {l0 l2 l3 l4 : Value} {x : Int32} {st : List Value} : go d 50 4 [l0, .int x, l2, l3, l4] st h = go d 50 5 [l0, .int x, l2, l3, l4] (.int x :: st) h := go_plain (q := (5, [l0, .int x, l2, l3, l4], (.int x :: st), h)) ke_50_4 rfl
theorem ke_50_5 : alook 50 5 = some (5, .iconst 1, 1, (0, 0, 0, 0, 0), ⟨"", "", ""⟩, "") := rfl
theorem ee_50_5 {d : Nat} {h : aH} {ls st : List Value} : go d 50 5 ls st h = go d 50 6 ls (.int 1 :: st) h := go_plain (q := (6, ls, (.int 1 :: st), h)) ke_50_5 rfl
theorem ke_50_6 : alook 50 6 = some (6, .if_icmp .ne 8, 3, (14, 0, 0, 0, 0), ⟨"", "", ""⟩, "") := rfl
theorem ee_50_6 {d : Nat} {ls st : List Value} {h : aH} {x y : Int32} : go d 50 6 ls (.int y :: .int x :: st) h = if ¬ x = y then go d 50 14 ls st h else go d 50 9 ls st h := go_ci (go_if2 (tg := 14) (q := 9) (f := fun x y => decide (¬ x = y)) ke_50_6 rfl)
theorem ke_50_9 : alook 50 9 = some (9, .iload_n 3, 1, (0, 0, 0, 0, 0), ⟨"", "", ""⟩, "") := rfl
theorem ee_50_9 {d : Nat} {h : aH} {l0 l1 l2 l4 : Value} {x : Int32} {st : List Value} : go d 50 9 [l0, l1, l2, .int x, l4] st h = go d 50 10 [l0, l1, l2, .int x, l4] (.int x :: st) h := go_plain (q := (10, [l0, l1, l2, .int x, l4], (.int x :: st), h)) ke_50_9 rfl
theorem ke_50_10 : alook 50 10 = some (10, .iconst (-1), 1, (0, 0, 0, 0, 0), ⟨"", "", ""⟩, "") := rfl
theorem ee_50_10 {d : Nat} {h : aH} {ls st : List Value} : go d 50 10 ls st h = go d 50 11 ls (.int (-1) :: st) h := go_plain (q := (11, ls, (.int (-1) :: st), h)) ke_50_10 rfl
theorem ke_50_11 : alook 50 11 = some (11, .if_icmp .ge 6, 3, (17, 0, 0, 0, 0), ⟨"", "", ""⟩, "") := rfl
theorem ee_50_11 {d : Nat} {ls st : List Value} {h : aH} {x y : Int32} : go d 50 11 ls (.int y :: .int x :: st) h = if y ≤ x then go d 50 17 ls st h else go d 50 14 ls st h := go_ci (go_if2 (tg := 17) (q := 14) (f := fun x y => decide (y ≤ x)) ke_50_11 rfl)
theorem ke_50_14 : alook 50 14 = some (14, .bipush (-2), 2, (0, 0, 0, 0, 0), ⟨"", "", ""⟩, "") := rfl
theorem ee_50_14 {d : Nat} {h : aH} {ls st : List Value} : go d 50 14 ls st h = go d 50 16 ls (.int (-2) :: st) h := go_plain (q := (16, ls, (.int (-2) :: st), h)) ke_50_14 rfl
theorem ke_50_16 : alook 50 16 = some (16, .ireturn, 1, (0, 0, 0, 0, 0), ⟨"", "", ""⟩, "") := rfl
theorem ee_50_16 {d : Nat} {ls : List Value} {h : aH} {v : Int32} : go d 50 16 ls [.int v] h = some (some (.int v), h) := go_iret ke_50_16
theorem ke_50_17 : alook 50 17 = some (17, .aload_n 0, 1, (0, 0, 0, 0, 0), ⟨"", "", ""⟩, "") := rfl
theorem ee_50_17 {d : Nat} {h : aH} {l1 l2 l3 l4 : Value} {x : Nat} {st : List Value} : go d 50 17 [.ref x, l1, l2, l3, l4] st h = go d 50 18 [.ref x, l1, l2, l3, l4] (.ref x :: st) h := go_plain (q := (18, [.ref x, l1, l2, l3, l4], (.ref x :: st), h)) ke_50_17 rfl
theorem ee_50_17N {d : Nat} {h : aH} {l1 l2 l3 l4 : Value} {st : List Value} : go d 50 17 [.null, l1, l2, l3, l4] st h = go d 50 18 [.null, l1, l2, l3, l4] (.null :: st) h := go_plain (q := (18, [.null, l1, l2, l3, l4], (.null :: st), h)) ke_50_17 rfl
theorem ke_50_18 : alook 50 18 = some (18, .iload_n 1, 1, (0, 0, 0, 0, 0), ⟨"", "", ""⟩, "") := rfl
theorem ee_50_18 {d : Nat} {h : aH} {l0 l2 l3 l4 : Value} {x : Int32} {st : List Value} : go d 50 18 [l0, .int x, l2, l3, l4] st h = go d 50 19 [l0, .int x, l2, l3, l4] (.int x :: st) h := go_plain (q := (19, [l0, .int x, l2, l3, l4], (.int x :: st), h)) ke_50_18 rfl
theorem ke_50_19 : alook 50 19 = some (19, .invokevirtual 106, 3, (1, 7, 62, 7, 62), ⟨"WordHides", "listOf", "(I)LWordHides$TextList;"⟩, "") := rfl
theorem ee_50_19 {d : Nat} {ls : List Value} {h : aH} {i0 : Int32} {r1 : Nat} : go (d + 1) 50 19 ls [.int i0, .ref r1] h = if isC h r1 7 = true then (go d 62 0 [.ref r1, .int i0] [] h).bind (fun q => go (d + 1) 50 22 ls (q.1.toList ++ []) q.2) else none := go_cv1 (as := [.int i0]) (rest := []) (L := [.ref r1, .int i0]) ke_50_19 rfl rfl rfl
theorem ke_50_22 : alook 50 22 = some (22, .iload_n 2, 1, (0, 0, 0, 0, 0), ⟨"", "", ""⟩, "") := rfl
theorem ee_50_22 {d : Nat} {h : aH} {l0 l1 l3 l4 : Value} {x : Int32} {st : List Value} : go d 50 22 [l0, l1, .int x, l3, l4] st h = go d 50 23 [l0, l1, .int x, l3, l4] (.int x :: st) h := go_plain (q := (23, [l0, l1, .int x, l3, l4], (.int x :: st), h)) ke_50_22 rfl
theorem ke_50_23 : alook 50 23 = some (23, .invokevirtual 129, 3, (1, 6, 37, 6, 37), ⟨"WordHides$TextList", "find", "(I)LWordHides$Text;"⟩, "") := rfl
theorem ee_50_23 {d : Nat} {ls : List Value} {h : aH} {i0 : Int32} {r1 : Nat} : go (d + 1) 50 23 ls [.int i0, .ref r1] h = if isC h r1 6 = true then (go d 37 0 [.ref r1, .int i0] [] h).bind (fun q => go (d + 1) 50 26 ls (q.1.toList ++ []) q.2) else none := go_cv1 (as := [.int i0]) (rest := []) (L := [.ref r1, .int i0]) ke_50_23 rfl rfl rfl
theorem ke_50_26 : alook 50 26 = some (26, .astore 4, 2, (0, 0, 0, 0, 0), ⟨"", "", ""⟩, "") := rfl
theorem ee_50_26 {d : Nat} {h : aH} {l0 l1 l2 l3 l4 : Value} {x : Nat} {st : List Value} : go d 50 26 [l0, l1, l2, l3, l4] (.ref x :: st) h = go d 50 28 [l0, l1, l2, l3, .ref x] st h := go_plain (q := (28, [l0, l1, l2, l3, .ref x], st, h)) ke_50_26 rfl
theorem ee_50_26N {d : Nat} {h : aH} {l0 l1 l2 l3 l4 : Value} {st : List Value} : go d 50 26 [l0, l1, l2, l3, l4] (.null :: st) h = go d 50 28 [l0, l1, l2, l3, .null] st h := go_plain (q := (28, [l0, l1, l2, l3, .null], st, h)) ke_50_26 rfl
theorem ke_50_28 : alook 50 28 = some (28, .aload 4, 2, (0, 0, 0, 0, 0), ⟨"", "", ""⟩, "") := rfl
theorem ee_50_28 {d : Nat} {h : aH} {l0 l1 l2 l3 : Value} {x : Nat} {st : List Value} : go d 50 28 [l0, l1, l2, l3, .ref x] st h = go d 50 30 [l0, l1, l2, l3, .ref x] (.ref x :: st) h := go_plain (q := (30, [l0, l1, l2, l3, .ref x], (.ref x :: st), h)) ke_50_28 rfl
theorem ee_50_28N {d : Nat} {h : aH} {l0 l1 l2 l3 : Value} {st : List Value} : go d 50 28 [l0, l1, l2, l3, .null] st h = go d 50 30 [l0, l1, l2, l3, .null] (.null :: st) h := go_plain (q := (30, [l0, l1, l2, l3, .null], (.null :: st), h)) ke_50_28 rfl
theorem ke_50_30 : alook 50 30 = some (30, .ifnonnull 5, 3, (35, 0, 0, 0, 0), ⟨"", "", ""⟩, "") := rfl
theorem ee_50_30 {d : Nat} {h : aH} {ls st : List Value} {x : Nat} : go d 50 30 ls (.ref x :: st) h = go d 50 35 ls st h := go_plain (q := (35, ls, st, h)) ke_50_30 rfl
theorem ee_50_30N {d : Nat} {h : aH} {ls st : List Value} : go d 50 30 ls (.null :: st) h = go d 50 33 ls st h := go_plain (q := (33, ls, st, h)) ke_50_30 rfl
theorem ke_50_33 : alook 50 33 = some (33, .iconst (-1), 1, (0, 0, 0, 0, 0), ⟨"", "", ""⟩, "") := rfl
theorem ee_50_33 {d : Nat} {h : aH} {ls st : List Value} : go d 50 33 ls st h = go d 50 34 ls (.int (-1) :: st) h := go_plain (q := (34, ls, (.int (-1) :: st), h)) ke_50_33 rfl
theorem ke_50_34 : alook 50 34 = some (34, .ireturn, 1, (0, 0, 0, 0, 0), ⟨"", "", ""⟩, "") := rfl
theorem ee_50_34 {d : Nat} {ls : List Value} {h : aH} {v : Int32} : go d 50 34 ls [.int v] h = some (some (.int v), h) := go_iret ke_50_34
theorem ke_50_35 : alook 50 35 = some (35, .aload_n 0, 1, (0, 0, 0, 0, 0), ⟨"", "", ""⟩, "") := rfl
theorem ee_50_35 {d : Nat} {h : aH} {l1 l2 l3 l4 : Value} {x : Nat} {st : List Value} : go d 50 35 [.ref x, l1, l2, l3, l4] st h = go d 50 36 [.ref x, l1, l2, l3, l4] (.ref x :: st) h := go_plain (q := (36, [.ref x, l1, l2, l3, l4], (.ref x :: st), h)) ke_50_35 rfl
theorem ee_50_35N {d : Nat} {h : aH} {l1 l2 l3 l4 : Value} {st : List Value} : go d 50 35 [.null, l1, l2, l3, l4] st h = go d 50 36 [.null, l1, l2, l3, l4] (.null :: st) h := go_plain (q := (36, [.null, l1, l2, l3, l4], (.null :: st), h)) ke_50_35 rfl
theorem ke_50_36 : alook 50 36 = some (36, .getfield 26, 3, (2, 7, 7, 2, 0), ⟨"", "", ""⟩, "WordHides") := rfl
theorem ee_50_36 {d : Nat} {ls st : List Value} {h : aH} {r : Nat} : go d 50 36 ls (.ref r :: st) h = (gf h r 2 7 7).bind fun z => go d 50 39 ls (z :: st) h := go_getf ke_50_36
theorem ke_50_39 : alook 50 39 = some (39, .getfield 68, 3, (0, 0, 0, 2, 0), ⟨"", "", ""⟩, "WordHides$Board") := rfl
theorem ee_50_39 {d : Nat} {ls st : List Value} {h : aH} {r : Nat} : go d 50 39 ls (.ref r :: st) h = (gf h r 0 0 0).bind fun z => go d 50 42 ls (z :: st) h := go_getf ke_50_39
theorem ke_50_42 : alook 50 42 = some (42, .aload 4, 2, (0, 0, 0, 0, 0), ⟨"", "", ""⟩, "") := rfl
theorem ee_50_42 {d : Nat} {h : aH} {l0 l1 l2 l3 : Value} {x : Nat} {st : List Value} : go d 50 42 [l0, l1, l2, l3, .ref x] st h = go d 50 44 [l0, l1, l2, l3, .ref x] (.ref x :: st) h := go_plain (q := (44, [l0, l1, l2, l3, .ref x], (.ref x :: st), h)) ke_50_42 rfl
theorem ee_50_42N {d : Nat} {h : aH} {l0 l1 l2 l3 : Value} {st : List Value} : go d 50 42 [l0, l1, l2, l3, .null] st h = go d 50 44 [l0, l1, l2, l3, .null] (.null :: st) h := go_plain (q := (44, [l0, l1, l2, l3, .null], (.null :: st), h)) ke_50_42 rfl
theorem ke_50_44 : alook 50 44 = some (44, .iload_n 3, 1, (0, 0, 0, 0, 0), ⟨"", "", ""⟩, "") := rfl
theorem ee_50_44 {d : Nat} {h : aH} {l0 l1 l2 l4 : Value} {x : Int32} {st : List Value} : go d 50 44 [l0, l1, l2, .int x, l4] st h = go d 50 45 [l0, l1, l2, .int x, l4] (.int x :: st) h := go_plain (q := (45, [l0, l1, l2, .int x, l4], (.int x :: st), h)) ke_50_44 rfl
theorem ke_50_45 : alook 50 45 = some (45, .invokevirtual 133, 3, (2, 4, 28, 4, 28), ⟨"WordHides$Square", "standing", "(LWordHides$Text;I)I"⟩, "") := rfl
theorem ee_50_45 {d : Nat} {ls : List Value} {h : aH} {i0 : Int32} {r1 : Nat} {r2 : Nat} : go (d + 1) 50 45 ls [.int i0, .ref r1, .ref r2] h = if isC h r2 4 = true then (go d 28 0 [.ref r2, .ref r1, .int i0, aU, aU, aU] [] h).bind (fun q => go (d + 1) 50 48 ls (q.1.toList ++ []) q.2) else none := go_cv1 (as := [.ref r1, .int i0]) (rest := []) (L := [.ref r2, .ref r1, .int i0, aU, aU, aU]) ke_50_45 rfl rfl rfl
theorem ke_50_48 : alook 50 48 = some (48, .ireturn, 1, (0, 0, 0, 0, 0), ⟨"", "", ""⟩, "") := rfl
theorem ee_50_48 {d : Nat} {ls : List Value} {h : aH} {v : Int32} : go d 50 48 ls [.int v] h = some (some (.int v), h) := go_iret ke_50_48
theorem ke_51_0 : alook 51 0 = some (0, .aload_n 0, 1, (0, 0, 0, 0, 0), ⟨"", "", ""⟩, "") := rfl
theorem ee_51_0 {d : Nat} {h : aH} {l1 l2 l3 l4 : Value} {x : Nat} {st : List Value} : go d 51 0 [.ref x, l1, l2, l3, l4] st h = go d 51 1 [.ref x, l1, l2, l3, l4] (.ref x :: st) h := go_plain (q := (1, [.ref x, l1, l2, l3, l4], (.ref x :: st), h)) ke_51_0 rfl
theorem ee_51_0N {d : Nat} {h : aH} {l1 l2 l3 l4 : Value} {st : List Value} : go d 51 0 [.null, l1, l2, l3, l4] st h = go d 51 1 [.null, l1, l2, l3, l4] (.null :: st) h := go_plain (q := (1, [.null, l1, l2, l3, l4], (.null :: st), h)) ke_51_0 rfl
theorem ke_51_1 : alook 51 1 = some (1, .getfield 26, 3, (2, 7, 7, 2, 0), ⟨"", "", ""⟩, "WordHides") := rfl
theorem ee_51_1 {d : Nat} {ls st : List Value} {h : aH} {r : Nat} : go d 51 1 ls (.ref r :: st) h = (gf h r 2 7 7).bind fun z => go d 51 4 ls (z :: st) h := go_getf ke_51_1
theorem ke_51_4 : alook 51 4 = some (4, .getfield 137, 3, (1, 0, 0, 2, 0), ⟨"", "", ""⟩, "WordHides$Board") := rfl
theorem ee_51_4 {d : Nat} {ls st : List Value} {h : aH} {r : Nat} : go d 51 4 ls (.ref r :: st) h = (gf h r 1 0 0).bind fun z => go d 51 7 ls (z :: st) h := go_getf ke_51_4
theorem ke_51_7 : alook 51 7 = some (7, .iload_n 1, 1, (0, 0, 0, 0, 0), ⟨"", "", ""⟩, "") := rfl
theorem ee_51_7 {d : Nat} {h : aH} {l0 l2 l3 l4 : Value} {x : Int32} {st : List Value} : go d 51 7 [l0, .int x, l2, l3, l4] st h = go d 51 8 [l0, .int x, l2, l3, l4] (.int x :: st) h := go_plain (q := (8, [l0, .int x, l2, l3, l4], (.int x :: st), h)) ke_51_7 rfl
theorem ke_51_8 : alook 51 8 = some (8, .invokevirtual 129, 3, (1, 6, 37, 6, 37), ⟨"WordHides$TextList", "find", "(I)LWordHides$Text;"⟩, "") := rfl
theorem ee_51_8 {d : Nat} {ls : List Value} {h : aH} {i0 : Int32} {r1 : Nat} : go (d + 1) 51 8 ls [.int i0, .ref r1] h = if isC h r1 6 = true then (go d 37 0 [.ref r1, .int i0] [] h).bind (fun q => go (d + 1) 51 11 ls (q.1.toList ++ []) q.2) else none := go_cv1 (as := [.int i0]) (rest := []) (L := [.ref r1, .int i0]) ke_51_8 rfl rfl rfl
theorem ke_51_11 : alook 51 11 = some (11, .astore_n 3, 1, (0, 0, 0, 0, 0), ⟨"", "", ""⟩, "") := rfl
theorem ee_51_11 {d : Nat} {h : aH} {l0 l1 l2 l3 l4 : Value} {x : Nat} {st : List Value} : go d 51 11 [l0, l1, l2, l3, l4] (.ref x :: st) h = go d 51 12 [l0, l1, l2, .ref x, l4] st h := go_plain (q := (12, [l0, l1, l2, .ref x, l4], st, h)) ke_51_11 rfl
theorem ee_51_11N {d : Nat} {h : aH} {l0 l1 l2 l3 l4 : Value} {st : List Value} : go d 51 11 [l0, l1, l2, l3, l4] (.null :: st) h = go d 51 12 [l0, l1, l2, .null, l4] st h := go_plain (q := (12, [l0, l1, l2, .null, l4], st, h)) ke_51_11 rfl
theorem ke_51_12 : alook 51 12 = some (12, .aload_n 3, 1, (0, 0, 0, 0, 0), ⟨"", "", ""⟩, "") := rfl
theorem ee_51_12 {d : Nat} {h : aH} {l0 l1 l2 l4 : Value} {x : Nat} {st : List Value} : go d 51 12 [l0, l1, l2, .ref x, l4] st h = go d 51 13 [l0, l1, l2, .ref x, l4] (.ref x :: st) h := go_plain (q := (13, [l0, l1, l2, .ref x, l4], (.ref x :: st), h)) ke_51_12 rfl
theorem ee_51_12N {d : Nat} {h : aH} {l0 l1 l2 l4 : Value} {st : List Value} : go d 51 12 [l0, l1, l2, .null, l4] st h = go d 51 13 [l0, l1, l2, .null, l4] (.null :: st) h := go_plain (q := (13, [l0, l1, l2, .null, l4], (.null :: st), h)) ke_51_12 rfl
theorem ke_51_13 : alook 51 13 = some (13, .ifnonnull 5, 3, (18, 0, 0, 0, 0), ⟨"", "", ""⟩, "") := rfl
theorem ee_51_13 {d : Nat} {h : aH} {ls st : List Value} {x : Nat} : go d 51 13 ls (.ref x :: st) h = go d 51 18 ls st h := go_plain (q := (18, ls, st, h)) ke_51_13 rfl
theorem ee_51_13N {d : Nat} {h : aH} {ls st : List Value} : go d 51 13 ls (.null :: st) h = go d 51 16 ls st h := go_plain (q := (16, ls, st, h)) ke_51_13 rfl
theorem ke_51_16 : alook 51 16 = some (16, .iconst (-1), 1, (0, 0, 0, 0, 0), ⟨"", "", ""⟩, "") := rfl
theorem ee_51_16 {d : Nat} {h : aH} {ls st : List Value} : go d 51 16 ls st h = go d 51 17 ls (.int (-1) :: st) h := go_plain (q := (17, ls, (.int (-1) :: st), h)) ke_51_16 rfl
theorem ke_51_17 : alook 51 17 = some (17, .ireturn, 1, (0, 0, 0, 0, 0), ⟨"", "", ""⟩, "") := rfl
theorem ee_51_17 {d : Nat} {ls : List Value} {h : aH} {v : Int32} : go d 51 17 ls [.int v] h = some (some (.int v), h) := go_iret ke_51_17
theorem ke_51_18 : alook 51 18 = some (18, .aload_n 0, 1, (0, 0, 0, 0, 0), ⟨"", "", ""⟩, "") := rfl
theorem ee_51_18 {d : Nat} {h : aH} {l1 l2 l3 l4 : Value} {x : Nat} {st : List Value} : go d 51 18 [.ref x, l1, l2, l3, l4] st h = go d 51 19 [.ref x, l1, l2, l3, l4] (.ref x :: st) h := go_plain (q := (19, [.ref x, l1, l2, l3, l4], (.ref x :: st), h)) ke_51_18 rfl
theorem ee_51_18N {d : Nat} {h : aH} {l1 l2 l3 l4 : Value} {st : List Value} : go d 51 18 [.null, l1, l2, l3, l4] st h = go d 51 19 [.null, l1, l2, l3, l4] (.null :: st) h := go_plain (q := (19, [.null, l1, l2, l3, l4], (.null :: st), h)) ke_51_18 rfl
theorem ke_51_19 : alook 51 19 = some (19, .getfield 26, 3, (2, 7, 7, 2, 0), ⟨"", "", ""⟩, "WordHides") := rfl
theorem ee_51_19 {d : Nat} {ls st : List Value} {h : aH} {r : Nat} : go d 51 19 ls (.ref r :: st) h = (gf h r 2 7 7).bind fun z => go d 51 22 ls (z :: st) h := go_getf ke_51_19
theorem ke_51_22 : alook 51 22 = some (22, .getfield 68, 3, (0, 0, 0, 2, 0), ⟨"", "", ""⟩, "WordHides$Board") := rfl
theorem ee_51_22 {d : Nat} {ls st : List Value} {h : aH} {r : Nat} : go d 51 22 ls (.ref r :: st) h = (gf h r 0 0 0).bind fun z => go d 51 25 ls (z :: st) h := go_getf ke_51_22
theorem ke_51_25 : alook 51 25 = some (25, .getfield 71, 3, (1, 4, 4, 2, 0), ⟨"", "", ""⟩, "WordHides$Square") := rfl
theorem ee_51_25 {d : Nat} {ls st : List Value} {h : aH} {r : Nat} : go d 51 25 ls (.ref r :: st) h = (gf h r 1 4 4).bind fun z => go d 51 28 ls (z :: st) h := go_getf ke_51_25
theorem ke_51_28 : alook 51 28 = some (28, .iload_n 2, 1, (0, 0, 0, 0, 0), ⟨"", "", ""⟩, "") := rfl
theorem ee_51_28 {d : Nat} {h : aH} {l0 l1 l3 l4 : Value} {x : Int32} {st : List Value} : go d 51 28 [l0, l1, .int x, l3, l4] st h = go d 51 29 [l0, l1, .int x, l3, l4] (.int x :: st) h := go_plain (q := (29, [l0, l1, .int x, l3, l4], (.int x :: st), h)) ke_51_28 rfl
theorem ke_51_29 : alook 51 29 = some (29, .invokevirtual 141, 3, (1, 3, 13, 3, 13), ⟨"WordHides$Lattice", "hasPlace", "(I)Z"⟩, "") := rfl
theorem ee_51_29 {d : Nat} {ls : List Value} {h : aH} {i0 : Int32} {r1 : Nat} : go (d + 1) 51 29 ls [.int i0, .ref r1] h = if isC h r1 3 = true then (go d 13 0 [.ref r1, .int i0] [] h).bind (fun q => go (d + 1) 51 32 ls (q.1.toList ++ []) q.2) else none := go_cv1 (as := [.int i0]) (rest := []) (L := [.ref r1, .int i0]) ke_51_29 rfl rfl rfl
theorem ke_51_32 : alook 51 32 = some (32, .ifCond .ne 6, 3, (38, 0, 0, 0, 0), ⟨"", "", ""⟩, "") := rfl
theorem ee_51_32 {d : Nat} {ls st : List Value} {h : aH} {x : Int32} : go d 51 32 ls (.int x :: st) h = if ¬ x = 0 then go d 51 38 ls st h else go d 51 35 ls st h := go_c1 (go_if1 (tg := 38) (q := 35) (f := fun x => decide (¬ x = 0)) ke_51_32 rfl)
theorem ke_51_35 : alook 51 35 = some (35, .bipush (-2), 2, (0, 0, 0, 0, 0), ⟨"", "", ""⟩, "") := rfl
theorem ee_51_35 {d : Nat} {h : aH} {ls st : List Value} : go d 51 35 ls st h = go d 51 37 ls (.int (-2) :: st) h := go_plain (q := (37, ls, (.int (-2) :: st), h)) ke_51_35 rfl
theorem ke_51_37 : alook 51 37 = some (37, .ireturn, 1, (0, 0, 0, 0, 0), ⟨"", "", ""⟩, "") := rfl
theorem ee_51_37 {d : Nat} {ls : List Value} {h : aH} {v : Int32} : go d 51 37 ls [.int v] h = some (some (.int v), h) := go_iret ke_51_37
theorem ke_51_38 : alook 51 38 = some (38, .aload_n 0, 1, (0, 0, 0, 0, 0), ⟨"", "", ""⟩, "") := rfl
theorem ee_51_38 {d : Nat} {h : aH} {l1 l2 l3 l4 : Value} {x : Nat} {st : List Value} : go d 51 38 [.ref x, l1, l2, l3, l4] st h = go d 51 39 [.ref x, l1, l2, l3, l4] (.ref x :: st) h := go_plain (q := (39, [.ref x, l1, l2, l3, l4], (.ref x :: st), h)) ke_51_38 rfl
theorem ee_51_38N {d : Nat} {h : aH} {l1 l2 l3 l4 : Value} {st : List Value} : go d 51 38 [.null, l1, l2, l3, l4] st h = go d 51 39 [.null, l1, l2, l3, l4] (.null :: st) h := go_plain (q := (39, [.null, l1, l2, l3, l4], (.null :: st), h)) ke_51_38 rfl
theorem ke_51_39 : alook 51 39 = some (39, .getfield 26, 3, (2, 7, 7, 2, 0), ⟨"", "", ""⟩, "WordHides") := rfl
theorem ee_51_39 {d : Nat} {ls st : List Value} {h : aH} {r : Nat} : go d 51 39 ls (.ref r :: st) h = (gf h r 2 7 7).bind fun z => go d 51 42 ls (z :: st) h := go_getf ke_51_39
theorem ke_51_42 : alook 51 42 = some (42, .getfield 68, 3, (0, 0, 0, 2, 0), ⟨"", "", ""⟩, "WordHides$Board") := rfl
theorem ee_51_42 {d : Nat} {ls st : List Value} {h : aH} {r : Nat} : go d 51 42 ls (.ref r :: st) h = (gf h r 0 0 0).bind fun z => go d 51 45 ls (z :: st) h := go_getf ke_51_42
theorem ke_51_45 : alook 51 45 = some (45, .aload_n 3, 1, (0, 0, 0, 0, 0), ⟨"", "", ""⟩, "") := rfl
theorem ee_51_45 {d : Nat} {h : aH} {l0 l1 l2 l4 : Value} {x : Nat} {st : List Value} : go d 51 45 [l0, l1, l2, .ref x, l4] st h = go d 51 46 [l0, l1, l2, .ref x, l4] (.ref x :: st) h := go_plain (q := (46, [l0, l1, l2, .ref x, l4], (.ref x :: st), h)) ke_51_45 rfl
theorem ee_51_45N {d : Nat} {h : aH} {l0 l1 l2 l4 : Value} {st : List Value} : go d 51 45 [l0, l1, l2, .null, l4] st h = go d 51 46 [l0, l1, l2, .null, l4] (.null :: st) h := go_plain (q := (46, [l0, l1, l2, .null, l4], (.null :: st), h)) ke_51_45 rfl
theorem ke_51_46 : alook 51 46 = some (46, .iload_n 2, 1, (0, 0, 0, 0, 0), ⟨"", "", ""⟩, "") := rfl
theorem ee_51_46 {d : Nat} {h : aH} {l0 l1 l3 l4 : Value} {x : Int32} {st : List Value} : go d 51 46 [l0, l1, .int x, l3, l4] st h = go d 51 47 [l0, l1, .int x, l3, l4] (.int x :: st) h := go_plain (q := (47, [l0, l1, .int x, l3, l4], (.int x :: st), h)) ke_51_46 rfl
theorem ke_51_47 : alook 51 47 = some (47, .invokevirtual 144, 3, (2, 4, 24, 4, 24), ⟨"WordHides$Square", "accepts", "(LWordHides$Text;I)Z"⟩, "") := rfl
theorem ee_51_47 {d : Nat} {ls : List Value} {h : aH} {i0 : Int32} {r1 : Nat} {r2 : Nat} : go (d + 1) 51 47 ls [.int i0, .ref r1, .ref r2] h = if isC h r2 4 = true then (go d 24 0 [.ref r2, .ref r1, .int i0, aU, aU, aU] [] h).bind (fun q => go (d + 1) 51 50 ls (q.1.toList ++ []) q.2) else none := go_cv1 (as := [.ref r1, .int i0]) (rest := []) (L := [.ref r2, .ref r1, .int i0, aU, aU, aU]) ke_51_47 rfl rfl rfl
theorem ke_51_50 : alook 51 50 = some (50, .ifCond .ne 6, 3, (56, 0, 0, 0, 0), ⟨"", "", ""⟩, "") := rfl
theorem ee_51_50 {d : Nat} {ls st : List Value} {h : aH} {x : Int32} : go d 51 50 ls (.int x :: st) h = if ¬ x = 0 then go d 51 56 ls st h else go d 51 53 ls st h := go_c1 (go_if1 (tg := 56) (q := 53) (f := fun x => decide (¬ x = 0)) ke_51_50 rfl)
theorem ke_51_53 : alook 51 53 = some (53, .bipush (-5), 2, (0, 0, 0, 0, 0), ⟨"", "", ""⟩, "") := rfl
theorem ee_51_53 {d : Nat} {h : aH} {ls st : List Value} : go d 51 53 ls st h = go d 51 55 ls (.int (-5) :: st) h := go_plain (q := (55, ls, (.int (-5) :: st), h)) ke_51_53 rfl
theorem ke_51_55 : alook 51 55 = some (55, .ireturn, 1, (0, 0, 0, 0, 0), ⟨"", "", ""⟩, "") := rfl
theorem ee_51_55 {d : Nat} {ls : List Value} {h : aH} {v : Int32} : go d 51 55 ls [.int v] h = some (some (.int v), h) := go_iret ke_51_55
theorem ke_51_56 : alook 51 56 = some (56, .aload_n 0, 1, (0, 0, 0, 0, 0), ⟨"", "", ""⟩, "") := rfl
theorem ee_51_56 {d : Nat} {h : aH} {l1 l2 l3 l4 : Value} {x : Nat} {st : List Value} : go d 51 56 [.ref x, l1, l2, l3, l4] st h = go d 51 57 [.ref x, l1, l2, l3, l4] (.ref x :: st) h := go_plain (q := (57, [.ref x, l1, l2, l3, l4], (.ref x :: st), h)) ke_51_56 rfl
theorem ee_51_56N {d : Nat} {h : aH} {l1 l2 l3 l4 : Value} {st : List Value} : go d 51 56 [.null, l1, l2, l3, l4] st h = go d 51 57 [.null, l1, l2, l3, l4] (.null :: st) h := go_plain (q := (57, [.null, l1, l2, l3, l4], (.null :: st), h)) ke_51_56 rfl
theorem ke_51_57 : alook 51 57 = some (57, .getfield 26, 3, (2, 7, 7, 2, 0), ⟨"", "", ""⟩, "WordHides") := rfl
theorem ee_51_57 {d : Nat} {ls st : List Value} {h : aH} {r : Nat} : go d 51 57 ls (.ref r :: st) h = (gf h r 2 7 7).bind fun z => go d 51 60 ls (z :: st) h := go_getf ke_51_57
theorem ke_51_60 : alook 51 60 = some (60, .getfield 68, 3, (0, 0, 0, 2, 0), ⟨"", "", ""⟩, "WordHides$Board") := rfl
theorem ee_51_60 {d : Nat} {ls st : List Value} {h : aH} {r : Nat} : go d 51 60 ls (.ref r :: st) h = (gf h r 0 0 0).bind fun z => go d 51 63 ls (z :: st) h := go_getf ke_51_60
theorem ke_51_63 : alook 51 63 = some (63, .aload_n 3, 1, (0, 0, 0, 0, 0), ⟨"", "", ""⟩, "") := rfl
theorem ee_51_63 {d : Nat} {h : aH} {l0 l1 l2 l4 : Value} {x : Nat} {st : List Value} : go d 51 63 [l0, l1, l2, .ref x, l4] st h = go d 51 64 [l0, l1, l2, .ref x, l4] (.ref x :: st) h := go_plain (q := (64, [l0, l1, l2, .ref x, l4], (.ref x :: st), h)) ke_51_63 rfl
theorem ee_51_63N {d : Nat} {h : aH} {l0 l1 l2 l4 : Value} {st : List Value} : go d 51 63 [l0, l1, l2, .null, l4] st h = go d 51 64 [l0, l1, l2, .null, l4] (.null :: st) h := go_plain (q := (64, [l0, l1, l2, .null, l4], (.null :: st), h)) ke_51_63 rfl
theorem ke_51_64 : alook 51 64 = some (64, .iload_n 2, 1, (0, 0, 0, 0, 0), ⟨"", "", ""⟩, "") := rfl
theorem ee_51_64 {d : Nat} {h : aH} {l0 l1 l3 l4 : Value} {x : Int32} {st : List Value} : go d 51 64 [l0, l1, .int x, l3, l4] st h = go d 51 65 [l0, l1, .int x, l3, l4] (.int x :: st) h := go_plain (q := (65, [l0, l1, .int x, l3, l4], (.int x :: st), h)) ke_51_64 rfl
theorem ke_51_65 : alook 51 65 = some (65, .invokevirtual 148, 3, (2, 4, 25, 4, 25), ⟨"WordHides$Square", "lay", "(LWordHides$Text;I)I"⟩, "") := rfl
theorem ee_51_65 {d : Nat} {ls : List Value} {h : aH} {i0 : Int32} {r1 : Nat} {r2 : Nat} : go (d + 1) 51 65 ls [.int i0, .ref r1, .ref r2] h = if isC h r2 4 = true then (go d 25 0 [.ref r2, .ref r1, .int i0, aU, aU, aU, aU] [] h).bind (fun q => go (d + 1) 51 68 ls (q.1.toList ++ []) q.2) else none := go_cv1 (as := [.ref r1, .int i0]) (rest := []) (L := [.ref r2, .ref r1, .int i0, aU, aU, aU, aU]) ke_51_65 rfl rfl rfl
theorem ke_51_68 : alook 51 68 = some (68, .istore 4, 2, (0, 0, 0, 0, 0), ⟨"", "", ""⟩, "") := rfl
theorem ee_51_68 {d : Nat} {h : aH} {l0 l1 l2 l3 l4 : Value} {x : Int32} {st : List Value} : go d 51 68 [l0, l1, l2, l3, l4] (.int x :: st) h = go d 51 70 [l0, l1, l2, l3, .int x] st h := go_plain (q := (70, [l0, l1, l2, l3, .int x], st, h)) ke_51_68 rfl
theorem ke_51_70 : alook 51 70 = some (70, .aload_n 0, 1, (0, 0, 0, 0, 0), ⟨"", "", ""⟩, "") := rfl
theorem ee_51_70 {d : Nat} {h : aH} {l1 l2 l3 l4 : Value} {x : Nat} {st : List Value} : go d 51 70 [.ref x, l1, l2, l3, l4] st h = go d 51 71 [.ref x, l1, l2, l3, l4] (.ref x :: st) h := go_plain (q := (71, [.ref x, l1, l2, l3, l4], (.ref x :: st), h)) ke_51_70 rfl
theorem ee_51_70N {d : Nat} {h : aH} {l1 l2 l3 l4 : Value} {st : List Value} : go d 51 70 [.null, l1, l2, l3, l4] st h = go d 51 71 [.null, l1, l2, l3, l4] (.null :: st) h := go_plain (q := (71, [.null, l1, l2, l3, l4], (.null :: st), h)) ke_51_70 rfl
theorem ke_51_71 : alook 51 71 = some (71, .invokevirtual 80, 3, (0, 7, 63, 7, 63), ⟨"WordHides", "forgetLayings", "()V"⟩, "") := rfl
theorem ee_51_71 {d : Nat} {ls : List Value} {h : aH} {r0 : Nat} : go (d + 1) 51 71 ls [.ref r0] h = if isC h r0 7 = true then (go d 63 0 [.ref r0] [] h).bind (fun q => go (d + 1) 51 74 ls (q.1.toList ++ []) q.2) else none := go_cv1 (as := []) (rest := []) (L := [.ref r0]) ke_51_71 rfl rfl rfl
theorem ke_51_74 : alook 51 74 = some (74, .iload 4, 2, (0, 0, 0, 0, 0), ⟨"", "", ""⟩, "") := rfl
theorem ee_51_74 {d : Nat} {h : aH} {l0 l1 l2 l3 : Value} {x : Int32} {st : List Value} : go d 51 74 [l0, l1, l2, l3, .int x] st h = go d 51 76 [l0, l1, l2, l3, .int x] (.int x :: st) h := go_plain (q := (76, [l0, l1, l2, l3, .int x], (.int x :: st), h)) ke_51_74 rfl
theorem ke_51_76 : alook 51 76 = some (76, .invokestatic 151, 3, (1, 0, 119, 0, 0), ⟨"java/lang/Integer", "bitCount", "(I)I"⟩, "") := rfl
theorem ee_51_76 {d : Nat} {ls : List Value} {h : aH} {i0 : Int32} : go (d + 1) 51 76 ls [.int i0] h = (go d 119 0 [.int i0] [] h).bind (fun q => go (d + 1) 51 79 ls (q.1.toList ++ []) q.2) := go_cs (as := [.int i0]) (rest := []) (L := [.int i0]) ke_51_76 rfl rfl rfl
theorem ke_51_79 : alook 51 79 = some (79, .ireturn, 1, (0, 0, 0, 0, 0), ⟨"", "", ""⟩, "") := rfl
theorem ee_51_79 {d : Nat} {ls : List Value} {h : aH} {v : Int32} : go d 51 79 ls [.int v] h = some (some (.int v), h) := go_iret ke_51_79
theorem ke_52_0 : alook 52 0 = some (0, .aload_n 0, 1, (0, 0, 0, 0, 0), ⟨"", "", ""⟩, "") := rfl
theorem ee_52_0 {d : Nat} {h : aH} {l1 l2 l3 l4 l5 l6 : Value} {x : Nat} {st : List Value} : go d 52 0 [.ref x, l1, l2, l3, l4, l5, l6] st h = go d 52 1 [.ref x, l1, l2, l3, l4, l5, l6] (.ref x :: st) h := go_plain (q := (1, [.ref x, l1, l2, l3, l4, l5, l6], (.ref x :: st), h)) ke_52_0 rfl
theorem ee_52_0N {d : Nat} {h : aH} {l1 l2 l3 l4 l5 l6 : Value} {st : List Value} : go d 52 0 [.null, l1, l2, l3, l4, l5, l6] st h = go d 52 1 [.null, l1, l2, l3, l4, l5, l6] (.null :: st) h := go_plain (q := (1, [.null, l1, l2, l3, l4, l5, l6], (.null :: st), h)) ke_52_0 rfl
theorem ke_52_1 : alook 52 1 = some (1, .getfield 26, 3, (2, 7, 7, 2, 0), ⟨"", "", ""⟩, "WordHides") := rfl
theorem ee_52_1 {d : Nat} {ls st : List Value} {h : aH} {r : Nat} : go d 52 1 ls (.ref r :: st) h = (gf h r 2 7 7).bind fun z => go d 52 4 ls (z :: st) h := go_getf ke_52_1
theorem ke_52_4 : alook 52 4 = some (4, .getfield 137, 3, (1, 0, 0, 2, 0), ⟨"", "", ""⟩, "WordHides$Board") := rfl
theorem ee_52_4 {d : Nat} {ls st : List Value} {h : aH} {r : Nat} : go d 52 4 ls (.ref r :: st) h = (gf h r 1 0 0).bind fun z => go d 52 7 ls (z :: st) h := go_getf ke_52_4
theorem ke_52_7 : alook 52 7 = some (7, .iload_n 1, 1, (0, 0, 0, 0, 0), ⟨"", "", ""⟩, "") := rfl
theorem ee_52_7 {d : Nat} {h : aH} {l0 l2 l3 l4 l5 l6 : Value} {x : Int32} {st : List Value} : go d 52 7 [l0, .int x, l2, l3, l4, l5, l6] st h = go d 52 8 [l0, .int x, l2, l3, l4, l5, l6] (.int x :: st) h := go_plain (q := (8, [l0, .int x, l2, l3, l4, l5, l6], (.int x :: st), h)) ke_52_7 rfl
theorem ke_52_8 : alook 52 8 = some (8, .invokevirtual 129, 3, (1, 6, 37, 6, 37), ⟨"WordHides$TextList", "find", "(I)LWordHides$Text;"⟩, "") := rfl
theorem ee_52_8 {d : Nat} {ls : List Value} {h : aH} {i0 : Int32} {r1 : Nat} : go (d + 1) 52 8 ls [.int i0, .ref r1] h = if isC h r1 6 = true then (go d 37 0 [.ref r1, .int i0] [] h).bind (fun q => go (d + 1) 52 11 ls (q.1.toList ++ []) q.2) else none := go_cv1 (as := [.int i0]) (rest := []) (L := [.ref r1, .int i0]) ke_52_8 rfl rfl rfl
theorem ke_52_11 : alook 52 11 = some (11, .astore_n 3, 1, (0, 0, 0, 0, 0), ⟨"", "", ""⟩, "") := rfl
theorem ee_52_11 {d : Nat} {h : aH} {l0 l1 l2 l3 l4 l5 l6 : Value} {x : Nat} {st : List Value} : go d 52 11 [l0, l1, l2, l3, l4, l5, l6] (.ref x :: st) h = go d 52 12 [l0, l1, l2, .ref x, l4, l5, l6] st h := go_plain (q := (12, [l0, l1, l2, .ref x, l4, l5, l6], st, h)) ke_52_11 rfl
theorem ee_52_11N {d : Nat} {h : aH} {l0 l1 l2 l3 l4 l5 l6 : Value} {st : List Value} : go d 52 11 [l0, l1, l2, l3, l4, l5, l6] (.null :: st) h = go d 52 12 [l0, l1, l2, .null, l4, l5, l6] st h := go_plain (q := (12, [l0, l1, l2, .null, l4, l5, l6], st, h)) ke_52_11 rfl
theorem ke_52_12 : alook 52 12 = some (12, .aload_n 3, 1, (0, 0, 0, 0, 0), ⟨"", "", ""⟩, "") := rfl
theorem ee_52_12 {d : Nat} {h : aH} {l0 l1 l2 l4 l5 l6 : Value} {x : Nat} {st : List Value} : go d 52 12 [l0, l1, l2, .ref x, l4, l5, l6] st h = go d 52 13 [l0, l1, l2, .ref x, l4, l5, l6] (.ref x :: st) h := go_plain (q := (13, [l0, l1, l2, .ref x, l4, l5, l6], (.ref x :: st), h)) ke_52_12 rfl
theorem ee_52_12N {d : Nat} {h : aH} {l0 l1 l2 l4 l5 l6 : Value} {st : List Value} : go d 52 12 [l0, l1, l2, .null, l4, l5, l6] st h = go d 52 13 [l0, l1, l2, .null, l4, l5, l6] (.null :: st) h := go_plain (q := (13, [l0, l1, l2, .null, l4, l5, l6], (.null :: st), h)) ke_52_12 rfl
theorem ke_52_13 : alook 52 13 = some (13, .ifnonnull 5, 3, (18, 0, 0, 0, 0), ⟨"", "", ""⟩, "") := rfl
theorem ee_52_13 {d : Nat} {h : aH} {ls st : List Value} {x : Nat} : go d 52 13 ls (.ref x :: st) h = go d 52 18 ls st h := go_plain (q := (18, ls, st, h)) ke_52_13 rfl
theorem ee_52_13N {d : Nat} {h : aH} {ls st : List Value} : go d 52 13 ls (.null :: st) h = go d 52 16 ls st h := go_plain (q := (16, ls, st, h)) ke_52_13 rfl
theorem ke_52_16 : alook 52 16 = some (16, .iconst (-1), 1, (0, 0, 0, 0, 0), ⟨"", "", ""⟩, "") := rfl
theorem ee_52_16 {d : Nat} {h : aH} {ls st : List Value} : go d 52 16 ls st h = go d 52 17 ls (.int (-1) :: st) h := go_plain (q := (17, ls, (.int (-1) :: st), h)) ke_52_16 rfl
theorem ke_52_17 : alook 52 17 = some (17, .ireturn, 1, (0, 0, 0, 0, 0), ⟨"", "", ""⟩, "") := rfl
theorem ee_52_17 {d : Nat} {ls : List Value} {h : aH} {v : Int32} : go d 52 17 ls [.int v] h = some (some (.int v), h) := go_iret ke_52_17
theorem ke_52_18 : alook 52 18 = some (18, .iload_n 2, 1, (0, 0, 0, 0, 0), ⟨"", "", ""⟩, "") := rfl
theorem ee_52_18 {d : Nat} {h : aH} {l0 l1 l3 l4 l5 l6 : Value} {x : Int32} {st : List Value} : go d 52 18 [l0, l1, .int x, l3, l4, l5, l6] st h = go d 52 19 [l0, l1, .int x, l3, l4, l5, l6] (.int x :: st) h := go_plain (q := (19, [l0, l1, .int x, l3, l4, l5, l6], (.int x :: st), h)) ke_52_18 rfl
theorem ke_52_19 : alook 52 19 = some (19, .ifCond .eq 11, 3, (30, 0, 0, 0, 0), ⟨"", "", ""⟩, "") := rfl
theorem ee_52_19 {d : Nat} {ls st : List Value} {h : aH} {x : Int32} : go d 52 19 ls (.int x :: st) h = if x = 0 then go d 52 30 ls st h else go d 52 22 ls st h := go_c1 (go_if1 (tg := 30) (q := 22) (f := fun x => decide (x = 0)) ke_52_19 rfl)
theorem ke_52_22 : alook 52 22 = some (22, .iload_n 2, 1, (0, 0, 0, 0, 0), ⟨"", "", ""⟩, "") := rfl
theorem ee_52_22 {d : Nat} {h : aH} {l0 l1 l3 l4 l5 l6 : Value} {x : Int32} {st : List Value} : go d 52 22 [l0, l1, .int x, l3, l4, l5, l6] st h = go d 52 23 [l0, l1, .int x, l3, l4, l5, l6] (.int x :: st) h := go_plain (q := (23, [l0, l1, .int x, l3, l4, l5, l6], (.int x :: st), h)) ke_52_22 rfl
theorem ke_52_23 : alook 52 23 = some (23, .iconst 1, 1, (0, 0, 0, 0, 0), ⟨"", "", ""⟩, "") := rfl
theorem ee_52_23 {d : Nat} {h : aH} {ls st : List Value} : go d 52 23 ls st h = go d 52 24 ls (.int 1 :: st) h := go_plain (q := (24, ls, (.int 1 :: st), h)) ke_52_23 rfl
theorem ke_52_24 : alook 52 24 = some (24, .if_icmp .eq 6, 3, (30, 0, 0, 0, 0), ⟨"", "", ""⟩, "") := rfl
theorem ee_52_24 {d : Nat} {ls st : List Value} {h : aH} {x y : Int32} : go d 52 24 ls (.int y :: .int x :: st) h = if x = y then go d 52 30 ls st h else go d 52 27 ls st h := go_ci (go_if2 (tg := 30) (q := 27) (f := fun x y => decide (x = y)) ke_52_24 rfl)
theorem ke_52_27 : alook 52 27 = some (27, .bipush (-2), 2, (0, 0, 0, 0, 0), ⟨"", "", ""⟩, "") := rfl
theorem ee_52_27 {d : Nat} {h : aH} {ls st : List Value} : go d 52 27 ls st h = go d 52 29 ls (.int (-2) :: st) h := go_plain (q := (29, ls, (.int (-2) :: st), h)) ke_52_27 rfl
theorem ke_52_29 : alook 52 29 = some (29, .ireturn, 1, (0, 0, 0, 0, 0), ⟨"", "", ""⟩, "") := rfl
theorem ee_52_29 {d : Nat} {ls : List Value} {h : aH} {v : Int32} : go d 52 29 ls [.int v] h = some (some (.int v), h) := go_iret ke_52_29
theorem ke_52_30 : alook 52 30 = some (30, .aload_n 0, 1, (0, 0, 0, 0, 0), ⟨"", "", ""⟩, "") := rfl
theorem ee_52_30 {d : Nat} {h : aH} {l1 l2 l3 l4 l5 l6 : Value} {x : Nat} {st : List Value} : go d 52 30 [.ref x, l1, l2, l3, l4, l5, l6] st h = go d 52 31 [.ref x, l1, l2, l3, l4, l5, l6] (.ref x :: st) h := go_plain (q := (31, [.ref x, l1, l2, l3, l4, l5, l6], (.ref x :: st), h)) ke_52_30 rfl
theorem ee_52_30N {d : Nat} {h : aH} {l1 l2 l3 l4 l5 l6 : Value} {st : List Value} : go d 52 30 [.null, l1, l2, l3, l4, l5, l6] st h = go d 52 31 [.null, l1, l2, l3, l4, l5, l6] (.null :: st) h := go_plain (q := (31, [.null, l1, l2, l3, l4, l5, l6], (.null :: st), h)) ke_52_30 rfl
theorem ke_52_31 : alook 52 31 = some (31, .getfield 26, 3, (2, 7, 7, 2, 0), ⟨"", "", ""⟩, "WordHides") := rfl
theorem ee_52_31 {d : Nat} {ls st : List Value} {h : aH} {r : Nat} : go d 52 31 ls (.ref r :: st) h = (gf h r 2 7 7).bind fun z => go d 52 34 ls (z :: st) h := go_getf ke_52_31
theorem ke_52_34 : alook 52 34 = some (34, .getfield 68, 3, (0, 0, 0, 2, 0), ⟨"", "", ""⟩, "WordHides$Board") := rfl
theorem ee_52_34 {d : Nat} {ls st : List Value} {h : aH} {r : Nat} : go d 52 34 ls (.ref r :: st) h = (gf h r 0 0 0).bind fun z => go d 52 37 ls (z :: st) h := go_getf ke_52_34
theorem ke_52_37 : alook 52 37 = some (37, .getfield 71, 3, (1, 4, 4, 2, 0), ⟨"", "", ""⟩, "WordHides$Square") := rfl
theorem ee_52_37 {d : Nat} {ls st : List Value} {h : aH} {r : Nat} : go d 52 37 ls (.ref r :: st) h = (gf h r 1 4 4).bind fun z => go d 52 40 ls (z :: st) h := go_getf ke_52_37
theorem ke_52_40 : alook 52 40 = some (40, .astore 4, 2, (0, 0, 0, 0, 0), ⟨"", "", ""⟩, "") := rfl
theorem ee_52_40 {d : Nat} {h : aH} {l0 l1 l2 l3 l4 l5 l6 : Value} {x : Nat} {st : List Value} : go d 52 40 [l0, l1, l2, l3, l4, l5, l6] (.ref x :: st) h = go d 52 42 [l0, l1, l2, l3, .ref x, l5, l6] st h := go_plain (q := (42, [l0, l1, l2, l3, .ref x, l5, l6], st, h)) ke_52_40 rfl
theorem ee_52_40N {d : Nat} {h : aH} {l0 l1 l2 l3 l4 l5 l6 : Value} {st : List Value} : go d 52 40 [l0, l1, l2, l3, l4, l5, l6] (.null :: st) h = go d 52 42 [l0, l1, l2, l3, .null, l5, l6] st h := go_plain (q := (42, [l0, l1, l2, l3, .null, l5, l6], st, h)) ke_52_40 rfl
theorem ke_52_42 : alook 52 42 = some (42, .iconst 0, 1, (0, 0, 0, 0, 0), ⟨"", "", ""⟩, "") := rfl
theorem ee_52_42 {d : Nat} {h : aH} {ls st : List Value} : go d 52 42 ls st h = go d 52 43 ls (.int 0 :: st) h := go_plain (q := (43, ls, (.int 0 :: st), h)) ke_52_42 rfl
theorem ke_52_43 : alook 52 43 = some (43, .istore 5, 2, (0, 0, 0, 0, 0), ⟨"", "", ""⟩, "") := rfl
theorem ee_52_43 {d : Nat} {h : aH} {l0 l1 l2 l3 l4 l5 l6 : Value} {x : Int32} {st : List Value} : go d 52 43 [l0, l1, l2, l3, l4, l5, l6] (.int x :: st) h = go d 52 45 [l0, l1, l2, l3, l4, .int x, l6] st h := go_plain (q := (45, [l0, l1, l2, l3, l4, .int x, l6], st, h)) ke_52_43 rfl
theorem ke_52_45 : alook 52 45 = some (45, .iconst 0, 1, (0, 0, 0, 0, 0), ⟨"", "", ""⟩, "") := rfl
theorem ee_52_45 {d : Nat} {h : aH} {ls st : List Value} : go d 52 45 ls st h = go d 52 46 ls (.int 0 :: st) h := go_plain (q := (46, ls, (.int 0 :: st), h)) ke_52_45 rfl
theorem ke_52_46 : alook 52 46 = some (46, .istore 6, 2, (0, 0, 0, 0, 0), ⟨"", "", ""⟩, "") := rfl
theorem ee_52_46 {d : Nat} {h : aH} {l0 l1 l2 l3 l4 l5 l6 : Value} {x : Int32} {st : List Value} : go d 52 46 [l0, l1, l2, l3, l4, l5, l6] (.int x :: st) h = go d 52 48 [l0, l1, l2, l3, l4, l5, .int x] st h := go_plain (q := (48, [l0, l1, l2, l3, l4, l5, .int x], st, h)) ke_52_46 rfl
theorem ke_52_48 : alook 52 48 = some (48, .iload 6, 2, (0, 0, 0, 0, 0), ⟨"", "", ""⟩, "") := rfl
theorem ee_52_48 {d : Nat} {h : aH} {l0 l1 l2 l3 l4 l5 : Value} {x : Int32} {st : List Value} : go d 52 48 [l0, l1, l2, l3, l4, l5, .int x] st h = go d 52 50 [l0, l1, l2, l3, l4, l5, .int x] (.int x :: st) h := go_plain (q := (50, [l0, l1, l2, l3, l4, l5, .int x], (.int x :: st), h)) ke_52_48 rfl
theorem ke_52_50 : alook 52 50 = some (50, .aload 4, 2, (0, 0, 0, 0, 0), ⟨"", "", ""⟩, "") := rfl
theorem ee_52_50 {d : Nat} {h : aH} {l0 l1 l2 l3 l5 l6 : Value} {x : Nat} {st : List Value} : go d 52 50 [l0, l1, l2, l3, .ref x, l5, l6] st h = go d 52 52 [l0, l1, l2, l3, .ref x, l5, l6] (.ref x :: st) h := go_plain (q := (52, [l0, l1, l2, l3, .ref x, l5, l6], (.ref x :: st), h)) ke_52_50 rfl
theorem ee_52_50N {d : Nat} {h : aH} {l0 l1 l2 l3 l5 l6 : Value} {st : List Value} : go d 52 50 [l0, l1, l2, l3, .null, l5, l6] st h = go d 52 52 [l0, l1, l2, l3, .null, l5, l6] (.null :: st) h := go_plain (q := (52, [l0, l1, l2, l3, .null, l5, l6], (.null :: st), h)) ke_52_50 rfl
theorem ke_52_52 : alook 52 52 = some (52, .getfield 157, 3, (2, 3, 3, 0, 0), ⟨"", "", ""⟩, "WordHides$Lattice") := rfl
theorem ee_52_52 {d : Nat} {ls st : List Value} {h : aH} {r : Nat} : go d 52 52 ls (.ref r :: st) h = (gf h r 2 3 3).bind fun z => go d 52 55 ls (z :: st) h := go_getf ke_52_52
theorem ke_52_55 : alook 52 55 = some (55, .if_icmp .ge 49, 3, (104, 0, 0, 0, 0), ⟨"", "", ""⟩, "") := rfl
theorem ee_52_55 {d : Nat} {ls st : List Value} {h : aH} {x y : Int32} : go d 52 55 ls (.int y :: .int x :: st) h = if y ≤ x then go d 52 104 ls st h else go d 52 58 ls st h := go_ci (go_if2 (tg := 104) (q := 58) (f := fun x y => decide (y ≤ x)) ke_52_55 rfl)
theorem ke_52_58 : alook 52 58 = some (58, .iload_n 2, 1, (0, 0, 0, 0, 0), ⟨"", "", ""⟩, "") := rfl
theorem ee_52_58 {d : Nat} {h : aH} {l0 l1 l3 l4 l5 l6 : Value} {x : Int32} {st : List Value} : go d 52 58 [l0, l1, .int x, l3, l4, l5, l6] st h = go d 52 59 [l0, l1, .int x, l3, l4, l5, l6] (.int x :: st) h := go_plain (q := (59, [l0, l1, .int x, l3, l4, l5, l6], (.int x :: st), h)) ke_52_58 rfl
theorem ke_52_59 : alook 52 59 = some (59, .ifCond .ne 20, 3, (79, 0, 0, 0, 0), ⟨"", "", ""⟩, "") := rfl
theorem ee_52_59 {d : Nat} {ls st : List Value} {h : aH} {x : Int32} : go d 52 59 ls (.int x :: st) h = if ¬ x = 0 then go d 52 79 ls st h else go d 52 62 ls st h := go_c1 (go_if1 (tg := 79) (q := 62) (f := fun x => decide (¬ x = 0)) ke_52_59 rfl)
theorem ke_52_62 : alook 52 62 = some (62, .aload 4, 2, (0, 0, 0, 0, 0), ⟨"", "", ""⟩, "") := rfl
theorem ee_52_62 {d : Nat} {h : aH} {l0 l1 l2 l3 l5 l6 : Value} {x : Nat} {st : List Value} : go d 52 62 [l0, l1, l2, l3, .ref x, l5, l6] st h = go d 52 64 [l0, l1, l2, l3, .ref x, l5, l6] (.ref x :: st) h := go_plain (q := (64, [l0, l1, l2, l3, .ref x, l5, l6], (.ref x :: st), h)) ke_52_62 rfl
theorem ee_52_62N {d : Nat} {h : aH} {l0 l1 l2 l3 l5 l6 : Value} {st : List Value} : go d 52 62 [l0, l1, l2, l3, .null, l5, l6] st h = go d 52 64 [l0, l1, l2, l3, .null, l5, l6] (.null :: st) h := go_plain (q := (64, [l0, l1, l2, l3, .null, l5, l6], (.null :: st), h)) ke_52_62 rfl
theorem ke_52_64 : alook 52 64 = some (64, .iload 6, 2, (0, 0, 0, 0, 0), ⟨"", "", ""⟩, "") := rfl
theorem ee_52_64 {d : Nat} {h : aH} {l0 l1 l2 l3 l4 l5 : Value} {x : Int32} {st : List Value} : go d 52 64 [l0, l1, l2, l3, l4, l5, .int x] st h = go d 52 66 [l0, l1, l2, l3, l4, l5, .int x] (.int x :: st) h := go_plain (q := (66, [l0, l1, l2, l3, l4, l5, .int x], (.int x :: st), h)) ke_52_64 rfl
theorem ke_52_66 : alook 52 66 = some (66, .aload_n 3, 1, (0, 0, 0, 0, 0), ⟨"", "", ""⟩, "") := rfl
theorem ee_52_66 {d : Nat} {h : aH} {l0 l1 l2 l4 l5 l6 : Value} {x : Nat} {st : List Value} : go d 52 66 [l0, l1, l2, .ref x, l4, l5, l6] st h = go d 52 67 [l0, l1, l2, .ref x, l4, l5, l6] (.ref x :: st) h := go_plain (q := (67, [l0, l1, l2, .ref x, l4, l5, l6], (.ref x :: st), h)) ke_52_66 rfl
theorem ee_52_66N {d : Nat} {h : aH} {l0 l1 l2 l4 l5 l6 : Value} {st : List Value} : go d 52 66 [l0, l1, l2, .null, l4, l5, l6] st h = go d 52 67 [l0, l1, l2, .null, l4, l5, l6] (.null :: st) h := go_plain (q := (67, [l0, l1, l2, .null, l4, l5, l6], (.null :: st), h)) ke_52_66 rfl
theorem ke_52_67 : alook 52 67 = some (67, .getfield 94, 3, (1, 5, 5, 0, 0), ⟨"", "", ""⟩, "WordHides$Text") := rfl
theorem ee_52_67 {d : Nat} {ls st : List Value} {h : aH} {r : Nat} : go d 52 67 ls (.ref r :: st) h = (gf h r 1 5 5).bind fun z => go d 52 70 ls (z :: st) h := go_getf ke_52_67
theorem ke_52_70 : alook 52 70 = some (70, .invokevirtual 160, 3, (2, 3, 14, 3, 14), ⟨"WordHides$Lattice", "holds", "(II)Z"⟩, "") := rfl
theorem ee_52_70 {d : Nat} {ls : List Value} {h : aH} {i0 : Int32} {i1 : Int32} {r2 : Nat} : go (d + 1) 52 70 ls [.int i0, .int i1, .ref r2] h = if isC h r2 3 = true then (go d 14 0 [.ref r2, .int i1, .int i0] [] h).bind (fun q => go (d + 1) 52 73 ls (q.1.toList ++ []) q.2) else none := go_cv1 (as := [.int i1, .int i0]) (rest := []) (L := [.ref r2, .int i1, .int i0]) ke_52_70 rfl rfl rfl
theorem ke_52_73 : alook 52 73 = some (73, .ifCond .eq 25, 3, (98, 0, 0, 0, 0), ⟨"", "", ""⟩, "") := rfl
theorem ee_52_73 {d : Nat} {ls st : List Value} {h : aH} {x : Int32} : go d 52 73 ls (.int x :: st) h = if x = 0 then go d 52 98 ls st h else go d 52 76 ls st h := go_c1 (go_if1 (tg := 98) (q := 76) (f := fun x => decide (x = 0)) ke_52_73 rfl)
theorem ke_52_76 : alook 52 76 = some (76, .goto 19, 3, (95, 0, 0, 0, 0), ⟨"", "", ""⟩, "") := rfl
theorem ee_52_76 {d : Nat} {h : aH} {ls st : List Value} : go d 52 76 ls st h = go d 52 95 ls st h := go_plain (q := (95, ls, st, h)) ke_52_76 rfl
theorem ke_52_79 : alook 52 79 = some (79, .aload_n 0, 1, (0, 0, 0, 0, 0), ⟨"", "", ""⟩, "") := rfl
theorem ee_52_79 {d : Nat} {h : aH} {l1 l2 l3 l4 l5 l6 : Value} {x : Nat} {st : List Value} : go d 52 79 [.ref x, l1, l2, l3, l4, l5, l6] st h = go d 52 80 [.ref x, l1, l2, l3, l4, l5, l6] (.ref x :: st) h := go_plain (q := (80, [.ref x, l1, l2, l3, l4, l5, l6], (.ref x :: st), h)) ke_52_79 rfl
theorem ee_52_79N {d : Nat} {h : aH} {l1 l2 l3 l4 l5 l6 : Value} {st : List Value} : go d 52 79 [.null, l1, l2, l3, l4, l5, l6] st h = go d 52 80 [.null, l1, l2, l3, l4, l5, l6] (.null :: st) h := go_plain (q := (80, [.null, l1, l2, l3, l4, l5, l6], (.null :: st), h)) ke_52_79 rfl
theorem ke_52_80 : alook 52 80 = some (80, .getfield 26, 3, (2, 7, 7, 2, 0), ⟨"", "", ""⟩, "WordHides") := rfl
theorem ee_52_80 {d : Nat} {ls st : List Value} {h : aH} {r : Nat} : go d 52 80 ls (.ref r :: st) h = (gf h r 2 7 7).bind fun z => go d 52 83 ls (z :: st) h := go_getf ke_52_80
theorem ke_52_83 : alook 52 83 = some (83, .getfield 68, 3, (0, 0, 0, 2, 0), ⟨"", "", ""⟩, "WordHides$Board") := rfl
theorem ee_52_83 {d : Nat} {ls st : List Value} {h : aH} {r : Nat} : go d 52 83 ls (.ref r :: st) h = (gf h r 0 0 0).bind fun z => go d 52 86 ls (z :: st) h := go_getf ke_52_83
theorem ke_52_86 : alook 52 86 = some (86, .aload_n 3, 1, (0, 0, 0, 0, 0), ⟨"", "", ""⟩, "") := rfl
theorem ee_52_86 {d : Nat} {h : aH} {l0 l1 l2 l4 l5 l6 : Value} {x : Nat} {st : List Value} : go d 52 86 [l0, l1, l2, .ref x, l4, l5, l6] st h = go d 52 87 [l0, l1, l2, .ref x, l4, l5, l6] (.ref x :: st) h := go_plain (q := (87, [l0, l1, l2, .ref x, l4, l5, l6], (.ref x :: st), h)) ke_52_86 rfl
theorem ee_52_86N {d : Nat} {h : aH} {l0 l1 l2 l4 l5 l6 : Value} {st : List Value} : go d 52 86 [l0, l1, l2, .null, l4, l5, l6] st h = go d 52 87 [l0, l1, l2, .null, l4, l5, l6] (.null :: st) h := go_plain (q := (87, [l0, l1, l2, .null, l4, l5, l6], (.null :: st), h)) ke_52_86 rfl
theorem ke_52_87 : alook 52 87 = some (87, .iload 6, 2, (0, 0, 0, 0, 0), ⟨"", "", ""⟩, "") := rfl
theorem ee_52_87 {d : Nat} {h : aH} {l0 l1 l2 l3 l4 l5 : Value} {x : Int32} {st : List Value} : go d 52 87 [l0, l1, l2, l3, l4, l5, .int x] st h = go d 52 89 [l0, l1, l2, l3, l4, l5, .int x] (.int x :: st) h := go_plain (q := (89, [l0, l1, l2, l3, l4, l5, .int x], (.int x :: st), h)) ke_52_87 rfl
theorem ke_52_89 : alook 52 89 = some (89, .invokevirtual 144, 3, (2, 4, 24, 4, 24), ⟨"WordHides$Square", "accepts", "(LWordHides$Text;I)Z"⟩, "") := rfl
theorem ee_52_89 {d : Nat} {ls : List Value} {h : aH} {i0 : Int32} {r1 : Nat} {r2 : Nat} : go (d + 1) 52 89 ls [.int i0, .ref r1, .ref r2] h = if isC h r2 4 = true then (go d 24 0 [.ref r2, .ref r1, .int i0, aU, aU, aU] [] h).bind (fun q => go (d + 1) 52 92 ls (q.1.toList ++ []) q.2) else none := go_cv1 (as := [.ref r1, .int i0]) (rest := []) (L := [.ref r2, .ref r1, .int i0, aU, aU, aU]) ke_52_89 rfl rfl rfl
theorem ke_52_92 : alook 52 92 = some (92, .ifCond .eq 6, 3, (98, 0, 0, 0, 0), ⟨"", "", ""⟩, "") := rfl
theorem ee_52_92 {d : Nat} {ls st : List Value} {h : aH} {x : Int32} : go d 52 92 ls (.int x :: st) h = if x = 0 then go d 52 98 ls st h else go d 52 95 ls st h := go_c1 (go_if1 (tg := 98) (q := 95) (f := fun x => decide (x = 0)) ke_52_92 rfl)
theorem ke_52_95 : alook 52 95 = some (95, .iinc 5 1, 3, (0, 0, 0, 0, 0), ⟨"", "", ""⟩, "") := rfl
theorem ee_52_95 {d : Nat} {h : aH} {l0 l1 l2 l3 l4 l6 : Value} {x : Int32} {st : List Value} : go d 52 95 [l0, l1, l2, l3, l4, .int x, l6] st h = go d 52 98 [l0, l1, l2, l3, l4, .int (x + 1), l6] st h := go_plain (q := (98, [l0, l1, l2, l3, l4, .int (x + 1), l6], st, h)) ke_52_95 rfl
theorem ke_52_98 : alook 52 98 = some (98, .iinc 6 1, 3, (0, 0, 0, 0, 0), ⟨"", "", ""⟩, "") := rfl
theorem ee_52_98 {d : Nat} {h : aH} {l0 l1 l2 l3 l4 l5 : Value} {x : Int32} {st : List Value} : go d 52 98 [l0, l1, l2, l3, l4, l5, .int x] st h = go d 52 101 [l0, l1, l2, l3, l4, l5, .int (x + 1)] st h := go_plain (q := (101, [l0, l1, l2, l3, l4, l5, .int (x + 1)], st, h)) ke_52_98 rfl
theorem ke_52_101 : alook 52 101 = some (101, .goto (-53), 3, (48, 0, 0, 0, 0), ⟨"", "", ""⟩, "") := rfl
theorem ee_52_101 {d : Nat} {h : aH} {ls st : List Value} : go d 52 101 ls st h = go d 52 48 ls st h := go_plain (q := (48, ls, st, h)) ke_52_101 rfl
theorem ke_52_104 : alook 52 104 = some (104, .iload 5, 2, (0, 0, 0, 0, 0), ⟨"", "", ""⟩, "") := rfl
theorem ee_52_104 {d : Nat} {h : aH} {l0 l1 l2 l3 l4 l6 : Value} {x : Int32} {st : List Value} : go d 52 104 [l0, l1, l2, l3, l4, .int x, l6] st h = go d 52 106 [l0, l1, l2, l3, l4, .int x, l6] (.int x :: st) h := go_plain (q := (106, [l0, l1, l2, l3, l4, .int x, l6], (.int x :: st), h)) ke_52_104 rfl
theorem ke_52_106 : alook 52 106 = some (106, .ireturn, 1, (0, 0, 0, 0, 0), ⟨"", "", ""⟩, "") := rfl
theorem ee_52_106 {d : Nat} {ls : List Value} {h : aH} {v : Int32} : go d 52 106 ls [.int v] h = some (some (.int v), h) := go_iret ke_52_106
theorem ke_53_0 : alook 53 0 = some (0, .iload_n 1, 1, (0, 0, 0, 0, 0), ⟨"", "", ""⟩, "") := rfl
theorem ee_53_0 {d : Nat} {h : aH} {l0 l2 : Value} {x : Int32} {st : List Value} : go d 53 0 [l0, .int x, l2] st h = go d 53 1 [l0, .int x, l2] (.int x :: st) h := go_plain (q := (1, [l0, .int x, l2], (.int x :: st), h)) ke_53_0 rfl
theorem ke_53_1 : alook 53 1 = some (1, .invokestatic 164, 3, (1, 0, 61, 0, 0), ⟨"WordHides", "isPlaceAsked", "(I)Z"⟩, "") := rfl
theorem ee_53_1 {d : Nat} {ls : List Value} {h : aH} {i0 : Int32} : go (d + 1) 53 1 ls [.int i0] h = (go d 61 0 [.int i0] [] h).bind (fun q => go (d + 1) 53 4 ls (q.1.toList ++ []) q.2) := go_cs (as := [.int i0]) (rest := []) (L := [.int i0]) ke_53_1 rfl rfl rfl
theorem ke_53_4 : alook 53 4 = some (4, .istore_n 2, 1, (0, 0, 0, 0, 0), ⟨"", "", ""⟩, "") := rfl
theorem ee_53_4 {d : Nat} {h : aH} {l0 l1 l2 : Value} {x : Int32} {st : List Value} : go d 53 4 [l0, l1, l2] (.int x :: st) h = go d 53 5 [l0, l1, .int x] st h := go_plain (q := (5, [l0, l1, .int x], st, h)) ke_53_4 rfl
theorem ke_53_5 : alook 53 5 = some (5, .iload_n 2, 1, (0, 0, 0, 0, 0), ⟨"", "", ""⟩, "") := rfl
theorem ee_53_5 {d : Nat} {h : aH} {l0 l1 : Value} {x : Int32} {st : List Value} : go d 53 5 [l0, l1, .int x] st h = go d 53 6 [l0, l1, .int x] (.int x :: st) h := go_plain (q := (6, [l0, l1, .int x], (.int x :: st), h)) ke_53_5 rfl
theorem ke_53_6 : alook 53 6 = some (6, .ifCond .ne 15, 3, (21, 0, 0, 0, 0), ⟨"", "", ""⟩, "") := rfl
theorem ee_53_6 {d : Nat} {ls st : List Value} {h : aH} {x : Int32} : go d 53 6 ls (.int x :: st) h = if ¬ x = 0 then go d 53 21 ls st h else go d 53 9 ls st h := go_c1 (go_if1 (tg := 21) (q := 9) (f := fun x => decide (¬ x = 0)) ke_53_6 rfl)
theorem ke_53_9 : alook 53 9 = some (9, .iload_n 1, 1, (0, 0, 0, 0, 0), ⟨"", "", ""⟩, "") := rfl
theorem ee_53_9 {d : Nat} {h : aH} {l0 l2 : Value} {x : Int32} {st : List Value} : go d 53 9 [l0, .int x, l2] st h = go d 53 10 [l0, .int x, l2] (.int x :: st) h := go_plain (q := (10, [l0, .int x, l2], (.int x :: st), h)) ke_53_9 rfl
theorem ke_53_10 : alook 53 10 = some (10, .ifCond .lt 8, 3, (18, 0, 0, 0, 0), ⟨"", "", ""⟩, "") := rfl
theorem ee_53_10 {d : Nat} {ls st : List Value} {h : aH} {x : Int32} : go d 53 10 ls (.int x :: st) h = if x < 0 then go d 53 18 ls st h else go d 53 13 ls st h := go_c1 (go_if1 (tg := 18) (q := 13) (f := fun x => decide (x < 0)) ke_53_10 rfl)
theorem ke_53_13 : alook 53 13 = some (13, .iload_n 1, 1, (0, 0, 0, 0, 0), ⟨"", "", ""⟩, "") := rfl
theorem ee_53_13 {d : Nat} {h : aH} {l0 l2 : Value} {x : Int32} {st : List Value} : go d 53 13 [l0, .int x, l2] st h = go d 53 14 [l0, .int x, l2] (.int x :: st) h := go_plain (q := (14, [l0, .int x, l2], (.int x :: st), h)) ke_53_13 rfl
theorem ke_53_14 : alook 53 14 = some (14, .iconst 2, 1, (0, 0, 0, 0, 0), ⟨"", "", ""⟩, "") := rfl
theorem ee_53_14 {d : Nat} {h : aH} {ls st : List Value} : go d 53 14 ls st h = go d 53 15 ls (.int 2 :: st) h := go_plain (q := (15, ls, (.int 2 :: st), h)) ke_53_14 rfl
theorem ke_53_15 : alook 53 15 = some (15, .if_icmp .le 6, 3, (21, 0, 0, 0, 0), ⟨"", "", ""⟩, "") := rfl
theorem ee_53_15 {d : Nat} {ls st : List Value} {h : aH} {x y : Int32} : go d 53 15 ls (.int y :: .int x :: st) h = if x ≤ y then go d 53 21 ls st h else go d 53 18 ls st h := go_ci (go_if2 (tg := 21) (q := 18) (f := fun x y => decide (x ≤ y)) ke_53_15 rfl)
theorem ke_53_18 : alook 53 18 = some (18, .bipush (-2), 2, (0, 0, 0, 0, 0), ⟨"", "", ""⟩, "") := rfl
theorem ee_53_18 {d : Nat} {h : aH} {ls st : List Value} : go d 53 18 ls st h = go d 53 20 ls (.int (-2) :: st) h := go_plain (q := (20, ls, (.int (-2) :: st), h)) ke_53_18 rfl
theorem ke_53_20 : alook 53 20 = some (20, .ireturn, 1, (0, 0, 0, 0, 0), ⟨"", "", ""⟩, "") := rfl
theorem ee_53_20 {d : Nat} {ls : List Value} {h : aH} {v : Int32} : go d 53 20 ls [.int v] h = some (some (.int v), h) := go_iret ke_53_20
theorem ke_53_21 : alook 53 21 = some (21, .aload_n 0, 1, (0, 0, 0, 0, 0), ⟨"", "", ""⟩, "") := rfl
theorem ee_53_21 {d : Nat} {h : aH} {l1 l2 : Value} {x : Nat} {st : List Value} : go d 53 21 [.ref x, l1, l2] st h = go d 53 22 [.ref x, l1, l2] (.ref x :: st) h := go_plain (q := (22, [.ref x, l1, l2], (.ref x :: st), h)) ke_53_21 rfl
theorem ee_53_21N {d : Nat} {h : aH} {l1 l2 : Value} {st : List Value} : go d 53 21 [.null, l1, l2] st h = go d 53 22 [.null, l1, l2] (.null :: st) h := go_plain (q := (22, [.null, l1, l2], (.null :: st), h)) ke_53_21 rfl
theorem ke_53_22 : alook 53 22 = some (22, .getfield 53, 3, (6, 7, 7, 2, 0), ⟨"", "", ""⟩, "WordHides") := rfl
theorem ee_53_22 {d : Nat} {ls st : List Value} {h : aH} {r : Nat} : go d 53 22 ls (.ref r :: st) h = (gf h r 6 7 7).bind fun z => go d 53 25 ls (z :: st) h := go_getf ke_53_22
theorem ke_53_25 : alook 53 25 = some (25, .invokevirtual 167, 3, (0, 1, 17, 1, 17), ⟨"WordHides$CrossedSearch", "look", "()V"⟩, "WordHides$Search") := rfl
theorem ee_53_25 {d : Nat} {ls : List Value} {h : aH} {r0 : Nat} : go (d + 1) 53 25 ls [.ref r0] h = if isC h r0 1 = true then (go d 17 0 [.ref r0] [] h).bind (fun q => go (d + 1) 53 28 ls (q.1.toList ++ []) q.2) else none := go_cv1 (as := []) (rest := []) (L := [.ref r0]) ke_53_25 rfl rfl rfl
theorem ke_53_28 : alook 53 28 = some (28, .iload_n 1, 1, (0, 0, 0, 0, 0), ⟨"", "", ""⟩, "") := rfl
theorem ee_53_28 {d : Nat} {h : aH} {l0 l2 : Value} {x : Int32} {st : List Value} : go d 53 28 [l0, .int x, l2] st h = go d 53 29 [l0, .int x, l2] (.int x :: st) h := go_plain (q := (29, [l0, .int x, l2], (.int x :: st), h)) ke_53_28 rfl
theorem ke_53_29 : alook 53 29 = some (29, .ifCond .ne 11, 3, (40, 0, 0, 0, 0), ⟨"", "", ""⟩, "") := rfl
theorem ee_53_29 {d : Nat} {ls st : List Value} {h : aH} {x : Int32} : go d 53 29 ls (.int x :: st) h = if ¬ x = 0 then go d 53 40 ls st h else go d 53 32 ls st h := go_c1 (go_if1 (tg := 40) (q := 32) (f := fun x => decide (¬ x = 0)) ke_53_29 rfl)
theorem ke_53_32 : alook 53 32 = some (32, .aload_n 0, 1, (0, 0, 0, 0, 0), ⟨"", "", ""⟩, "") := rfl
theorem ee_53_32 {d : Nat} {h : aH} {l1 l2 : Value} {x : Nat} {st : List Value} : go d 53 32 [.ref x, l1, l2] st h = go d 53 33 [.ref x, l1, l2] (.ref x :: st) h := go_plain (q := (33, [.ref x, l1, l2], (.ref x :: st), h)) ke_53_32 rfl
theorem ee_53_32N {d : Nat} {h : aH} {l1 l2 : Value} {st : List Value} : go d 53 32 [.null, l1, l2] st h = go d 53 33 [.null, l1, l2] (.null :: st) h := go_plain (q := (33, [.null, l1, l2], (.null :: st), h)) ke_53_32 rfl
theorem ke_53_33 : alook 53 33 = some (33, .getfield 53, 3, (6, 7, 7, 2, 0), ⟨"", "", ""⟩, "WordHides") := rfl
theorem ee_53_33 {d : Nat} {ls st : List Value} {h : aH} {r : Nat} : go d 53 33 ls (.ref r :: st) h = (gf h r 6 7 7).bind fun z => go d 53 36 ls (z :: st) h := go_getf ke_53_33
theorem ke_53_36 : alook 53 36 = some (36, .getfield 170, 3, (5, 1, 1, 0, 0), ⟨"", "", ""⟩, "WordHides$CrossedSearch") := rfl
theorem ee_53_36 {d : Nat} {ls st : List Value} {h : aH} {r : Nat} : go d 53 36 ls (.ref r :: st) h = (gf h r 5 1 1).bind fun z => go d 53 39 ls (z :: st) h := go_getf ke_53_36
theorem ke_53_39 : alook 53 39 = some (39, .ireturn, 1, (0, 0, 0, 0, 0), ⟨"", "", ""⟩, "") := rfl
theorem ee_53_39 {d : Nat} {ls : List Value} {h : aH} {v : Int32} : go d 53 39 ls [.int v] h = some (some (.int v), h) := go_iret ke_53_39
theorem ke_53_40 : alook 53 40 = some (40, .aload_n 0, 1, (0, 0, 0, 0, 0), ⟨"", "", ""⟩, "") := rfl
theorem ee_53_40 {d : Nat} {h : aH} {l1 l2 : Value} {x : Nat} {st : List Value} : go d 53 40 [.ref x, l1, l2] st h = go d 53 41 [.ref x, l1, l2] (.ref x :: st) h := go_plain (q := (41, [.ref x, l1, l2], (.ref x :: st), h)) ke_53_40 rfl
theorem ee_53_40N {d : Nat} {h : aH} {l1 l2 : Value} {st : List Value} : go d 53 40 [.null, l1, l2] st h = go d 53 41 [.null, l1, l2] (.null :: st) h := go_plain (q := (41, [.null, l1, l2], (.null :: st), h)) ke_53_40 rfl
theorem ke_53_41 : alook 53 41 = some (41, .getfield 53, 3, (6, 7, 7, 2, 0), ⟨"", "", ""⟩, "WordHides") := rfl
theorem ee_53_41 {d : Nat} {ls st : List Value} {h : aH} {r : Nat} : go d 53 41 ls (.ref r :: st) h = (gf h r 6 7 7).bind fun z => go d 53 44 ls (z :: st) h := go_getf ke_53_41
theorem ke_53_44 : alook 53 44 = some (44, .getfield 170, 3, (5, 1, 1, 0, 0), ⟨"", "", ""⟩, "WordHides$CrossedSearch") := rfl
theorem ee_53_44 {d : Nat} {ls st : List Value} {h : aH} {r : Nat} : go d 53 44 ls (.ref r :: st) h = (gf h r 5 1 1).bind fun z => go d 53 47 ls (z :: st) h := go_getf ke_53_44
theorem ke_53_47 : alook 53 47 = some (47, .ifCond .ne 6, 3, (53, 0, 0, 0, 0), ⟨"", "", ""⟩, "") := rfl
theorem ee_53_47 {d : Nat} {ls st : List Value} {h : aH} {x : Int32} : go d 53 47 ls (.int x :: st) h = if ¬ x = 0 then go d 53 53 ls st h else go d 53 50 ls st h := go_c1 (go_if1 (tg := 53) (q := 50) (f := fun x => decide (¬ x = 0)) ke_53_47 rfl)
theorem ke_53_50 : alook 53 50 = some (50, .bipush (-6), 2, (0, 0, 0, 0, 0), ⟨"", "", ""⟩, "") := rfl
theorem ee_53_50 {d : Nat} {h : aH} {ls st : List Value} : go d 53 50 ls st h = go d 53 52 ls (.int (-6) :: st) h := go_plain (q := (52, ls, (.int (-6) :: st), h)) ke_53_50 rfl
theorem ke_53_52 : alook 53 52 = some (52, .ireturn, 1, (0, 0, 0, 0, 0), ⟨"", "", ""⟩, "") := rfl
theorem ee_53_52 {d : Nat} {ls : List Value} {h : aH} {v : Int32} : go d 53 52 ls [.int v] h = some (some (.int v), h) := go_iret ke_53_52
theorem ke_53_53 : alook 53 53 = some (53, .iload_n 2, 1, (0, 0, 0, 0, 0), ⟨"", "", ""⟩, "") := rfl
theorem ee_53_53 {d : Nat} {h : aH} {l0 l1 : Value} {x : Int32} {st : List Value} : go d 53 53 [l0, l1, .int x] st h = go d 53 54 [l0, l1, .int x] (.int x :: st) h := go_plain (q := (54, [l0, l1, .int x], (.int x :: st), h)) ke_53_53 rfl
theorem ke_53_54 : alook 53 54 = some (54, .ifCond .eq 15, 3, (69, 0, 0, 0, 0), ⟨"", "", ""⟩, "") := rfl
theorem ee_53_54 {d : Nat} {ls st : List Value} {h : aH} {x : Int32} : go d 53 54 ls (.int x :: st) h = if x = 0 then go d 53 69 ls st h else go d 53 57 ls st h := go_c1 (go_if1 (tg := 69) (q := 57) (f := fun x => decide (x = 0)) ke_53_54 rfl)
theorem ke_53_57 : alook 53 57 = some (57, .aload_n 0, 1, (0, 0, 0, 0, 0), ⟨"", "", ""⟩, "") := rfl
theorem ee_53_57 {d : Nat} {h : aH} {l1 l2 : Value} {x : Nat} {st : List Value} : go d 53 57 [.ref x, l1, l2] st h = go d 53 58 [.ref x, l1, l2] (.ref x :: st) h := go_plain (q := (58, [.ref x, l1, l2], (.ref x :: st), h)) ke_53_57 rfl
theorem ee_53_57N {d : Nat} {h : aH} {l1 l2 : Value} {st : List Value} : go d 53 57 [.null, l1, l2] st h = go d 53 58 [.null, l1, l2] (.null :: st) h := go_plain (q := (58, [.null, l1, l2], (.null :: st), h)) ke_53_57 rfl
theorem ke_53_58 : alook 53 58 = some (58, .getfield 53, 3, (6, 7, 7, 2, 0), ⟨"", "", ""⟩, "WordHides") := rfl
theorem ee_53_58 {d : Nat} {ls st : List Value} {h : aH} {r : Nat} : go d 53 58 ls (.ref r :: st) h = (gf h r 6 7 7).bind fun z => go d 53 61 ls (z :: st) h := go_getf ke_53_58
theorem ke_53_61 : alook 53 61 = some (61, .iload_n 1, 1, (0, 0, 0, 0, 0), ⟨"", "", ""⟩, "") := rfl
theorem ee_53_61 {d : Nat} {h : aH} {l0 l2 : Value} {x : Int32} {st : List Value} : go d 53 61 [l0, .int x, l2] st h = go d 53 62 [l0, .int x, l2] (.int x :: st) h := go_plain (q := (62, [l0, .int x, l2], (.int x :: st), h)) ke_53_61 rfl
theorem ke_53_62 : alook 53 62 = some (62, .bipush 10, 2, (0, 0, 0, 0, 0), ⟨"", "", ""⟩, "") := rfl
theorem ee_53_62 {d : Nat} {h : aH} {ls st : List Value} : go d 53 62 ls st h = go d 53 64 ls (.int 10 :: st) h := go_plain (q := (64, ls, (.int 10 :: st), h)) ke_53_62 rfl
theorem ke_53_64 : alook 53 64 = some (64, .isub, 1, (0, 0, 0, 0, 0), ⟨"", "", ""⟩, "") := rfl
theorem ee_53_64 {d : Nat} {h : aH} {ls st : List Value} {x y : Int32} : go d 53 64 ls (.int y :: .int x :: st) h = go d 53 65 ls (.int (x - y) :: st) h := go_plain (q := (65, ls, (.int (x - y) :: st), h)) ke_53_64 rfl
theorem ke_53_65 : alook 53 65 = some (65, .invokevirtual 173, 3, (1, 1, 20, 1, 20), ⟨"WordHides$CrossedSearch", "firstPlace", "(I)I"⟩, "WordHides$Search") := rfl
theorem ee_53_65 {d : Nat} {ls : List Value} {h : aH} {i0 : Int32} {r1 : Nat} : go (d + 1) 53 65 ls [.int i0, .ref r1] h = if isC h r1 1 = true then (go d 20 0 [.ref r1, .int i0] [] h).bind (fun q => go (d + 1) 53 68 ls (q.1.toList ++ []) q.2) else none := go_cv1 (as := [.int i0]) (rest := []) (L := [.ref r1, .int i0]) ke_53_65 rfl rfl rfl
theorem ke_53_68 : alook 53 68 = some (68, .ireturn, 1, (0, 0, 0, 0, 0), ⟨"", "", ""⟩, "") := rfl
theorem ee_53_68 {d : Nat} {ls : List Value} {h : aH} {v : Int32} : go d 53 68 ls [.int v] h = some (some (.int v), h) := go_iret ke_53_68
theorem ke_53_69 : alook 53 69 = some (69, .iload_n 1, 1, (0, 0, 0, 0, 0), ⟨"", "", ""⟩, "") := rfl
theorem ee_53_69 {d : Nat} {h : aH} {l0 l2 : Value} {x : Int32} {st : List Value} : go d 53 69 [l0, .int x, l2] st h = go d 53 70 [l0, .int x, l2] (.int x :: st) h := go_plain (q := (70, [l0, .int x, l2], (.int x :: st), h)) ke_53_69 rfl
theorem ke_53_70 : alook 53 70 = some (70, .iconst 1, 1, (0, 0, 0, 0, 0), ⟨"", "", ""⟩, "") := rfl
theorem ee_53_70 {d : Nat} {h : aH} {ls st : List Value} : go d 53 70 ls st h = go d 53 71 ls (.int 1 :: st) h := go_plain (q := (71, ls, (.int 1 :: st), h)) ke_53_70 rfl
theorem ke_53_71 : alook 53 71 = some (71, .if_icmp .ne 13, 3, (84, 0, 0, 0, 0), ⟨"", "", ""⟩, "") := rfl
theorem ee_53_71 {d : Nat} {ls st : List Value} {h : aH} {x y : Int32} : go d 53 71 ls (.int y :: .int x :: st) h = if ¬ x = y then go d 53 84 ls st h else go d 53 74 ls st h := go_ci (go_if2 (tg := 84) (q := 74) (f := fun x y => decide (¬ x = y)) ke_53_71 rfl)
theorem ke_53_74 : alook 53 74 = some (74, .aload_n 0, 1, (0, 0, 0, 0, 0), ⟨"", "", ""⟩, "") := rfl
theorem ee_53_74 {d : Nat} {h : aH} {l1 l2 : Value} {x : Nat} {st : List Value} : go d 53 74 [.ref x, l1, l2] st h = go d 53 75 [.ref x, l1, l2] (.ref x :: st) h := go_plain (q := (75, [.ref x, l1, l2], (.ref x :: st), h)) ke_53_74 rfl
theorem ee_53_74N {d : Nat} {h : aH} {l1 l2 : Value} {st : List Value} : go d 53 74 [.null, l1, l2] st h = go d 53 75 [.null, l1, l2] (.null :: st) h := go_plain (q := (75, [.null, l1, l2], (.null :: st), h)) ke_53_74 rfl
theorem ke_53_75 : alook 53 75 = some (75, .getfield 53, 3, (6, 7, 7, 2, 0), ⟨"", "", ""⟩, "WordHides") := rfl
theorem ee_53_75 {d : Nat} {ls st : List Value} {h : aH} {r : Nat} : go d 53 75 ls (.ref r :: st) h = (gf h r 6 7 7).bind fun z => go d 53 78 ls (z :: st) h := go_getf ke_53_75
theorem ke_53_78 : alook 53 78 = some (78, .getfield 176, 3, (7, 1, 1, 0, 0), ⟨"", "", ""⟩, "WordHides$CrossedSearch") := rfl
theorem ee_53_78 {d : Nat} {ls st : List Value} {h : aH} {r : Nat} : go d 53 78 ls (.ref r :: st) h = (gf h r 7 1 1).bind fun z => go d 53 81 ls (z :: st) h := go_getf ke_53_78
theorem ke_53_81 : alook 53 81 = some (81, .goto 10, 3, (91, 0, 0, 0, 0), ⟨"", "", ""⟩, "") := rfl
theorem ee_53_81 {d : Nat} {h : aH} {ls st : List Value} : go d 53 81 ls st h = go d 53 91 ls st h := go_plain (q := (91, ls, st, h)) ke_53_81 rfl
theorem ke_53_84 : alook 53 84 = some (84, .aload_n 0, 1, (0, 0, 0, 0, 0), ⟨"", "", ""⟩, "") := rfl
theorem ee_53_84 {d : Nat} {h : aH} {l1 l2 : Value} {x : Nat} {st : List Value} : go d 53 84 [.ref x, l1, l2] st h = go d 53 85 [.ref x, l1, l2] (.ref x :: st) h := go_plain (q := (85, [.ref x, l1, l2], (.ref x :: st), h)) ke_53_84 rfl
theorem ee_53_84N {d : Nat} {h : aH} {l1 l2 : Value} {st : List Value} : go d 53 84 [.null, l1, l2] st h = go d 53 85 [.null, l1, l2] (.null :: st) h := go_plain (q := (85, [.null, l1, l2], (.null :: st), h)) ke_53_84 rfl
theorem ke_53_85 : alook 53 85 = some (85, .getfield 53, 3, (6, 7, 7, 2, 0), ⟨"", "", ""⟩, "WordHides") := rfl
theorem ee_53_85 {d : Nat} {ls st : List Value} {h : aH} {r : Nat} : go d 53 85 ls (.ref r :: st) h = (gf h r 6 7 7).bind fun z => go d 53 88 ls (z :: st) h := go_getf ke_53_85
theorem ke_53_88 : alook 53 88 = some (88, .getfield 179, 3, (8, 1, 1, 0, 0), ⟨"", "", ""⟩, "WordHides$CrossedSearch") := rfl
theorem ee_53_88 {d : Nat} {ls st : List Value} {h : aH} {r : Nat} : go d 53 88 ls (.ref r :: st) h = (gf h r 8 1 1).bind fun z => go d 53 91 ls (z :: st) h := go_getf ke_53_88
theorem ke_53_91 : alook 53 91 = some (91, .ireturn, 1, (0, 0, 0, 0, 0), ⟨"", "", ""⟩, "") := rfl
theorem ee_53_91 {d : Nat} {ls : List Value} {h : aH} {v : Int32} : go d 53 91 ls [.int v] h = some (some (.int v), h) := go_iret ke_53_91
theorem ke_54_0 : alook 54 0 = some (0, .aload_n 0, 1, (0, 0, 0, 0, 0), ⟨"", "", ""⟩, "") := rfl
theorem ee_54_0 {d : Nat} {h : aH} {l1 l2 l3 l4 l5 l6 l7 l8 l9 : Value} {x : Nat} {st : List Value} : go d 54 0 [.ref x, l1, l2, l3, l4, l5, l6, l7, l8, l9] st h = go d 54 1 [.ref x, l1, l2, l3, l4, l5, l6, l7, l8, l9] (.ref x :: st) h := go_plain (q := (1, [.ref x, l1, l2, l3, l4, l5, l6, l7, l8, l9], (.ref x :: st), h)) ke_54_0 rfl
theorem ee_54_0N {d : Nat} {h : aH} {l1 l2 l3 l4 l5 l6 l7 l8 l9 : Value} {st : List Value} : go d 54 0 [.null, l1, l2, l3, l4, l5, l6, l7, l8, l9] st h = go d 54 1 [.null, l1, l2, l3, l4, l5, l6, l7, l8, l9] (.null :: st) h := go_plain (q := (1, [.null, l1, l2, l3, l4, l5, l6, l7, l8, l9], (.null :: st), h)) ke_54_0 rfl
theorem ke_54_1 : alook 54 1 = some (1, .getfield 26, 3, (2, 7, 7, 2, 0), ⟨"", "", ""⟩, "WordHides") := rfl
theorem ee_54_1 {d : Nat} {ls st : List Value} {h : aH} {r : Nat} : go d 54 1 ls (.ref r :: st) h = (gf h r 2 7 7).bind fun z => go d 54 4 ls (z :: st) h := go_getf ke_54_1
theorem ke_54_4 : alook 54 4 = some (4, .getfield 137, 3, (1, 0, 0, 2, 0), ⟨"", "", ""⟩, "WordHides$Board") := rfl
theorem ee_54_4 {d : Nat} {ls st : List Value} {h : aH} {r : Nat} : go d 54 4 ls (.ref r :: st) h = (gf h r 1 0 0).bind fun z => go d 54 7 ls (z :: st) h := go_getf ke_54_4
theorem ke_54_7 : alook 54 7 = some (7, .getfield 110, 3, (1, 6, 6, 0, 0), ⟨"", "", ""⟩, "WordHides$TextList") := rfl
theorem ee_54_7 {d : Nat} {ls st : List Value} {h : aH} {r : Nat} : go d 54 7 ls (.ref r :: st) h = (gf h r 1 6 6).bind fun z => go d 54 10 ls (z :: st) h := go_getf ke_54_7
theorem ke_54_10 : alook 54 10 = some (10, .istore 4, 2, (0, 0, 0, 0, 0), ⟨"", "", ""⟩, "") := rfl
theorem ee_54_10 {d : Nat} {h : aH} {l0 l1 l2 l3 l4 l5 l6 l7 l8 l9 : Value} {x : Int32} {st : List Value} : go d 54 10 [l0, l1, l2, l3, l4, l5, l6, l7, l8, l9] (.int x :: st) h = go d 54 12 [l0, l1, l2, l3, .int x, l5, l6, l7, l8, l9] st h := go_plain (q := (12, [l0, l1, l2, l3, .int x, l5, l6, l7, l8, l9], st, h)) ke_54_10 rfl
theorem ke_54_12 : alook 54 12 = some (12, .aload_n 0, 1, (0, 0, 0, 0, 0), ⟨"", "", ""⟩, "") := rfl
theorem ee_54_12 {d : Nat} {h : aH} {l1 l2 l3 l4 l5 l6 l7 l8 l9 : Value} {x : Nat} {st : List Value} : go d 54 12 [.ref x, l1, l2, l3, l4, l5, l6, l7, l8, l9] st h = go d 54 13 [.ref x, l1, l2, l3, l4, l5, l6, l7, l8, l9] (.ref x :: st) h := go_plain (q := (13, [.ref x, l1, l2, l3, l4, l5, l6, l7, l8, l9], (.ref x :: st), h)) ke_54_12 rfl
theorem ee_54_12N {d : Nat} {h : aH} {l1 l2 l3 l4 l5 l6 l7 l8 l9 : Value} {st : List Value} : go d 54 12 [.null, l1, l2, l3, l4, l5, l6, l7, l8, l9] st h = go d 54 13 [.null, l1, l2, l3, l4, l5, l6, l7, l8, l9] (.null :: st) h := go_plain (q := (13, [.null, l1, l2, l3, l4, l5, l6, l7, l8, l9], (.null :: st), h)) ke_54_12 rfl
theorem ke_54_13 : alook 54 13 = some (13, .getfield 26, 3, (2, 7, 7, 2, 0), ⟨"", "", ""⟩, "WordHides") := rfl
theorem ee_54_13 {d : Nat} {ls st : List Value} {h : aH} {r : Nat} : go d 54 13 ls (.ref r :: st) h = (gf h r 2 7 7).bind fun z => go d 54 16 ls (z :: st) h := go_getf ke_54_13
theorem ke_54_16 : alook 54 16 = some (16, .getfield 68, 3, (0, 0, 0, 2, 0), ⟨"", "", ""⟩, "WordHides$Board") := rfl
theorem ee_54_16 {d : Nat} {ls st : List Value} {h : aH} {r : Nat} : go d 54 16 ls (.ref r :: st) h = (gf h r 0 0 0).bind fun z => go d 54 19 ls (z :: st) h := go_getf ke_54_16
theorem ke_54_19 : alook 54 19 = some (19, .getfield 71, 3, (1, 4, 4, 2, 0), ⟨"", "", ""⟩, "WordHides$Square") := rfl
theorem ee_54_19 {d : Nat} {ls st : List Value} {h : aH} {r : Nat} : go d 54 19 ls (.ref r :: st) h = (gf h r 1 4 4).bind fun z => go d 54 22 ls (z :: st) h := go_getf ke_54_19
theorem ke_54_22 : alook 54 22 = some (22, .astore 5, 2, (0, 0, 0, 0, 0), ⟨"", "", ""⟩, "") := rfl
theorem ee_54_22 {d : Nat} {h : aH} {l0 l1 l2 l3 l4 l5 l6 l7 l8 l9 : Value} {x : Nat} {st : List Value} : go d 54 22 [l0, l1, l2, l3, l4, l5, l6, l7, l8, l9] (.ref x :: st) h = go d 54 24 [l0, l1, l2, l3, l4, .ref x, l6, l7, l8, l9] st h := go_plain (q := (24, [l0, l1, l2, l3, l4, .ref x, l6, l7, l8, l9], st, h)) ke_54_22 rfl
theorem ee_54_22N {d : Nat} {h : aH} {l0 l1 l2 l3 l4 l5 l6 l7 l8 l9 : Value} {st : List Value} : go d 54 22 [l0, l1, l2, l3, l4, l5, l6, l7, l8, l9] (.null :: st) h = go d 54 24 [l0, l1, l2, l3, l4, .null, l6, l7, l8, l9] st h := go_plain (q := (24, [l0, l1, l2, l3, l4, .null, l6, l7, l8, l9], st, h)) ke_54_22 rfl
theorem ke_54_24 : alook 54 24 = some (24, .iload 4, 2, (0, 0, 0, 0, 0), ⟨"", "", ""⟩, "") := rfl
theorem ee_54_24 {d : Nat} {h : aH} {l0 l1 l2 l3 l5 l6 l7 l8 l9 : Value} {x : Int32} {st : List Value} : go d 54 24 [l0, l1, l2, l3, .int x, l5, l6, l7, l8, l9] st h = go d 54 26 [l0, l1, l2, l3, .int x, l5, l6, l7, l8, l9] (.int x :: st) h := go_plain (q := (26, [l0, l1, l2, l3, .int x, l5, l6, l7, l8, l9], (.int x :: st), h)) ke_54_24 rfl
theorem ke_54_26 : alook 54 26 = some (26, .ifCond .le 12, 3, (38, 0, 0, 0, 0), ⟨"", "", ""⟩, "") := rfl
theorem ee_54_26 {d : Nat} {ls st : List Value} {h : aH} {x : Int32} : go d 54 26 ls (.int x :: st) h = if x ≤ 0 then go d 54 38 ls st h else go d 54 29 ls st h := go_c1 (go_if1 (tg := 38) (q := 29) (f := fun x => decide (x ≤ 0)) ke_54_26 rfl)
theorem ke_54_29 : alook 54 29 = some (29, .aload 5, 2, (0, 0, 0, 0, 0), ⟨"", "", ""⟩, "") := rfl
theorem ee_54_29 {d : Nat} {h : aH} {l0 l1 l2 l3 l4 l6 l7 l8 l9 : Value} {x : Nat} {st : List Value} : go d 54 29 [l0, l1, l2, l3, l4, .ref x, l6, l7, l8, l9] st h = go d 54 31 [l0, l1, l2, l3, l4, .ref x, l6, l7, l8, l9] (.ref x :: st) h := go_plain (q := (31, [l0, l1, l2, l3, l4, .ref x, l6, l7, l8, l9], (.ref x :: st), h)) ke_54_29 rfl
theorem ee_54_29N {d : Nat} {h : aH} {l0 l1 l2 l3 l4 l6 l7 l8 l9 : Value} {st : List Value} : go d 54 29 [l0, l1, l2, l3, l4, .null, l6, l7, l8, l9] st h = go d 54 31 [l0, l1, l2, l3, l4, .null, l6, l7, l8, l9] (.null :: st) h := go_plain (q := (31, [l0, l1, l2, l3, l4, .null, l6, l7, l8, l9], (.null :: st), h)) ke_54_29 rfl
theorem ke_54_31 : alook 54 31 = some (31, .iload_n 1, 1, (0, 0, 0, 0, 0), ⟨"", "", ""⟩, "") := rfl
theorem ee_54_31 {d : Nat} {h : aH} {l0 l2 l3 l4 l5 l6 l7 l8 l9 : Value} {x : Int32} {st : List Value} : go d 54 31 [l0, .int x, l2, l3, l4, l5, l6, l7, l8, l9] st h = go d 54 32 [l0, .int x, l2, l3, l4, l5, l6, l7, l8, l9] (.int x :: st) h := go_plain (q := (32, [l0, .int x, l2, l3, l4, l5, l6, l7, l8, l9], (.int x :: st), h)) ke_54_31 rfl
theorem ke_54_32 : alook 54 32 = some (32, .invokevirtual 141, 3, (1, 3, 13, 3, 13), ⟨"WordHides$Lattice", "hasPlace", "(I)Z"⟩, "") := rfl
theorem ee_54_32 {d : Nat} {ls : List Value} {h : aH} {i0 : Int32} {r1 : Nat} : go (d + 1) 54 32 ls [.int i0, .ref r1] h = if isC h r1 3 = true then (go d 13 0 [.ref r1, .int i0] [] h).bind (fun q => go (d + 1) 54 35 ls (q.1.toList ++ []) q.2) else none := go_cv1 (as := [.int i0]) (rest := []) (L := [.ref r1, .int i0]) ke_54_32 rfl rfl rfl
theorem ke_54_35 : alook 54 35 = some (35, .ifCond .eq 33, 3, (68, 0, 0, 0, 0), ⟨"", "", ""⟩, "") := rfl
theorem ee_54_35 {d : Nat} {ls st : List Value} {h : aH} {x : Int32} : go d 54 35 ls (.int x :: st) h = if x = 0 then go d 54 68 ls st h else go d 54 38 ls st h := go_c1 (go_if1 (tg := 68) (q := 38) (f := fun x => decide (x = 0)) ke_54_35 rfl)
theorem ke_54_38 : alook 54 38 = some (38, .iload 4, 2, (0, 0, 0, 0, 0), ⟨"", "", ""⟩, "") := rfl
theorem ee_54_38 {d : Nat} {h : aH} {l0 l1 l2 l3 l5 l6 l7 l8 l9 : Value} {x : Int32} {st : List Value} : go d 54 38 [l0, l1, l2, l3, .int x, l5, l6, l7, l8, l9] st h = go d 54 40 [l0, l1, l2, l3, .int x, l5, l6, l7, l8, l9] (.int x :: st) h := go_plain (q := (40, [l0, l1, l2, l3, .int x, l5, l6, l7, l8, l9], (.int x :: st), h)) ke_54_38 rfl
theorem ke_54_40 : alook 54 40 = some (40, .iconst 1, 1, (0, 0, 0, 0, 0), ⟨"", "", ""⟩, "") := rfl
theorem ee_54_40 {d : Nat} {h : aH} {ls st : List Value} : go d 54 40 ls st h = go d 54 41 ls (.int 1 :: st) h := go_plain (q := (41, ls, (.int 1 :: st), h)) ke_54_40 rfl
theorem ke_54_41 : alook 54 41 = some (41, .if_icmp .le 12, 3, (53, 0, 0, 0, 0), ⟨"", "", ""⟩, "") := rfl
theorem ee_54_41 {d : Nat} {ls st : List Value} {h : aH} {x y : Int32} : go d 54 41 ls (.int y :: .int x :: st) h = if x ≤ y then go d 54 53 ls st h else go d 54 44 ls st h := go_ci (go_if2 (tg := 53) (q := 44) (f := fun x y => decide (x ≤ y)) ke_54_41 rfl)
theorem ke_54_44 : alook 54 44 = some (44, .aload 5, 2, (0, 0, 0, 0, 0), ⟨"", "", ""⟩, "") := rfl
theorem ee_54_44 {d : Nat} {h : aH} {l0 l1 l2 l3 l4 l6 l7 l8 l9 : Value} {x : Nat} {st : List Value} : go d 54 44 [l0, l1, l2, l3, l4, .ref x, l6, l7, l8, l9] st h = go d 54 46 [l0, l1, l2, l3, l4, .ref x, l6, l7, l8, l9] (.ref x :: st) h := go_plain (q := (46, [l0, l1, l2, l3, l4, .ref x, l6, l7, l8, l9], (.ref x :: st), h)) ke_54_44 rfl
theorem ee_54_44N {d : Nat} {h : aH} {l0 l1 l2 l3 l4 l6 l7 l8 l9 : Value} {st : List Value} : go d 54 44 [l0, l1, l2, l3, l4, .null, l6, l7, l8, l9] st h = go d 54 46 [l0, l1, l2, l3, l4, .null, l6, l7, l8, l9] (.null :: st) h := go_plain (q := (46, [l0, l1, l2, l3, l4, .null, l6, l7, l8, l9], (.null :: st), h)) ke_54_44 rfl
theorem ke_54_46 : alook 54 46 = some (46, .iload_n 2, 1, (0, 0, 0, 0, 0), ⟨"", "", ""⟩, "") := rfl
theorem ee_54_46 {d : Nat} {h : aH} {l0 l1 l3 l4 l5 l6 l7 l8 l9 : Value} {x : Int32} {st : List Value} : go d 54 46 [l0, l1, .int x, l3, l4, l5, l6, l7, l8, l9] st h = go d 54 47 [l0, l1, .int x, l3, l4, l5, l6, l7, l8, l9] (.int x :: st) h := go_plain (q := (47, [l0, l1, .int x, l3, l4, l5, l6, l7, l8, l9], (.int x :: st), h)) ke_54_46 rfl
theorem ke_54_47 : alook 54 47 = some (47, .invokevirtual 141, 3, (1, 3, 13, 3, 13), ⟨"WordHides$Lattice", "hasPlace", "(I)Z"⟩, "") := rfl
theorem ee_54_47 {d : Nat} {ls : List Value} {h : aH} {i0 : Int32} {r1 : Nat} : go (d + 1) 54 47 ls [.int i0, .ref r1] h = if isC h r1 3 = true then (go d 13 0 [.ref r1, .int i0] [] h).bind (fun q => go (d + 1) 54 50 ls (q.1.toList ++ []) q.2) else none := go_cv1 (as := [.int i0]) (rest := []) (L := [.ref r1, .int i0]) ke_54_47 rfl rfl rfl
theorem ke_54_50 : alook 54 50 = some (50, .ifCond .eq 18, 3, (68, 0, 0, 0, 0), ⟨"", "", ""⟩, "") := rfl
theorem ee_54_50 {d : Nat} {ls st : List Value} {h : aH} {x : Int32} : go d 54 50 ls (.int x :: st) h = if x = 0 then go d 54 68 ls st h else go d 54 53 ls st h := go_c1 (go_if1 (tg := 68) (q := 53) (f := fun x => decide (x = 0)) ke_54_50 rfl)
theorem ke_54_53 : alook 54 53 = some (53, .iload 4, 2, (0, 0, 0, 0, 0), ⟨"", "", ""⟩, "") := rfl
theorem ee_54_53 {d : Nat} {h : aH} {l0 l1 l2 l3 l5 l6 l7 l8 l9 : Value} {x : Int32} {st : List Value} : go d 54 53 [l0, l1, l2, l3, .int x, l5, l6, l7, l8, l9] st h = go d 54 55 [l0, l1, l2, l3, .int x, l5, l6, l7, l8, l9] (.int x :: st) h := go_plain (q := (55, [l0, l1, l2, l3, .int x, l5, l6, l7, l8, l9], (.int x :: st), h)) ke_54_53 rfl
theorem ke_54_55 : alook 54 55 = some (55, .iconst 2, 1, (0, 0, 0, 0, 0), ⟨"", "", ""⟩, "") := rfl
theorem ee_54_55 {d : Nat} {h : aH} {ls st : List Value} : go d 54 55 ls st h = go d 54 56 ls (.int 2 :: st) h := go_plain (q := (56, ls, (.int 2 :: st), h)) ke_54_55 rfl
theorem ke_54_56 : alook 54 56 = some (56, .if_icmp .le 15, 3, (71, 0, 0, 0, 0), ⟨"", "", ""⟩, "") := rfl
theorem ee_54_56 {d : Nat} {ls st : List Value} {h : aH} {x y : Int32} : go d 54 56 ls (.int y :: .int x :: st) h = if x ≤ y then go d 54 71 ls st h else go d 54 59 ls st h := go_ci (go_if2 (tg := 71) (q := 59) (f := fun x y => decide (x ≤ y)) ke_54_56 rfl)
theorem ke_54_59 : alook 54 59 = some (59, .aload 5, 2, (0, 0, 0, 0, 0), ⟨"", "", ""⟩, "") := rfl
theorem ee_54_59 {d : Nat} {h : aH} {l0 l1 l2 l3 l4 l6 l7 l8 l9 : Value} {x : Nat} {st : List Value} : go d 54 59 [l0, l1, l2, l3, l4, .ref x, l6, l7, l8, l9] st h = go d 54 61 [l0, l1, l2, l3, l4, .ref x, l6, l7, l8, l9] (.ref x :: st) h := go_plain (q := (61, [l0, l1, l2, l3, l4, .ref x, l6, l7, l8, l9], (.ref x :: st), h)) ke_54_59 rfl
theorem ee_54_59N {d : Nat} {h : aH} {l0 l1 l2 l3 l4 l6 l7 l8 l9 : Value} {st : List Value} : go d 54 59 [l0, l1, l2, l3, l4, .null, l6, l7, l8, l9] st h = go d 54 61 [l0, l1, l2, l3, l4, .null, l6, l7, l8, l9] (.null :: st) h := go_plain (q := (61, [l0, l1, l2, l3, l4, .null, l6, l7, l8, l9], (.null :: st), h)) ke_54_59 rfl
theorem ke_54_61 : alook 54 61 = some (61, .iload_n 3, 1, (0, 0, 0, 0, 0), ⟨"", "", ""⟩, "") := rfl
theorem ee_54_61 {d : Nat} {h : aH} {l0 l1 l2 l4 l5 l6 l7 l8 l9 : Value} {x : Int32} {st : List Value} : go d 54 61 [l0, l1, l2, .int x, l4, l5, l6, l7, l8, l9] st h = go d 54 62 [l0, l1, l2, .int x, l4, l5, l6, l7, l8, l9] (.int x :: st) h := go_plain (q := (62, [l0, l1, l2, .int x, l4, l5, l6, l7, l8, l9], (.int x :: st), h)) ke_54_61 rfl
theorem ke_54_62 : alook 54 62 = some (62, .invokevirtual 141, 3, (1, 3, 13, 3, 13), ⟨"WordHides$Lattice", "hasPlace", "(I)Z"⟩, "") := rfl
theorem ee_54_62 {d : Nat} {ls : List Value} {h : aH} {i0 : Int32} {r1 : Nat} : go (d + 1) 54 62 ls [.int i0, .ref r1] h = if isC h r1 3 = true then (go d 13 0 [.ref r1, .int i0] [] h).bind (fun q => go (d + 1) 54 65 ls (q.1.toList ++ []) q.2) else none := go_cv1 (as := [.int i0]) (rest := []) (L := [.ref r1, .int i0]) ke_54_62 rfl rfl rfl
theorem ke_54_65 : alook 54 65 = some (65, .ifCond .ne 6, 3, (71, 0, 0, 0, 0), ⟨"", "", ""⟩, "") := rfl
theorem ee_54_65 {d : Nat} {ls st : List Value} {h : aH} {x : Int32} : go d 54 65 ls (.int x :: st) h = if ¬ x = 0 then go d 54 71 ls st h else go d 54 68 ls st h := go_c1 (go_if1 (tg := 71) (q := 68) (f := fun x => decide (¬ x = 0)) ke_54_65 rfl)
theorem ke_54_68 : alook 54 68 = some (68, .bipush (-2), 2, (0, 0, 0, 0, 0), ⟨"", "", ""⟩, "") := rfl
theorem ee_54_68 {d : Nat} {h : aH} {ls st : List Value} : go d 54 68 ls st h = go d 54 70 ls (.int (-2) :: st) h := go_plain (q := (70, ls, (.int (-2) :: st), h)) ke_54_68 rfl
theorem ke_54_70 : alook 54 70 = some (70, .ireturn, 1, (0, 0, 0, 0, 0), ⟨"", "", ""⟩, "") := rfl
theorem ee_54_70 {d : Nat} {ls : List Value} {h : aH} {v : Int32} : go d 54 70 ls [.int v] h = some (some (.int v), h) := go_iret ke_54_70
theorem ke_54_71 : alook 54 71 = some (71, .aload_n 0, 1, (0, 0, 0, 0, 0), ⟨"", "", ""⟩, "") := rfl
theorem ee_54_71 {d : Nat} {h : aH} {l1 l2 l3 l4 l5 l6 l7 l8 l9 : Value} {x : Nat} {st : List Value} : go d 54 71 [.ref x, l1, l2, l3, l4, l5, l6, l7, l8, l9] st h = go d 54 72 [.ref x, l1, l2, l3, l4, l5, l6, l7, l8, l9] (.ref x :: st) h := go_plain (q := (72, [.ref x, l1, l2, l3, l4, l5, l6, l7, l8, l9], (.ref x :: st), h)) ke_54_71 rfl
theorem ee_54_71N {d : Nat} {h : aH} {l1 l2 l3 l4 l5 l6 l7 l8 l9 : Value} {st : List Value} : go d 54 71 [.null, l1, l2, l3, l4, l5, l6, l7, l8, l9] st h = go d 54 72 [.null, l1, l2, l3, l4, l5, l6, l7, l8, l9] (.null :: st) h := go_plain (q := (72, [.null, l1, l2, l3, l4, l5, l6, l7, l8, l9], (.null :: st), h)) ke_54_71 rfl
theorem ke_54_72 : alook 54 72 = some (72, .getfield 44, 3, (5, 7, 7, 2, 0), ⟨"", "", ""⟩, "WordHides") := rfl
theorem ee_54_72 {d : Nat} {ls st : List Value} {h : aH} {r : Nat} : go d 54 72 ls (.ref r :: st) h = (gf h r 5 7 7).bind fun z => go d 54 75 ls (z :: st) h := go_getf ke_54_72
theorem ke_54_75 : alook 54 75 = some (75, .aload_n 0, 1, (0, 0, 0, 0, 0), ⟨"", "", ""⟩, "") := rfl
theorem ee_54_75 {d : Nat} {h : aH} {l1 l2 l3 l4 l5 l6 l7 l8 l9 : Value} {x : Nat} {st : List Value} : go d 54 75 [.ref x, l1, l2, l3, l4, l5, l6, l7, l8, l9] st h = go d 54 76 [.ref x, l1, l2, l3, l4, l5, l6, l7, l8, l9] (.ref x :: st) h := go_plain (q := (76, [.ref x, l1, l2, l3, l4, l5, l6, l7, l8, l9], (.ref x :: st), h)) ke_54_75 rfl
theorem ee_54_75N {d : Nat} {h : aH} {l1 l2 l3 l4 l5 l6 l7 l8 l9 : Value} {st : List Value} : go d 54 75 [.null, l1, l2, l3, l4, l5, l6, l7, l8, l9] st h = go d 54 76 [.null, l1, l2, l3, l4, l5, l6, l7, l8, l9] (.null :: st) h := go_plain (q := (76, [.null, l1, l2, l3, l4, l5, l6, l7, l8, l9], (.null :: st), h)) ke_54_75 rfl
theorem ke_54_76 : alook 54 76 = some (76, .getfield 26, 3, (2, 7, 7, 2, 0), ⟨"", "", ""⟩, "WordHides") := rfl
theorem ee_54_76 {d : Nat} {ls st : List Value} {h : aH} {r : Nat} : go d 54 76 ls (.ref r :: st) h = (gf h r 2 7 7).bind fun z => go d 54 79 ls (z :: st) h := go_getf ke_54_76
theorem ke_54_79 : alook 54 79 = some (79, .getfield 68, 3, (0, 0, 0, 2, 0), ⟨"", "", ""⟩, "WordHides$Board") := rfl
theorem ee_54_79 {d : Nat} {ls st : List Value} {h : aH} {r : Nat} : go d 54 79 ls (.ref r :: st) h = (gf h r 0 0 0).bind fun z => go d 54 82 ls (z :: st) h := go_getf ke_54_79
theorem ke_54_82 : alook 54 82 = some (82, .invokevirtual 182, 3, (1, 4, 23, 4, 23), ⟨"WordHides$Square", "copyFrom", "(LWordHides$Square;)V"⟩, "") := rfl
theorem ee_54_82 {d : Nat} {ls : List Value} {h : aH} {r0 : Nat} {r1 : Nat} : go (d + 1) 54 82 ls [.ref r0, .ref r1] h = if isC h r1 4 = true then (go d 23 0 [.ref r1, .ref r0] [] h).bind (fun q => go (d + 1) 54 85 ls (q.1.toList ++ []) q.2) else none := go_cv1 (as := [.ref r0]) (rest := []) (L := [.ref r1, .ref r0]) ke_54_82 rfl rfl rfl
theorem ke_54_85 : alook 54 85 = some (85, .iconst 0, 1, (0, 0, 0, 0, 0), ⟨"", "", ""⟩, "") := rfl
theorem ee_54_85 {d : Nat} {h : aH} {ls st : List Value} : go d 54 85 ls st h = go d 54 86 ls (.int 0 :: st) h := go_plain (q := (86, ls, (.int 0 :: st), h)) ke_54_85 rfl
theorem ke_54_86 : alook 54 86 = some (86, .istore 6, 2, (0, 0, 0, 0, 0), ⟨"", "", ""⟩, "") := rfl
theorem ee_54_86 {d : Nat} {h : aH} {l0 l1 l2 l3 l4 l5 l6 l7 l8 l9 : Value} {x : Int32} {st : List Value} : go d 54 86 [l0, l1, l2, l3, l4, l5, l6, l7, l8, l9] (.int x :: st) h = go d 54 88 [l0, l1, l2, l3, l4, l5, .int x, l7, l8, l9] st h := go_plain (q := (88, [l0, l1, l2, l3, l4, l5, .int x, l7, l8, l9], st, h)) ke_54_86 rfl
theorem ke_54_88 : alook 54 88 = some (88, .iconst 0, 1, (0, 0, 0, 0, 0), ⟨"", "", ""⟩, "") := rfl
theorem ee_54_88 {d : Nat} {h : aH} {ls st : List Value} : go d 54 88 ls st h = go d 54 89 ls (.int 0 :: st) h := go_plain (q := (89, ls, (.int 0 :: st), h)) ke_54_88 rfl
theorem ke_54_89 : alook 54 89 = some (89, .istore 7, 2, (0, 0, 0, 0, 0), ⟨"", "", ""⟩, "") := rfl
theorem ee_54_89 {d : Nat} {h : aH} {l0 l1 l2 l3 l4 l5 l6 l7 l8 l9 : Value} {x : Int32} {st : List Value} : go d 54 89 [l0, l1, l2, l3, l4, l5, l6, l7, l8, l9] (.int x :: st) h = go d 54 91 [l0, l1, l2, l3, l4, l5, l6, .int x, l8, l9] st h := go_plain (q := (91, [l0, l1, l2, l3, l4, l5, l6, .int x, l8, l9], st, h)) ke_54_89 rfl
theorem ke_54_91 : alook 54 91 = some (91, .iload 7, 2, (0, 0, 0, 0, 0), ⟨"", "", ""⟩, "") := rfl
theorem ee_54_91 {d : Nat} {h : aH} {l0 l1 l2 l3 l4 l5 l6 l8 l9 : Value} {x : Int32} {st : List Value} : go d 54 91 [l0, l1, l2, l3, l4, l5, l6, .int x, l8, l9] st h = go d 54 93 [l0, l1, l2, l3, l4, l5, l6, .int x, l8, l9] (.int x :: st) h := go_plain (q := (93, [l0, l1, l2, l3, l4, l5, l6, .int x, l8, l9], (.int x :: st), h)) ke_54_91 rfl
theorem ke_54_93 : alook 54 93 = some (93, .iload 4, 2, (0, 0, 0, 0, 0), ⟨"", "", ""⟩, "") := rfl
theorem ee_54_93 {d : Nat} {h : aH} {l0 l1 l2 l3 l5 l6 l7 l8 l9 : Value} {x : Int32} {st : List Value} : go d 54 93 [l0, l1, l2, l3, .int x, l5, l6, l7, l8, l9] st h = go d 54 95 [l0, l1, l2, l3, .int x, l5, l6, l7, l8, l9] (.int x :: st) h := go_plain (q := (95, [l0, l1, l2, l3, .int x, l5, l6, l7, l8, l9], (.int x :: st), h)) ke_54_93 rfl
theorem ke_54_95 : alook 54 95 = some (95, .if_icmp .ge 96, 3, (191, 0, 0, 0, 0), ⟨"", "", ""⟩, "") := rfl
theorem ee_54_95 {d : Nat} {ls st : List Value} {h : aH} {x y : Int32} : go d 54 95 ls (.int y :: .int x :: st) h = if y ≤ x then go d 54 191 ls st h else go d 54 98 ls st h := go_ci (go_if2 (tg := 191) (q := 98) (f := fun x y => decide (y ≤ x)) ke_54_95 rfl)
theorem ke_54_98 : alook 54 98 = some (98, .aload_n 0, 1, (0, 0, 0, 0, 0), ⟨"", "", ""⟩, "") := rfl
theorem ee_54_98 {d : Nat} {h : aH} {l1 l2 l3 l4 l5 l6 l7 l8 l9 : Value} {x : Nat} {st : List Value} : go d 54 98 [.ref x, l1, l2, l3, l4, l5, l6, l7, l8, l9] st h = go d 54 99 [.ref x, l1, l2, l3, l4, l5, l6, l7, l8, l9] (.ref x :: st) h := go_plain (q := (99, [.ref x, l1, l2, l3, l4, l5, l6, l7, l8, l9], (.ref x :: st), h)) ke_54_98 rfl
theorem ee_54_98N {d : Nat} {h : aH} {l1 l2 l3 l4 l5 l6 l7 l8 l9 : Value} {st : List Value} : go d 54 98 [.null, l1, l2, l3, l4, l5, l6, l7, l8, l9] st h = go d 54 99 [.null, l1, l2, l3, l4, l5, l6, l7, l8, l9] (.null :: st) h := go_plain (q := (99, [.null, l1, l2, l3, l4, l5, l6, l7, l8, l9], (.null :: st), h)) ke_54_98 rfl
theorem ke_54_99 : alook 54 99 = some (99, .getfield 26, 3, (2, 7, 7, 2, 0), ⟨"", "", ""⟩, "WordHides") := rfl
theorem ee_54_99 {d : Nat} {ls st : List Value} {h : aH} {r : Nat} : go d 54 99 ls (.ref r :: st) h = (gf h r 2 7 7).bind fun z => go d 54 102 ls (z :: st) h := go_getf ke_54_99
theorem ke_54_102 : alook 54 102 = some (102, .getfield 137, 3, (1, 0, 0, 2, 0), ⟨"", "", ""⟩, "WordHides$Board") := rfl
theorem ee_54_102 {d : Nat} {ls st : List Value} {h : aH} {r : Nat} : go d 54 102 ls (.ref r :: st) h = (gf h r 1 0 0).bind fun z => go d 54 105 ls (z :: st) h := go_getf ke_54_102
theorem ke_54_105 : alook 54 105 = some (105, .iload 7, 2, (0, 0, 0, 0, 0), ⟨"", "", ""⟩, "") := rfl
theorem ee_54_105 {d : Nat} {h : aH} {l0 l1 l2 l3 l4 l5 l6 l8 l9 : Value} {x : Int32} {st : List Value} : go d 54 105 [l0, l1, l2, l3, l4, l5, l6, .int x, l8, l9] st h = go d 54 107 [l0, l1, l2, l3, l4, l5, l6, .int x, l8, l9] (.int x :: st) h := go_plain (q := (107, [l0, l1, l2, l3, l4, l5, l6, .int x, l8, l9], (.int x :: st), h)) ke_54_105 rfl
theorem ke_54_107 : alook 54 107 = some (107, .invokevirtual 129, 3, (1, 6, 37, 6, 37), ⟨"WordHides$TextList", "find", "(I)LWordHides$Text;"⟩, "") := rfl
theorem ee_54_107 {d : Nat} {ls : List Value} {h : aH} {i0 : Int32} {r1 : Nat} : go (d + 1) 54 107 ls [.int i0, .ref r1] h = if isC h r1 6 = true then (go d 37 0 [.ref r1, .int i0] [] h).bind (fun q => go (d + 1) 54 110 ls (q.1.toList ++ []) q.2) else none := go_cv1 (as := [.int i0]) (rest := []) (L := [.ref r1, .int i0]) ke_54_107 rfl rfl rfl
theorem ke_54_110 : alook 54 110 = some (110, .astore 8, 2, (0, 0, 0, 0, 0), ⟨"", "", ""⟩, "") := rfl
theorem ee_54_110 {d : Nat} {h : aH} {l0 l1 l2 l3 l4 l5 l6 l7 l8 l9 : Value} {x : Nat} {st : List Value} : go d 54 110 [l0, l1, l2, l3, l4, l5, l6, l7, l8, l9] (.ref x :: st) h = go d 54 112 [l0, l1, l2, l3, l4, l5, l6, l7, .ref x, l9] st h := go_plain (q := (112, [l0, l1, l2, l3, l4, l5, l6, l7, .ref x, l9], st, h)) ke_54_110 rfl
theorem ee_54_110N {d : Nat} {h : aH} {l0 l1 l2 l3 l4 l5 l6 l7 l8 l9 : Value} {st : List Value} : go d 54 110 [l0, l1, l2, l3, l4, l5, l6, l7, l8, l9] (.null :: st) h = go d 54 112 [l0, l1, l2, l3, l4, l5, l6, l7, .null, l9] st h := go_plain (q := (112, [l0, l1, l2, l3, l4, l5, l6, l7, .null, l9], st, h)) ke_54_110 rfl
theorem ke_54_112 : alook 54 112 = some (112, .iload 7, 2, (0, 0, 0, 0, 0), ⟨"", "", ""⟩, "") := rfl
theorem ee_54_112 {d : Nat} {h : aH} {l0 l1 l2 l3 l4 l5 l6 l8 l9 : Value} {x : Int32} {st : List Value} : go d 54 112 [l0, l1, l2, l3, l4, l5, l6, .int x, l8, l9] st h = go d 54 114 [l0, l1, l2, l3, l4, l5, l6, .int x, l8, l9] (.int x :: st) h := go_plain (q := (114, [l0, l1, l2, l3, l4, l5, l6, .int x, l8, l9], (.int x :: st), h)) ke_54_112 rfl
theorem ke_54_114 : alook 54 114 = some (114, .ifCond .ne 7, 3, (121, 0, 0, 0, 0), ⟨"", "", ""⟩, "") := rfl
theorem ee_54_114 {d : Nat} {ls st : List Value} {h : aH} {x : Int32} : go d 54 114 ls (.int x :: st) h = if ¬ x = 0 then go d 54 121 ls st h else go d 54 117 ls st h := go_c1 (go_if1 (tg := 121) (q := 117) (f := fun x => decide (¬ x = 0)) ke_54_114 rfl)
theorem ke_54_117 : alook 54 117 = some (117, .iload_n 1, 1, (0, 0, 0, 0, 0), ⟨"", "", ""⟩, "") := rfl
theorem ee_54_117 {d : Nat} {h : aH} {l0 l2 l3 l4 l5 l6 l7 l8 l9 : Value} {x : Int32} {st : List Value} : go d 54 117 [l0, .int x, l2, l3, l4, l5, l6, l7, l8, l9] st h = go d 54 118 [l0, .int x, l2, l3, l4, l5, l6, l7, l8, l9] (.int x :: st) h := go_plain (q := (118, [l0, .int x, l2, l3, l4, l5, l6, l7, l8, l9], (.int x :: st), h)) ke_54_117 rfl
theorem ke_54_118 : alook 54 118 = some (118, .goto 14, 3, (132, 0, 0, 0, 0), ⟨"", "", ""⟩, "") := rfl
theorem ee_54_118 {d : Nat} {h : aH} {ls st : List Value} : go d 54 118 ls st h = go d 54 132 ls st h := go_plain (q := (132, ls, st, h)) ke_54_118 rfl
theorem ke_54_121 : alook 54 121 = some (121, .iload 7, 2, (0, 0, 0, 0, 0), ⟨"", "", ""⟩, "") := rfl
theorem ee_54_121 {d : Nat} {h : aH} {l0 l1 l2 l3 l4 l5 l6 l8 l9 : Value} {x : Int32} {st : List Value} : go d 54 121 [l0, l1, l2, l3, l4, l5, l6, .int x, l8, l9] st h = go d 54 123 [l0, l1, l2, l3, l4, l5, l6, .int x, l8, l9] (.int x :: st) h := go_plain (q := (123, [l0, l1, l2, l3, l4, l5, l6, .int x, l8, l9], (.int x :: st), h)) ke_54_121 rfl
theorem ke_54_123 : alook 54 123 = some (123, .iconst 1, 1, (0, 0, 0, 0, 0), ⟨"", "", ""⟩, "") := rfl
theorem ee_54_123 {d : Nat} {h : aH} {ls st : List Value} : go d 54 123 ls st h = go d 54 124 ls (.int 1 :: st) h := go_plain (q := (124, ls, (.int 1 :: st), h)) ke_54_123 rfl
theorem ke_54_124 : alook 54 124 = some (124, .if_icmp .ne 7, 3, (131, 0, 0, 0, 0), ⟨"", "", ""⟩, "") := rfl
theorem ee_54_124 {d : Nat} {ls st : List Value} {h : aH} {x y : Int32} : go d 54 124 ls (.int y :: .int x :: st) h = if ¬ x = y then go d 54 131 ls st h else go d 54 127 ls st h := go_ci (go_if2 (tg := 131) (q := 127) (f := fun x y => decide (¬ x = y)) ke_54_124 rfl)
theorem ke_54_127 : alook 54 127 = some (127, .iload_n 2, 1, (0, 0, 0, 0, 0), ⟨"", "", ""⟩, "") := rfl
theorem ee_54_127 {d : Nat} {h : aH} {l0 l1 l3 l4 l5 l6 l7 l8 l9 : Value} {x : Int32} {st : List Value} : go d 54 127 [l0, l1, .int x, l3, l4, l5, l6, l7, l8, l9] st h = go d 54 128 [l0, l1, .int x, l3, l4, l5, l6, l7, l8, l9] (.int x :: st) h := go_plain (q := (128, [l0, l1, .int x, l3, l4, l5, l6, l7, l8, l9], (.int x :: st), h)) ke_54_127 rfl
theorem ke_54_128 : alook 54 128 = some (128, .goto 4, 3, (132, 0, 0, 0, 0), ⟨"", "", ""⟩, "") := rfl
theorem ee_54_128 {d : Nat} {h : aH} {ls st : List Value} : go d 54 128 ls st h = go d 54 132 ls st h := go_plain (q := (132, ls, st, h)) ke_54_128 rfl
theorem ke_54_131 : alook 54 131 = some (131, .iload_n 3, 1, (0, 0, 0, 0, 0), ⟨"", "", ""⟩, "") := rfl
theorem ee_54_131 {d : Nat} {h : aH} {l0 l1 l2 l4 l5 l6 l7 l8 l9 : Value} {x : Int32} {st : List Value} : go d 54 131 [l0, l1, l2, .int x, l4, l5, l6, l7, l8, l9] st h = go d 54 132 [l0, l1, l2, .int x, l4, l5, l6, l7, l8, l9] (.int x :: st) h := go_plain (q := (132, [l0, l1, l2, .int x, l4, l5, l6, l7, l8, l9], (.int x :: st), h)) ke_54_131 rfl
theorem ke_54_132 : alook 54 132 = some (132, .istore 9, 2, (0, 0, 0, 0, 0), ⟨"", "", ""⟩, "") := rfl
theorem ee_54_132 {d : Nat} {h : aH} {l0 l1 l2 l3 l4 l5 l6 l7 l8 l9 : Value} {x : Int32} {st : List Value} : go d 54 132 [l0, l1, l2, l3, l4, l5, l6, l7, l8, l9] (.int x :: st) h = go d 54 134 [l0, l1, l2, l3, l4, l5, l6, l7, l8, .int x] st h := go_plain (q := (134, [l0, l1, l2, l3, l4, l5, l6, l7, l8, .int x], st, h)) ke_54_132 rfl
theorem ke_54_134 : alook 54 134 = some (134, .aload 8, 2, (0, 0, 0, 0, 0), ⟨"", "", ""⟩, "") := rfl
theorem ee_54_134 {d : Nat} {h : aH} {l0 l1 l2 l3 l4 l5 l6 l7 l9 : Value} {x : Nat} {st : List Value} : go d 54 134 [l0, l1, l2, l3, l4, l5, l6, l7, .ref x, l9] st h = go d 54 136 [l0, l1, l2, l3, l4, l5, l6, l7, .ref x, l9] (.ref x :: st) h := go_plain (q := (136, [l0, l1, l2, l3, l4, l5, l6, l7, .ref x, l9], (.ref x :: st), h)) ke_54_134 rfl
theorem ee_54_134N {d : Nat} {h : aH} {l0 l1 l2 l3 l4 l5 l6 l7 l9 : Value} {st : List Value} : go d 54 134 [l0, l1, l2, l3, l4, l5, l6, l7, .null, l9] st h = go d 54 136 [l0, l1, l2, l3, l4, l5, l6, l7, .null, l9] (.null :: st) h := go_plain (q := (136, [l0, l1, l2, l3, l4, l5, l6, l7, .null, l9], (.null :: st), h)) ke_54_134 rfl
theorem ke_54_136 : alook 54 136 = some (136, .ifnull 17, 3, (153, 0, 0, 0, 0), ⟨"", "", ""⟩, "") := rfl
theorem ee_54_136 {d : Nat} {h : aH} {ls st : List Value} {x : Nat} : go d 54 136 ls (.ref x :: st) h = go d 54 139 ls st h := go_plain (q := (139, ls, st, h)) ke_54_136 rfl
theorem ee_54_136N {d : Nat} {h : aH} {ls st : List Value} : go d 54 136 ls (.null :: st) h = go d 54 153 ls st h := go_plain (q := (153, ls, st, h)) ke_54_136 rfl
theorem ke_54_139 : alook 54 139 = some (139, .aload_n 0, 1, (0, 0, 0, 0, 0), ⟨"", "", ""⟩, "") := rfl
theorem ee_54_139 {d : Nat} {h : aH} {l1 l2 l3 l4 l5 l6 l7 l8 l9 : Value} {x : Nat} {st : List Value} : go d 54 139 [.ref x, l1, l2, l3, l4, l5, l6, l7, l8, l9] st h = go d 54 140 [.ref x, l1, l2, l3, l4, l5, l6, l7, l8, l9] (.ref x :: st) h := go_plain (q := (140, [.ref x, l1, l2, l3, l4, l5, l6, l7, l8, l9], (.ref x :: st), h)) ke_54_139 rfl
theorem ee_54_139N {d : Nat} {h : aH} {l1 l2 l3 l4 l5 l6 l7 l8 l9 : Value} {st : List Value} : go d 54 139 [.null, l1, l2, l3, l4, l5, l6, l7, l8, l9] st h = go d 54 140 [.null, l1, l2, l3, l4, l5, l6, l7, l8, l9] (.null :: st) h := go_plain (q := (140, [.null, l1, l2, l3, l4, l5, l6, l7, l8, l9], (.null :: st), h)) ke_54_139 rfl
theorem ke_54_140 : alook 54 140 = some (140, .getfield 44, 3, (5, 7, 7, 2, 0), ⟨"", "", ""⟩, "WordHides") := rfl
theorem ee_54_140 {d : Nat} {ls st : List Value} {h : aH} {r : Nat} : go d 54 140 ls (.ref r :: st) h = (gf h r 5 7 7).bind fun z => go d 54 143 ls (z :: st) h := go_getf ke_54_140
theorem ke_54_143 : alook 54 143 = some (143, .aload 8, 2, (0, 0, 0, 0, 0), ⟨"", "", ""⟩, "") := rfl
theorem ee_54_143 {d : Nat} {h : aH} {l0 l1 l2 l3 l4 l5 l6 l7 l9 : Value} {x : Nat} {st : List Value} : go d 54 143 [l0, l1, l2, l3, l4, l5, l6, l7, .ref x, l9] st h = go d 54 145 [l0, l1, l2, l3, l4, l5, l6, l7, .ref x, l9] (.ref x :: st) h := go_plain (q := (145, [l0, l1, l2, l3, l4, l5, l6, l7, .ref x, l9], (.ref x :: st), h)) ke_54_143 rfl
theorem ee_54_143N {d : Nat} {h : aH} {l0 l1 l2 l3 l4 l5 l6 l7 l9 : Value} {st : List Value} : go d 54 143 [l0, l1, l2, l3, l4, l5, l6, l7, .null, l9] st h = go d 54 145 [l0, l1, l2, l3, l4, l5, l6, l7, .null, l9] (.null :: st) h := go_plain (q := (145, [l0, l1, l2, l3, l4, l5, l6, l7, .null, l9], (.null :: st), h)) ke_54_143 rfl
theorem ke_54_145 : alook 54 145 = some (145, .iload 9, 2, (0, 0, 0, 0, 0), ⟨"", "", ""⟩, "") := rfl
theorem ee_54_145 {d : Nat} {h : aH} {l0 l1 l2 l3 l4 l5 l6 l7 l8 : Value} {x : Int32} {st : List Value} : go d 54 145 [l0, l1, l2, l3, l4, l5, l6, l7, l8, .int x] st h = go d 54 147 [l0, l1, l2, l3, l4, l5, l6, l7, l8, .int x] (.int x :: st) h := go_plain (q := (147, [l0, l1, l2, l3, l4, l5, l6, l7, l8, .int x], (.int x :: st), h)) ke_54_145 rfl
theorem ke_54_147 : alook 54 147 = some (147, .invokevirtual 144, 3, (2, 4, 24, 4, 24), ⟨"WordHides$Square", "accepts", "(LWordHides$Text;I)Z"⟩, "") := rfl
theorem ee_54_147 {d : Nat} {ls : List Value} {h : aH} {i0 : Int32} {r1 : Nat} {r2 : Nat} : go (d + 1) 54 147 ls [.int i0, .ref r1, .ref r2] h = if isC h r2 4 = true then (go d 24 0 [.ref r2, .ref r1, .int i0, aU, aU, aU] [] h).bind (fun q => go (d + 1) 54 150 ls (q.1.toList ++ []) q.2) else none := go_cv1 (as := [.ref r1, .int i0]) (rest := []) (L := [.ref r2, .ref r1, .int i0, aU, aU, aU]) ke_54_147 rfl rfl rfl
theorem ke_54_150 : alook 54 150 = some (150, .ifCond .ne 6, 3, (156, 0, 0, 0, 0), ⟨"", "", ""⟩, "") := rfl
theorem ee_54_150 {d : Nat} {ls st : List Value} {h : aH} {x : Int32} : go d 54 150 ls (.int x :: st) h = if ¬ x = 0 then go d 54 156 ls st h else go d 54 153 ls st h := go_c1 (go_if1 (tg := 156) (q := 153) (f := fun x => decide (¬ x = 0)) ke_54_150 rfl)
theorem ke_54_153 : alook 54 153 = some (153, .bipush (-5), 2, (0, 0, 0, 0, 0), ⟨"", "", ""⟩, "") := rfl
theorem ee_54_153 {d : Nat} {h : aH} {ls st : List Value} : go d 54 153 ls st h = go d 54 155 ls (.int (-5) :: st) h := go_plain (q := (155, ls, (.int (-5) :: st), h)) ke_54_153 rfl
theorem ke_54_155 : alook 54 155 = some (155, .ireturn, 1, (0, 0, 0, 0, 0), ⟨"", "", ""⟩, "") := rfl
theorem ee_54_155 {d : Nat} {ls : List Value} {h : aH} {v : Int32} : go d 54 155 ls [.int v] h = some (some (.int v), h) := go_iret ke_54_155
theorem ke_54_156 : alook 54 156 = some (156, .aload_n 0, 1, (0, 0, 0, 0, 0), ⟨"", "", ""⟩, "") := rfl
theorem ee_54_156 {d : Nat} {h : aH} {l1 l2 l3 l4 l5 l6 l7 l8 l9 : Value} {x : Nat} {st : List Value} : go d 54 156 [.ref x, l1, l2, l3, l4, l5, l6, l7, l8, l9] st h = go d 54 157 [.ref x, l1, l2, l3, l4, l5, l6, l7, l8, l9] (.ref x :: st) h := go_plain (q := (157, [.ref x, l1, l2, l3, l4, l5, l6, l7, l8, l9], (.ref x :: st), h)) ke_54_156 rfl
theorem ee_54_156N {d : Nat} {h : aH} {l1 l2 l3 l4 l5 l6 l7 l8 l9 : Value} {st : List Value} : go d 54 156 [.null, l1, l2, l3, l4, l5, l6, l7, l8, l9] st h = go d 54 157 [.null, l1, l2, l3, l4, l5, l6, l7, l8, l9] (.null :: st) h := go_plain (q := (157, [.null, l1, l2, l3, l4, l5, l6, l7, l8, l9], (.null :: st), h)) ke_54_156 rfl
theorem ke_54_157 : alook 54 157 = some (157, .getfield 44, 3, (5, 7, 7, 2, 0), ⟨"", "", ""⟩, "WordHides") := rfl
theorem ee_54_157 {d : Nat} {ls st : List Value} {h : aH} {r : Nat} : go d 54 157 ls (.ref r :: st) h = (gf h r 5 7 7).bind fun z => go d 54 160 ls (z :: st) h := go_getf ke_54_157
theorem ke_54_160 : alook 54 160 = some (160, .aload 8, 2, (0, 0, 0, 0, 0), ⟨"", "", ""⟩, "") := rfl
theorem ee_54_160 {d : Nat} {h : aH} {l0 l1 l2 l3 l4 l5 l6 l7 l9 : Value} {x : Nat} {st : List Value} : go d 54 160 [l0, l1, l2, l3, l4, l5, l6, l7, .ref x, l9] st h = go d 54 162 [l0, l1, l2, l3, l4, l5, l6, l7, .ref x, l9] (.ref x :: st) h := go_plain (q := (162, [l0, l1, l2, l3, l4, l5, l6, l7, .ref x, l9], (.ref x :: st), h)) ke_54_160 rfl
theorem ee_54_160N {d : Nat} {h : aH} {l0 l1 l2 l3 l4 l5 l6 l7 l9 : Value} {st : List Value} : go d 54 160 [l0, l1, l2, l3, l4, l5, l6, l7, .null, l9] st h = go d 54 162 [l0, l1, l2, l3, l4, l5, l6, l7, .null, l9] (.null :: st) h := go_plain (q := (162, [l0, l1, l2, l3, l4, l5, l6, l7, .null, l9], (.null :: st), h)) ke_54_160 rfl
theorem ke_54_162 : alook 54 162 = some (162, .iload 9, 2, (0, 0, 0, 0, 0), ⟨"", "", ""⟩, "") := rfl
theorem ee_54_162 {d : Nat} {h : aH} {l0 l1 l2 l3 l4 l5 l6 l7 l8 : Value} {x : Int32} {st : List Value} : go d 54 162 [l0, l1, l2, l3, l4, l5, l6, l7, l8, .int x] st h = go d 54 164 [l0, l1, l2, l3, l4, l5, l6, l7, l8, .int x] (.int x :: st) h := go_plain (q := (164, [l0, l1, l2, l3, l4, l5, l6, l7, l8, .int x], (.int x :: st), h)) ke_54_162 rfl
theorem ke_54_164 : alook 54 164 = some (164, .invokevirtual 148, 3, (2, 4, 25, 4, 25), ⟨"WordHides$Square", "lay", "(LWordHides$Text;I)I"⟩, "") := rfl
theorem ee_54_164 {d : Nat} {ls : List Value} {h : aH} {i0 : Int32} {r1 : Nat} {r2 : Nat} : go (d + 1) 54 164 ls [.int i0, .ref r1, .ref r2] h = if isC h r2 4 = true then (go d 25 0 [.ref r2, .ref r1, .int i0, aU, aU, aU, aU] [] h).bind (fun q => go (d + 1) 54 167 ls (q.1.toList ++ []) q.2) else none := go_cv1 (as := [.ref r1, .int i0]) (rest := []) (L := [.ref r2, .ref r1, .int i0, aU, aU, aU, aU]) ke_54_164 rfl rfl rfl
theorem ke_54_167 : alook 54 167 = some (167, .pop, 1, (0, 0, 0, 0, 0), ⟨"", "", ""⟩, "") := rfl
theorem ee_54_167 {d : Nat} {h : aH} {ls st : List Value} {x : Int32} : go d 54 167 ls (.int x :: st) h = go d 54 168 ls st h := go_plain (q := (168, ls, st, h)) ke_54_167 rfl
theorem ke_54_168 : alook 54 168 = some (168, .iload 6, 2, (0, 0, 0, 0, 0), ⟨"", "", ""⟩, "") := rfl
theorem ee_54_168 {d : Nat} {h : aH} {l0 l1 l2 l3 l4 l5 l7 l8 l9 : Value} {x : Int32} {st : List Value} : go d 54 168 [l0, l1, l2, l3, l4, l5, .int x, l7, l8, l9] st h = go d 54 170 [l0, l1, l2, l3, l4, l5, .int x, l7, l8, l9] (.int x :: st) h := go_plain (q := (170, [l0, l1, l2, l3, l4, l5, .int x, l7, l8, l9], (.int x :: st), h)) ke_54_168 rfl
theorem ke_54_170 : alook 54 170 = some (170, .aload 5, 2, (0, 0, 0, 0, 0), ⟨"", "", ""⟩, "") := rfl
theorem ee_54_170 {d : Nat} {h : aH} {l0 l1 l2 l3 l4 l6 l7 l8 l9 : Value} {x : Nat} {st : List Value} : go d 54 170 [l0, l1, l2, l3, l4, .ref x, l6, l7, l8, l9] st h = go d 54 172 [l0, l1, l2, l3, l4, .ref x, l6, l7, l8, l9] (.ref x :: st) h := go_plain (q := (172, [l0, l1, l2, l3, l4, .ref x, l6, l7, l8, l9], (.ref x :: st), h)) ke_54_170 rfl
theorem ee_54_170N {d : Nat} {h : aH} {l0 l1 l2 l3 l4 l6 l7 l8 l9 : Value} {st : List Value} : go d 54 170 [l0, l1, l2, l3, l4, .null, l6, l7, l8, l9] st h = go d 54 172 [l0, l1, l2, l3, l4, .null, l6, l7, l8, l9] (.null :: st) h := go_plain (q := (172, [l0, l1, l2, l3, l4, .null, l6, l7, l8, l9], (.null :: st), h)) ke_54_170 rfl
theorem ke_54_172 : alook 54 172 = some (172, .iload 9, 2, (0, 0, 0, 0, 0), ⟨"", "", ""⟩, "") := rfl
theorem ee_54_172 {d : Nat} {h : aH} {l0 l1 l2 l3 l4 l5 l6 l7 l8 : Value} {x : Int32} {st : List Value} : go d 54 172 [l0, l1, l2, l3, l4, l5, l6, l7, l8, .int x] st h = go d 54 174 [l0, l1, l2, l3, l4, l5, l6, l7, l8, .int x] (.int x :: st) h := go_plain (q := (174, [l0, l1, l2, l3, l4, l5, l6, l7, l8, .int x], (.int x :: st), h)) ke_54_172 rfl
theorem ke_54_174 : alook 54 174 = some (174, .aload 8, 2, (0, 0, 0, 0, 0), ⟨"", "", ""⟩, "") := rfl
theorem ee_54_174 {d : Nat} {h : aH} {l0 l1 l2 l3 l4 l5 l6 l7 l9 : Value} {x : Nat} {st : List Value} : go d 54 174 [l0, l1, l2, l3, l4, l5, l6, l7, .ref x, l9] st h = go d 54 176 [l0, l1, l2, l3, l4, l5, l6, l7, .ref x, l9] (.ref x :: st) h := go_plain (q := (176, [l0, l1, l2, l3, l4, l5, l6, l7, .ref x, l9], (.ref x :: st), h)) ke_54_174 rfl
theorem ee_54_174N {d : Nat} {h : aH} {l0 l1 l2 l3 l4 l5 l6 l7 l9 : Value} {st : List Value} : go d 54 174 [l0, l1, l2, l3, l4, l5, l6, l7, .null, l9] st h = go d 54 176 [l0, l1, l2, l3, l4, l5, l6, l7, .null, l9] (.null :: st) h := go_plain (q := (176, [l0, l1, l2, l3, l4, l5, l6, l7, .null, l9], (.null :: st), h)) ke_54_174 rfl
theorem ke_54_176 : alook 54 176 = some (176, .getfield 94, 3, (1, 5, 5, 0, 0), ⟨"", "", ""⟩, "WordHides$Text") := rfl
theorem ee_54_176 {d : Nat} {ls st : List Value} {h : aH} {r : Nat} : go d 54 176 ls (.ref r :: st) h = (gf h r 1 5 5).bind fun z => go d 54 179 ls (z :: st) h := go_getf ke_54_176
theorem ke_54_179 : alook 54 179 = some (179, .invokevirtual 185, 3, (2, 3, 15, 3, 15), ⟨"WordHides$Lattice", "cellSet", "(II)I"⟩, "") := rfl
theorem ee_54_179 {d : Nat} {ls : List Value} {h : aH} {i0 : Int32} {i1 : Int32} {r2 : Nat} {i3 : Int32} : go (d + 1) 54 179 ls [.int i0, .int i1, .ref r2, .int i3] h = if isC h r2 3 = true then (go d 15 0 [.ref r2, .int i1, .int i0, aU, aU, aU] [] h).bind (fun q => go (d + 1) 54 182 ls (q.1.toList ++ [.int i3]) q.2) else none := go_cv1 (as := [.int i1, .int i0]) (rest := [.int i3]) (L := [.ref r2, .int i1, .int i0, aU, aU, aU]) ke_54_179 rfl rfl rfl
theorem ke_54_182 : alook 54 182 = some (182, .ior, 1, (0, 0, 0, 0, 0), ⟨"", "", ""⟩, "") := rfl
theorem ee_54_182 {d : Nat} {h : aH} {ls st : List Value} {x y : Int32} : go d 54 182 ls (.int y :: .int x :: st) h = go d 54 183 ls (.int (x ||| y) :: st) h := go_plain (q := (183, ls, (.int (x ||| y) :: st), h)) ke_54_182 rfl
theorem ke_54_183 : alook 54 183 = some (183, .istore 6, 2, (0, 0, 0, 0, 0), ⟨"", "", ""⟩, "") := rfl
theorem ee_54_183 {d : Nat} {h : aH} {l0 l1 l2 l3 l4 l5 l6 l7 l8 l9 : Value} {x : Int32} {st : List Value} : go d 54 183 [l0, l1, l2, l3, l4, l5, l6, l7, l8, l9] (.int x :: st) h = go d 54 185 [l0, l1, l2, l3, l4, l5, .int x, l7, l8, l9] st h := go_plain (q := (185, [l0, l1, l2, l3, l4, l5, .int x, l7, l8, l9], st, h)) ke_54_183 rfl
theorem ke_54_185 : alook 54 185 = some (185, .iinc 7 1, 3, (0, 0, 0, 0, 0), ⟨"", "", ""⟩, "") := rfl
theorem ee_54_185 {d : Nat} {h : aH} {l0 l1 l2 l3 l4 l5 l6 l8 l9 : Value} {x : Int32} {st : List Value} : go d 54 185 [l0, l1, l2, l3, l4, l5, l6, .int x, l8, l9] st h = go d 54 188 [l0, l1, l2, l3, l4, l5, l6, .int (x + 1), l8, l9] st h := go_plain (q := (188, [l0, l1, l2, l3, l4, l5, l6, .int (x + 1), l8, l9], st, h)) ke_54_185 rfl
theorem ke_54_188 : alook 54 188 = some (188, .goto (-97), 3, (91, 0, 0, 0, 0), ⟨"", "", ""⟩, "") := rfl
theorem ee_54_188 {d : Nat} {h : aH} {ls st : List Value} : go d 54 188 ls st h = go d 54 91 ls st h := go_plain (q := (91, ls, st, h)) ke_54_188 rfl
theorem ke_54_191 : alook 54 191 = some (191, .iload 6, 2, (0, 0, 0, 0, 0), ⟨"", "", ""⟩, "") := rfl
theorem ee_54_191 {d : Nat} {h : aH} {l0 l1 l2 l3 l4 l5 l7 l8 l9 : Value} {x : Int32} {st : List Value} : go d 54 191 [l0, l1, l2, l3, l4, l5, .int x, l7, l8, l9] st h = go d 54 193 [l0, l1, l2, l3, l4, l5, .int x, l7, l8, l9] (.int x :: st) h := go_plain (q := (193, [l0, l1, l2, l3, l4, l5, .int x, l7, l8, l9], (.int x :: st), h)) ke_54_191 rfl
theorem ke_54_193 : alook 54 193 = some (193, .invokestatic 151, 3, (1, 0, 119, 0, 0), ⟨"java/lang/Integer", "bitCount", "(I)I"⟩, "") := rfl
theorem ee_54_193 {d : Nat} {ls : List Value} {h : aH} {i0 : Int32} : go (d + 1) 54 193 ls [.int i0] h = (go d 119 0 [.int i0] [] h).bind (fun q => go (d + 1) 54 196 ls (q.1.toList ++ []) q.2) := go_cs (as := [.int i0]) (rest := []) (L := [.int i0]) ke_54_193 rfl rfl rfl
theorem ke_54_196 : alook 54 196 = some (196, .ireturn, 1, (0, 0, 0, 0, 0), ⟨"", "", ""⟩, "") := rfl
theorem ee_54_196 {d : Nat} {ls : List Value} {h : aH} {v : Int32} : go d 54 196 ls [.int v] h = some (some (.int v), h) := go_iret ke_54_196
theorem ke_55_0 : alook 55 0 = some (0, .iload_n 1, 1, (0, 0, 0, 0, 0), ⟨"", "", ""⟩, "") := rfl
theorem ee_55_0 {d : Nat} {h : aH} {l0 l2 l3 l4 : Value} {x : Int32} {st : List Value} : go d 55 0 [l0, .int x, l2, l3, l4] st h = go d 55 1 [l0, .int x, l2, l3, l4] (.int x :: st) h := go_plain (q := (1, [l0, .int x, l2, l3, l4], (.int x :: st), h)) ke_55_0 rfl
theorem ke_55_1 : alook 55 1 = some (1, .invokestatic 164, 3, (1, 0, 61, 0, 0), ⟨"WordHides", "isPlaceAsked", "(I)Z"⟩, "") := rfl
theorem ee_55_1 {d : Nat} {ls : List Value} {h : aH} {i0 : Int32} : go (d + 1) 55 1 ls [.int i0] h = (go d 61 0 [.int i0] [] h).bind (fun q => go (d + 1) 55 4 ls (q.1.toList ++ []) q.2) := go_cs (as := [.int i0]) (rest := []) (L := [.int i0]) ke_55_1 rfl rfl rfl
theorem ke_55_4 : alook 55 4 = some (4, .istore_n 2, 1, (0, 0, 0, 0, 0), ⟨"", "", ""⟩, "") := rfl
theorem ee_55_4 {d : Nat} {h : aH} {l0 l1 l2 l3 l4 : Value} {x : Int32} {st : List Value} : go d 55 4 [l0, l1, l2, l3, l4] (.int x :: st) h = go d 55 5 [l0, l1, .int x, l3, l4] st h := go_plain (q := (5, [l0, l1, .int x, l3, l4], st, h)) ke_55_4 rfl
theorem ke_55_5 : alook 55 5 = some (5, .iload_n 1, 1, (0, 0, 0, 0, 0), ⟨"", "", ""⟩, "") := rfl
theorem ee_55_5 {d : Nat} {h : aH} {l0 l2 l3 l4 : Value} {x : Int32} {st : List Value} : go d 55 5 [l0, .int x, l2, l3, l4] st h = go d 55 6 [l0, .int x, l2, l3, l4] (.int x :: st) h := go_plain (q := (6, [l0, .int x, l2, l3, l4], (.int x :: st), h)) ke_55_5 rfl
theorem ke_55_6 : alook 55 6 = some (6, .bipush 100, 2, (0, 0, 0, 0, 0), ⟨"", "", ""⟩, "") := rfl
theorem ee_55_6 {d : Nat} {h : aH} {ls st : List Value} : go d 55 6 ls st h = go d 55 8 ls (.int 100 :: st) h := go_plain (q := (8, ls, (.int 100 :: st), h)) ke_55_6 rfl
theorem ke_55_8 : alook 55 8 = some (8, .if_icmp .lt 13, 3, (21, 0, 0, 0, 0), ⟨"", "", ""⟩, "") := rfl
theorem ee_55_8 {d : Nat} {ls st : List Value} {h : aH} {x y : Int32} : go d 55 8 ls (.int y :: .int x :: st) h = if x < y then go d 55 21 ls st h else go d 55 11 ls st h := go_ci (go_if2 (tg := 21) (q := 11) (f := fun x y => decide (x < y)) ke_55_8 rfl)
theorem ke_55_11 : alook 55 11 = some (11, .iload_n 1, 1, (0, 0, 0, 0, 0), ⟨"", "", ""⟩, "") := rfl
theorem ee_55_11 {d : Nat} {h : aH} {l0 l2 l3 l4 : Value} {x : Int32} {st : List Value} : go d 55 11 [l0, .int x, l2, l3, l4] st h = go d 55 12 [l0, .int x, l2, l3, l4] (.int x :: st) h := go_plain (q := (12, [l0, .int x, l2, l3, l4], (.int x :: st), h)) ke_55_11 rfl
theorem ke_55_12 : alook 55 12 = some (12, .bipush 116, 2, (0, 0, 0, 0, 0), ⟨"", "", ""⟩, "") := rfl
theorem ee_55_12 {d : Nat} {h : aH} {ls st : List Value} : go d 55 12 ls st h = go d 55 14 ls (.int 116 :: st) h := go_plain (q := (14, ls, (.int 116 :: st), h)) ke_55_12 rfl
theorem ke_55_14 : alook 55 14 = some (14, .if_icmp .ge 7, 3, (21, 0, 0, 0, 0), ⟨"", "", ""⟩, "") := rfl
theorem ee_55_14 {d : Nat} {ls st : List Value} {h : aH} {x y : Int32} : go d 55 14 ls (.int y :: .int x :: st) h = if y ≤ x then go d 55 21 ls st h else go d 55 17 ls st h := go_ci (go_if2 (tg := 21) (q := 17) (f := fun x y => decide (y ≤ x)) ke_55_14 rfl)
theorem ke_55_17 : alook 55 17 = some (17, .iconst 1, 1, (0, 0, 0, 0, 0), ⟨"", "", ""⟩, "") := rfl
theorem ee_55_17 {d : Nat} {h : aH} {ls st : List Value} : go d 55 17 ls st h = go d 55 18 ls (.int 1 :: st) h := go_plain (q := (18, ls, (.int 1 :: st), h)) ke_55_17 rfl
theorem ke_55_18 : alook 55 18 = some (18, .goto 4, 3, (22, 0, 0, 0, 0), ⟨"", "", ""⟩, "") := rfl
theorem ee_55_18 {d : Nat} {h : aH} {ls st : List Value} : go d 55 18 ls st h = go d 55 22 ls st h := go_plain (q := (22, ls, st, h)) ke_55_18 rfl
theorem ke_55_21 : alook 55 21 = some (21, .iconst 0, 1, (0, 0, 0, 0, 0), ⟨"", "", ""⟩, "") := rfl
theorem ee_55_21 {d : Nat} {h : aH} {ls st : List Value} : go d 55 21 ls st h = go d 55 22 ls (.int 0 :: st) h := go_plain (q := (22, ls, (.int 0 :: st), h)) ke_55_21 rfl
theorem ke_55_22 : alook 55 22 = some (22, .istore_n 3, 1, (0, 0, 0, 0, 0), ⟨"", "", ""⟩, "") := rfl
theorem ee_55_22 {d : Nat} {h : aH} {l0 l1 l2 l3 l4 : Value} {x : Int32} {st : List Value} : go d 55 22 [l0, l1, l2, l3, l4] (.int x :: st) h = go d 55 23 [l0, l1, l2, .int x, l4] st h := go_plain (q := (23, [l0, l1, l2, .int x, l4], st, h)) ke_55_22 rfl
theorem ke_55_23 : alook 55 23 = some (23, .iload_n 1, 1, (0, 0, 0, 0, 0), ⟨"", "", ""⟩, "") := rfl
theorem ee_55_23 {d : Nat} {h : aH} {l0 l2 l3 l4 : Value} {x : Int32} {st : List Value} : go d 55 23 [l0, .int x, l2, l3, l4] st h = go d 55 24 [l0, .int x, l2, l3, l4] (.int x :: st) h := go_plain (q := (24, [l0, .int x, l2, l3, l4], (.int x :: st), h)) ke_55_23 rfl
theorem ke_55_24 : alook 55 24 = some (24, .ifCond .eq 14, 3, (38, 0, 0, 0, 0), ⟨"", "", ""⟩, "") := rfl
theorem ee_55_24 {d : Nat} {ls st : List Value} {h : aH} {x : Int32} : go d 55 24 ls (.int x :: st) h = if x = 0 then go d 55 38 ls st h else go d 55 27 ls st h := go_c1 (go_if1 (tg := 38) (q := 27) (f := fun x => decide (x = 0)) ke_55_24 rfl)
theorem ke_55_27 : alook 55 27 = some (27, .iload_n 2, 1, (0, 0, 0, 0, 0), ⟨"", "", ""⟩, "") := rfl
theorem ee_55_27 {d : Nat} {h : aH} {l0 l1 l3 l4 : Value} {x : Int32} {st : List Value} : go d 55 27 [l0, l1, .int x, l3, l4] st h = go d 55 28 [l0, l1, .int x, l3, l4] (.int x :: st) h := go_plain (q := (28, [l0, l1, .int x, l3, l4], (.int x :: st), h)) ke_55_27 rfl
theorem ke_55_28 : alook 55 28 = some (28, .ifCond .ne 10, 3, (38, 0, 0, 0, 0), ⟨"", "", ""⟩, "") := rfl
theorem ee_55_28 {d : Nat} {ls st : List Value} {h : aH} {x : Int32} : go d 55 28 ls (.int x :: st) h = if ¬ x = 0 then go d 55 38 ls st h else go d 55 31 ls st h := go_c1 (go_if1 (tg := 38) (q := 31) (f := fun x => decide (¬ x = 0)) ke_55_28 rfl)
theorem ke_55_31 : alook 55 31 = some (31, .iload_n 3, 1, (0, 0, 0, 0, 0), ⟨"", "", ""⟩, "") := rfl
theorem ee_55_31 {d : Nat} {h : aH} {l0 l1 l2 l4 : Value} {x : Int32} {st : List Value} : go d 55 31 [l0, l1, l2, .int x, l4] st h = go d 55 32 [l0, l1, l2, .int x, l4] (.int x :: st) h := go_plain (q := (32, [l0, l1, l2, .int x, l4], (.int x :: st), h)) ke_55_31 rfl
theorem ke_55_32 : alook 55 32 = some (32, .ifCond .ne 6, 3, (38, 0, 0, 0, 0), ⟨"", "", ""⟩, "") := rfl
theorem ee_55_32 {d : Nat} {ls st : List Value} {h : aH} {x : Int32} : go d 55 32 ls (.int x :: st) h = if ¬ x = 0 then go d 55 38 ls st h else go d 55 35 ls st h := go_c1 (go_if1 (tg := 38) (q := 35) (f := fun x => decide (¬ x = 0)) ke_55_32 rfl)
theorem ke_55_35 : alook 55 35 = some (35, .bipush (-2), 2, (0, 0, 0, 0, 0), ⟨"", "", ""⟩, "") := rfl
theorem ee_55_35 {d : Nat} {h : aH} {ls st : List Value} : go d 55 35 ls st h = go d 55 37 ls (.int (-2) :: st) h := go_plain (q := (37, ls, (.int (-2) :: st), h)) ke_55_35 rfl
theorem ke_55_37 : alook 55 37 = some (37, .ireturn, 1, (0, 0, 0, 0, 0), ⟨"", "", ""⟩, "") := rfl
theorem ee_55_37 {d : Nat} {ls : List Value} {h : aH} {v : Int32} : go d 55 37 ls [.int v] h = some (some (.int v), h) := go_iret ke_55_37
theorem ke_55_38 : alook 55 38 = some (38, .aload_n 0, 1, (0, 0, 0, 0, 0), ⟨"", "", ""⟩, "") := rfl
theorem ee_55_38 {d : Nat} {h : aH} {l1 l2 l3 l4 : Value} {x : Nat} {st : List Value} : go d 55 38 [.ref x, l1, l2, l3, l4] st h = go d 55 39 [.ref x, l1, l2, l3, l4] (.ref x :: st) h := go_plain (q := (39, [.ref x, l1, l2, l3, l4], (.ref x :: st), h)) ke_55_38 rfl
theorem ee_55_38N {d : Nat} {h : aH} {l1 l2 l3 l4 : Value} {st : List Value} : go d 55 38 [.null, l1, l2, l3, l4] st h = go d 55 39 [.null, l1, l2, l3, l4] (.null :: st) h := go_plain (q := (39, [.null, l1, l2, l3, l4], (.null :: st), h)) ke_55_38 rfl
theorem ke_55_39 : alook 55 39 = some (39, .getfield 60, 3, (7, 7, 7, 2, 0), ⟨"", "", ""⟩, "WordHides") := rfl
theorem ee_55_39 {d : Nat} {ls st : List Value} {h : aH} {r : Nat} : go d 55 39 ls (.ref r :: st) h = (gf h r 7 7 7).bind fun z => go d 55 42 ls (z :: st) h := go_getf ke_55_39
theorem ke_55_42 : alook 55 42 = some (42, .invokevirtual 189, 3, (0, 2, 17, 2, 17), ⟨"WordHides$GoodSearch", "look", "()V"⟩, "WordHides$Search") := rfl
theorem ee_55_42 {d : Nat} {ls : List Value} {h : aH} {r0 : Nat} : go (d + 1) 55 42 ls [.ref r0] h = if isC h r0 2 = true then (go d 17 0 [.ref r0] [] h).bind (fun q => go (d + 1) 55 45 ls (q.1.toList ++ []) q.2) else none := go_cv1 (as := []) (rest := []) (L := [.ref r0]) ke_55_42 rfl rfl rfl
theorem ke_55_45 : alook 55 45 = some (45, .iload_n 1, 1, (0, 0, 0, 0, 0), ⟨"", "", ""⟩, "") := rfl
theorem ee_55_45 {d : Nat} {h : aH} {l0 l2 l3 l4 : Value} {x : Int32} {st : List Value} : go d 55 45 [l0, .int x, l2, l3, l4] st h = go d 55 46 [l0, .int x, l2, l3, l4] (.int x :: st) h := go_plain (q := (46, [l0, .int x, l2, l3, l4], (.int x :: st), h)) ke_55_45 rfl
theorem ke_55_46 : alook 55 46 = some (46, .ifCond .ne 11, 3, (57, 0, 0, 0, 0), ⟨"", "", ""⟩, "") := rfl
theorem ee_55_46 {d : Nat} {ls st : List Value} {h : aH} {x : Int32} : go d 55 46 ls (.int x :: st) h = if ¬ x = 0 then go d 55 57 ls st h else go d 55 49 ls st h := go_c1 (go_if1 (tg := 57) (q := 49) (f := fun x => decide (¬ x = 0)) ke_55_46 rfl)
theorem ke_55_49 : alook 55 49 = some (49, .aload_n 0, 1, (0, 0, 0, 0, 0), ⟨"", "", ""⟩, "") := rfl
theorem ee_55_49 {d : Nat} {h : aH} {l1 l2 l3 l4 : Value} {x : Nat} {st : List Value} : go d 55 49 [.ref x, l1, l2, l3, l4] st h = go d 55 50 [.ref x, l1, l2, l3, l4] (.ref x :: st) h := go_plain (q := (50, [.ref x, l1, l2, l3, l4], (.ref x :: st), h)) ke_55_49 rfl
theorem ee_55_49N {d : Nat} {h : aH} {l1 l2 l3 l4 : Value} {st : List Value} : go d 55 49 [.null, l1, l2, l3, l4] st h = go d 55 50 [.null, l1, l2, l3, l4] (.null :: st) h := go_plain (q := (50, [.null, l1, l2, l3, l4], (.null :: st), h)) ke_55_49 rfl
theorem ke_55_50 : alook 55 50 = some (50, .getfield 60, 3, (7, 7, 7, 2, 0), ⟨"", "", ""⟩, "WordHides") := rfl
theorem ee_55_50 {d : Nat} {ls st : List Value} {h : aH} {r : Nat} : go d 55 50 ls (.ref r :: st) h = (gf h r 7 7 7).bind fun z => go d 55 53 ls (z :: st) h := go_getf ke_55_50
theorem ke_55_53 : alook 55 53 = some (53, .getfield 190, 3, (5, 2, 2, 0, 0), ⟨"", "", ""⟩, "WordHides$GoodSearch") := rfl
theorem ee_55_53 {d : Nat} {ls st : List Value} {h : aH} {r : Nat} : go d 55 53 ls (.ref r :: st) h = (gf h r 5 2 2).bind fun z => go d 55 56 ls (z :: st) h := go_getf ke_55_53
theorem ke_55_56 : alook 55 56 = some (56, .ireturn, 1, (0, 0, 0, 0, 0), ⟨"", "", ""⟩, "") := rfl
theorem ee_55_56 {d : Nat} {ls : List Value} {h : aH} {v : Int32} : go d 55 56 ls [.int v] h = some (some (.int v), h) := go_iret ke_55_56
theorem ke_55_57 : alook 55 57 = some (57, .aload_n 0, 1, (0, 0, 0, 0, 0), ⟨"", "", ""⟩, "") := rfl
theorem ee_55_57 {d : Nat} {h : aH} {l1 l2 l3 l4 : Value} {x : Nat} {st : List Value} : go d 55 57 [.ref x, l1, l2, l3, l4] st h = go d 55 58 [.ref x, l1, l2, l3, l4] (.ref x :: st) h := go_plain (q := (58, [.ref x, l1, l2, l3, l4], (.ref x :: st), h)) ke_55_57 rfl
theorem ee_55_57N {d : Nat} {h : aH} {l1 l2 l3 l4 : Value} {st : List Value} : go d 55 57 [.null, l1, l2, l3, l4] st h = go d 55 58 [.null, l1, l2, l3, l4] (.null :: st) h := go_plain (q := (58, [.null, l1, l2, l3, l4], (.null :: st), h)) ke_55_57 rfl
theorem ke_55_58 : alook 55 58 = some (58, .getfield 60, 3, (7, 7, 7, 2, 0), ⟨"", "", ""⟩, "WordHides") := rfl
theorem ee_55_58 {d : Nat} {ls st : List Value} {h : aH} {r : Nat} : go d 55 58 ls (.ref r :: st) h = (gf h r 7 7 7).bind fun z => go d 55 61 ls (z :: st) h := go_getf ke_55_58
theorem ke_55_61 : alook 55 61 = some (61, .getfield 190, 3, (5, 2, 2, 0, 0), ⟨"", "", ""⟩, "WordHides$GoodSearch") := rfl
theorem ee_55_61 {d : Nat} {ls st : List Value} {h : aH} {r : Nat} : go d 55 61 ls (.ref r :: st) h = (gf h r 5 2 2).bind fun z => go d 55 64 ls (z :: st) h := go_getf ke_55_61
theorem ke_55_64 : alook 55 64 = some (64, .ifCond .ne 6, 3, (70, 0, 0, 0, 0), ⟨"", "", ""⟩, "") := rfl
theorem ee_55_64 {d : Nat} {ls st : List Value} {h : aH} {x : Int32} : go d 55 64 ls (.int x :: st) h = if ¬ x = 0 then go d 55 70 ls st h else go d 55 67 ls st h := go_c1 (go_if1 (tg := 70) (q := 67) (f := fun x => decide (¬ x = 0)) ke_55_64 rfl)
theorem ke_55_67 : alook 55 67 = some (67, .bipush (-6), 2, (0, 0, 0, 0, 0), ⟨"", "", ""⟩, "") := rfl
theorem ee_55_67 {d : Nat} {h : aH} {ls st : List Value} : go d 55 67 ls st h = go d 55 69 ls (.int (-6) :: st) h := go_plain (q := (69, ls, (.int (-6) :: st), h)) ke_55_67 rfl
theorem ke_55_69 : alook 55 69 = some (69, .ireturn, 1, (0, 0, 0, 0, 0), ⟨"", "", ""⟩, "") := rfl
theorem ee_55_69 {d : Nat} {ls : List Value} {h : aH} {v : Int32} : go d 55 69 ls [.int v] h = some (some (.int v), h) := go_iret ke_55_69
theorem ke_55_70 : alook 55 70 = some (70, .iload_n 2, 1, (0, 0, 0, 0, 0), ⟨"", "", ""⟩, "") := rfl
theorem ee_55_70 {d : Nat} {h : aH} {l0 l1 l3 l4 : Value} {x : Int32} {st : List Value} : go d 55 70 [l0, l1, .int x, l3, l4] st h = go d 55 71 [l0, l1, .int x, l3, l4] (.int x :: st) h := go_plain (q := (71, [l0, l1, .int x, l3, l4], (.int x :: st), h)) ke_55_70 rfl
theorem ke_55_71 : alook 55 71 = some (71, .ifCond .eq 15, 3, (86, 0, 0, 0, 0), ⟨"", "", ""⟩, "") := rfl
theorem ee_55_71 {d : Nat} {ls st : List Value} {h : aH} {x : Int32} : go d 55 71 ls (.int x :: st) h = if x = 0 then go d 55 86 ls st h else go d 55 74 ls st h := go_c1 (go_if1 (tg := 86) (q := 74) (f := fun x => decide (x = 0)) ke_55_71 rfl)
theorem ke_55_74 : alook 55 74 = some (74, .aload_n 0, 1, (0, 0, 0, 0, 0), ⟨"", "", ""⟩, "") := rfl
theorem ee_55_74 {d : Nat} {h : aH} {l1 l2 l3 l4 : Value} {x : Nat} {st : List Value} : go d 55 74 [.ref x, l1, l2, l3, l4] st h = go d 55 75 [.ref x, l1, l2, l3, l4] (.ref x :: st) h := go_plain (q := (75, [.ref x, l1, l2, l3, l4], (.ref x :: st), h)) ke_55_74 rfl
theorem ee_55_74N {d : Nat} {h : aH} {l1 l2 l3 l4 : Value} {st : List Value} : go d 55 74 [.null, l1, l2, l3, l4] st h = go d 55 75 [.null, l1, l2, l3, l4] (.null :: st) h := go_plain (q := (75, [.null, l1, l2, l3, l4], (.null :: st), h)) ke_55_74 rfl
theorem ke_55_75 : alook 55 75 = some (75, .getfield 60, 3, (7, 7, 7, 2, 0), ⟨"", "", ""⟩, "WordHides") := rfl
theorem ee_55_75 {d : Nat} {ls st : List Value} {h : aH} {r : Nat} : go d 55 75 ls (.ref r :: st) h = (gf h r 7 7 7).bind fun z => go d 55 78 ls (z :: st) h := go_getf ke_55_75
theorem ke_55_78 : alook 55 78 = some (78, .iload_n 1, 1, (0, 0, 0, 0, 0), ⟨"", "", ""⟩, "") := rfl
theorem ee_55_78 {d : Nat} {h : aH} {l0 l2 l3 l4 : Value} {x : Int32} {st : List Value} : go d 55 78 [l0, .int x, l2, l3, l4] st h = go d 55 79 [l0, .int x, l2, l3, l4] (.int x :: st) h := go_plain (q := (79, [l0, .int x, l2, l3, l4], (.int x :: st), h)) ke_55_78 rfl
theorem ke_55_79 : alook 55 79 = some (79, .bipush 10, 2, (0, 0, 0, 0, 0), ⟨"", "", ""⟩, "") := rfl
theorem ee_55_79 {d : Nat} {h : aH} {ls st : List Value} : go d 55 79 ls st h = go d 55 81 ls (.int 10 :: st) h := go_plain (q := (81, ls, (.int 10 :: st), h)) ke_55_79 rfl
theorem ke_55_81 : alook 55 81 = some (81, .isub, 1, (0, 0, 0, 0, 0), ⟨"", "", ""⟩, "") := rfl
theorem ee_55_81 {d : Nat} {h : aH} {ls st : List Value} {x y : Int32} : go d 55 81 ls (.int y :: .int x :: st) h = go d 55 82 ls (.int (x - y) :: st) h := go_plain (q := (82, ls, (.int (x - y) :: st), h)) ke_55_81 rfl
theorem ke_55_82 : alook 55 82 = some (82, .invokevirtual 191, 3, (1, 2, 20, 2, 20), ⟨"WordHides$GoodSearch", "firstPlace", "(I)I"⟩, "WordHides$Search") := rfl
theorem ee_55_82 {d : Nat} {ls : List Value} {h : aH} {i0 : Int32} {r1 : Nat} : go (d + 1) 55 82 ls [.int i0, .ref r1] h = if isC h r1 2 = true then (go d 20 0 [.ref r1, .int i0] [] h).bind (fun q => go (d + 1) 55 85 ls (q.1.toList ++ []) q.2) else none := go_cv1 (as := [.int i0]) (rest := []) (L := [.ref r1, .int i0]) ke_55_82 rfl rfl rfl
theorem ke_55_85 : alook 55 85 = some (85, .ireturn, 1, (0, 0, 0, 0, 0), ⟨"", "", ""⟩, "") := rfl
theorem ee_55_85 {d : Nat} {ls : List Value} {h : aH} {v : Int32} : go d 55 85 ls [.int v] h = some (some (.int v), h) := go_iret ke_55_85
theorem ke_55_86 : alook 55 86 = some (86, .iload_n 1, 1, (0, 0, 0, 0, 0), ⟨"", "", ""⟩, "") := rfl
theorem ee_55_86 {d : Nat} {h : aH} {l0 l2 l3 l4 : Value} {x : Int32} {st : List Value} : go d 55 86 [l0, .int x, l2, l3, l4] st h = go d 55 87 [l0, .int x, l2, l3, l4] (.int x :: st) h := go_plain (q := (87, [l0, .int x, l2, l3, l4], (.int x :: st), h)) ke_55_86 rfl
theorem ke_55_87 : alook 55 87 = some (87, .bipush 100, 2, (0, 0, 0, 0, 0), ⟨"", "", ""⟩, "") := rfl
theorem ee_55_87 {d : Nat} {h : aH} {ls st : List Value} : go d 55 87 ls st h = go d 55 89 ls (.int 100 :: st) h := go_plain (q := (89, ls, (.int 100 :: st), h)) ke_55_87 rfl
theorem ke_55_89 : alook 55 89 = some (89, .isub, 1, (0, 0, 0, 0, 0), ⟨"", "", ""⟩, "") := rfl
theorem ee_55_89 {d : Nat} {h : aH} {ls st : List Value} {x y : Int32} : go d 55 89 ls (.int y :: .int x :: st) h = go d 55 90 ls (.int (x - y) :: st) h := go_plain (q := (90, ls, (.int (x - y) :: st), h)) ke_55_89 rfl
theorem ke_55_90 : alook 55 90 = some (90, .istore 4, 2, (0, 0, 0, 0, 0), ⟨"", "", ""⟩, "") := rfl
theorem ee_55_90 {d : Nat} {h : aH} {l0 l1 l2 l3 l4 : Value} {x : Int32} {st : List Value} : go d 55 90 [l0, l1, l2, l3, l4] (.int x :: st) h = go d 55 92 [l0, l1, l2, l3, .int x] st h := go_plain (q := (92, [l0, l1, l2, l3, .int x], st, h)) ke_55_90 rfl
theorem ke_55_92 : alook 55 92 = some (92, .aload_n 0, 1, (0, 0, 0, 0, 0), ⟨"", "", ""⟩, "") := rfl
theorem ee_55_92 {d : Nat} {h : aH} {l1 l2 l3 l4 : Value} {x : Nat} {st : List Value} : go d 55 92 [.ref x, l1, l2, l3, l4] st h = go d 55 93 [.ref x, l1, l2, l3, l4] (.ref x :: st) h := go_plain (q := (93, [.ref x, l1, l2, l3, l4], (.ref x :: st), h)) ke_55_92 rfl
theorem ee_55_92N {d : Nat} {h : aH} {l1 l2 l3 l4 : Value} {st : List Value} : go d 55 92 [.null, l1, l2, l3, l4] st h = go d 55 93 [.null, l1, l2, l3, l4] (.null :: st) h := go_plain (q := (93, [.null, l1, l2, l3, l4], (.null :: st), h)) ke_55_92 rfl
theorem ke_55_93 : alook 55 93 = some (93, .getfield 26, 3, (2, 7, 7, 2, 0), ⟨"", "", ""⟩, "WordHides") := rfl
theorem ee_55_93 {d : Nat} {ls st : List Value} {h : aH} {r : Nat} : go d 55 93 ls (.ref r :: st) h = (gf h r 2 7 7).bind fun z => go d 55 96 ls (z :: st) h := go_getf ke_55_93
theorem ke_55_96 : alook 55 96 = some (96, .getfield 68, 3, (0, 0, 0, 2, 0), ⟨"", "", ""⟩, "WordHides$Board") := rfl
theorem ee_55_96 {d : Nat} {ls st : List Value} {h : aH} {r : Nat} : go d 55 96 ls (.ref r :: st) h = (gf h r 0 0 0).bind fun z => go d 55 99 ls (z :: st) h := go_getf ke_55_96
theorem ke_55_99 : alook 55 99 = some (99, .getfield 71, 3, (1, 4, 4, 2, 0), ⟨"", "", ""⟩, "WordHides$Square") := rfl
theorem ee_55_99 {d : Nat} {ls st : List Value} {h : aH} {r : Nat} : go d 55 99 ls (.ref r :: st) h = (gf h r 1 4 4).bind fun z => go d 55 102 ls (z :: st) h := go_getf ke_55_99
theorem ke_55_102 : alook 55 102 = some (102, .iload 4, 2, (0, 0, 0, 0, 0), ⟨"", "", ""⟩, "") := rfl
theorem ee_55_102 {d : Nat} {h : aH} {l0 l1 l2 l3 : Value} {x : Int32} {st : List Value} : go d 55 102 [l0, l1, l2, l3, .int x] st h = go d 55 104 [l0, l1, l2, l3, .int x] (.int x :: st) h := go_plain (q := (104, [l0, l1, l2, l3, .int x], (.int x :: st), h)) ke_55_102 rfl
theorem ke_55_104 : alook 55 104 = some (104, .invokevirtual 83, 3, (1, 3, 12, 3, 12), ⟨"WordHides$Lattice", "hasCell", "(I)Z"⟩, "") := rfl
theorem ee_55_104 {d : Nat} {ls : List Value} {h : aH} {i0 : Int32} {r1 : Nat} : go (d + 1) 55 104 ls [.int i0, .ref r1] h = if isC h r1 3 = true then (go d 12 0 [.ref r1, .int i0] [] h).bind (fun q => go (d + 1) 55 107 ls (q.1.toList ++ []) q.2) else none := go_cv1 (as := [.int i0]) (rest := []) (L := [.ref r1, .int i0]) ke_55_104 rfl rfl rfl
theorem ke_55_107 : alook 55 107 = some (107, .ifCond .eq 19, 3, (126, 0, 0, 0, 0), ⟨"", "", ""⟩, "") := rfl
theorem ee_55_107 {d : Nat} {ls st : List Value} {h : aH} {x : Int32} : go d 55 107 ls (.int x :: st) h = if x = 0 then go d 55 126 ls st h else go d 55 110 ls st h := go_c1 (go_if1 (tg := 126) (q := 110) (f := fun x => decide (x = 0)) ke_55_107 rfl)
theorem ke_55_110 : alook 55 110 = some (110, .aload_n 0, 1, (0, 0, 0, 0, 0), ⟨"", "", ""⟩, "") := rfl
theorem ee_55_110 {d : Nat} {h : aH} {l1 l2 l3 l4 : Value} {x : Nat} {st : List Value} : go d 55 110 [.ref x, l1, l2, l3, l4] st h = go d 55 111 [.ref x, l1, l2, l3, l4] (.ref x :: st) h := go_plain (q := (111, [.ref x, l1, l2, l3, l4], (.ref x :: st), h)) ke_55_110 rfl
theorem ee_55_110N {d : Nat} {h : aH} {l1 l2 l3 l4 : Value} {st : List Value} : go d 55 110 [.null, l1, l2, l3, l4] st h = go d 55 111 [.null, l1, l2, l3, l4] (.null :: st) h := go_plain (q := (111, [.null, l1, l2, l3, l4], (.null :: st), h)) ke_55_110 rfl
theorem ke_55_111 : alook 55 111 = some (111, .getfield 60, 3, (7, 7, 7, 2, 0), ⟨"", "", ""⟩, "WordHides") := rfl
theorem ee_55_111 {d : Nat} {ls st : List Value} {h : aH} {r : Nat} : go d 55 111 ls (.ref r :: st) h = (gf h r 7 7 7).bind fun z => go d 55 114 ls (z :: st) h := go_getf ke_55_111
theorem ke_55_114 : alook 55 114 = some (114, .getfield 192, 3, (8, 2, 2, 2, 0), ⟨"", "", ""⟩, "WordHides$GoodSearch") := rfl
theorem ee_55_114 {d : Nat} {ls st : List Value} {h : aH} {r : Nat} : go d 55 114 ls (.ref r :: st) h = (gf h r 8 2 2).bind fun z => go d 55 117 ls (z :: st) h := go_getf ke_55_114
theorem ke_55_117 : alook 55 117 = some (117, .getfield 90, 3, (0, 4, 4, 2, 0), ⟨"", "", ""⟩, "WordHides$Square") := rfl
theorem ee_55_117 {d : Nat} {ls st : List Value} {h : aH} {r : Nat} : go d 55 117 ls (.ref r :: st) h = (gf h r 0 4 4).bind fun z => go d 55 120 ls (z :: st) h := go_getf ke_55_117
theorem ke_55_120 : alook 55 120 = some (120, .iload 4, 2, (0, 0, 0, 0, 0), ⟨"", "", ""⟩, "") := rfl
theorem ee_55_120 {d : Nat} {h : aH} {l0 l1 l2 l3 : Value} {x : Int32} {st : List Value} : go d 55 120 [l0, l1, l2, l3, .int x] st h = go d 55 122 [l0, l1, l2, l3, .int x] (.int x :: st) h := go_plain (q := (122, [l0, l1, l2, l3, .int x], (.int x :: st), h)) ke_55_120 rfl
theorem ke_55_122 : alook 55 122 = some (122, .iaload, 1, (0, 0, 0, 0, 0), ⟨"", "", ""⟩, "") := rfl
theorem ee_55_122 {d : Nat} {ls st : List Value} {h : aH} {r : Nat} {i : Int32} : go d 55 122 ls (.int i :: .ref r :: st) h = (ia h r i).bind fun z => go d 55 123 ls (.int z :: st) h := go_iald ke_55_122
theorem ke_55_123 : alook 55 123 = some (123, .goto 5, 3, (128, 0, 0, 0, 0), ⟨"", "", ""⟩, "") := rfl
theorem ee_55_123 {d : Nat} {h : aH} {ls st : List Value} : go d 55 123 ls st h = go d 55 128 ls st h := go_plain (q := (128, ls, st, h)) ke_55_123 rfl
theorem ke_55_126 : alook 55 126 = some (126, .bipush (-6), 2, (0, 0, 0, 0, 0), ⟨"", "", ""⟩, "") := rfl
theorem ee_55_126 {d : Nat} {h : aH} {ls st : List Value} : go d 55 126 ls st h = go d 55 128 ls (.int (-6) :: st) h := go_plain (q := (128, ls, (.int (-6) :: st), h)) ke_55_126 rfl
theorem ke_55_128 : alook 55 128 = some (128, .ireturn, 1, (0, 0, 0, 0, 0), ⟨"", "", ""⟩, "") := rfl
theorem ee_55_128 {d : Nat} {ls : List Value} {h : aH} {v : Int32} : go d 55 128 ls [.int v] h = some (some (.int v), h) := go_iret ke_55_128
theorem ke_56_0 : alook 56 0 = some (0, .aload_n 0, 1, (0, 0, 0, 0, 0), ⟨"", "", ""⟩, "") := rfl
theorem ee_56_0 {d : Nat} {h : aH} {x : Nat} {st : List Value} : go d 56 0 [.ref x] st h = go d 56 1 [.ref x] (.ref x :: st) h := go_plain (q := (1, [.ref x], (.ref x :: st), h)) ke_56_0 rfl
theorem ee_56_0N {d : Nat} {h : aH} {st : List Value} : go d 56 0 [.null] st h = go d 56 1 [.null] (.null :: st) h := go_plain (q := (1, [.null], (.null :: st), h)) ke_56_0 rfl
theorem ke_56_1 : alook 56 1 = some (1, .getfield 60, 3, (7, 7, 7, 2, 0), ⟨"", "", ""⟩, "WordHides") := rfl
theorem ee_56_1 {d : Nat} {ls st : List Value} {h : aH} {r : Nat} : go d 56 1 ls (.ref r :: st) h = (gf h r 7 7 7).bind fun z => go d 56 4 ls (z :: st) h := go_getf ke_56_1
theorem ke_56_4 : alook 56 4 = some (4, .invokevirtual 189, 3, (0, 2, 17, 2, 17), ⟨"WordHides$GoodSearch", "look", "()V"⟩, "WordHides$Search") := rfl
theorem ee_56_4 {d : Nat} {ls : List Value} {h : aH} {r0 : Nat} : go (d + 1) 56 4 ls [.ref r0] h = if isC h r0 2 = true then (go d 17 0 [.ref r0] [] h).bind (fun q => go (d + 1) 56 7 ls (q.1.toList ++ []) q.2) else none := go_cv1 (as := []) (rest := []) (L := [.ref r0]) ke_56_4 rfl rfl rfl
theorem ke_56_7 : alook 56 7 = some (7, .aload_n 0, 1, (0, 0, 0, 0, 0), ⟨"", "", ""⟩, "") := rfl
theorem ee_56_7 {d : Nat} {h : aH} {x : Nat} {st : List Value} : go d 56 7 [.ref x] st h = go d 56 8 [.ref x] (.ref x :: st) h := go_plain (q := (8, [.ref x], (.ref x :: st), h)) ke_56_7 rfl
theorem ee_56_7N {d : Nat} {h : aH} {st : List Value} : go d 56 7 [.null] st h = go d 56 8 [.null] (.null :: st) h := go_plain (q := (8, [.null], (.null :: st), h)) ke_56_7 rfl
theorem ke_56_8 : alook 56 8 = some (8, .getfield 60, 3, (7, 7, 7, 2, 0), ⟨"", "", ""⟩, "WordHides") := rfl
theorem ee_56_8 {d : Nat} {ls st : List Value} {h : aH} {r : Nat} : go d 56 8 ls (.ref r :: st) h = (gf h r 7 7 7).bind fun z => go d 56 11 ls (z :: st) h := go_getf ke_56_8
theorem ke_56_11 : alook 56 11 = some (11, .getfield 190, 3, (5, 2, 2, 0, 0), ⟨"", "", ""⟩, "WordHides$GoodSearch") := rfl
theorem ee_56_11 {d : Nat} {ls st : List Value} {h : aH} {r : Nat} : go d 56 11 ls (.ref r :: st) h = (gf h r 5 2 2).bind fun z => go d 56 14 ls (z :: st) h := go_getf ke_56_11
theorem ke_56_14 : alook 56 14 = some (14, .ifCond .ne 6, 3, (20, 0, 0, 0, 0), ⟨"", "", ""⟩, "") := rfl
theorem ee_56_14 {d : Nat} {ls st : List Value} {h : aH} {x : Int32} : go d 56 14 ls (.int x :: st) h = if ¬ x = 0 then go d 56 20 ls st h else go d 56 17 ls st h := go_c1 (go_if1 (tg := 20) (q := 17) (f := fun x => decide (¬ x = 0)) ke_56_14 rfl)
theorem ke_56_17 : alook 56 17 = some (17, .bipush (-5), 2, (0, 0, 0, 0, 0), ⟨"", "", ""⟩, "") := rfl
theorem ee_56_17 {d : Nat} {h : aH} {ls st : List Value} : go d 56 17 ls st h = go d 56 19 ls (.int (-5) :: st) h := go_plain (q := (19, ls, (.int (-5) :: st), h)) ke_56_17 rfl
theorem ke_56_19 : alook 56 19 = some (19, .ireturn, 1, (0, 0, 0, 0, 0), ⟨"", "", ""⟩, "") := rfl
theorem ee_56_19 {d : Nat} {ls : List Value} {h : aH} {v : Int32} : go d 56 19 ls [.int v] h = some (some (.int v), h) := go_iret ke_56_19
theorem ke_56_20 : alook 56 20 = some (20, .aload_n 0, 1, (0, 0, 0, 0, 0), ⟨"", "", ""⟩, "") := rfl
theorem ee_56_20 {d : Nat} {h : aH} {x : Nat} {st : List Value} : go d 56 20 [.ref x] st h = go d 56 21 [.ref x] (.ref x :: st) h := go_plain (q := (21, [.ref x], (.ref x :: st), h)) ke_56_20 rfl
theorem ee_56_20N {d : Nat} {h : aH} {st : List Value} : go d 56 20 [.null] st h = go d 56 21 [.null] (.null :: st) h := go_plain (q := (21, [.null], (.null :: st), h)) ke_56_20 rfl
theorem ke_56_21 : alook 56 21 = some (21, .getfield 26, 3, (2, 7, 7, 2, 0), ⟨"", "", ""⟩, "WordHides") := rfl
theorem ee_56_21 {d : Nat} {ls st : List Value} {h : aH} {r : Nat} : go d 56 21 ls (.ref r :: st) h = (gf h r 2 7 7).bind fun z => go d 56 24 ls (z :: st) h := go_getf ke_56_21
theorem ke_56_24 : alook 56 24 = some (24, .getfield 68, 3, (0, 0, 0, 2, 0), ⟨"", "", ""⟩, "WordHides$Board") := rfl
theorem ee_56_24 {d : Nat} {ls st : List Value} {h : aH} {r : Nat} : go d 56 24 ls (.ref r :: st) h = (gf h r 0 0 0).bind fun z => go d 56 27 ls (z :: st) h := go_getf ke_56_24
theorem ke_56_27 : alook 56 27 = some (27, .aload_n 0, 1, (0, 0, 0, 0, 0), ⟨"", "", ""⟩, "") := rfl
theorem ee_56_27 {d : Nat} {h : aH} {x : Nat} {st : List Value} : go d 56 27 [.ref x] st h = go d 56 28 [.ref x] (.ref x :: st) h := go_plain (q := (28, [.ref x], (.ref x :: st), h)) ke_56_27 rfl
theorem ee_56_27N {d : Nat} {h : aH} {st : List Value} : go d 56 27 [.null] st h = go d 56 28 [.null] (.null :: st) h := go_plain (q := (28, [.null], (.null :: st), h)) ke_56_27 rfl
theorem ke_56_28 : alook 56 28 = some (28, .getfield 60, 3, (7, 7, 7, 2, 0), ⟨"", "", ""⟩, "WordHides") := rfl
theorem ee_56_28 {d : Nat} {ls st : List Value} {h : aH} {r : Nat} : go d 56 28 ls (.ref r :: st) h = (gf h r 7 7 7).bind fun z => go d 56 31 ls (z :: st) h := go_getf ke_56_28
theorem ke_56_31 : alook 56 31 = some (31, .getfield 192, 3, (8, 2, 2, 2, 0), ⟨"", "", ""⟩, "WordHides$GoodSearch") := rfl
theorem ee_56_31 {d : Nat} {ls st : List Value} {h : aH} {r : Nat} : go d 56 31 ls (.ref r :: st) h = (gf h r 8 2 2).bind fun z => go d 56 34 ls (z :: st) h := go_getf ke_56_31
theorem ke_56_34 : alook 56 34 = some (34, .invokevirtual 182, 3, (1, 4, 23, 4, 23), ⟨"WordHides$Square", "copyFrom", "(LWordHides$Square;)V"⟩, "") := rfl
theorem ee_56_34 {d : Nat} {ls : List Value} {h : aH} {r0 : Nat} {r1 : Nat} : go (d + 1) 56 34 ls [.ref r0, .ref r1] h = if isC h r1 4 = true then (go d 23 0 [.ref r1, .ref r0] [] h).bind (fun q => go (d + 1) 56 37 ls (q.1.toList ++ []) q.2) else none := go_cv1 (as := [.ref r0]) (rest := []) (L := [.ref r1, .ref r0]) ke_56_34 rfl rfl rfl
theorem ke_56_37 : alook 56 37 = some (37, .aload_n 0, 1, (0, 0, 0, 0, 0), ⟨"", "", ""⟩, "") := rfl
theorem ee_56_37 {d : Nat} {h : aH} {x : Nat} {st : List Value} : go d 56 37 [.ref x] st h = go d 56 38 [.ref x] (.ref x :: st) h := go_plain (q := (38, [.ref x], (.ref x :: st), h)) ke_56_37 rfl
theorem ee_56_37N {d : Nat} {h : aH} {st : List Value} : go d 56 37 [.null] st h = go d 56 38 [.null] (.null :: st) h := go_plain (q := (38, [.null], (.null :: st), h)) ke_56_37 rfl
theorem ke_56_38 : alook 56 38 = some (38, .invokevirtual 80, 3, (0, 7, 63, 7, 63), ⟨"WordHides", "forgetLayings", "()V"⟩, "") := rfl
theorem ee_56_38 {d : Nat} {ls : List Value} {h : aH} {r0 : Nat} : go (d + 1) 56 38 ls [.ref r0] h = if isC h r0 7 = true then (go d 63 0 [.ref r0] [] h).bind (fun q => go (d + 1) 56 41 ls (q.1.toList ++ []) q.2) else none := go_cv1 (as := []) (rest := []) (L := [.ref r0]) ke_56_38 rfl rfl rfl
theorem ke_56_41 : alook 56 41 = some (41, .aload_n 0, 1, (0, 0, 0, 0, 0), ⟨"", "", ""⟩, "") := rfl
theorem ee_56_41 {d : Nat} {h : aH} {x : Nat} {st : List Value} : go d 56 41 [.ref x] st h = go d 56 42 [.ref x] (.ref x :: st) h := go_plain (q := (42, [.ref x], (.ref x :: st), h)) ke_56_41 rfl
theorem ee_56_41N {d : Nat} {h : aH} {st : List Value} : go d 56 41 [.null] st h = go d 56 42 [.null] (.null :: st) h := go_plain (q := (42, [.null], (.null :: st), h)) ke_56_41 rfl
theorem ke_56_42 : alook 56 42 = some (42, .getfield 60, 3, (7, 7, 7, 2, 0), ⟨"", "", ""⟩, "WordHides") := rfl
theorem ee_56_42 {d : Nat} {ls st : List Value} {h : aH} {r : Nat} : go d 56 42 ls (.ref r :: st) h = (gf h r 7 7 7).bind fun z => go d 56 45 ls (z :: st) h := go_getf ke_56_42
theorem ke_56_45 : alook 56 45 = some (45, .getfield 195, 3, (9, 2, 2, 0, 0), ⟨"", "", ""⟩, "WordHides$GoodSearch") := rfl
theorem ee_56_45 {d : Nat} {ls st : List Value} {h : aH} {r : Nat} : go d 56 45 ls (.ref r :: st) h = (gf h r 9 2 2).bind fun z => go d 56 48 ls (z :: st) h := go_getf ke_56_45
theorem ke_56_48 : alook 56 48 = some (48, .ireturn, 1, (0, 0, 0, 0, 0), ⟨"", "", ""⟩, "") := rfl
theorem ee_56_48 {d : Nat} {ls : List Value} {h : aH} {v : Int32} : go d 56 48 ls [.int v] h = some (some (.int v), h) := go_iret ke_56_48
theorem ke_57_0 : alook 57 0 = some (0, .iload_n 1, 1, (0, 0, 0, 0, 0), ⟨"", "", ""⟩, "") := rfl
theorem ee_57_0 {d : Nat} {h : aH} {l0 : Value} {x : Int32} {st : List Value} : go d 57 0 [l0, .int x] st h = go d 57 1 [l0, .int x] (.int x :: st) h := go_plain (q := (1, [l0, .int x], (.int x :: st), h)) ke_57_0 rfl
theorem ke_57_1 : alook 57 1 = some (1, .ifCond .lt 8, 3, (9, 0, 0, 0, 0), ⟨"", "", ""⟩, "") := rfl
theorem ee_57_1 {d : Nat} {ls st : List Value} {h : aH} {x : Int32} : go d 57 1 ls (.int x :: st) h = if x < 0 then go d 57 9 ls st h else go d 57 4 ls st h := go_c1 (go_if1 (tg := 9) (q := 4) (f := fun x => decide (x < 0)) ke_57_1 rfl)
theorem ke_57_4 : alook 57 4 = some (4, .iload_n 1, 1, (0, 0, 0, 0, 0), ⟨"", "", ""⟩, "") := rfl
theorem ee_57_4 {d : Nat} {h : aH} {l0 : Value} {x : Int32} {st : List Value} : go d 57 4 [l0, .int x] st h = go d 57 5 [l0, .int x] (.int x :: st) h := go_plain (q := (5, [l0, .int x], (.int x :: st), h)) ke_57_4 rfl
theorem ke_57_5 : alook 57 5 = some (5, .iconst 2, 1, (0, 0, 0, 0, 0), ⟨"", "", ""⟩, "") := rfl
theorem ee_57_5 {d : Nat} {h : aH} {ls st : List Value} : go d 57 5 ls st h = go d 57 6 ls (.int 2 :: st) h := go_plain (q := (6, ls, (.int 2 :: st), h)) ke_57_5 rfl
theorem ke_57_6 : alook 57 6 = some (6, .if_icmp .lt 6, 3, (12, 0, 0, 0, 0), ⟨"", "", ""⟩, "") := rfl
theorem ee_57_6 {d : Nat} {ls st : List Value} {h : aH} {x y : Int32} : go d 57 6 ls (.int y :: .int x :: st) h = if x < y then go d 57 12 ls st h else go d 57 9 ls st h := go_ci (go_if2 (tg := 12) (q := 9) (f := fun x y => decide (x < y)) ke_57_6 rfl)
theorem ke_57_9 : alook 57 9 = some (9, .bipush (-2), 2, (0, 0, 0, 0, 0), ⟨"", "", ""⟩, "") := rfl
theorem ee_57_9 {d : Nat} {h : aH} {ls st : List Value} : go d 57 9 ls st h = go d 57 11 ls (.int (-2) :: st) h := go_plain (q := (11, ls, (.int (-2) :: st), h)) ke_57_9 rfl
theorem ke_57_11 : alook 57 11 = some (11, .ireturn, 1, (0, 0, 0, 0, 0), ⟨"", "", ""⟩, "") := rfl
theorem ee_57_11 {d : Nat} {ls : List Value} {h : aH} {v : Int32} : go d 57 11 ls [.int v] h = some (some (.int v), h) := go_iret ke_57_11
theorem ke_57_12 : alook 57 12 = some (12, .aload_n 0, 1, (0, 0, 0, 0, 0), ⟨"", "", ""⟩, "") := rfl
theorem ee_57_12 {d : Nat} {h : aH} {l1 : Value} {x : Nat} {st : List Value} : go d 57 12 [.ref x, l1] st h = go d 57 13 [.ref x, l1] (.ref x :: st) h := go_plain (q := (13, [.ref x, l1], (.ref x :: st), h)) ke_57_12 rfl
theorem ee_57_12N {d : Nat} {h : aH} {l1 : Value} {st : List Value} : go d 57 12 [.null, l1] st h = go d 57 13 [.null, l1] (.null :: st) h := go_plain (q := (13, [.null, l1], (.null :: st), h)) ke_57_12 rfl
theorem ke_57_13 : alook 57 13 = some (13, .getfield 30, 3, (3, 7, 7, 2, 0), ⟨"", "", ""⟩, "WordHides") := rfl
theorem ee_57_13 {d : Nat} {ls st : List Value} {h : aH} {r : Nat} : go d 57 13 ls (.ref r :: st) h = (gf h r 3 7 7).bind fun z => go d 57 16 ls (z :: st) h := go_getf ke_57_13
theorem ke_57_16 : alook 57 16 = some (16, .iload_n 1, 1, (0, 0, 0, 0, 0), ⟨"", "", ""⟩, "") := rfl
theorem ee_57_16 {d : Nat} {h : aH} {l0 : Value} {x : Int32} {st : List Value} : go d 57 16 [l0, .int x] st h = go d 57 17 [l0, .int x] (.int x :: st) h := go_plain (q := (17, [l0, .int x], (.int x :: st), h)) ke_57_16 rfl
theorem ke_57_17 : alook 57 17 = some (17, .aaload, 1, (0, 0, 0, 0, 0), ⟨"", "", ""⟩, "") := rfl
theorem ee_57_17 {d : Nat} {ls st : List Value} {h : aH} {r : Nat} {i : Int32} : go d 57 17 ls (.int i :: .ref r :: st) h = (aa h r i).bind fun z => go d 57 18 ls (z :: st) h := go_aald ke_57_17
theorem ke_57_18 : alook 57 18 = some (18, .aload_n 0, 1, (0, 0, 0, 0, 0), ⟨"", "", ""⟩, "") := rfl
theorem ee_57_18 {d : Nat} {h : aH} {l1 : Value} {x : Nat} {st : List Value} : go d 57 18 [.ref x, l1] st h = go d 57 19 [.ref x, l1] (.ref x :: st) h := go_plain (q := (19, [.ref x, l1], (.ref x :: st), h)) ke_57_18 rfl
theorem ee_57_18N {d : Nat} {h : aH} {l1 : Value} {st : List Value} : go d 57 18 [.null, l1] st h = go d 57 19 [.null, l1] (.null :: st) h := go_plain (q := (19, [.null, l1], (.null :: st), h)) ke_57_18 rfl
theorem ke_57_19 : alook 57 19 = some (19, .getfield 26, 3, (2, 7, 7, 2, 0), ⟨"", "", ""⟩, "WordHides") := rfl
theorem ee_57_19 {d : Nat} {ls st : List Value} {h : aH} {r : Nat} : go d 57 19 ls (.ref r :: st) h = (gf h r 2 7 7).bind fun z => go d 57 22 ls (z :: st) h := go_getf ke_57_19
theorem ke_57_22 : alook 57 22 = some (22, .invokevirtual 198, 3, (1, 0, 1, 0, 1), ⟨"WordHides$Board", "copyFrom", "(LWordHides$Board;)V"⟩, "") := rfl
theorem ee_57_22 {d : Nat} {ls : List Value} {h : aH} {r0 : Nat} {r1 : Nat} : go (d + 1) 57 22 ls [.ref r0, .ref r1] h = if isC h r1 0 = true then (go d 1 0 [.ref r1, .ref r0] [] h).bind (fun q => go (d + 1) 57 25 ls (q.1.toList ++ []) q.2) else none := go_cv1 (as := [.ref r0]) (rest := []) (L := [.ref r1, .ref r0]) ke_57_22 rfl rfl rfl
theorem ke_57_25 : alook 57 25 = some (25, .aload_n 0, 1, (0, 0, 0, 0, 0), ⟨"", "", ""⟩, "") := rfl
theorem ee_57_25 {d : Nat} {h : aH} {l1 : Value} {x : Nat} {st : List Value} : go d 57 25 [.ref x, l1] st h = go d 57 26 [.ref x, l1] (.ref x :: st) h := go_plain (q := (26, [.ref x, l1], (.ref x :: st), h)) ke_57_25 rfl
theorem ee_57_25N {d : Nat} {h : aH} {l1 : Value} {st : List Value} : go d 57 25 [.null, l1] st h = go d 57 26 [.null, l1] (.null :: st) h := go_plain (q := (26, [.null, l1], (.null :: st), h)) ke_57_25 rfl
theorem ke_57_26 : alook 57 26 = some (26, .dup, 1, (0, 0, 0, 0, 0), ⟨"", "", ""⟩, "") := rfl
theorem ee_57_26 {d : Nat} {h : aH} {ls st : List Value} {x : Nat} : go d 57 26 ls (.ref x :: st) h = go d 57 27 ls (.ref x :: .ref x :: st) h := go_plain (q := (27, ls, (.ref x :: .ref x :: st), h)) ke_57_26 rfl
theorem ke_57_27 : alook 57 27 = some (27, .getfield 64, 3, (8, 7, 7, 0, 0), ⟨"", "", ""⟩, "WordHides") := rfl
theorem ee_57_27 {d : Nat} {ls st : List Value} {h : aH} {r : Nat} : go d 57 27 ls (.ref r :: st) h = (gf h r 8 7 7).bind fun z => go d 57 30 ls (z :: st) h := go_getf ke_57_27
theorem ke_57_30 : alook 57 30 = some (30, .iconst 1, 1, (0, 0, 0, 0, 0), ⟨"", "", ""⟩, "") := rfl
theorem ee_57_30 {d : Nat} {h : aH} {ls st : List Value} : go d 57 30 ls st h = go d 57 31 ls (.int 1 :: st) h := go_plain (q := (31, ls, (.int 1 :: st), h)) ke_57_30 rfl
theorem ke_57_31 : alook 57 31 = some (31, .iload_n 1, 1, (0, 0, 0, 0, 0), ⟨"", "", ""⟩, "") := rfl
theorem ee_57_31 {d : Nat} {h : aH} {l0 : Value} {x : Int32} {st : List Value} : go d 57 31 [l0, .int x] st h = go d 57 32 [l0, .int x] (.int x :: st) h := go_plain (q := (32, [l0, .int x], (.int x :: st), h)) ke_57_31 rfl
theorem ke_57_32 : alook 57 32 = some (32, .ishl, 1, (0, 0, 0, 0, 0), ⟨"", "", ""⟩, "") := rfl
theorem ee_57_32 {d : Nat} {h : aH} {ls st : List Value} {x y : Int32} : go d 57 32 ls (.int y :: .int x :: st) h = go d 57 33 ls (.int (x <<< (y &&& 31)) :: st) h := go_plain (q := (33, ls, (.int (x <<< (y &&& 31)) :: st), h)) ke_57_32 rfl
theorem ke_57_33 : alook 57 33 = some (33, .ior, 1, (0, 0, 0, 0, 0), ⟨"", "", ""⟩, "") := rfl
theorem ee_57_33 {d : Nat} {h : aH} {ls st : List Value} {x y : Int32} : go d 57 33 ls (.int y :: .int x :: st) h = go d 57 34 ls (.int (x ||| y) :: st) h := go_plain (q := (34, ls, (.int (x ||| y) :: st), h)) ke_57_33 rfl
theorem ke_57_34 : alook 57 34 = some (34, .putfield 64, 3, (8, 7, 7, 0, 0), ⟨"", "", ""⟩, "WordHides") := rfl
theorem ee_57_34 {d : Nat} {ls st : List Value} {h : aH} {r : Nat} {w : Value} : go d 57 34 ls (w :: .ref r :: st) h = (pf h r 8 7 7 0 w).bind fun h' => go d 57 37 ls st h' := go_putf ke_57_34
theorem ke_57_37 : alook 57 37 = some (37, .iconst 1, 1, (0, 0, 0, 0, 0), ⟨"", "", ""⟩, "") := rfl
theorem ee_57_37 {d : Nat} {h : aH} {ls st : List Value} : go d 57 37 ls st h = go d 57 38 ls (.int 1 :: st) h := go_plain (q := (38, ls, (.int 1 :: st), h)) ke_57_37 rfl
theorem ke_57_38 : alook 57 38 = some (38, .ireturn, 1, (0, 0, 0, 0, 0), ⟨"", "", ""⟩, "") := rfl
theorem ee_57_38 {d : Nat} {ls : List Value} {h : aH} {v : Int32} : go d 57 38 ls [.int v] h = some (some (.int v), h) := go_iret ke_57_38
theorem ke_58_0 : alook 58 0 = some (0, .iload_n 1, 1, (0, 0, 0, 0, 0), ⟨"", "", ""⟩, "") := rfl
theorem ee_58_0 {d : Nat} {h : aH} {l0 : Value} {x : Int32} {st : List Value} : go d 58 0 [l0, .int x] st h = go d 58 1 [l0, .int x] (.int x :: st) h := go_plain (q := (1, [l0, .int x], (.int x :: st), h)) ke_58_0 rfl
theorem ke_58_1 : alook 58 1 = some (1, .ifCond .lt 8, 3, (9, 0, 0, 0, 0), ⟨"", "", ""⟩, "") := rfl
theorem ee_58_1 {d : Nat} {ls st : List Value} {h : aH} {x : Int32} : go d 58 1 ls (.int x :: st) h = if x < 0 then go d 58 9 ls st h else go d 58 4 ls st h := go_c1 (go_if1 (tg := 9) (q := 4) (f := fun x => decide (x < 0)) ke_58_1 rfl)
theorem ke_58_4 : alook 58 4 = some (4, .iload_n 1, 1, (0, 0, 0, 0, 0), ⟨"", "", ""⟩, "") := rfl
theorem ee_58_4 {d : Nat} {h : aH} {l0 : Value} {x : Int32} {st : List Value} : go d 58 4 [l0, .int x] st h = go d 58 5 [l0, .int x] (.int x :: st) h := go_plain (q := (5, [l0, .int x], (.int x :: st), h)) ke_58_4 rfl
theorem ke_58_5 : alook 58 5 = some (5, .iconst 2, 1, (0, 0, 0, 0, 0), ⟨"", "", ""⟩, "") := rfl
theorem ee_58_5 {d : Nat} {h : aH} {ls st : List Value} : go d 58 5 ls st h = go d 58 6 ls (.int 2 :: st) h := go_plain (q := (6, ls, (.int 2 :: st), h)) ke_58_5 rfl
theorem ke_58_6 : alook 58 6 = some (6, .if_icmp .lt 6, 3, (12, 0, 0, 0, 0), ⟨"", "", ""⟩, "") := rfl
theorem ee_58_6 {d : Nat} {ls st : List Value} {h : aH} {x y : Int32} : go d 58 6 ls (.int y :: .int x :: st) h = if x < y then go d 58 12 ls st h else go d 58 9 ls st h := go_ci (go_if2 (tg := 12) (q := 9) (f := fun x y => decide (x < y)) ke_58_6 rfl)
theorem ke_58_9 : alook 58 9 = some (9, .bipush (-2), 2, (0, 0, 0, 0, 0), ⟨"", "", ""⟩, "") := rfl
theorem ee_58_9 {d : Nat} {h : aH} {ls st : List Value} : go d 58 9 ls st h = go d 58 11 ls (.int (-2) :: st) h := go_plain (q := (11, ls, (.int (-2) :: st), h)) ke_58_9 rfl
theorem ke_58_11 : alook 58 11 = some (11, .ireturn, 1, (0, 0, 0, 0, 0), ⟨"", "", ""⟩, "") := rfl
theorem ee_58_11 {d : Nat} {ls : List Value} {h : aH} {v : Int32} : go d 58 11 ls [.int v] h = some (some (.int v), h) := go_iret ke_58_11
theorem ke_58_12 : alook 58 12 = some (12, .aload_n 0, 1, (0, 0, 0, 0, 0), ⟨"", "", ""⟩, "") := rfl
theorem ee_58_12 {d : Nat} {h : aH} {l1 : Value} {x : Nat} {st : List Value} : go d 58 12 [.ref x, l1] st h = go d 58 13 [.ref x, l1] (.ref x :: st) h := go_plain (q := (13, [.ref x, l1], (.ref x :: st), h)) ke_58_12 rfl
theorem ee_58_12N {d : Nat} {h : aH} {l1 : Value} {st : List Value} : go d 58 12 [.null, l1] st h = go d 58 13 [.null, l1] (.null :: st) h := go_plain (q := (13, [.null, l1], (.null :: st), h)) ke_58_12 rfl
theorem ke_58_13 : alook 58 13 = some (13, .getfield 64, 3, (8, 7, 7, 0, 0), ⟨"", "", ""⟩, "WordHides") := rfl
theorem ee_58_13 {d : Nat} {ls st : List Value} {h : aH} {r : Nat} : go d 58 13 ls (.ref r :: st) h = (gf h r 8 7 7).bind fun z => go d 58 16 ls (z :: st) h := go_getf ke_58_13
theorem ke_58_16 : alook 58 16 = some (16, .iload_n 1, 1, (0, 0, 0, 0, 0), ⟨"", "", ""⟩, "") := rfl
theorem ee_58_16 {d : Nat} {h : aH} {l0 : Value} {x : Int32} {st : List Value} : go d 58 16 [l0, .int x] st h = go d 58 17 [l0, .int x] (.int x :: st) h := go_plain (q := (17, [l0, .int x], (.int x :: st), h)) ke_58_16 rfl
theorem ke_58_17 : alook 58 17 = some (17, .ishr, 1, (0, 0, 0, 0, 0), ⟨"", "", ""⟩, "") := rfl
theorem ee_58_17 {d : Nat} {h : aH} {ls st : List Value} {x y : Int32} : go d 58 17 ls (.int y :: .int x :: st) h = go d 58 18 ls (.int (x >>> (y &&& 31)) :: st) h := go_plain (q := (18, ls, (.int (x >>> (y &&& 31)) :: st), h)) ke_58_17 rfl
theorem ke_58_18 : alook 58 18 = some (18, .iconst 1, 1, (0, 0, 0, 0, 0), ⟨"", "", ""⟩, "") := rfl
theorem ee_58_18 {d : Nat} {h : aH} {ls st : List Value} : go d 58 18 ls st h = go d 58 19 ls (.int 1 :: st) h := go_plain (q := (19, ls, (.int 1 :: st), h)) ke_58_18 rfl
theorem ke_58_19 : alook 58 19 = some (19, .iand, 1, (0, 0, 0, 0, 0), ⟨"", "", ""⟩, "") := rfl
theorem ee_58_19 {d : Nat} {h : aH} {ls st : List Value} {x y : Int32} : go d 58 19 ls (.int y :: .int x :: st) h = go d 58 20 ls (.int (x &&& y) :: st) h := go_plain (q := (20, ls, (.int (x &&& y) :: st), h)) ke_58_19 rfl
theorem ke_58_20 : alook 58 20 = some (20, .ifCond .ne 6, 3, (26, 0, 0, 0, 0), ⟨"", "", ""⟩, "") := rfl
theorem ee_58_20 {d : Nat} {ls st : List Value} {h : aH} {x : Int32} : go d 58 20 ls (.int x :: st) h = if ¬ x = 0 then go d 58 26 ls st h else go d 58 23 ls st h := go_c1 (go_if1 (tg := 26) (q := 23) (f := fun x => decide (¬ x = 0)) ke_58_20 rfl)
theorem ke_58_23 : alook 58 23 = some (23, .bipush (-3), 2, (0, 0, 0, 0, 0), ⟨"", "", ""⟩, "") := rfl
theorem ee_58_23 {d : Nat} {h : aH} {ls st : List Value} : go d 58 23 ls st h = go d 58 25 ls (.int (-3) :: st) h := go_plain (q := (25, ls, (.int (-3) :: st), h)) ke_58_23 rfl
theorem ke_58_25 : alook 58 25 = some (25, .ireturn, 1, (0, 0, 0, 0, 0), ⟨"", "", ""⟩, "") := rfl
theorem ee_58_25 {d : Nat} {ls : List Value} {h : aH} {v : Int32} : go d 58 25 ls [.int v] h = some (some (.int v), h) := go_iret ke_58_25
theorem ke_58_26 : alook 58 26 = some (26, .aload_n 0, 1, (0, 0, 0, 0, 0), ⟨"", "", ""⟩, "") := rfl
theorem ee_58_26 {d : Nat} {h : aH} {l1 : Value} {x : Nat} {st : List Value} : go d 58 26 [.ref x, l1] st h = go d 58 27 [.ref x, l1] (.ref x :: st) h := go_plain (q := (27, [.ref x, l1], (.ref x :: st), h)) ke_58_26 rfl
theorem ee_58_26N {d : Nat} {h : aH} {l1 : Value} {st : List Value} : go d 58 26 [.null, l1] st h = go d 58 27 [.null, l1] (.null :: st) h := go_plain (q := (27, [.null, l1], (.null :: st), h)) ke_58_26 rfl
theorem ke_58_27 : alook 58 27 = some (27, .getfield 26, 3, (2, 7, 7, 2, 0), ⟨"", "", ""⟩, "WordHides") := rfl
theorem ee_58_27 {d : Nat} {ls st : List Value} {h : aH} {r : Nat} : go d 58 27 ls (.ref r :: st) h = (gf h r 2 7 7).bind fun z => go d 58 30 ls (z :: st) h := go_getf ke_58_27
theorem ke_58_30 : alook 58 30 = some (30, .aload_n 0, 1, (0, 0, 0, 0, 0), ⟨"", "", ""⟩, "") := rfl
theorem ee_58_30 {d : Nat} {h : aH} {l1 : Value} {x : Nat} {st : List Value} : go d 58 30 [.ref x, l1] st h = go d 58 31 [.ref x, l1] (.ref x :: st) h := go_plain (q := (31, [.ref x, l1], (.ref x :: st), h)) ke_58_30 rfl
theorem ee_58_30N {d : Nat} {h : aH} {l1 : Value} {st : List Value} : go d 58 30 [.null, l1] st h = go d 58 31 [.null, l1] (.null :: st) h := go_plain (q := (31, [.null, l1], (.null :: st), h)) ke_58_30 rfl
theorem ke_58_31 : alook 58 31 = some (31, .getfield 30, 3, (3, 7, 7, 2, 0), ⟨"", "", ""⟩, "WordHides") := rfl
theorem ee_58_31 {d : Nat} {ls st : List Value} {h : aH} {r : Nat} : go d 58 31 ls (.ref r :: st) h = (gf h r 3 7 7).bind fun z => go d 58 34 ls (z :: st) h := go_getf ke_58_31
theorem ke_58_34 : alook 58 34 = some (34, .iload_n 1, 1, (0, 0, 0, 0, 0), ⟨"", "", ""⟩, "") := rfl
theorem ee_58_34 {d : Nat} {h : aH} {l0 : Value} {x : Int32} {st : List Value} : go d 58 34 [l0, .int x] st h = go d 58 35 [l0, .int x] (.int x :: st) h := go_plain (q := (35, [l0, .int x], (.int x :: st), h)) ke_58_34 rfl
theorem ke_58_35 : alook 58 35 = some (35, .aaload, 1, (0, 0, 0, 0, 0), ⟨"", "", ""⟩, "") := rfl
theorem ee_58_35 {d : Nat} {ls st : List Value} {h : aH} {r : Nat} {i : Int32} : go d 58 35 ls (.int i :: .ref r :: st) h = (aa h r i).bind fun z => go d 58 36 ls (z :: st) h := go_aald ke_58_35
theorem ke_58_36 : alook 58 36 = some (36, .invokevirtual 198, 3, (1, 0, 1, 0, 1), ⟨"WordHides$Board", "copyFrom", "(LWordHides$Board;)V"⟩, "") := rfl
theorem ee_58_36 {d : Nat} {ls : List Value} {h : aH} {r0 : Nat} {r1 : Nat} : go (d + 1) 58 36 ls [.ref r0, .ref r1] h = if isC h r1 0 = true then (go d 1 0 [.ref r1, .ref r0] [] h).bind (fun q => go (d + 1) 58 39 ls (q.1.toList ++ []) q.2) else none := go_cv1 (as := [.ref r0]) (rest := []) (L := [.ref r1, .ref r0]) ke_58_36 rfl rfl rfl
theorem ke_58_39 : alook 58 39 = some (39, .aload_n 0, 1, (0, 0, 0, 0, 0), ⟨"", "", ""⟩, "") := rfl
theorem ee_58_39 {d : Nat} {h : aH} {l1 : Value} {x : Nat} {st : List Value} : go d 58 39 [.ref x, l1] st h = go d 58 40 [.ref x, l1] (.ref x :: st) h := go_plain (q := (40, [.ref x, l1], (.ref x :: st), h)) ke_58_39 rfl
theorem ee_58_39N {d : Nat} {h : aH} {l1 : Value} {st : List Value} : go d 58 39 [.null, l1] st h = go d 58 40 [.null, l1] (.null :: st) h := go_plain (q := (40, [.null, l1], (.null :: st), h)) ke_58_39 rfl
theorem ke_58_40 : alook 58 40 = some (40, .invokevirtual 80, 3, (0, 7, 63, 7, 63), ⟨"WordHides", "forgetLayings", "()V"⟩, "") := rfl
theorem ee_58_40 {d : Nat} {ls : List Value} {h : aH} {r0 : Nat} : go (d + 1) 58 40 ls [.ref r0] h = if isC h r0 7 = true then (go d 63 0 [.ref r0] [] h).bind (fun q => go (d + 1) 58 43 ls (q.1.toList ++ []) q.2) else none := go_cv1 (as := []) (rest := []) (L := [.ref r0]) ke_58_40 rfl rfl rfl
theorem ke_58_43 : alook 58 43 = some (43, .iconst 1, 1, (0, 0, 0, 0, 0), ⟨"", "", ""⟩, "") := rfl
theorem ee_58_43 {d : Nat} {h : aH} {ls st : List Value} : go d 58 43 ls st h = go d 58 44 ls (.int 1 :: st) h := go_plain (q := (44, ls, (.int 1 :: st), h)) ke_58_43 rfl
theorem ke_58_44 : alook 58 44 = some (44, .ireturn, 1, (0, 0, 0, 0, 0), ⟨"", "", ""⟩, "") := rfl
theorem ee_58_44 {d : Nat} {ls : List Value} {h : aH} {v : Int32} : go d 58 44 ls [.int v] h = some (some (.int v), h) := go_iret ke_58_44
theorem ke_59_0 : alook 59 0 = some (0, .iload_n 1, 1, (0, 0, 0, 0, 0), ⟨"", "", ""⟩, "") := rfl
theorem ee_59_0 {d : Nat} {h : aH} {l0 : Value} {x : Int32} {st : List Value} : go d 59 0 [l0, .int x] st h = go d 59 1 [l0, .int x] (.int x :: st) h := go_plain (q := (1, [l0, .int x], (.int x :: st), h)) ke_59_0 rfl
theorem ke_59_1 : alook 59 1 = some (1, .tableswitch 114 0 6 #[43, 57, 68, 79, 90, 98, 109], 43, (0, 0, 0, 0, 0), ⟨"", "", ""⟩, "") := rfl
theorem ee_59_1_0 {d : Nat} {h : aH} {ls st : List Value} : go d 59 1 ls (.int 0 :: st) h = go d 59 44 ls st h := go_plain (q := (44, ls, st, h)) ke_59_1 rfl
theorem ee_59_1_1 {d : Nat} {h : aH} {ls st : List Value} : go d 59 1 ls (.int 1 :: st) h = go d 59 58 ls st h := go_plain (q := (58, ls, st, h)) ke_59_1 rfl
theorem ee_59_1_2 {d : Nat} {h : aH} {ls st : List Value} : go d 59 1 ls (.int 2 :: st) h = go d 59 69 ls st h := go_plain (q := (69, ls, st, h)) ke_59_1 rfl
theorem ee_59_1_3 {d : Nat} {h : aH} {ls st : List Value} : go d 59 1 ls (.int 3 :: st) h = go d 59 80 ls st h := go_plain (q := (80, ls, st, h)) ke_59_1 rfl
theorem ee_59_1_4 {d : Nat} {h : aH} {ls st : List Value} : go d 59 1 ls (.int 4 :: st) h = go d 59 91 ls st h := go_plain (q := (91, ls, st, h)) ke_59_1 rfl
theorem ee_59_1_5 {d : Nat} {h : aH} {ls st : List Value} : go d 59 1 ls (.int 5 :: st) h = go d 59 99 ls st h := go_plain (q := (99, ls, st, h)) ke_59_1 rfl
theorem ee_59_1_6 {d : Nat} {h : aH} {ls st : List Value} : go d 59 1 ls (.int 6 :: st) h = go d 59 110 ls st h := go_plain (q := (110, ls, st, h)) ke_59_1 rfl
theorem ee_59_1_d {d : Nat} {ls st : List Value} {h : aH} {x : Int32} (hx : x.toInt < 0 ∨ 6 < x.toInt) : go d 59 1 ls (.int x :: st) h = go d 59 115 ls st h := go_plain (q := (115, ls, st, h)) ke_59_1 ((if_pos hx).trans rfl)
theorem ke_59_44 : alook 59 44 = some (44, .aload_n 0, 1, (0, 0, 0, 0, 0), ⟨"", "", ""⟩, "") := rfl
theorem ee_59_44 {d : Nat} {h : aH} {l1 : Value} {x : Nat} {st : List Value} : go d 59 44 [.ref x, l1] st h = go d 59 45 [.ref x, l1] (.ref x :: st) h := go_plain (q := (45, [.ref x, l1], (.ref x :: st), h)) ke_59_44 rfl
theorem ee_59_44N {d : Nat} {h : aH} {l1 : Value} {st : List Value} : go d 59 44 [.null, l1] st h = go d 59 45 [.null, l1] (.null :: st) h := go_plain (q := (45, [.null, l1], (.null :: st), h)) ke_59_44 rfl
theorem ke_59_45 : alook 59 45 = some (45, .getfield 26, 3, (2, 7, 7, 2, 0), ⟨"", "", ""⟩, "WordHides") := rfl
theorem ee_59_45 {d : Nat} {ls st : List Value} {h : aH} {r : Nat} : go d 59 45 ls (.ref r :: st) h = (gf h r 2 7 7).bind fun z => go d 59 48 ls (z :: st) h := go_getf ke_59_45
theorem ke_59_48 : alook 59 48 = some (48, .getfield 68, 3, (0, 0, 0, 2, 0), ⟨"", "", ""⟩, "WordHides$Board") := rfl
theorem ee_59_48 {d : Nat} {ls st : List Value} {h : aH} {r : Nat} : go d 59 48 ls (.ref r :: st) h = (gf h r 0 0 0).bind fun z => go d 59 51 ls (z :: st) h := go_getf ke_59_48
theorem ke_59_51 : alook 59 51 = some (51, .getfield 71, 3, (1, 4, 4, 2, 0), ⟨"", "", ""⟩, "WordHides$Square") := rfl
theorem ee_59_51 {d : Nat} {ls st : List Value} {h : aH} {r : Nat} : go d 59 51 ls (.ref r :: st) h = (gf h r 1 4 4).bind fun z => go d 59 54 ls (z :: st) h := go_getf ke_59_51
theorem ke_59_54 : alook 59 54 = some (54, .getfield 74, 3, (0, 3, 3, 0, 0), ⟨"", "", ""⟩, "WordHides$Lattice") := rfl
theorem ee_59_54 {d : Nat} {ls st : List Value} {h : aH} {r : Nat} : go d 59 54 ls (.ref r :: st) h = (gf h r 0 3 3).bind fun z => go d 59 57 ls (z :: st) h := go_getf ke_59_54
theorem ke_59_57 : alook 59 57 = some (57, .ireturn, 1, (0, 0, 0, 0, 0), ⟨"", "", ""⟩, "") := rfl
theorem ee_59_57 {d : Nat} {ls : List Value} {h : aH} {v : Int32} : go d 59 57 ls [.int v] h = some (some (.int v), h) := go_iret ke_59_57
theorem ke_59_58 : alook 59 58 = some (58, .aload_n 0, 1, (0, 0, 0, 0, 0), ⟨"", "", ""⟩, "") := rfl
theorem ee_59_58 {d : Nat} {h : aH} {l1 : Value} {x : Nat} {st : List Value} : go d 59 58 [.ref x, l1] st h = go d 59 59 [.ref x, l1] (.ref x :: st) h := go_plain (q := (59, [.ref x, l1], (.ref x :: st), h)) ke_59_58 rfl
theorem ee_59_58N {d : Nat} {h : aH} {l1 : Value} {st : List Value} : go d 59 58 [.null, l1] st h = go d 59 59 [.null, l1] (.null :: st) h := go_plain (q := (59, [.null, l1], (.null :: st), h)) ke_59_58 rfl
theorem ke_59_59 : alook 59 59 = some (59, .getfield 26, 3, (2, 7, 7, 2, 0), ⟨"", "", ""⟩, "WordHides") := rfl
theorem ee_59_59 {d : Nat} {ls st : List Value} {h : aH} {r : Nat} : go d 59 59 ls (.ref r :: st) h = (gf h r 2 7 7).bind fun z => go d 59 62 ls (z :: st) h := go_getf ke_59_59
theorem ke_59_62 : alook 59 62 = some (62, .getfield 137, 3, (1, 0, 0, 2, 0), ⟨"", "", ""⟩, "WordHides$Board") := rfl
theorem ee_59_62 {d : Nat} {ls st : List Value} {h : aH} {r : Nat} : go d 59 62 ls (.ref r :: st) h = (gf h r 1 0 0).bind fun z => go d 59 65 ls (z :: st) h := go_getf ke_59_62
theorem ke_59_65 : alook 59 65 = some (65, .getfield 110, 3, (1, 6, 6, 0, 0), ⟨"", "", ""⟩, "WordHides$TextList") := rfl
theorem ee_59_65 {d : Nat} {ls st : List Value} {h : aH} {r : Nat} : go d 59 65 ls (.ref r :: st) h = (gf h r 1 6 6).bind fun z => go d 59 68 ls (z :: st) h := go_getf ke_59_65
theorem ke_59_68 : alook 59 68 = some (68, .ireturn, 1, (0, 0, 0, 0, 0), ⟨"", "", ""⟩, "") := rfl
theorem ee_59_68 {d : Nat} {ls : List Value} {h : aH} {v : Int32} : go d 59 68 ls [.int v] h = some (some (.int v), h) := go_iret ke_59_68
theorem ke_59_69 : alook 59 69 = some (69, .aload_n 0, 1, (0, 0, 0, 0, 0), ⟨"", "", ""⟩, "") := rfl
theorem ee_59_69 {d : Nat} {h : aH} {l1 : Value} {x : Nat} {st : List Value} : go d 59 69 [.ref x, l1] st h = go d 59 70 [.ref x, l1] (.ref x :: st) h := go_plain (q := (70, [.ref x, l1], (.ref x :: st), h)) ke_59_69 rfl
theorem ee_59_69N {d : Nat} {h : aH} {l1 : Value} {st : List Value} : go d 59 69 [.null, l1] st h = go d 59 70 [.null, l1] (.null :: st) h := go_plain (q := (70, [.null, l1], (.null :: st), h)) ke_59_69 rfl
theorem ke_59_70 : alook 59 70 = some (70, .getfield 26, 3, (2, 7, 7, 2, 0), ⟨"", "", ""⟩, "WordHides") := rfl
theorem ee_59_70 {d : Nat} {ls st : List Value} {h : aH} {r : Nat} : go d 59 70 ls (.ref r :: st) h = (gf h r 2 7 7).bind fun z => go d 59 73 ls (z :: st) h := go_getf ke_59_70
theorem ke_59_73 : alook 59 73 = some (73, .getfield 200, 3, (2, 0, 0, 2, 0), ⟨"", "", ""⟩, "WordHides$Board") := rfl
theorem ee_59_73 {d : Nat} {ls st : List Value} {h : aH} {r : Nat} : go d 59 73 ls (.ref r :: st) h = (gf h r 2 0 0).bind fun z => go d 59 76 ls (z :: st) h := go_getf ke_59_73
theorem ke_59_76 : alook 59 76 = some (76, .getfield 110, 3, (1, 6, 6, 0, 0), ⟨"", "", ""⟩, "WordHides$TextList") := rfl
theorem ee_59_76 {d : Nat} {ls st : List Value} {h : aH} {r : Nat} : go d 59 76 ls (.ref r :: st) h = (gf h r 1 6 6).bind fun z => go d 59 79 ls (z :: st) h := go_getf ke_59_76
theorem ke_59_79 : alook 59 79 = some (79, .ireturn, 1, (0, 0, 0, 0, 0), ⟨"", "", ""⟩, "") := rfl
theorem ee_59_79 {d : Nat} {ls : List Value} {h : aH} {v : Int32} : go d 59 79 ls [.int v] h = some (some (.int v), h) := go_iret ke_59_79
theorem ke_59_80 : alook 59 80 = some (80, .aload_n 0, 1, (0, 0, 0, 0, 0), ⟨"", "", ""⟩, "") := rfl
theorem ee_59_80 {d : Nat} {h : aH} {l1 : Value} {x : Nat} {st : List Value} : go d 59 80 [.ref x, l1] st h = go d 59 81 [.ref x, l1] (.ref x :: st) h := go_plain (q := (81, [.ref x, l1], (.ref x :: st), h)) ke_59_80 rfl
theorem ee_59_80N {d : Nat} {h : aH} {l1 : Value} {st : List Value} : go d 59 80 [.null, l1] st h = go d 59 81 [.null, l1] (.null :: st) h := go_plain (q := (81, [.null, l1], (.null :: st), h)) ke_59_80 rfl
theorem ke_59_81 : alook 59 81 = some (81, .getfield 26, 3, (2, 7, 7, 2, 0), ⟨"", "", ""⟩, "WordHides") := rfl
theorem ee_59_81 {d : Nat} {ls st : List Value} {h : aH} {r : Nat} : go d 59 81 ls (.ref r :: st) h = (gf h r 2 7 7).bind fun z => go d 59 84 ls (z :: st) h := go_getf ke_59_81
theorem ke_59_84 : alook 59 84 = some (84, .getfield 68, 3, (0, 0, 0, 2, 0), ⟨"", "", ""⟩, "WordHides$Board") := rfl
theorem ee_59_84 {d : Nat} {ls st : List Value} {h : aH} {r : Nat} : go d 59 84 ls (.ref r :: st) h = (gf h r 0 0 0).bind fun z => go d 59 87 ls (z :: st) h := go_getf ke_59_84
theorem ke_59_87 : alook 59 87 = some (87, .invokevirtual 203, 3, (0, 4, 30, 4, 30), ⟨"WordHides$Square", "emptyCells", "()I"⟩, "") := rfl
theorem ee_59_87 {d : Nat} {ls : List Value} {h : aH} {r0 : Nat} : go (d + 1) 59 87 ls [.ref r0] h = if isC h r0 4 = true then (go d 30 0 [.ref r0, aU, aU] [] h).bind (fun q => go (d + 1) 59 90 ls (q.1.toList ++ []) q.2) else none := go_cv1 (as := []) (rest := []) (L := [.ref r0, aU, aU]) ke_59_87 rfl rfl rfl
theorem ke_59_90 : alook 59 90 = some (90, .ireturn, 1, (0, 0, 0, 0, 0), ⟨"", "", ""⟩, "") := rfl
theorem ee_59_90 {d : Nat} {ls : List Value} {h : aH} {v : Int32} : go d 59 90 ls [.int v] h = some (some (.int v), h) := go_iret ke_59_90
theorem ke_59_91 : alook 59 91 = some (91, .aload_n 0, 1, (0, 0, 0, 0, 0), ⟨"", "", ""⟩, "") := rfl
theorem ee_59_91 {d : Nat} {h : aH} {l1 : Value} {x : Nat} {st : List Value} : go d 59 91 [.ref x, l1] st h = go d 59 92 [.ref x, l1] (.ref x :: st) h := go_plain (q := (92, [.ref x, l1], (.ref x :: st), h)) ke_59_91 rfl
theorem ee_59_91N {d : Nat} {h : aH} {l1 : Value} {st : List Value} : go d 59 91 [.null, l1] st h = go d 59 92 [.null, l1] (.null :: st) h := go_plain (q := (92, [.null, l1], (.null :: st), h)) ke_59_91 rfl
theorem ke_59_92 : alook 59 92 = some (92, .getfield 37, 3, (4, 7, 7, 2, 0), ⟨"", "", ""⟩, "WordHides") := rfl
theorem ee_59_92 {d : Nat} {ls st : List Value} {h : aH} {r : Nat} : go d 59 92 ls (.ref r :: st) h = (gf h r 4 7 7).bind fun z => go d 59 95 ls (z :: st) h := go_getf ke_59_92
theorem ke_59_95 : alook 59 95 = some (95, .getfield 94, 3, (1, 5, 5, 0, 0), ⟨"", "", ""⟩, "WordHides$Text") := rfl
theorem ee_59_95 {d : Nat} {ls st : List Value} {h : aH} {r : Nat} : go d 59 95 ls (.ref r :: st) h = (gf h r 1 5 5).bind fun z => go d 59 98 ls (z :: st) h := go_getf ke_59_95
theorem ke_59_98 : alook 59 98 = some (98, .ireturn, 1, (0, 0, 0, 0, 0), ⟨"", "", ""⟩, "") := rfl
theorem ee_59_98 {d : Nat} {ls : List Value} {h : aH} {v : Int32} : go d 59 98 ls [.int v] h = some (some (.int v), h) := go_iret ke_59_98
theorem ke_59_99 : alook 59 99 = some (99, .aload_n 0, 1, (0, 0, 0, 0, 0), ⟨"", "", ""⟩, "") := rfl
theorem ee_59_99 {d : Nat} {h : aH} {l1 : Value} {x : Nat} {st : List Value} : go d 59 99 [.ref x, l1] st h = go d 59 100 [.ref x, l1] (.ref x :: st) h := go_plain (q := (100, [.ref x, l1], (.ref x :: st), h)) ke_59_99 rfl
theorem ee_59_99N {d : Nat} {h : aH} {l1 : Value} {st : List Value} : go d 59 99 [.null, l1] st h = go d 59 100 [.null, l1] (.null :: st) h := go_plain (q := (100, [.null, l1], (.null :: st), h)) ke_59_99 rfl
theorem ke_59_100 : alook 59 100 = some (100, .getfield 26, 3, (2, 7, 7, 2, 0), ⟨"", "", ""⟩, "WordHides") := rfl
theorem ee_59_100 {d : Nat} {ls st : List Value} {h : aH} {r : Nat} : go d 59 100 ls (.ref r :: st) h = (gf h r 2 7 7).bind fun z => go d 59 103 ls (z :: st) h := go_getf ke_59_100
theorem ke_59_103 : alook 59 103 = some (103, .getfield 68, 3, (0, 0, 0, 2, 0), ⟨"", "", ""⟩, "WordHides$Board") := rfl
theorem ee_59_103 {d : Nat} {ls st : List Value} {h : aH} {r : Nat} : go d 59 103 ls (.ref r :: st) h = (gf h r 0 0 0).bind fun z => go d 59 106 ls (z :: st) h := go_getf ke_59_103
theorem ke_59_106 : alook 59 106 = some (106, .invokevirtual 207, 3, (0, 4, 31, 4, 31), ⟨"WordHides$Square", "unlikeLetters", "()I"⟩, "") := rfl
theorem ee_59_106 {d : Nat} {ls : List Value} {h : aH} {r0 : Nat} : go (d + 1) 59 106 ls [.ref r0] h = if isC h r0 4 = true then (go d 31 0 [.ref r0, aU, aU] [] h).bind (fun q => go (d + 1) 59 109 ls (q.1.toList ++ []) q.2) else none := go_cv1 (as := []) (rest := []) (L := [.ref r0, aU, aU]) ke_59_106 rfl rfl rfl
theorem ke_59_109 : alook 59 109 = some (109, .ireturn, 1, (0, 0, 0, 0, 0), ⟨"", "", ""⟩, "") := rfl
theorem ee_59_109 {d : Nat} {ls : List Value} {h : aH} {v : Int32} : go d 59 109 ls [.int v] h = some (some (.int v), h) := go_iret ke_59_109
theorem ke_59_110 : alook 59 110 = some (110, .aload_n 0, 1, (0, 0, 0, 0, 0), ⟨"", "", ""⟩, "") := rfl
theorem ee_59_110 {d : Nat} {h : aH} {l1 : Value} {x : Nat} {st : List Value} : go d 59 110 [.ref x, l1] st h = go d 59 111 [.ref x, l1] (.ref x :: st) h := go_plain (q := (111, [.ref x, l1], (.ref x :: st), h)) ke_59_110 rfl
theorem ee_59_110N {d : Nat} {h : aH} {l1 : Value} {st : List Value} : go d 59 110 [.null, l1] st h = go d 59 111 [.null, l1] (.null :: st) h := go_plain (q := (111, [.null, l1], (.null :: st), h)) ke_59_110 rfl
theorem ke_59_111 : alook 59 111 = some (111, .getfield 64, 3, (8, 7, 7, 0, 0), ⟨"", "", ""⟩, "WordHides") := rfl
theorem ee_59_111 {d : Nat} {ls st : List Value} {h : aH} {r : Nat} : go d 59 111 ls (.ref r :: st) h = (gf h r 8 7 7).bind fun z => go d 59 114 ls (z :: st) h := go_getf ke_59_111
theorem ke_59_114 : alook 59 114 = some (114, .ireturn, 1, (0, 0, 0, 0, 0), ⟨"", "", ""⟩, "") := rfl
theorem ee_59_114 {d : Nat} {ls : List Value} {h : aH} {v : Int32} : go d 59 114 ls [.int v] h = some (some (.int v), h) := go_iret ke_59_114
theorem ke_59_115 : alook 59 115 = some (115, .bipush (-2), 2, (0, 0, 0, 0, 0), ⟨"", "", ""⟩, "") := rfl
theorem ee_59_115 {d : Nat} {h : aH} {ls st : List Value} : go d 59 115 ls st h = go d 59 117 ls (.int (-2) :: st) h := go_plain (q := (117, ls, (.int (-2) :: st), h)) ke_59_115 rfl
theorem ke_59_117 : alook 59 117 = some (117, .ireturn, 1, (0, 0, 0, 0, 0), ⟨"", "", ""⟩, "") := rfl
theorem ee_59_117 {d : Nat} {ls : List Value} {h : aH} {v : Int32} : go d 59 117 ls [.int v] h = some (some (.int v), h) := go_iret ke_59_117
theorem ke_60_0 : alook 60 0 = some (0, .iload_n 0, 1, (0, 0, 0, 0, 0), ⟨"", "", ""⟩, "") := rfl
theorem ee_60_0 {d : Nat} {h : aH} {x : Int32} {st : List Value} : go d 60 0 [.int x] st h = go d 60 1 [.int x] (.int x :: st) h := go_plain (q := (1, [.int x], (.int x :: st), h)) ke_60_0 rfl
theorem ke_60_1 : alook 60 1 = some (1, .bipush 97, 2, (0, 0, 0, 0, 0), ⟨"", "", ""⟩, "") := rfl
theorem ee_60_1 {d : Nat} {h : aH} {ls st : List Value} : go d 60 1 ls st h = go d 60 3 ls (.int 97 :: st) h := go_plain (q := (3, ls, (.int 97 :: st), h)) ke_60_1 rfl
theorem ke_60_3 : alook 60 3 = some (3, .if_icmp .lt 13, 3, (16, 0, 0, 0, 0), ⟨"", "", ""⟩, "") := rfl
theorem ee_60_3 {d : Nat} {ls st : List Value} {h : aH} {x y : Int32} : go d 60 3 ls (.int y :: .int x :: st) h = if x < y then go d 60 16 ls st h else go d 60 6 ls st h := go_ci (go_if2 (tg := 16) (q := 6) (f := fun x y => decide (x < y)) ke_60_3 rfl)
theorem ke_60_6 : alook 60 6 = some (6, .iload_n 0, 1, (0, 0, 0, 0, 0), ⟨"", "", ""⟩, "") := rfl
theorem ee_60_6 {d : Nat} {h : aH} {x : Int32} {st : List Value} : go d 60 6 [.int x] st h = go d 60 7 [.int x] (.int x :: st) h := go_plain (q := (7, [.int x], (.int x :: st), h)) ke_60_6 rfl
theorem ke_60_7 : alook 60 7 = some (7, .bipush 122, 2, (0, 0, 0, 0, 0), ⟨"", "", ""⟩, "") := rfl
theorem ee_60_7 {d : Nat} {h : aH} {ls st : List Value} : go d 60 7 ls st h = go d 60 9 ls (.int 122 :: st) h := go_plain (q := (9, ls, (.int 122 :: st), h)) ke_60_7 rfl
theorem ke_60_9 : alook 60 9 = some (9, .if_icmp .gt 7, 3, (16, 0, 0, 0, 0), ⟨"", "", ""⟩, "") := rfl
theorem ee_60_9 {d : Nat} {ls st : List Value} {h : aH} {x y : Int32} : go d 60 9 ls (.int y :: .int x :: st) h = if y < x then go d 60 16 ls st h else go d 60 12 ls st h := go_ci (go_if2 (tg := 16) (q := 12) (f := fun x y => decide (y < x)) ke_60_9 rfl)
theorem ke_60_12 : alook 60 12 = some (12, .iconst 1, 1, (0, 0, 0, 0, 0), ⟨"", "", ""⟩, "") := rfl
theorem ee_60_12 {d : Nat} {h : aH} {ls st : List Value} : go d 60 12 ls st h = go d 60 13 ls (.int 1 :: st) h := go_plain (q := (13, ls, (.int 1 :: st), h)) ke_60_12 rfl
theorem ke_60_13 : alook 60 13 = some (13, .goto 4, 3, (17, 0, 0, 0, 0), ⟨"", "", ""⟩, "") := rfl
theorem ee_60_13 {d : Nat} {h : aH} {ls st : List Value} : go d 60 13 ls st h = go d 60 17 ls st h := go_plain (q := (17, ls, st, h)) ke_60_13 rfl
theorem ke_60_16 : alook 60 16 = some (16, .iconst 0, 1, (0, 0, 0, 0, 0), ⟨"", "", ""⟩, "") := rfl
theorem ee_60_16 {d : Nat} {h : aH} {ls st : List Value} : go d 60 16 ls st h = go d 60 17 ls (.int 0 :: st) h := go_plain (q := (17, ls, (.int 0 :: st), h)) ke_60_16 rfl
theorem ke_60_17 : alook 60 17 = some (17, .ireturn, 1, (1, 0, 0, 0, 0), ⟨"", "", ""⟩, "") := rfl
theorem ee_60_17 {d : Nat} {ls : List Value} {h : aH} : go d 60 17 ls [.int 0] h = some (some (.int 0), h) := go_zret0 ke_60_17
theorem ee_60_17T {d : Nat} {ls : List Value} {h : aH} : go d 60 17 ls [.int 1] h = some (some (.int 1), h) := go_zret1 ke_60_17
theorem ke_61_0 : alook 61 0 = some (0, .iload_n 0, 1, (0, 0, 0, 0, 0), ⟨"", "", ""⟩, "") := rfl
theorem ee_61_0 {d : Nat} {h : aH} {x : Int32} {st : List Value} : go d 61 0 [.int x] st h = go d 61 1 [.int x] (.int x :: st) h := go_plain (q := (1, [.int x], (.int x :: st), h)) ke_61_0 rfl
theorem ke_61_1 : alook 61 1 = some (1, .bipush 10, 2, (0, 0, 0, 0, 0), ⟨"", "", ""⟩, "") := rfl
theorem ee_61_1 {d : Nat} {h : aH} {ls st : List Value} : go d 61 1 ls st h = go d 61 3 ls (.int 10 :: st) h := go_plain (q := (3, ls, (.int 10 :: st), h)) ke_61_1 rfl
theorem ke_61_3 : alook 61 3 = some (3, .if_icmp .lt 13, 3, (16, 0, 0, 0, 0), ⟨"", "", ""⟩, "") := rfl
theorem ee_61_3 {d : Nat} {ls st : List Value} {h : aH} {x y : Int32} : go d 61 3 ls (.int y :: .int x :: st) h = if x < y then go d 61 16 ls st h else go d 61 6 ls st h := go_ci (go_if2 (tg := 16) (q := 6) (f := fun x y => decide (x < y)) ke_61_3 rfl)
theorem ke_61_6 : alook 61 6 = some (6, .iload_n 0, 1, (0, 0, 0, 0, 0), ⟨"", "", ""⟩, "") := rfl
theorem ee_61_6 {d : Nat} {h : aH} {x : Int32} {st : List Value} : go d 61 6 [.int x] st h = go d 61 7 [.int x] (.int x :: st) h := go_plain (q := (7, [.int x], (.int x :: st), h)) ke_61_6 rfl
theorem ke_61_7 : alook 61 7 = some (7, .bipush 13, 2, (0, 0, 0, 0, 0), ⟨"", "", ""⟩, "") := rfl
theorem ee_61_7 {d : Nat} {h : aH} {ls st : List Value} : go d 61 7 ls st h = go d 61 9 ls (.int 13 :: st) h := go_plain (q := (9, ls, (.int 13 :: st), h)) ke_61_7 rfl
theorem ke_61_9 : alook 61 9 = some (9, .if_icmp .ge 7, 3, (16, 0, 0, 0, 0), ⟨"", "", ""⟩, "") := rfl
theorem ee_61_9 {d : Nat} {ls st : List Value} {h : aH} {x y : Int32} : go d 61 9 ls (.int y :: .int x :: st) h = if y ≤ x then go d 61 16 ls st h else go d 61 12 ls st h := go_ci (go_if2 (tg := 16) (q := 12) (f := fun x y => decide (y ≤ x)) ke_61_9 rfl)
theorem ke_61_12 : alook 61 12 = some (12, .iconst 1, 1, (0, 0, 0, 0, 0), ⟨"", "", ""⟩, "") := rfl
theorem ee_61_12 {d : Nat} {h : aH} {ls st : List Value} : go d 61 12 ls st h = go d 61 13 ls (.int 1 :: st) h := go_plain (q := (13, ls, (.int 1 :: st), h)) ke_61_12 rfl
theorem ke_61_13 : alook 61 13 = some (13, .goto 4, 3, (17, 0, 0, 0, 0), ⟨"", "", ""⟩, "") := rfl
theorem ee_61_13 {d : Nat} {h : aH} {ls st : List Value} : go d 61 13 ls st h = go d 61 17 ls st h := go_plain (q := (17, ls, st, h)) ke_61_13 rfl
theorem ke_61_16 : alook 61 16 = some (16, .iconst 0, 1, (0, 0, 0, 0, 0), ⟨"", "", ""⟩, "") := rfl
theorem ee_61_16 {d : Nat} {h : aH} {ls st : List Value} : go d 61 16 ls st h = go d 61 17 ls (.int 0 :: st) h := go_plain (q := (17, ls, (.int 0 :: st), h)) ke_61_16 rfl
theorem ke_61_17 : alook 61 17 = some (17, .ireturn, 1, (1, 0, 0, 0, 0), ⟨"", "", ""⟩, "") := rfl
theorem ee_61_17 {d : Nat} {ls : List Value} {h : aH} : go d 61 17 ls [.int 0] h = some (some (.int 0), h) := go_zret0 ke_61_17
theorem ee_61_17T {d : Nat} {ls : List Value} {h : aH} : go d 61 17 ls [.int 1] h = some (some (.int 1), h) := go_zret1 ke_61_17
theorem ke_62_0 : alook 62 0 = some (0, .iload_n 1, 1, (0, 0, 0, 0, 0), ⟨"", "", ""⟩, "") := rfl
theorem ee_62_0 {d : Nat} {h : aH} {l0 : Value} {x : Int32} {st : List Value} : go d 62 0 [l0, .int x] st h = go d 62 1 [l0, .int x] (.int x :: st) h := go_plain (q := (1, [l0, .int x], (.int x :: st), h)) ke_62_0 rfl
theorem ke_62_1 : alook 62 1 = some (1, .ifCond .ne 13, 3, (14, 0, 0, 0, 0), ⟨"", "", ""⟩, "") := rfl
theorem ee_62_1 {d : Nat} {ls st : List Value} {h : aH} {x : Int32} : go d 62 1 ls (.int x :: st) h = if ¬ x = 0 then go d 62 14 ls st h else go d 62 4 ls st h := go_c1 (go_if1 (tg := 14) (q := 4) (f := fun x => decide (¬ x = 0)) ke_62_1 rfl)
theorem ke_62_4 : alook 62 4 = some (4, .aload_n 0, 1, (0, 0, 0, 0, 0), ⟨"", "", ""⟩, "") := rfl
theorem ee_62_4 {d : Nat} {h : aH} {l1 : Value} {x : Nat} {st : List Value} : go d 62 4 [.ref x, l1] st h = go d 62 5 [.ref x, l1] (.ref x :: st) h := go_plain (q := (5, [.ref x, l1], (.ref x :: st), h)) ke_62_4 rfl
theorem ee_62_4N {d : Nat} {h : aH} {l1 : Value} {st : List Value} : go d 62 4 [.null, l1] st h = go d 62 5 [.null, l1] (.null :: st) h := go_plain (q := (5, [.null, l1], (.null :: st), h)) ke_62_4 rfl
theorem ke_62_5 : alook 62 5 = some (5, .getfield 26, 3, (2, 7, 7, 2, 0), ⟨"", "", ""⟩, "WordHides") := rfl
theorem ee_62_5 {d : Nat} {ls st : List Value} {h : aH} {r : Nat} : go d 62 5 ls (.ref r :: st) h = (gf h r 2 7 7).bind fun z => go d 62 8 ls (z :: st) h := go_getf ke_62_5
theorem ke_62_8 : alook 62 8 = some (8, .getfield 137, 3, (1, 0, 0, 2, 0), ⟨"", "", ""⟩, "WordHides$Board") := rfl
theorem ee_62_8 {d : Nat} {ls st : List Value} {h : aH} {r : Nat} : go d 62 8 ls (.ref r :: st) h = (gf h r 1 0 0).bind fun z => go d 62 11 ls (z :: st) h := go_getf ke_62_8
theorem ke_62_11 : alook 62 11 = some (11, .goto 10, 3, (21, 0, 0, 0, 0), ⟨"", "", ""⟩, "") := rfl
theorem ee_62_11 {d : Nat} {h : aH} {ls st : List Value} : go d 62 11 ls st h = go d 62 21 ls st h := go_plain (q := (21, ls, st, h)) ke_62_11 rfl
theorem ke_62_14 : alook 62 14 = some (14, .aload_n 0, 1, (0, 0, 0, 0, 0), ⟨"", "", ""⟩, "") := rfl
theorem ee_62_14 {d : Nat} {h : aH} {l1 : Value} {x : Nat} {st : List Value} : go d 62 14 [.ref x, l1] st h = go d 62 15 [.ref x, l1] (.ref x :: st) h := go_plain (q := (15, [.ref x, l1], (.ref x :: st), h)) ke_62_14 rfl
theorem ee_62_14N {d : Nat} {h : aH} {l1 : Value} {st : List Value} : go d 62 14 [.null, l1] st h = go d 62 15 [.null, l1] (.null :: st) h := go_plain (q := (15, [.null, l1], (.null :: st), h)) ke_62_14 rfl
theorem ke_62_15 : alook 62 15 = some (15, .getfield 26, 3, (2, 7, 7, 2, 0), ⟨"", "", ""⟩, "WordHides") := rfl
theorem ee_62_15 {d : Nat} {ls st : List Value} {h : aH} {r : Nat} : go d 62 15 ls (.ref r :: st) h = (gf h r 2 7 7).bind fun z => go d 62 18 ls (z :: st) h := go_getf ke_62_15
theorem ke_62_18 : alook 62 18 = some (18, .getfield 200, 3, (2, 0, 0, 2, 0), ⟨"", "", ""⟩, "WordHides$Board") := rfl
theorem ee_62_18 {d : Nat} {ls st : List Value} {h : aH} {r : Nat} : go d 62 18 ls (.ref r :: st) h = (gf h r 2 0 0).bind fun z => go d 62 21 ls (z :: st) h := go_getf ke_62_18
theorem ke_62_21 : alook 62 21 = some (21, .areturn, 1, (0, 0, 0, 0, 0), ⟨"", "", ""⟩, "") := rfl
theorem ee_62_21 {d : Nat} {ls : List Value} {h : aH} {v : Nat} : go d 62 21 ls [.ref v] h = some (some (.ref v), h) := go_ret ke_62_21 rfl rfl rfl
theorem ee_62_21N {d : Nat} {ls : List Value} {h : aH} : go d 62 21 ls [.null] h = some (some .null, h) := go_ret ke_62_21 rfl rfl rfl
theorem ke_63_0 : alook 63 0 = some (0, .aload_n 0, 1, (0, 0, 0, 0, 0), ⟨"", "", ""⟩, "") := rfl
theorem ee_63_0 {d : Nat} {h : aH} {x : Nat} {st : List Value} : go d 63 0 [.ref x] st h = go d 63 1 [.ref x] (.ref x :: st) h := go_plain (q := (1, [.ref x], (.ref x :: st), h)) ke_63_0 rfl
theorem ee_63_0N {d : Nat} {h : aH} {st : List Value} : go d 63 0 [.null] st h = go d 63 1 [.null] (.null :: st) h := go_plain (q := (1, [.null], (.null :: st), h)) ke_63_0 rfl
theorem ke_63_1 : alook 63 1 = some (1, .getfield 53, 3, (6, 7, 7, 2, 0), ⟨"", "", ""⟩, "WordHides") := rfl
theorem ee_63_1 {d : Nat} {ls st : List Value} {h : aH} {r : Nat} : go d 63 1 ls (.ref r :: st) h = (gf h r 6 7 7).bind fun z => go d 63 4 ls (z :: st) h := go_getf ke_63_1
theorem ke_63_4 : alook 63 4 = some (4, .iconst 0, 1, (0, 0, 0, 0, 0), ⟨"", "", ""⟩, "") := rfl
theorem ee_63_4 {d : Nat} {h : aH} {ls st : List Value} : go d 63 4 ls st h = go d 63 5 ls (.int 0 :: st) h := go_plain (q := (5, ls, (.int 0 :: st), h)) ke_63_4 rfl
theorem ke_63_5 : alook 63 5 = some (5, .putfield 210, 3, (6, 1, 1, 1, 0), ⟨"", "", ""⟩, "WordHides$CrossedSearch") := rfl
theorem ee_63_5 {d : Nat} {ls st : List Value} {h : aH} {r : Nat} {w : Value} : go d 63 5 ls (w :: .ref r :: st) h = (pf h r 6 1 1 1 w).bind fun h' => go d 63 8 ls st h' := go_putf ke_63_5
theorem ke_63_8 : alook 63 8 = some (8, .aload_n 0, 1, (0, 0, 0, 0, 0), ⟨"", "", ""⟩, "") := rfl
theorem ee_63_8 {d : Nat} {h : aH} {x : Nat} {st : List Value} : go d 63 8 [.ref x] st h = go d 63 9 [.ref x] (.ref x :: st) h := go_plain (q := (9, [.ref x], (.ref x :: st), h)) ke_63_8 rfl
theorem ee_63_8N {d : Nat} {h : aH} {st : List Value} : go d 63 8 [.null] st h = go d 63 9 [.null] (.null :: st) h := go_plain (q := (9, [.null], (.null :: st), h)) ke_63_8 rfl
theorem ke_63_9 : alook 63 9 = some (9, .getfield 60, 3, (7, 7, 7, 2, 0), ⟨"", "", ""⟩, "WordHides") := rfl
theorem ee_63_9 {d : Nat} {ls st : List Value} {h : aH} {r : Nat} : go d 63 9 ls (.ref r :: st) h = (gf h r 7 7 7).bind fun z => go d 63 12 ls (z :: st) h := go_getf ke_63_9
theorem ke_63_12 : alook 63 12 = some (12, .iconst 0, 1, (0, 0, 0, 0, 0), ⟨"", "", ""⟩, "") := rfl
theorem ee_63_12 {d : Nat} {h : aH} {ls st : List Value} : go d 63 12 ls st h = go d 63 13 ls (.int 0 :: st) h := go_plain (q := (13, ls, (.int 0 :: st), h)) ke_63_12 rfl
theorem ke_63_13 : alook 63 13 = some (13, .putfield 214, 3, (6, 2, 2, 1, 0), ⟨"", "", ""⟩, "WordHides$GoodSearch") := rfl
theorem ee_63_13 {d : Nat} {ls st : List Value} {h : aH} {r : Nat} {w : Value} : go d 63 13 ls (w :: .ref r :: st) h = (pf h r 6 2 2 1 w).bind fun h' => go d 63 16 ls st h' := go_putf ke_63_13
theorem ke_63_16 : alook 63 16 = some (16, .return_, 1, (0, 0, 0, 0, 0), ⟨"", "", ""⟩, "") := rfl
theorem ee_63_16 {d : Nat} {ls : List Value} {h : aH} : go d 63 16 ls [] h = some (none, h) := go_ret ke_63_16 rfl rfl rfl
