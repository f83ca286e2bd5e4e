/-! the program as equations -/
theorem ke_65_0 : alook 65 0 = some (0, .iload_n 0, 1, (0, 0, 0, 0, 0), ⟨"", "", ""⟩, "") := rfl
theorem ee_65_0 {d : Nat} {h : aH} {l1 l2 : Value} {x : Int32} {st : List Value} : go d 65 0 [.int x, l1, l2] st h = go d 65 1 [.int x, l1, l2] (.int x :: st) h := go_plain (q := (1, [.int x, l1, l2], (.int x :: st), h)) ke_65_0 rfl
theorem ke_65_1 : alook 65 1 = some (1, .iload_n 1, 1, (0, 0, 0, 0, 0), ⟨"", "", ""⟩, "") := rfl
theorem ee_65_1 {d : Nat} {h : aH} {l0 l2 : Value} {x : Int32} {st : List Value} : go d 65 1 [l0, .int x, l2] st h = go d 65 2 [l0, .int x, l2] (.int x :: st) h := go_plain (q := (2, [l0, .int x, l2], (.int x :: st), h)) ke_65_1 rfl
theorem ke_65_2 : alook 65 2 = some (2, .if_icmp .lt 12, 3, (14, 0, 0, 0, 0), ⟨"", "", ""⟩, "") := rfl
theorem ee_65_2 {d : Nat} {ls st : List Value} {h : aH} {x y : Int32} : go d 65 2 ls (.int y :: .int x :: st) h = if x < y then go d 65 14 ls st h else go d 65 5 ls st h := go_ci (go_if2 (tg := 14) (q := 5) (f := fun x y => decide (x < y)) ke_65_2 rfl)
theorem ke_65_5 : alook 65 5 = some (5, .iload_n 0, 1, (0, 0, 0, 0, 0), ⟨"", "", ""⟩, "") := rfl
theorem ee_65_5 {d : Nat} {h : aH} {l1 l2 : Value} {x : Int32} {st : List Value} : go d 65 5 [.int x, l1, l2] st h = go d 65 6 [.int x, l1, l2] (.int x :: st) h := go_plain (q := (6, [.int x, l1, l2], (.int x :: st), h)) ke_65_5 rfl
theorem ke_65_6 : alook 65 6 = some (6, .iload_n 2, 1, (0, 0, 0, 0, 0), ⟨"", "", ""⟩, "") := rfl
theorem ee_65_6 {d : Nat} {h : aH} {l0 l1 : Value} {x : Int32} {st : List Value} : go d 65 6 [l0, l1, .int x] st h = go d 65 7 [l0, l1, .int x] (.int x :: st) h := go_plain (q := (7, [l0, l1, .int x], (.int x :: st), h)) ke_65_6 rfl
theorem ke_65_7 : alook 65 7 = some (7, .if_icmp .gt 7, 3, (14, 0, 0, 0, 0), ⟨"", "", ""⟩, "") := rfl
theorem ee_65_7 {d : Nat} {ls st : List Value} {h : aH} {x y : Int32} : go d 65 7 ls (.int y :: .int x :: st) h = if y < x then go d 65 14 ls st h else go d 65 10 ls st h := go_ci (go_if2 (tg := 14) (q := 10) (f := fun x y => decide (y < x)) ke_65_7 rfl)
theorem ke_65_10 : alook 65 10 = some (10, .iconst 1, 1, (0, 0, 0, 0, 0), ⟨"", "", ""⟩, "") := rfl
theorem ee_65_10 {d : Nat} {h : aH} {ls st : List Value} : go d 65 10 ls st h = go d 65 11 ls (.int 1 :: st) h := go_plain (q := (11, ls, (.int 1 :: st), h)) ke_65_10 rfl
theorem ke_65_11 : alook 65 11 = some (11, .goto 4, 3, (15, 0, 0, 0, 0), ⟨"", "", ""⟩, "") := rfl
theorem ee_65_11 {d : Nat} {h : aH} {ls st : List Value} : go d 65 11 ls st h = go d 65 15 ls st h := go_plain (q := (15, ls, st, h)) ke_65_11 rfl
theorem ke_65_14 : alook 65 14 = some (14, .iconst 0, 1, (0, 0, 0, 0, 0), ⟨"", "", ""⟩, "") := rfl
theorem ee_65_14 {d : Nat} {h : aH} {ls st : List Value} : go d 65 14 ls st h = go d 65 15 ls (.int 0 :: st) h := go_plain (q := (15, ls, (.int 0 :: st), h)) ke_65_14 rfl
theorem ke_65_15 : alook 65 15 = some (15, .ireturn, 1, (1, 0, 0, 0, 0), ⟨"", "", ""⟩, "") := rfl
theorem ee_65_15 {d : Nat} {ls : List Value} {h : aH} : go d 65 15 ls [.int 0] h = some (some (.int 0), h) := go_zret0 ke_65_15
theorem ee_65_15T {d : Nat} {ls : List Value} {h : aH} : go d 65 15 ls [.int 1] h = some (some (.int 1), h) := go_zret1 ke_65_15
theorem ke_66_0 : alook 66 0 = some (0, .aload_n 0, 1, (0, 0, 0, 0, 0), ⟨"", "", ""⟩, "") := rfl
theorem ee_66_0 {d : Nat} {h : aH} {x : Nat} {st : List Value} : go d 66 0 [.ref x] st h = go d 66 1 [.ref x] (.ref x :: st) h := go_plain (q := (1, [.ref x], (.ref x :: st), h)) ke_66_0 rfl
theorem ee_66_0N {d : Nat} {h : aH} {st : List Value} : go d 66 0 [.null] st h = go d 66 1 [.null] (.null :: st) h := go_plain (q := (1, [.null], (.null :: st), h)) ke_66_0 rfl
theorem ke_66_1 : alook 66 1 = some (1, .getfield 7, 3, (0, 8, 8, 2, 0), ⟨"", "", ""⟩, "WordHidesModel") := rfl
theorem ee_66_1 {d : Nat} {ls st : List Value} {h : aH} {r : Nat} : go d 66 1 ls (.ref r :: st) h = (gf h r 0 8 8).bind fun z => go d 66 4 ls (z :: st) h := go_getf ke_66_1
theorem ke_66_4 : alook 66 4 = some (4, .iconst 0, 1, (0, 0, 0, 0, 0), ⟨"", "", ""⟩, "") := rfl
theorem ee_66_4 {d : Nat} {h : aH} {ls st : List Value} : go d 66 4 ls st h = go d 66 5 ls (.int 0 :: st) h := go_plain (q := (5, ls, (.int 0 :: st), h)) ke_66_4 rfl
theorem ke_66_5 : alook 66 5 = some (5, .iaload, 1, (0, 0, 0, 0, 0), ⟨"", "", ""⟩, "") := rfl
theorem ee_66_5 {d : Nat} {ls st : List Value} {h : aH} {r : Nat} {i : Int32} : go d 66 5 ls (.int i :: .ref r :: st) h = (ia h r i).bind fun z => go d 66 6 ls (.int z :: st) h := go_iald ke_66_5
theorem ke_66_6 : alook 66 6 = some (6, .aload_n 0, 1, (0, 0, 0, 0, 0), ⟨"", "", ""⟩, "") := rfl
theorem ee_66_6 {d : Nat} {h : aH} {x : Nat} {st : List Value} : go d 66 6 [.ref x] st h = go d 66 7 [.ref x] (.ref x :: st) h := go_plain (q := (7, [.ref x], (.ref x :: st), h)) ke_66_6 rfl
theorem ee_66_6N {d : Nat} {h : aH} {st : List Value} : go d 66 6 [.null] st h = go d 66 7 [.null] (.null :: st) h := go_plain (q := (7, [.null], (.null :: st), h)) ke_66_6 rfl
theorem ke_66_7 : alook 66 7 = some (7, .getfield 7, 3, (0, 8, 8, 2, 0), ⟨"", "", ""⟩, "WordHidesModel") := rfl
theorem ee_66_7 {d : Nat} {ls st : List Value} {h : aH} {r : Nat} : go d 66 7 ls (.ref r :: st) h = (gf h r 0 8 8).bind fun z => go d 66 10 ls (z :: st) h := go_getf ke_66_7
theorem ke_66_10 : alook 66 10 = some (10, .iconst 0, 1, (0, 0, 0, 0, 0), ⟨"", "", ""⟩, "") := rfl
theorem ee_66_10 {d : Nat} {h : aH} {ls st : List Value} : go d 66 10 ls st h = go d 66 11 ls (.int 0 :: st) h := go_plain (q := (11, ls, (.int 0 :: st), h)) ke_66_10 rfl
theorem ke_66_11 : alook 66 11 = some (11, .iaload, 1, (0, 0, 0, 0, 0), ⟨"", "", ""⟩, "") := rfl
theorem ee_66_11 {d : Nat} {ls st : List Value} {h : aH} {r : Nat} {i : Int32} : go d 66 11 ls (.int i :: .ref r :: st) h = (ia h r i).bind fun z => go d 66 12 ls (.int z :: st) h := go_iald ke_66_11
theorem ke_66_12 : alook 66 12 = some (12, .imul, 1, (0, 0, 0, 0, 0), ⟨"", "", ""⟩, "") := rfl
theorem ee_66_12 {d : Nat} {h : aH} {ls st : List Value} {x y : Int32} : go d 66 12 ls (.int y :: .int x :: st) h = go d 66 13 ls (.int (x * y) :: st) h := go_plain (q := (13, ls, (.int (x * y) :: st), h)) ke_66_12 rfl
theorem ke_66_13 : alook 66 13 = some (13, .ireturn, 1, (0, 0, 0, 0, 0), ⟨"", "", ""⟩, "") := rfl
theorem ee_66_13 {d : Nat} {ls : List Value} {h : aH} {v : Int32} : go d 66 13 ls [.int v] h = some (some (.int v), h) := go_iret ke_66_13
theorem ke_67_0 : alook 67 0 = some (0, .iload_n 1, 1, (0, 0, 0, 0, 0), ⟨"", "", ""⟩, "") := rfl
theorem ee_67_0 {d : Nat} {h : aH} {l0 : Value} {x : Int32} {st : List Value} : go d 67 0 [l0, .int x] st h = go d 67 1 [l0, .int x] (.int x :: st) h := go_plain (q := (1, [l0, .int x], (.int x :: st), h)) ke_67_0 rfl
theorem ke_67_1 : alook 67 1 = some (1, .iconst 0, 1, (0, 0, 0, 0, 0), ⟨"", "", ""⟩, "") := rfl
theorem ee_67_1 {d : Nat} {h : aH} {ls st : List Value} : go d 67 1 ls st h = go d 67 2 ls (.int 0 :: st) h := go_plain (q := (2, ls, (.int 0 :: st), h)) ke_67_1 rfl
theorem ke_67_2 : alook 67 2 = some (2, .aload_n 0, 1, (0, 0, 0, 0, 0), ⟨"", "", ""⟩, "") := rfl
theorem ee_67_2 {d : Nat} {h : aH} {l1 : Value} {x : Nat} {st : List Value} : go d 67 2 [.ref x, l1] st h = go d 67 3 [.ref x, l1] (.ref x :: st) h := go_plain (q := (3, [.ref x, l1], (.ref x :: st), h)) ke_67_2 rfl
theorem ee_67_2N {d : Nat} {h : aH} {l1 : Value} {st : List Value} : go d 67 2 [.null, l1] st h = go d 67 3 [.null, l1] (.null :: st) h := go_plain (q := (3, [.null, l1], (.null :: st), h)) ke_67_2 rfl
theorem ke_67_3 : alook 67 3 = some (3, .invokevirtual 32, 3, (0, 8, 66, 8, 66), ⟨"WordHidesModel", "cells", "()I"⟩, "") := rfl
theorem ee_67_3 {d : Nat} {ls : List Value} {h : aH} {r0 : Nat} {i1 : Int32} {i2 : Int32} : go (d + 1) 67 3 ls [.ref r0, .int i1, .int i2] h = if isC h r0 8 = true then (go d 66 0 [.ref r0] [] h).bind (fun q => go (d + 1) 67 6 ls (q.1.toList ++ [.int i1, .int i2]) q.2) else none := go_cv1 (as := []) (rest := [.int i1, .int i2]) (L := [.ref r0]) ke_67_3 rfl rfl rfl
theorem ke_67_6 : alook 67 6 = some (6, .iconst 1, 1, (0, 0, 0, 0, 0), ⟨"", "", ""⟩, "") := rfl
theorem ee_67_6 {d : Nat} {h : aH} {ls st : List Value} : go d 67 6 ls st h = go d 67 7 ls (.int 1 :: st) h := go_plain (q := (7, ls, (.int 1 :: st), h)) ke_67_6 rfl
theorem ke_67_7 : alook 67 7 = some (7, .isub, 1, (0, 0, 0, 0, 0), ⟨"", "", ""⟩, "") := rfl
theorem ee_67_7 {d : Nat} {h : aH} {ls st : List Value} {x y : Int32} : go d 67 7 ls (.int y :: .int x :: st) h = go d 67 8 ls (.int (x - y) :: st) h := go_plain (q := (8, ls, (.int (x - y) :: st), h)) ke_67_7 rfl
theorem ke_67_8 : alook 67 8 = some (8, .invokestatic 36, 3, (3, 0, 65, 0, 0), ⟨"WordHidesModel", "in", "(III)Z"⟩, "") := rfl
theorem ee_67_8 {d : Nat} {ls : List Value} {h : aH} {i0 : Int32} {i1 : Int32} {i2 : Int32} : go (d + 1) 67 8 ls [.int i0, .int i1, .int i2] h = (go d 65 0 [.int i2, .int i1, .int i0] [] h).bind (fun q => go (d + 1) 67 11 ls (q.1.toList ++ []) q.2) := go_cs (as := [.int i2, .int i1, .int i0]) (rest := []) (L := [.int i2, .int i1, .int i0]) ke_67_8 rfl rfl rfl
theorem ke_67_11 : alook 67 11 = some (11, .ireturn, 1, (1, 0, 0, 0, 0), ⟨"", "", ""⟩, "") := rfl
theorem ee_67_11 {d : Nat} {ls : List Value} {h : aH} : go d 67 11 ls [.int 0] h = some (some (.int 0), h) := go_zret0 ke_67_11
theorem ee_67_11T {d : Nat} {ls : List Value} {h : aH} : go d 67 11 ls [.int 1] h = some (some (.int 1), h) := go_zret1 ke_67_11
theorem ke_68_0 : alook 68 0 = some (0, .iload_n 0, 1, (0, 0, 0, 0, 0), ⟨"", "", ""⟩, "") := rfl
theorem ee_68_0 {d : Nat} {h : aH} {x : Int32} {st : List Value} : go d 68 0 [.int x] st h = go d 68 1 [.int x] (.int x :: st) h := go_plain (q := (1, [.int x], (.int x :: st), h)) ke_68_0 rfl
theorem ke_68_1 : alook 68 1 = some (1, .bipush 97, 2, (0, 0, 0, 0, 0), ⟨"", "", ""⟩, "") := rfl
theorem ee_68_1 {d : Nat} {h : aH} {ls st : List Value} : go d 68 1 ls st h = go d 68 3 ls (.int 97 :: st) h := go_plain (q := (3, ls, (.int 97 :: st), h)) ke_68_1 rfl
theorem ke_68_3 : alook 68 3 = some (3, .bipush 122, 2, (0, 0, 0, 0, 0), ⟨"", "", ""⟩, "") := rfl
theorem ee_68_3 {d : Nat} {h : aH} {ls st : List Value} : go d 68 3 ls st h = go d 68 5 ls (.int 122 :: st) h := go_plain (q := (5, ls, (.int 122 :: st), h)) ke_68_3 rfl
theorem ke_68_5 : alook 68 5 = some (5, .invokestatic 36, 3, (3, 0, 65, 0, 0), ⟨"WordHidesModel", "in", "(III)Z"⟩, "") := rfl
theorem ee_68_5 {d : Nat} {ls : List Value} {h : aH} {i0 : Int32} {i1 : Int32} {i2 : Int32} : go (d + 1) 68 5 ls [.int i0, .int i1, .int i2] h = (go d 65 0 [.int i2, .int i1, .int i0] [] h).bind (fun q => go (d + 1) 68 8 ls (q.1.toList ++ []) q.2) := go_cs (as := [.int i2, .int i1, .int i0]) (rest := []) (L := [.int i2, .int i1, .int i0]) ke_68_5 rfl rfl rfl
theorem ke_68_8 : alook 68 8 = some (8, .ireturn, 1, (1, 0, 0, 0, 0), ⟨"", "", ""⟩, "") := rfl
theorem ee_68_8 {d : Nat} {ls : List Value} {h : aH} : go d 68 8 ls [.int 0] h = some (some (.int 0), h) := go_zret0 ke_68_8
theorem ee_68_8T {d : Nat} {ls : List Value} {h : aH} : go d 68 8 ls [.int 1] h = some (some (.int 1), h) := go_zret1 ke_68_8
theorem ke_69_0 : alook 69 0 = some (0, .iload_n 1, 1, (0, 0, 0, 0, 0), ⟨"", "", ""⟩, "") := rfl
theorem ee_69_0 {d : Nat} {h : aH} {l0 : Value} {x : Int32} {st : List Value} : go d 69 0 [l0, .int x] st h = go d 69 1 [l0, .int x] (.int x :: st) h := go_plain (q := (1, [l0, .int x], (.int x :: st), h)) ke_69_0 rfl
theorem ke_69_1 : alook 69 1 = some (1, .iconst 0, 1, (0, 0, 0, 0, 0), ⟨"", "", ""⟩, "") := rfl
theorem ee_69_1 {d : Nat} {h : aH} {ls st : List Value} : go d 69 1 ls st h = go d 69 2 ls (.int 0 :: st) h := go_plain (q := (2, ls, (.int 0 :: st), h)) ke_69_1 rfl
theorem ke_69_2 : alook 69 2 = some (2, .bipush 8, 2, (0, 0, 0, 0, 0), ⟨"", "", ""⟩, "") := rfl
theorem ee_69_2 {d : Nat} {h : aH} {ls st : List Value} : go d 69 2 ls st h = go d 69 4 ls (.int 8 :: st) h := go_plain (q := (4, ls, (.int 8 :: st), h)) ke_69_2 rfl
theorem ke_69_4 : alook 69 4 = some (4, .aload_n 0, 1, (0, 0, 0, 0, 0), ⟨"", "", ""⟩, "") := rfl
theorem ee_69_4 {d : Nat} {h : aH} {l1 : Value} {x : Nat} {st : List Value} : go d 69 4 [.ref x, l1] st h = go d 69 5 [.ref x, l1] (.ref x :: st) h := go_plain (q := (5, [.ref x, l1], (.ref x :: st), h)) ke_69_4 rfl
theorem ee_69_4N {d : Nat} {h : aH} {l1 : Value} {st : List Value} : go d 69 4 [.null, l1] st h = go d 69 5 [.null, l1] (.null :: st) h := go_plain (q := (5, [.null, l1], (.null :: st), h)) ke_69_4 rfl
theorem ke_69_5 : alook 69 5 = some (5, .invokevirtual 32, 3, (0, 8, 66, 8, 66), ⟨"WordHidesModel", "cells", "()I"⟩, "") := rfl
theorem ee_69_5 {d : Nat} {ls : List Value} {h : aH} {r0 : Nat} {i1 : Int32} {i2 : Int32} {i3 : Int32} : go (d + 1) 69 5 ls [.ref r0, .int i1, .int i2, .int i3] h = if isC h r0 8 = true then (go d 66 0 [.ref r0] [] h).bind (fun q => go (d + 1) 69 8 ls (q.1.toList ++ [.int i1, .int i2, .int i3]) q.2) else none := go_cv1 (as := []) (rest := [.int i1, .int i2, .int i3]) (L := [.ref r0]) ke_69_5 rfl rfl rfl
theorem ke_69_8 : alook 69 8 = some (8, .imul, 1, (0, 0, 0, 0, 0), ⟨"", "", ""⟩, "") := rfl
theorem ee_69_8 {d : Nat} {h : aH} {ls st : List Value} {x y : Int32} : go d 69 8 ls (.int y :: .int x :: st) h = go d 69 9 ls (.int (x * y) :: st) h := go_plain (q := (9, ls, (.int (x * y) :: st), h)) ke_69_8 rfl
theorem ke_69_9 : alook 69 9 = some (9, .iconst 1, 1, (0, 0, 0, 0, 0), ⟨"", "", ""⟩, "") := rfl
theorem ee_69_9 {d : Nat} {h : aH} {ls st : List Value} : go d 69 9 ls st h = go d 69 10 ls (.int 1 :: st) h := go_plain (q := (10, ls, (.int 1 :: st), h)) ke_69_9 rfl
theorem ke_69_10 : alook 69 10 = some (10, .isub, 1, (0, 0, 0, 0, 0), ⟨"", "", ""⟩, "") := rfl
theorem ee_69_10 {d : Nat} {h : aH} {ls st : List Value} {x y : Int32} : go d 69 10 ls (.int y :: .int x :: st) h = go d 69 11 ls (.int (x - y) :: st) h := go_plain (q := (11, ls, (.int (x - y) :: st), h)) ke_69_10 rfl
theorem ke_69_11 : alook 69 11 = some (11, .invokestatic 36, 3, (3, 0, 65, 0, 0), ⟨"WordHidesModel", "in", "(III)Z"⟩, "") := rfl
theorem ee_69_11 {d : Nat} {ls : List Value} {h : aH} {i0 : Int32} {i1 : Int32} {i2 : Int32} : go (d + 1) 69 11 ls [.int i0, .int i1, .int i2] h = (go d 65 0 [.int i2, .int i1, .int i0] [] h).bind (fun q => go (d + 1) 69 14 ls (q.1.toList ++ []) q.2) := go_cs (as := [.int i2, .int i1, .int i0]) (rest := []) (L := [.int i2, .int i1, .int i0]) ke_69_11 rfl rfl rfl
theorem ke_69_14 : alook 69 14 = some (14, .ireturn, 1, (1, 0, 0, 0, 0), ⟨"", "", ""⟩, "") := rfl
theorem ee_69_14 {d : Nat} {ls : List Value} {h : aH} : go d 69 14 ls [.int 0] h = some (some (.int 0), h) := go_zret0 ke_69_14
theorem ee_69_14T {d : Nat} {ls : List Value} {h : aH} : go d 69 14 ls [.int 1] h = some (some (.int 1), h) := go_zret1 ke_69_14
theorem ke_70_0 : alook 70 0 = some (0, .iload_n 2, 1, (0, 0, 0, 0, 0), ⟨"", "", ""⟩, "") := rfl
theorem ee_70_0 {d : Nat} {h : aH} {l0 l1 : Value} {x : Int32} {st : List Value} : go d 70 0 [l0, l1, .int x] st h = go d 70 1 [l0, l1, .int x] (.int x :: st) h := go_plain (q := (1, [l0, l1, .int x], (.int x :: st), h)) ke_70_0 rfl
theorem ke_70_1 : alook 70 1 = some (1, .iconst 0, 1, (0, 0, 0, 0, 0), ⟨"", "", ""⟩, "") := rfl
theorem ee_70_1 {d : Nat} {h : aH} {ls st : List Value} : go d 70 1 ls st h = go d 70 2 ls (.int 0 :: st) h := go_plain (q := (2, ls, (.int 0 :: st), h)) ke_70_1 rfl
theorem ke_70_2 : alook 70 2 = some (2, .aload_n 0, 1, (0, 0, 0, 0, 0), ⟨"", "", ""⟩, "") := rfl
theorem ee_70_2 {d : Nat} {h : aH} {l1 l2 : Value} {x : Nat} {st : List Value} : go d 70 2 [.ref x, l1, l2] st h = go d 70 3 [.ref x, l1, l2] (.ref x :: st) h := go_plain (q := (3, [.ref x, l1, l2], (.ref x :: st), h)) ke_70_2 rfl
theorem ee_70_2N {d : Nat} {h : aH} {l1 l2 : Value} {st : List Value} : go d 70 2 [.null, l1, l2] st h = go d 70 3 [.null, l1, l2] (.null :: st) h := go_plain (q := (3, [.null, l1, l2], (.null :: st), h)) ke_70_2 rfl
theorem ke_70_3 : alook 70 3 = some (3, .getfield 7, 3, (0, 8, 8, 2, 0), ⟨"", "", ""⟩, "WordHidesModel") := rfl
theorem ee_70_3 {d : Nat} {ls st : List Value} {h : aH} {r : Nat} : go d 70 3 ls (.ref r :: st) h = (gf h r 0 8 8).bind fun z => go d 70 6 ls (z :: st) h := go_getf ke_70_3
theorem ke_70_6 : alook 70 6 = some (6, .bipush 27, 2, (0, 0, 0, 0, 0), ⟨"", "", ""⟩, "") := rfl
theorem ee_70_6 {d : Nat} {h : aH} {ls st : List Value} : go d 70 6 ls st h = go d 70 8 ls (.int 27 :: st) h := go_plain (q := (8, ls, (.int 27 :: st), h)) ke_70_6 rfl
theorem ke_70_8 : alook 70 8 = some (8, .iload_n 1, 1, (0, 0, 0, 0, 0), ⟨"", "", ""⟩, "") := rfl
theorem ee_70_8 {d : Nat} {h : aH} {l0 l2 : Value} {x : Int32} {st : List Value} : go d 70 8 [l0, .int x, l2] st h = go d 70 9 [l0, .int x, l2] (.int x :: st) h := go_plain (q := (9, [l0, .int x, l2], (.int x :: st), h)) ke_70_8 rfl
theorem ke_70_9 : alook 70 9 = some (9, .iadd, 1, (0, 0, 0, 0, 0), ⟨"", "", ""⟩, "") := rfl
theorem ee_70_9 {d : Nat} {h : aH} {ls st : List Value} {x y : Int32} : go d 70 9 ls (.int y :: .int x :: st) h = go d 70 10 ls (.int (x + y) :: st) h := go_plain (q := (10, ls, (.int (x + y) :: st), h)) ke_70_9 rfl
theorem ke_70_10 : alook 70 10 = some (10, .iaload, 1, (0, 0, 0, 0, 0), ⟨"", "", ""⟩, "") := rfl
theorem ee_70_10 {d : Nat} {ls st : List Value} {h : aH} {r : Nat} {i : Int32} : go d 70 10 ls (.int i :: .ref r :: st) h = (ia h r i).bind fun z => go d 70 11 ls (.int z :: st) h := go_iald ke_70_10
theorem ke_70_11 : alook 70 11 = some (11, .iconst 1, 1, (0, 0, 0, 0, 0), ⟨"", "", ""⟩, "") := rfl
theorem ee_70_11 {d : Nat} {h : aH} {ls st : List Value} : go d 70 11 ls st h = go d 70 12 ls (.int 1 :: st) h := go_plain (q := (12, ls, (.int 1 :: st), h)) ke_70_11 rfl
theorem ke_70_12 : alook 70 12 = some (12, .isub, 1, (0, 0, 0, 0, 0), ⟨"", "", ""⟩, "") := rfl
theorem ee_70_12 {d : Nat} {h : aH} {ls st : List Value} {x y : Int32} : go d 70 12 ls (.int y :: .int x :: st) h = go d 70 13 ls (.int (x - y) :: st) h := go_plain (q := (13, ls, (.int (x - y) :: st), h)) ke_70_12 rfl
theorem ke_70_13 : alook 70 13 = some (13, .invokestatic 36, 3, (3, 0, 65, 0, 0), ⟨"WordHidesModel", "in", "(III)Z"⟩, "") := rfl
theorem ee_70_13 {d : Nat} {ls : List Value} {h : aH} {i0 : Int32} {i1 : Int32} {i2 : Int32} : go (d + 1) 70 13 ls [.int i0, .int i1, .int i2] h = (go d 65 0 [.int i2, .int i1, .int i0] [] h).bind (fun q => go (d + 1) 70 16 ls (q.1.toList ++ []) q.2) := go_cs (as := [.int i2, .int i1, .int i0]) (rest := []) (L := [.int i2, .int i1, .int i0]) ke_70_13 rfl rfl rfl
theorem ke_70_16 : alook 70 16 = some (16, .ireturn, 1, (1, 0, 0, 0, 0), ⟨"", "", ""⟩, "") := rfl
theorem ee_70_16 {d : Nat} {ls : List Value} {h : aH} : go d 70 16 ls [.int 0] h = some (some (.int 0), h) := go_zret0 ke_70_16
theorem ee_70_16T {d : Nat} {ls : List Value} {h : aH} : go d 70 16 ls [.int 1] h = some (some (.int 1), h) := go_zret1 ke_70_16
theorem ke_71_0 : alook 71 0 = some (0, .aload_n 0, 1, (0, 0, 0, 0, 0), ⟨"", "", ""⟩, "") := rfl
theorem ee_71_0 {d : Nat} {h : aH} {l1 l2 : Value} {x : Nat} {st : List Value} : go d 71 0 [.ref x, l1, l2] st h = go d 71 1 [.ref x, l1, l2] (.ref x :: st) h := go_plain (q := (1, [.ref x, l1, l2], (.ref x :: st), h)) ke_71_0 rfl
theorem ee_71_0N {d : Nat} {h : aH} {l1 l2 : Value} {st : List Value} : go d 71 0 [.null, l1, l2] st h = go d 71 1 [.null, l1, l2] (.null :: st) h := go_plain (q := (1, [.null, l1, l2], (.null :: st), h)) ke_71_0 rfl
theorem ke_71_1 : alook 71 1 = some (1, .getfield 7, 3, (0, 8, 8, 2, 0), ⟨"", "", ""⟩, "WordHidesModel") := rfl
theorem ee_71_1 {d : Nat} {ls st : List Value} {h : aH} {r : Nat} : go d 71 1 ls (.ref r :: st) h = (gf h r 0 8 8).bind fun z => go d 71 4 ls (z :: st) h := go_getf ke_71_1
theorem ke_71_4 : alook 71 4 = some (4, .bipush 53, 2, (0, 0, 0, 0, 0), ⟨"", "", ""⟩, "") := rfl
theorem ee_71_4 {d : Nat} {h : aH} {ls st : List Value} : go d 71 4 ls st h = go d 71 6 ls (.int 53 :: st) h := go_plain (q := (6, ls, (.int 53 :: st), h)) ke_71_4 rfl
theorem ke_71_6 : alook 71 6 = some (6, .iconst 3, 1, (0, 0, 0, 0, 0), ⟨"", "", ""⟩, "") := rfl
theorem ee_71_6 {d : Nat} {h : aH} {ls st : List Value} : go d 71 6 ls st h = go d 71 7 ls (.int 3 :: st) h := go_plain (q := (7, ls, (.int 3 :: st), h)) ke_71_6 rfl
theorem ke_71_7 : alook 71 7 = some (7, .iload_n 1, 1, (0, 0, 0, 0, 0), ⟨"", "", ""⟩, "") := rfl
theorem ee_71_7 {d : Nat} {h : aH} {l0 l2 : Value} {x : Int32} {st : List Value} : go d 71 7 [l0, .int x, l2] st h = go d 71 8 [l0, .int x, l2] (.int x :: st) h := go_plain (q := (8, [l0, .int x, l2], (.int x :: st), h)) ke_71_7 rfl
theorem ke_71_8 : alook 71 8 = some (8, .imul, 1, (0, 0, 0, 0, 0), ⟨"", "", ""⟩, "") := rfl
theorem ee_71_8 {d : Nat} {h : aH} {ls st : List Value} {x y : Int32} : go d 71 8 ls (.int y :: .int x :: st) h = go d 71 9 ls (.int (x * y) :: st) h := go_plain (q := (9, ls, (.int (x * y) :: st), h)) ke_71_8 rfl
theorem ke_71_9 : alook 71 9 = some (9, .iadd, 1, (0, 0, 0, 0, 0), ⟨"", "", ""⟩, "") := rfl
theorem ee_71_9 {d : Nat} {h : aH} {ls st : List Value} {x y : Int32} : go d 71 9 ls (.int y :: .int x :: st) h = go d 71 10 ls (.int (x + y) :: st) h := go_plain (q := (10, ls, (.int (x + y) :: st), h)) ke_71_9 rfl
theorem ke_71_10 : alook 71 10 = some (10, .iload_n 2, 1, (0, 0, 0, 0, 0), ⟨"", "", ""⟩, "") := rfl
theorem ee_71_10 {d : Nat} {h : aH} {l0 l1 : Value} {x : Int32} {st : List Value} : go d 71 10 [l0, l1, .int x] st h = go d 71 11 [l0, l1, .int x] (.int x :: st) h := go_plain (q := (11, [l0, l1, .int x], (.int x :: st), h)) ke_71_10 rfl
theorem ke_71_11 : alook 71 11 = some (11, .iadd, 1, (0, 0, 0, 0, 0), ⟨"", "", ""⟩, "") := rfl
theorem ee_71_11 {d : Nat} {h : aH} {ls st : List Value} {x y : Int32} : go d 71 11 ls (.int y :: .int x :: st) h = go d 71 12 ls (.int (x + y) :: st) h := go_plain (q := (12, ls, (.int (x + y) :: st), h)) ke_71_11 rfl
theorem ke_71_12 : alook 71 12 = some (12, .iaload, 1, (0, 0, 0, 0, 0), ⟨"", "", ""⟩, "") := rfl
theorem ee_71_12 {d : Nat} {ls st : List Value} {h : aH} {r : Nat} {i : Int32} : go d 71 12 ls (.int i :: .ref r :: st) h = (ia h r i).bind fun z => go d 71 13 ls (.int z :: st) h := go_iald ke_71_12
theorem ke_71_13 : alook 71 13 = some (13, .ireturn, 1, (0, 0, 0, 0, 0), ⟨"", "", ""⟩, "") := rfl
theorem ee_71_13 {d : Nat} {ls : List Value} {h : aH} {v : Int32} : go d 71 13 ls [.int v] h = some (some (.int v), h) := go_iret ke_71_13
theorem ke_72_0 : alook 72 0 = some (0, .aload_n 0, 1, (0, 0, 0, 0, 0), ⟨"", "", ""⟩, "") := rfl
theorem ee_72_0 {d : Nat} {h : aH} {l1 l2 l3 : Value} {x : Nat} {st : List Value} : go d 72 0 [.ref x, l1, l2, l3] st h = go d 72 1 [.ref x, l1, l2, l3] (.ref x :: st) h := go_plain (q := (1, [.ref x, l1, l2, l3], (.ref x :: st), h)) ke_72_0 rfl
theorem ee_72_0N {d : Nat} {h : aH} {l1 l2 l3 : Value} {st : List Value} : go d 72 0 [.null, l1, l2, l3] st h = go d 72 1 [.null, l1, l2, l3] (.null :: st) h := go_plain (q := (1, [.null, l1, l2, l3], (.null :: st), h)) ke_72_0 rfl
theorem ke_72_1 : alook 72 1 = some (1, .getfield 7, 3, (0, 8, 8, 2, 0), ⟨"", "", ""⟩, "WordHidesModel") := rfl
theorem ee_72_1 {d : Nat} {ls st : List Value} {h : aH} {r : Nat} : go d 72 1 ls (.ref r :: st) h = (gf h r 0 8 8).bind fun z => go d 72 4 ls (z :: st) h := go_getf ke_72_1
theorem ke_72_4 : alook 72 4 = some (4, .bipush 29, 2, (0, 0, 0, 0, 0), ⟨"", "", ""⟩, "") := rfl
theorem ee_72_4 {d : Nat} {h : aH} {ls st : List Value} : go d 72 4 ls st h = go d 72 6 ls (.int 29 :: st) h := go_plain (q := (6, ls, (.int 29 :: st), h)) ke_72_4 rfl
theorem ke_72_6 : alook 72 6 = some (6, .bipush 12, 2, (0, 0, 0, 0, 0), ⟨"", "", ""⟩, "") := rfl
theorem ee_72_6 {d : Nat} {h : aH} {ls st : List Value} : go d 72 6 ls st h = go d 72 8 ls (.int 12 :: st) h := go_plain (q := (8, ls, (.int 12 :: st), h)) ke_72_6 rfl
theorem ke_72_8 : alook 72 8 = some (8, .iload_n 1, 1, (0, 0, 0, 0, 0), ⟨"", "", ""⟩, "") := rfl
theorem ee_72_8 {d : Nat} {h : aH} {l0 l2 l3 : Value} {x : Int32} {st : List Value} : go d 72 8 [l0, .int x, l2, l3] st h = go d 72 9 [l0, .int x, l2, l3] (.int x :: st) h := go_plain (q := (9, [l0, .int x, l2, l3], (.int x :: st), h)) ke_72_8 rfl
theorem ke_72_9 : alook 72 9 = some (9, .imul, 1, (0, 0, 0, 0, 0), ⟨"", "", ""⟩, "") := rfl
theorem ee_72_9 {d : Nat} {h : aH} {ls st : List Value} {x y : Int32} : go d 72 9 ls (.int y :: .int x :: st) h = go d 72 10 ls (.int (x * y) :: st) h := go_plain (q := (10, ls, (.int (x * y) :: st), h)) ke_72_9 rfl
theorem ke_72_10 : alook 72 10 = some (10, .iadd, 1, (0, 0, 0, 0, 0), ⟨"", "", ""⟩, "") := rfl
theorem ee_72_10 {d : Nat} {h : aH} {ls st : List Value} {x y : Int32} : go d 72 10 ls (.int y :: .int x :: st) h = go d 72 11 ls (.int (x + y) :: st) h := go_plain (q := (11, ls, (.int (x + y) :: st), h)) ke_72_10 rfl
theorem ke_72_11 : alook 72 11 = some (11, .iconst 4, 1, (0, 0, 0, 0, 0), ⟨"", "", ""⟩, "") := rfl
theorem ee_72_11 {d : Nat} {h : aH} {ls st : List Value} : go d 72 11 ls st h = go d 72 12 ls (.int 4 :: st) h := go_plain (q := (12, ls, (.int 4 :: st), h)) ke_72_11 rfl
theorem ke_72_12 : alook 72 12 = some (12, .iload_n 2, 1, (0, 0, 0, 0, 0), ⟨"", "", ""⟩, "") := rfl
theorem ee_72_12 {d : Nat} {h : aH} {l0 l1 l3 : Value} {x : Int32} {st : List Value} : go d 72 12 [l0, l1, .int x, l3] st h = go d 72 13 [l0, l1, .int x, l3] (.int x :: st) h := go_plain (q := (13, [l0, l1, .int x, l3], (.int x :: st), h)) ke_72_12 rfl
theorem ke_72_13 : alook 72 13 = some (13, .imul, 1, (0, 0, 0, 0, 0), ⟨"", "", ""⟩, "") := rfl
theorem ee_72_13 {d : Nat} {h : aH} {ls st : List Value} {x y : Int32} : go d 72 13 ls (.int y :: .int x :: st) h = go d 72 14 ls (.int (x * y) :: st) h := go_plain (q := (14, ls, (.int (x * y) :: st), h)) ke_72_13 rfl
theorem ke_72_14 : alook 72 14 = some (14, .iadd, 1, (0, 0, 0, 0, 0), ⟨"", "", ""⟩, "") := rfl
theorem ee_72_14 {d : Nat} {h : aH} {ls st : List Value} {x y : Int32} : go d 72 14 ls (.int y :: .int x :: st) h = go d 72 15 ls (.int (x + y) :: st) h := go_plain (q := (15, ls, (.int (x + y) :: st), h)) ke_72_14 rfl
theorem ke_72_15 : alook 72 15 = some (15, .iload_n 3, 1, (0, 0, 0, 0, 0), ⟨"", "", ""⟩, "") := rfl
theorem ee_72_15 {d : Nat} {h : aH} {l0 l1 l2 : Value} {x : Int32} {st : List Value} : go d 72 15 [l0, l1, l2, .int x] st h = go d 72 16 [l0, l1, l2, .int x] (.int x :: st) h := go_plain (q := (16, [l0, l1, l2, .int x], (.int x :: st), h)) ke_72_15 rfl
theorem ke_72_16 : alook 72 16 = some (16, .iadd, 1, (0, 0, 0, 0, 0), ⟨"", "", ""⟩, "") := rfl
theorem ee_72_16 {d : Nat} {h : aH} {ls st : List Value} {x y : Int32} : go d 72 16 ls (.int y :: .int x :: st) h = go d 72 17 ls (.int (x + y) :: st) h := go_plain (q := (17, ls, (.int (x + y) :: st), h)) ke_72_16 rfl
theorem ke_72_17 : alook 72 17 = some (17, .iaload, 1, (0, 0, 0, 0, 0), ⟨"", "", ""⟩, "") := rfl
theorem ee_72_17 {d : Nat} {ls st : List Value} {h : aH} {r : Nat} {i : Int32} : go d 72 17 ls (.int i :: .ref r :: st) h = (ia h r i).bind fun z => go d 72 18 ls (.int z :: st) h := go_iald ke_72_17
theorem ke_72_18 : alook 72 18 = some (18, .ireturn, 1, (0, 0, 0, 0, 0), ⟨"", "", ""⟩, "") := rfl
theorem ee_72_18 {d : Nat} {ls : List Value} {h : aH} {v : Int32} : go d 72 18 ls [.int v] h = some (some (.int v), h) := go_iret ke_72_18
theorem ke_73_0 : alook 73 0 = some (0, .iload_n 1, 1, (0, 0, 0, 0, 0), ⟨"", "", ""⟩, "") := rfl
theorem ee_73_0 {d : Nat} {h : aH} {l0 l2 l3 : Value} {x : Int32} {st : List Value} : go d 73 0 [l0, .int x, l2, l3] st h = go d 73 1 [l0, .int x, l2, l3] (.int x :: st) h := go_plain (q := (1, [l0, .int x, l2, l3], (.int x :: st), h)) ke_73_0 rfl
theorem ke_73_1 : alook 73 1 = some (1, .iconst 3, 1, (0, 0, 0, 0, 0), ⟨"", "", ""⟩, "") := rfl
theorem ee_73_1 {d : Nat} {h : aH} {ls st : List Value} : go d 73 1 ls st h = go d 73 2 ls (.int 3 :: st) h := go_plain (q := (2, ls, (.int 3 :: st), h)) ke_73_1 rfl
theorem ke_73_2 : alook 73 2 = some (2, .iconst 4, 1, (0, 0, 0, 0, 0), ⟨"", "", ""⟩, "") := rfl
theorem ee_73_2 {d : Nat} {h : aH} {ls st : List Value} : go d 73 2 ls st h = go d 73 3 ls (.int 4 :: st) h := go_plain (q := (3, ls, (.int 4 :: st), h)) ke_73_2 rfl
theorem ke_73_3 : alook 73 3 = some (3, .invokestatic 36, 3, (3, 0, 65, 0, 0), ⟨"WordHidesModel", "in", "(III)Z"⟩, "") := rfl
theorem ee_73_3 {d : Nat} {ls : List Value} {h : aH} {i0 : Int32} {i1 : Int32} {i2 : Int32} : go (d + 1) 73 3 ls [.int i0, .int i1, .int i2] h = (go d 65 0 [.int i2, .int i1, .int i0] [] h).bind (fun q => go (d + 1) 73 6 ls (q.1.toList ++ []) q.2) := go_cs (as := [.int i2, .int i1, .int i0]) (rest := []) (L := [.int i2, .int i1, .int i0]) ke_73_3 rfl rfl rfl
theorem ke_73_6 : alook 73 6 = some (6, .ifCond .ne 6, 3, (12, 0, 0, 0, 0), ⟨"", "", ""⟩, "") := rfl
theorem ee_73_6 {d : Nat} {ls st : List Value} {h : aH} {x : Int32} : go d 73 6 ls (.int x :: st) h = if ¬ x = 0 then go d 73 12 ls st h else go d 73 9 ls st h := go_c1 (go_if1 (tg := 12) (q := 9) (f := fun x => decide (¬ x = 0)) ke_73_6 rfl)
theorem ke_73_9 : alook 73 9 = some (9, .bipush (-2), 2, (0, 0, 0, 0, 0), ⟨"", "", ""⟩, "") := rfl
theorem ee_73_9 {d : Nat} {h : aH} {ls st : List Value} : go d 73 9 ls st h = go d 73 11 ls (.int (-2) :: st) h := go_plain (q := (11, ls, (.int (-2) :: st), h)) ke_73_9 rfl
theorem ke_73_11 : alook 73 11 = some (11, .ireturn, 1, (0, 0, 0, 0, 0), ⟨"", "", ""⟩, "") := rfl
theorem ee_73_11 {d : Nat} {ls : List Value} {h : aH} {v : Int32} : go d 73 11 ls [.int v] h = some (some (.int v), h) := go_iret ke_73_11
theorem ke_73_12 : alook 73 12 = some (12, .aload_n 0, 1, (0, 0, 0, 0, 0), ⟨"", "", ""⟩, "") := rfl
theorem ee_73_12 {d : Nat} {h : aH} {l1 l2 l3 : Value} {x : Nat} {st : List Value} : go d 73 12 [.ref x, l1, l2, l3] st h = go d 73 13 [.ref x, l1, l2, l3] (.ref x :: st) h := go_plain (q := (13, [.ref x, l1, l2, l3], (.ref x :: st), h)) ke_73_12 rfl
theorem ee_73_12N {d : Nat} {h : aH} {l1 l2 l3 : Value} {st : List Value} : go d 73 12 [.null, l1, l2, l3] st h = go d 73 13 [.null, l1, l2, l3] (.null :: st) h := go_plain (q := (13, [.null, l1, l2, l3], (.null :: st), h)) ke_73_12 rfl
theorem ke_73_13 : alook 73 13 = some (13, .getfield 7, 3, (0, 8, 8, 2, 0), ⟨"", "", ""⟩, "WordHidesModel") := rfl
theorem ee_73_13 {d : Nat} {ls st : List Value} {h : aH} {r : Nat} : go d 73 13 ls (.ref r :: st) h = (gf h r 0 8 8).bind fun z => go d 73 16 ls (z :: st) h := go_getf ke_73_13
theorem ke_73_16 : alook 73 16 = some (16, .iconst 0, 1, (0, 0, 0, 0, 0), ⟨"", "", ""⟩, "") := rfl
theorem ee_73_16 {d : Nat} {h : aH} {ls st : List Value} : go d 73 16 ls st h = go d 73 17 ls (.int 0 :: st) h := go_plain (q := (17, ls, (.int 0 :: st), h)) ke_73_16 rfl
theorem ke_73_17 : alook 73 17 = some (17, .iaload, 1, (0, 0, 0, 0, 0), ⟨"", "", ""⟩, "") := rfl
theorem ee_73_17 {d : Nat} {ls st : List Value} {h : aH} {r : Nat} {i : Int32} : go d 73 17 ls (.int i :: .ref r :: st) h = (ia h r i).bind fun z => go d 73 18 ls (.int z :: st) h := go_iald ke_73_17
theorem ke_73_18 : alook 73 18 = some (18, .istore_n 2, 1, (0, 0, 0, 0, 0), ⟨"", "", ""⟩, "") := rfl
theorem ee_73_18 {d : Nat} {h : aH} {l0 l1 l2 l3 : Value} {x : Int32} {st : List Value} : go d 73 18 [l0, l1, l2, l3] (.int x :: st) h = go d 73 19 [l0, l1, .int x, l3] st h := go_plain (q := (19, [l0, l1, .int x, l3], st, h)) ke_73_18 rfl
theorem ke_73_19 : alook 73 19 = some (19, .aload_n 0, 1, (0, 0, 0, 0, 0), ⟨"", "", ""⟩, "") := rfl
theorem ee_73_19 {d : Nat} {h : aH} {l1 l2 l3 : Value} {x : Nat} {st : List Value} : go d 73 19 [.ref x, l1, l2, l3] st h = go d 73 20 [.ref x, l1, l2, l3] (.ref x :: st) h := go_plain (q := (20, [.ref x, l1, l2, l3], (.ref x :: st), h)) ke_73_19 rfl
theorem ee_73_19N {d : Nat} {h : aH} {l1 l2 l3 : Value} {st : List Value} : go d 73 19 [.null, l1, l2, l3] st h = go d 73 20 [.null, l1, l2, l3] (.null :: st) h := go_plain (q := (20, [.null, l1, l2, l3], (.null :: st), h)) ke_73_19 rfl
theorem ke_73_20 : alook 73 20 = some (20, .getfield 7, 3, (0, 8, 8, 2, 0), ⟨"", "", ""⟩, "WordHidesModel") := rfl
theorem ee_73_20 {d : Nat} {ls st : List Value} {h : aH} {r : Nat} : go d 73 20 ls (.ref r :: st) h = (gf h r 0 8 8).bind fun z => go d 73 23 ls (z :: st) h := go_getf ke_73_20
theorem ke_73_23 : alook 73 23 = some (23, .iconst 0, 1, (0, 0, 0, 0, 0), ⟨"", "", ""⟩, "") := rfl
theorem ee_73_23 {d : Nat} {h : aH} {ls st : List Value} : go d 73 23 ls st h = go d 73 24 ls (.int 0 :: st) h := go_plain (q := (24, ls, (.int 0 :: st), h)) ke_73_23 rfl
theorem ke_73_24 : alook 73 24 = some (24, .iload_n 1, 1, (0, 0, 0, 0, 0), ⟨"", "", ""⟩, "") := rfl
theorem ee_73_24 {d : Nat} {h : aH} {l0 l2 l3 : Value} {x : Int32} {st : List Value} : go d 73 24 [l0, .int x, l2, l3] st h = go d 73 25 [l0, .int x, l2, l3] (.int x :: st) h := go_plain (q := (25, [l0, .int x, l2, l3], (.int x :: st), h)) ke_73_24 rfl
theorem ke_73_25 : alook 73 25 = some (25, .iastore, 1, (0, 0, 0, 0, 0), ⟨"", "", ""⟩, "") := rfl
theorem ee_73_25 {d : Nat} {ls st : List Value} {h : aH} {r : Nat} {i x : Int32} : go d 73 25 ls (.int x :: .int i :: .ref r :: st) h = (is_ h r i x).bind fun h' => go d 73 26 ls st h' := go_iast ke_73_25
theorem ke_73_26 : alook 73 26 = some (26, .iconst 0, 1, (0, 0, 0, 0, 0), ⟨"", "", ""⟩, "") := rfl
theorem ee_73_26 {d : Nat} {h : aH} {ls st : List Value} : go d 73 26 ls st h = go d 73 27 ls (.int 0 :: st) h := go_plain (q := (27, ls, (.int 0 :: st), h)) ke_73_26 rfl
theorem ke_73_27 : alook 73 27 = some (27, .istore_n 3, 1, (0, 0, 0, 0, 0), ⟨"", "", ""⟩, "") := rfl
theorem ee_73_27 {d : Nat} {h : aH} {l0 l1 l2 l3 : Value} {x : Int32} {st : List Value} : go d 73 27 [l0, l1, l2, l3] (.int x :: st) h = go d 73 28 [l0, l1, l2, .int x] st h := go_plain (q := (28, [l0, l1, l2, .int x], st, h)) ke_73_27 rfl
theorem ke_73_28 : alook 73 28 = some (28, .iload_n 3, 1, (0, 0, 0, 0, 0), ⟨"", "", ""⟩, "") := rfl
theorem ee_73_28 {d : Nat} {h : aH} {l0 l1 l2 : Value} {x : Int32} {st : List Value} : go d 73 28 [l0, l1, l2, .int x] st h = go d 73 29 [l0, l1, l2, .int x] (.int x :: st) h := go_plain (q := (29, [l0, l1, l2, .int x], (.int x :: st), h)) ke_73_28 rfl
theorem ke_73_29 : alook 73 29 = some (29, .bipush 16, 2, (0, 0, 0, 0, 0), ⟨"", "", ""⟩, "") := rfl
theorem ee_73_29 {d : Nat} {h : aH} {ls st : List Value} : go d 73 29 ls st h = go d 73 31 ls (.int 16 :: st) h := go_plain (q := (31, ls, (.int 16 :: st), h)) ke_73_29 rfl
theorem ke_73_31 : alook 73 31 = some (31, .if_icmp .ge 18, 3, (49, 0, 0, 0, 0), ⟨"", "", ""⟩, "") := rfl
theorem ee_73_31 {d : Nat} {ls st : List Value} {h : aH} {x y : Int32} : go d 73 31 ls (.int y :: .int x :: st) h = if y ≤ x then go d 73 49 ls st h else go d 73 34 ls st h := go_ci (go_if2 (tg := 49) (q := 34) (f := fun x y => decide (y ≤ x)) ke_73_31 rfl)
theorem ke_73_34 : alook 73 34 = some (34, .aload_n 0, 1, (0, 0, 0, 0, 0), ⟨"", "", ""⟩, "") := rfl
theorem ee_73_34 {d : Nat} {h : aH} {l1 l2 l3 : Value} {x : Nat} {st : List Value} : go d 73 34 [.ref x, l1, l2, l3] st h = go d 73 35 [.ref x, l1, l2, l3] (.ref x :: st) h := go_plain (q := (35, [.ref x, l1, l2, l3], (.ref x :: st), h)) ke_73_34 rfl
theorem ee_73_34N {d : Nat} {h : aH} {l1 l2 l3 : Value} {st : List Value} : go d 73 34 [.null, l1, l2, l3] st h = go d 73 35 [.null, l1, l2, l3] (.null :: st) h := go_plain (q := (35, [.null, l1, l2, l3], (.null :: st), h)) ke_73_34 rfl
theorem ke_73_35 : alook 73 35 = some (35, .getfield 7, 3, (0, 8, 8, 2, 0), ⟨"", "", ""⟩, "WordHidesModel") := rfl
theorem ee_73_35 {d : Nat} {ls st : List Value} {h : aH} {r : Nat} : go d 73 35 ls (.ref r :: st) h = (gf h r 0 8 8).bind fun z => go d 73 38 ls (z :: st) h := go_getf ke_73_35
theorem ke_73_38 : alook 73 38 = some (38, .iconst 1, 1, (0, 0, 0, 0, 0), ⟨"", "", ""⟩, "") := rfl
theorem ee_73_38 {d : Nat} {h : aH} {ls st : List Value} : go d 73 38 ls st h = go d 73 39 ls (.int 1 :: st) h := go_plain (q := (39, ls, (.int 1 :: st), h)) ke_73_38 rfl
theorem ke_73_39 : alook 73 39 = some (39, .iload_n 3, 1, (0, 0, 0, 0, 0), ⟨"", "", ""⟩, "") := rfl
theorem ee_73_39 {d : Nat} {h : aH} {l0 l1 l2 : Value} {x : Int32} {st : List Value} : go d 73 39 [l0, l1, l2, .int x] st h = go d 73 40 [l0, l1, l2, .int x] (.int x :: st) h := go_plain (q := (40, [l0, l1, l2, .int x], (.int x :: st), h)) ke_73_39 rfl
theorem ke_73_40 : alook 73 40 = some (40, .iadd, 1, (0, 0, 0, 0, 0), ⟨"", "", ""⟩, "") := rfl
theorem ee_73_40 {d : Nat} {h : aH} {ls st : List Value} {x y : Int32} : go d 73 40 ls (.int y :: .int x :: st) h = go d 73 41 ls (.int (x + y) :: st) h := go_plain (q := (41, ls, (.int (x + y) :: st), h)) ke_73_40 rfl
theorem ke_73_41 : alook 73 41 = some (41, .iconst 0, 1, (0, 0, 0, 0, 0), ⟨"", "", ""⟩, "") := rfl
theorem ee_73_41 {d : Nat} {h : aH} {ls st : List Value} : go d 73 41 ls st h = go d 73 42 ls (.int 0 :: st) h := go_plain (q := (42, ls, (.int 0 :: st), h)) ke_73_41 rfl
theorem ke_73_42 : alook 73 42 = some (42, .iastore, 1, (0, 0, 0, 0, 0), ⟨"", "", ""⟩, "") := rfl
theorem ee_73_42 {d : Nat} {ls st : List Value} {h : aH} {r : Nat} {i x : Int32} : go d 73 42 ls (.int x :: .int i :: .ref r :: st) h = (is_ h r i x).bind fun h' => go d 73 43 ls st h' := go_iast ke_73_42
theorem ke_73_43 : alook 73 43 = some (43, .iinc 3 1, 3, (0, 0, 0, 0, 0), ⟨"", "", ""⟩, "") := rfl
theorem ee_73_43 {d : Nat} {h : aH} {l0 l1 l2 : Value} {x : Int32} {st : List Value} : go d 73 43 [l0, l1, l2, .int x] st h = go d 73 46 [l0, l1, l2, .int (x + 1)] st h := go_plain (q := (46, [l0, l1, l2, .int (x + 1)], st, h)) ke_73_43 rfl
theorem ke_73_46 : alook 73 46 = some (46, .goto (-18), 3, (28, 0, 0, 0, 0), ⟨"", "", ""⟩, "") := rfl
theorem ee_73_46 {d : Nat} {h : aH} {ls st : List Value} : go d 73 46 ls st h = go d 73 28 ls st h := go_plain (q := (28, ls, st, h)) ke_73_46 rfl
theorem ke_73_49 : alook 73 49 = some (49, .iload_n 2, 1, (0, 0, 0, 0, 0), ⟨"", "", ""⟩, "") := rfl
theorem ee_73_49 {d : Nat} {h : aH} {l0 l1 l3 : Value} {x : Int32} {st : List Value} : go d 73 49 [l0, l1, .int x, l3] st h = go d 73 50 [l0, l1, .int x, l3] (.int x :: st) h := go_plain (q := (50, [l0, l1, .int x, l3], (.int x :: st), h)) ke_73_49 rfl
theorem ke_73_50 : alook 73 50 = some (50, .ireturn, 1, (0, 0, 0, 0, 0), ⟨"", "", ""⟩, "") := rfl
theorem ee_73_50 {d : Nat} {ls : List Value} {h : aH} {v : Int32} : go d 73 50 ls [.int v] h = some (some (.int v), h) := go_iret ke_73_50
theorem ke_74_0 : alook 74 0 = some (0, .aload_n 0, 1, (0, 0, 0, 0, 0), ⟨"", "", ""⟩, "") := rfl
theorem ee_74_0 {d : Nat} {h : aH} {l1 l2 l3 : Value} {x : Nat} {st : List Value} : go d 74 0 [.ref x, l1, l2, l3] st h = go d 74 1 [.ref x, l1, l2, l3] (.ref x :: st) h := go_plain (q := (1, [.ref x, l1, l2, l3], (.ref x :: st), h)) ke_74_0 rfl
theorem ee_74_0N {d : Nat} {h : aH} {l1 l2 l3 : Value} {st : List Value} : go d 74 0 [.null, l1, l2, l3] st h = go d 74 1 [.null, l1, l2, l3] (.null :: st) h := go_plain (q := (1, [.null, l1, l2, l3], (.null :: st), h)) ke_74_0 rfl
theorem ke_74_1 : alook 74 1 = some (1, .iload_n 1, 1, (0, 0, 0, 0, 0), ⟨"", "", ""⟩, "") := rfl
theorem ee_74_1 {d : Nat} {h : aH} {l0 l2 l3 : Value} {x : Int32} {st : List Value} : go d 74 1 [l0, .int x, l2, l3] st h = go d 74 2 [l0, .int x, l2, l3] (.int x :: st) h := go_plain (q := (2, [l0, .int x, l2, l3], (.int x :: st), h)) ke_74_1 rfl
theorem ke_74_2 : alook 74 2 = some (2, .invokevirtual 40, 3, (1, 8, 67, 8, 67), ⟨"WordHidesModel", "isCell", "(I)Z"⟩, "") := rfl
theorem ee_74_2 {d : Nat} {ls : List Value} {h : aH} {i0 : Int32} {r1 : Nat} : go (d + 1) 74 2 ls [.int i0, .ref r1] h = if isC h r1 8 = true then (go d 67 0 [.ref r1, .int i0] [] h).bind (fun q => go (d + 1) 74 5 ls (q.1.toList ++ []) q.2) else none := go_cv1 (as := [.int i0]) (rest := []) (L := [.ref r1, .int i0]) ke_74_2 rfl rfl rfl
theorem ke_74_5 : alook 74 5 = some (5, .ifCond .ne 5, 3, (10, 0, 0, 0, 0), ⟨"", "", ""⟩, "") := rfl
theorem ee_74_5 {d : Nat} {ls st : List Value} {h : aH} {x : Int32} : go d 74 5 ls (.int x :: st) h = if ¬ x = 0 then go d 74 10 ls st h else go d 74 8 ls st h := go_c1 (go_if1 (tg := 10) (q := 8) (f := fun x => decide (¬ x = 0)) ke_74_5 rfl)
theorem ke_74_8 : alook 74 8 = some (8, .iconst (-1), 1, (0, 0, 0, 0, 0), ⟨"", "", ""⟩, "") := rfl
theorem ee_74_8 {d : Nat} {h : aH} {ls st : List Value} : go d 74 8 ls st h = go d 74 9 ls (.int (-1) :: st) h := go_plain (q := (9, ls, (.int (-1) :: st), h)) ke_74_8 rfl
theorem ke_74_9 : alook 74 9 = some (9, .ireturn, 1, (0, 0, 0, 0, 0), ⟨"", "", ""⟩, "") := rfl
theorem ee_74_9 {d : Nat} {ls : List Value} {h : aH} {v : Int32} : go d 74 9 ls [.int v] h = some (some (.int v), h) := go_iret ke_74_9
theorem ke_74_10 : alook 74 10 = some (10, .iload_n 2, 1, (0, 0, 0, 0, 0), ⟨"", "", ""⟩, "") := rfl
theorem ee_74_10 {d : Nat} {h : aH} {l0 l1 l3 : Value} {x : Int32} {st : List Value} : go d 74 10 [l0, l1, .int x, l3] st h = go d 74 11 [l0, l1, .int x, l3] (.int x :: st) h := go_plain (q := (11, [l0, l1, .int x, l3], (.int x :: st), h)) ke_74_10 rfl
theorem ke_74_11 : alook 74 11 = some (11, .ifCond .eq 13, 3, (24, 0, 0, 0, 0), ⟨"", "", ""⟩, "") := rfl
theorem ee_74_11 {d : Nat} {ls st : List Value} {h : aH} {x : Int32} : go d 74 11 ls (.int x :: st) h = if x = 0 then go d 74 24 ls st h else go d 74 14 ls st h := go_c1 (go_if1 (tg := 24) (q := 14) (f := fun x => decide (x = 0)) ke_74_11 rfl)
theorem ke_74_14 : alook 74 14 = some (14, .iload_n 2, 1, (0, 0, 0, 0, 0), ⟨"", "", ""⟩, "") := rfl
theorem ee_74_14 {d : Nat} {h : aH} {l0 l1 l3 : Value} {x : Int32} {st : List Value} : go d 74 14 [l0, l1, .int x, l3] st h = go d 74 15 [l0, l1, .int x, l3] (.int x :: st) h := go_plain (q := (15, [l0, l1, .int x, l3], (.int x :: st), h)) ke_74_14 rfl
theorem ke_74_15 : alook 74 15 = some (15, .invokestatic 44, 3, (1, 0, 68, 0, 0), ⟨"WordHidesModel", "isLetter", "(I)Z"⟩, "") := rfl
theorem ee_74_15 {d : Nat} {ls : List Value} {h : aH} {i0 : Int32} : go (d + 1) 74 15 ls [.int i0] h = (go d 68 0 [.int i0] [] h).bind (fun q => go (d + 1) 74 18 ls (q.1.toList ++ []) q.2) := go_cs (as := [.int i0]) (rest := []) (L := [.int i0]) ke_74_15 rfl rfl rfl
theorem ke_74_18 : alook 74 18 = some (18, .ifCond .ne 6, 3, (24, 0, 0, 0, 0), ⟨"", "", ""⟩, "") := rfl
theorem ee_74_18 {d : Nat} {ls st : List Value} {h : aH} {x : Int32} : go d 74 18 ls (.int x :: st) h = if ¬ x = 0 then go d 74 24 ls st h else go d 74 21 ls st h := go_c1 (go_if1 (tg := 24) (q := 21) (f := fun x => decide (¬ x = 0)) ke_74_18 rfl)
theorem ke_74_21 : alook 74 21 = some (21, .bipush (-2), 2, (0, 0, 0, 0, 0), ⟨"", "", ""⟩, "") := rfl
theorem ee_74_21 {d : Nat} {h : aH} {ls st : List Value} : go d 74 21 ls st h = go d 74 23 ls (.int (-2) :: st) h := go_plain (q := (23, ls, (.int (-2) :: st), h)) ke_74_21 rfl
theorem ke_74_23 : alook 74 23 = some (23, .ireturn, 1, (0, 0, 0, 0, 0), ⟨"", "", ""⟩, "") := rfl
theorem ee_74_23 {d : Nat} {ls : List Value} {h : aH} {v : Int32} : go d 74 23 ls [.int v] h = some (some (.int v), h) := go_iret ke_74_23
theorem ke_74_24 : alook 74 24 = some (24, .aload_n 0, 1, (0, 0, 0, 0, 0), ⟨"", "", ""⟩, "") := rfl
theorem ee_74_24 {d : Nat} {h : aH} {l1 l2 l3 : Value} {x : Nat} {st : List Value} : go d 74 24 [.ref x, l1, l2, l3] st h = go d 74 25 [.ref x, l1, l2, l3] (.ref x :: st) h := go_plain (q := (25, [.ref x, l1, l2, l3], (.ref x :: st), h)) ke_74_24 rfl
theorem ee_74_24N {d : Nat} {h : aH} {l1 l2 l3 : Value} {st : List Value} : go d 74 24 [.null, l1, l2, l3] st h = go d 74 25 [.null, l1, l2, l3] (.null :: st) h := go_plain (q := (25, [.null, l1, l2, l3], (.null :: st), h)) ke_74_24 rfl
theorem ke_74_25 : alook 74 25 = some (25, .getfield 7, 3, (0, 8, 8, 2, 0), ⟨"", "", ""⟩, "WordHidesModel") := rfl
theorem ee_74_25 {d : Nat} {ls st : List Value} {h : aH} {r : Nat} : go d 74 25 ls (.ref r :: st) h = (gf h r 0 8 8).bind fun z => go d 74 28 ls (z :: st) h := go_getf ke_74_25
theorem ke_74_28 : alook 74 28 = some (28, .iconst 1, 1, (0, 0, 0, 0, 0), ⟨"", "", ""⟩, "") := rfl
theorem ee_74_28 {d : Nat} {h : aH} {ls st : List Value} : go d 74 28 ls st h = go d 74 29 ls (.int 1 :: st) h := go_plain (q := (29, ls, (.int 1 :: st), h)) ke_74_28 rfl
theorem ke_74_29 : alook 74 29 = some (29, .iload_n 1, 1, (0, 0, 0, 0, 0), ⟨"", "", ""⟩, "") := rfl
theorem ee_74_29 {d : Nat} {h : aH} {l0 l2 l3 : Value} {x : Int32} {st : List Value} : go d 74 29 [l0, .int x, l2, l3] st h = go d 74 30 [l0, .int x, l2, l3] (.int x :: st) h := go_plain (q := (30, [l0, .int x, l2, l3], (.int x :: st), h)) ke_74_29 rfl
theorem ke_74_30 : alook 74 30 = some (30, .iadd, 1, (0, 0, 0, 0, 0), ⟨"", "", ""⟩, "") := rfl
theorem ee_74_30 {d : Nat} {h : aH} {ls st : List Value} {x y : Int32} : go d 74 30 ls (.int y :: .int x :: st) h = go d 74 31 ls (.int (x + y) :: st) h := go_plain (q := (31, ls, (.int (x + y) :: st), h)) ke_74_30 rfl
theorem ke_74_31 : alook 74 31 = some (31, .iaload, 1, (0, 0, 0, 0, 0), ⟨"", "", ""⟩, "") := rfl
theorem ee_74_31 {d : Nat} {ls st : List Value} {h : aH} {r : Nat} {i : Int32} : go d 74 31 ls (.int i :: .ref r :: st) h = (ia h r i).bind fun z => go d 74 32 ls (.int z :: st) h := go_iald ke_74_31
theorem ke_74_32 : alook 74 32 = some (32, .istore_n 3, 1, (0, 0, 0, 0, 0), ⟨"", "", ""⟩, "") := rfl
theorem ee_74_32 {d : Nat} {h : aH} {l0 l1 l2 l3 : Value} {x : Int32} {st : List Value} : go d 74 32 [l0, l1, l2, l3] (.int x :: st) h = go d 74 33 [l0, l1, l2, .int x] st h := go_plain (q := (33, [l0, l1, l2, .int x], st, h)) ke_74_32 rfl
theorem ke_74_33 : alook 74 33 = some (33, .aload_n 0, 1, (0, 0, 0, 0, 0), ⟨"", "", ""⟩, "") := rfl
theorem ee_74_33 {d : Nat} {h : aH} {l1 l2 l3 : Value} {x : Nat} {st : List Value} : go d 74 33 [.ref x, l1, l2, l3] st h = go d 74 34 [.ref x, l1, l2, l3] (.ref x :: st) h := go_plain (q := (34, [.ref x, l1, l2, l3], (.ref x :: st), h)) ke_74_33 rfl
theorem ee_74_33N {d : Nat} {h : aH} {l1 l2 l3 : Value} {st : List Value} : go d 74 33 [.null, l1, l2, l3] st h = go d 74 34 [.null, l1, l2, l3] (.null :: st) h := go_plain (q := (34, [.null, l1, l2, l3], (.null :: st), h)) ke_74_33 rfl
theorem ke_74_34 : alook 74 34 = some (34, .getfield 7, 3, (0, 8, 8, 2, 0), ⟨"", "", ""⟩, "WordHidesModel") := rfl
theorem ee_74_34 {d : Nat} {ls st : List Value} {h : aH} {r : Nat} : go d 74 34 ls (.ref r :: st) h = (gf h r 0 8 8).bind fun z => go d 74 37 ls (z :: st) h := go_getf ke_74_34
theorem ke_74_37 : alook 74 37 = some (37, .iconst 1, 1, (0, 0, 0, 0, 0), ⟨"", "", ""⟩, "") := rfl
theorem ee_74_37 {d : Nat} {h : aH} {ls st : List Value} : go d 74 37 ls st h = go d 74 38 ls (.int 1 :: st) h := go_plain (q := (38, ls, (.int 1 :: st), h)) ke_74_37 rfl
theorem ke_74_38 : alook 74 38 = some (38, .iload_n 1, 1, (0, 0, 0, 0, 0), ⟨"", "", ""⟩, "") := rfl
theorem ee_74_38 {d : Nat} {h : aH} {l0 l2 l3 : Value} {x : Int32} {st : List Value} : go d 74 38 [l0, .int x, l2, l3] st h = go d 74 39 [l0, .int x, l2, l3] (.int x :: st) h := go_plain (q := (39, [l0, .int x, l2, l3], (.int x :: st), h)) ke_74_38 rfl
theorem ke_74_39 : alook 74 39 = some (39, .iadd, 1, (0, 0, 0, 0, 0), ⟨"", "", ""⟩, "") := rfl
theorem ee_74_39 {d : Nat} {h : aH} {ls st : List Value} {x y : Int32} : go d 74 39 ls (.int y :: .int x :: st) h = go d 74 40 ls (.int (x + y) :: st) h := go_plain (q := (40, ls, (.int (x + y) :: st), h)) ke_74_39 rfl
theorem ke_74_40 : alook 74 40 = some (40, .iload_n 2, 1, (0, 0, 0, 0, 0), ⟨"", "", ""⟩, "") := rfl
theorem ee_74_40 {d : Nat} {h : aH} {l0 l1 l3 : Value} {x : Int32} {st : List Value} : go d 74 40 [l0, l1, .int x, l3] st h = go d 74 41 [l0, l1, .int x, l3] (.int x :: st) h := go_plain (q := (41, [l0, l1, .int x, l3], (.int x :: st), h)) ke_74_40 rfl
theorem ke_74_41 : alook 74 41 = some (41, .iastore, 1, (0, 0, 0, 0, 0), ⟨"", "", ""⟩, "") := rfl
theorem ee_74_41 {d : Nat} {ls st : List Value} {h : aH} {r : Nat} {i x : Int32} : go d 74 41 ls (.int x :: .int i :: .ref r :: st) h = (is_ h r i x).bind fun h' => go d 74 42 ls st h' := go_iast ke_74_41
theorem ke_74_42 : alook 74 42 = some (42, .iload_n 3, 1, (0, 0, 0, 0, 0), ⟨"", "", ""⟩, "") := rfl
theorem ee_74_42 {d : Nat} {h : aH} {l0 l1 l2 : Value} {x : Int32} {st : List Value} : go d 74 42 [l0, l1, l2, .int x] st h = go d 74 43 [l0, l1, l2, .int x] (.int x :: st) h := go_plain (q := (43, [l0, l1, l2, .int x], (.int x :: st), h)) ke_74_42 rfl
theorem ke_74_43 : alook 74 43 = some (43, .ireturn, 1, (0, 0, 0, 0, 0), ⟨"", "", ""⟩, "") := rfl
theorem ee_74_43 {d : Nat} {ls : List Value} {h : aH} {v : Int32} : go d 74 43 ls [.int v] h = some (some (.int v), h) := go_iret ke_74_43
theorem ke_75_0 : alook 75 0 = some (0, .aload_n 0, 1, (0, 0, 0, 0, 0), ⟨"", "", ""⟩, "") := rfl
theorem ee_75_0 {d : Nat} {h : aH} {l1 : Value} {x : Nat} {st : List Value} : go d 75 0 [.ref x, l1] st h = go d 75 1 [.ref x, l1] (.ref x :: st) h := go_plain (q := (1, [.ref x, l1], (.ref x :: st), h)) ke_75_0 rfl
theorem ee_75_0N {d : Nat} {h : aH} {l1 : Value} {st : List Value} : go d 75 0 [.null, l1] st h = go d 75 1 [.null, l1] (.null :: st) h := go_plain (q := (1, [.null, l1], (.null :: st), h)) ke_75_0 rfl
theorem ke_75_1 : alook 75 1 = some (1, .iload_n 1, 1, (0, 0, 0, 0, 0), ⟨"", "", ""⟩, "") := rfl
theorem ee_75_1 {d : Nat} {h : aH} {l0 : Value} {x : Int32} {st : List Value} : go d 75 1 [l0, .int x] st h = go d 75 2 [l0, .int x] (.int x :: st) h := go_plain (q := (2, [l0, .int x], (.int x :: st), h)) ke_75_1 rfl
theorem ke_75_2 : alook 75 2 = some (2, .invokevirtual 40, 3, (1, 8, 67, 8, 67), ⟨"WordHidesModel", "isCell", "(I)Z"⟩, "") := rfl
theorem ee_75_2 {d : Nat} {ls : List Value} {h : aH} {i0 : Int32} {r1 : Nat} : go (d + 1) 75 2 ls [.int i0, .ref r1] h = if isC h r1 8 = true then (go d 67 0 [.ref r1, .int i0] [] h).bind (fun q => go (d + 1) 75 5 ls (q.1.toList ++ []) q.2) else none := go_cv1 (as := [.int i0]) (rest := []) (L := [.ref r1, .int i0]) ke_75_2 rfl rfl rfl
theorem ke_75_5 : alook 75 5 = some (5, .ifCond .ne 5, 3, (10, 0, 0, 0, 0), ⟨"", "", ""⟩, "") := rfl
theorem ee_75_5 {d : Nat} {ls st : List Value} {h : aH} {x : Int32} : go d 75 5 ls (.int x :: st) h = if ¬ x = 0 then go d 75 10 ls st h else go d 75 8 ls st h := go_c1 (go_if1 (tg := 10) (q := 8) (f := fun x => decide (¬ x = 0)) ke_75_5 rfl)
theorem ke_75_8 : alook 75 8 = some (8, .iconst (-1), 1, (0, 0, 0, 0, 0), ⟨"", "", ""⟩, "") := rfl
theorem ee_75_8 {d : Nat} {h : aH} {ls st : List Value} : go d 75 8 ls st h = go d 75 9 ls (.int (-1) :: st) h := go_plain (q := (9, ls, (.int (-1) :: st), h)) ke_75_8 rfl
theorem ke_75_9 : alook 75 9 = some (9, .ireturn, 1, (0, 0, 0, 0, 0), ⟨"", "", ""⟩, "") := rfl
theorem ee_75_9 {d : Nat} {ls : List Value} {h : aH} {v : Int32} : go d 75 9 ls [.int v] h = some (some (.int v), h) := go_iret ke_75_9
theorem ke_75_10 : alook 75 10 = some (10, .aload_n 0, 1, (0, 0, 0, 0, 0), ⟨"", "", ""⟩, "") := rfl
theorem ee_75_10 {d : Nat} {h : aH} {l1 : Value} {x : Nat} {st : List Value} : go d 75 10 [.ref x, l1] st h = go d 75 11 [.ref x, l1] (.ref x :: st) h := go_plain (q := (11, [.ref x, l1], (.ref x :: st), h)) ke_75_10 rfl
theorem ee_75_10N {d : Nat} {h : aH} {l1 : Value} {st : List Value} : go d 75 10 [.null, l1] st h = go d 75 11 [.null, l1] (.null :: st) h := go_plain (q := (11, [.null, l1], (.null :: st), h)) ke_75_10 rfl
theorem ke_75_11 : alook 75 11 = some (11, .getfield 7, 3, (0, 8, 8, 2, 0), ⟨"", "", ""⟩, "WordHidesModel") := rfl
theorem ee_75_11 {d : Nat} {ls st : List Value} {h : aH} {r : Nat} : go d 75 11 ls (.ref r :: st) h = (gf h r 0 8 8).bind fun z => go d 75 14 ls (z :: st) h := go_getf ke_75_11
theorem ke_75_14 : alook 75 14 = some (14, .iconst 1, 1, (0, 0, 0, 0, 0), ⟨"", "", ""⟩, "") := rfl
theorem ee_75_14 {d : Nat} {h : aH} {ls st : List Value} : go d 75 14 ls st h = go d 75 15 ls (.int 1 :: st) h := go_plain (q := (15, ls, (.int 1 :: st), h)) ke_75_14 rfl
theorem ke_75_15 : alook 75 15 = some (15, .iload_n 1, 1, (0, 0, 0, 0, 0), ⟨"", "", ""⟩, "") := rfl
theorem ee_75_15 {d : Nat} {h : aH} {l0 : Value} {x : Int32} {st : List Value} : go d 75 15 [l0, .int x] st h = go d 75 16 [l0, .int x] (.int x :: st) h := go_plain (q := (16, [l0, .int x], (.int x :: st), h)) ke_75_15 rfl
theorem ke_75_16 : alook 75 16 = some (16, .iadd, 1, (0, 0, 0, 0, 0), ⟨"", "", ""⟩, "") := rfl
theorem ee_75_16 {d : Nat} {h : aH} {ls st : List Value} {x y : Int32} : go d 75 16 ls (.int y :: .int x :: st) h = go d 75 17 ls (.int (x + y) :: st) h := go_plain (q := (17, ls, (.int (x + y) :: st), h)) ke_75_16 rfl
theorem ke_75_17 : alook 75 17 = some (17, .iaload, 1, (0, 0, 0, 0, 0), ⟨"", "", ""⟩, "") := rfl
theorem ee_75_17 {d : Nat} {ls st : List Value} {h : aH} {r : Nat} {i : Int32} : go d 75 17 ls (.int i :: .ref r :: st) h = (ia h r i).bind fun z => go d 75 18 ls (.int z :: st) h := go_iald ke_75_17
theorem ke_75_18 : alook 75 18 = some (18, .ifCond .ne 8, 3, (26, 0, 0, 0, 0), ⟨"", "", ""⟩, "") := rfl
theorem ee_75_18 {d : Nat} {ls st : List Value} {h : aH} {x : Int32} : go d 75 18 ls (.int x :: st) h = if ¬ x = 0 then go d 75 26 ls st h else go d 75 21 ls st h := go_c1 (go_if1 (tg := 26) (q := 21) (f := fun x => decide (¬ x = 0)) ke_75_18 rfl)
theorem ke_75_21 : alook 75 21 = some (21, .bipush (-6), 2, (0, 0, 0, 0, 0), ⟨"", "", ""⟩, "") := rfl
theorem ee_75_21 {d : Nat} {h : aH} {ls st : List Value} : go d 75 21 ls st h = go d 75 23 ls (.int (-6) :: st) h := go_plain (q := (23, ls, (.int (-6) :: st), h)) ke_75_21 rfl
theorem ke_75_23 : alook 75 23 = some (23, .goto 11, 3, (34, 0, 0, 0, 0), ⟨"", "", ""⟩, "") := rfl
theorem ee_75_23 {d : Nat} {h : aH} {ls st : List Value} : go d 75 23 ls st h = go d 75 34 ls st h := go_plain (q := (34, ls, st, h)) ke_75_23 rfl
theorem ke_75_26 : alook 75 26 = some (26, .aload_n 0, 1, (0, 0, 0, 0, 0), ⟨"", "", ""⟩, "") := rfl
theorem ee_75_26 {d : Nat} {h : aH} {l1 : Value} {x : Nat} {st : List Value} : go d 75 26 [.ref x, l1] st h = go d 75 27 [.ref x, l1] (.ref x :: st) h := go_plain (q := (27, [.ref x, l1], (.ref x :: st), h)) ke_75_26 rfl
theorem ee_75_26N {d : Nat} {h : aH} {l1 : Value} {st : List Value} : go d 75 26 [.null, l1] st h = go d 75 27 [.null, l1] (.null :: st) h := go_plain (q := (27, [.null, l1], (.null :: st), h)) ke_75_26 rfl
theorem ke_75_27 : alook 75 27 = some (27, .getfield 7, 3, (0, 8, 8, 2, 0), ⟨"", "", ""⟩, "WordHidesModel") := rfl
theorem ee_75_27 {d : Nat} {ls st : List Value} {h : aH} {r : Nat} : go d 75 27 ls (.ref r :: st) h = (gf h r 0 8 8).bind fun z => go d 75 30 ls (z :: st) h := go_getf ke_75_27
theorem ke_75_30 : alook 75 30 = some (30, .iconst 1, 1, (0, 0, 0, 0, 0), ⟨"", "", ""⟩, "") := rfl
theorem ee_75_30 {d : Nat} {h : aH} {ls st : List Value} : go d 75 30 ls st h = go d 75 31 ls (.int 1 :: st) h := go_plain (q := (31, ls, (.int 1 :: st), h)) ke_75_30 rfl
theorem ke_75_31 : alook 75 31 = some (31, .iload_n 1, 1, (0, 0, 0, 0, 0), ⟨"", "", ""⟩, "") := rfl
theorem ee_75_31 {d : Nat} {h : aH} {l0 : Value} {x : Int32} {st : List Value} : go d 75 31 [l0, .int x] st h = go d 75 32 [l0, .int x] (.int x :: st) h := go_plain (q := (32, [l0, .int x], (.int x :: st), h)) ke_75_31 rfl
theorem ke_75_32 : alook 75 32 = some (32, .iadd, 1, (0, 0, 0, 0, 0), ⟨"", "", ""⟩, "") := rfl
theorem ee_75_32 {d : Nat} {h : aH} {ls st : List Value} {x y : Int32} : go d 75 32 ls (.int y :: .int x :: st) h = go d 75 33 ls (.int (x + y) :: st) h := go_plain (q := (33, ls, (.int (x + y) :: st), h)) ke_75_32 rfl
theorem ke_75_33 : alook 75 33 = some (33, .iaload, 1, (0, 0, 0, 0, 0), ⟨"", "", ""⟩, "") := rfl
theorem ee_75_33 {d : Nat} {ls st : List Value} {h : aH} {r : Nat} {i : Int32} : go d 75 33 ls (.int i :: .ref r :: st) h = (ia h r i).bind fun z => go d 75 34 ls (.int z :: st) h := go_iald ke_75_33
theorem ke_75_34 : alook 75 34 = some (34, .ireturn, 1, (0, 0, 0, 0, 0), ⟨"", "", ""⟩, "") := rfl
theorem ee_75_34 {d : Nat} {ls : List Value} {h : aH} {v : Int32} : go d 75 34 ls [.int v] h = some (some (.int v), h) := go_iret ke_75_34
theorem ke_76_0 : alook 76 0 = some (0, .iload_n 1, 1, (0, 0, 0, 0, 0), ⟨"", "", ""⟩, "") := rfl
theorem ee_76_0 {d : Nat} {h : aH} {l0 : Value} {x : Int32} {st : List Value} : go d 76 0 [l0, .int x] st h = go d 76 1 [l0, .int x] (.int x :: st) h := go_plain (q := (1, [l0, .int x], (.int x :: st), h)) ke_76_0 rfl
theorem ke_76_1 : alook 76 1 = some (1, .invokestatic 44, 3, (1, 0, 68, 0, 0), ⟨"WordHidesModel", "isLetter", "(I)Z"⟩, "") := rfl
theorem ee_76_1 {d : Nat} {ls : List Value} {h : aH} {i0 : Int32} : go (d + 1) 76 1 ls [.int i0] h = (go d 68 0 [.int i0] [] h).bind (fun q => go (d + 1) 76 4 ls (q.1.toList ++ []) q.2) := go_cs (as := [.int i0]) (rest := []) (L := [.int i0]) ke_76_1 rfl rfl rfl
theorem ke_76_4 : alook 76 4 = some (4, .ifCond .ne 6, 3, (10, 0, 0, 0, 0), ⟨"", "", ""⟩, "") := rfl
theorem ee_76_4 {d : Nat} {ls st : List Value} {h : aH} {x : Int32} : go d 76 4 ls (.int x :: st) h = if ¬ x = 0 then go d 76 10 ls st h else go d 76 7 ls st h := go_c1 (go_if1 (tg := 10) (q := 7) (f := fun x => decide (¬ x = 0)) ke_76_4 rfl)
theorem ke_76_7 : alook 76 7 = some (7, .bipush (-2), 2, (0, 0, 0, 0, 0), ⟨"", "", ""⟩, "") := rfl
theorem ee_76_7 {d : Nat} {h : aH} {ls st : List Value} : go d 76 7 ls st h = go d 76 9 ls (.int (-2) :: st) h := go_plain (q := (9, ls, (.int (-2) :: st), h)) ke_76_7 rfl
theorem ke_76_9 : alook 76 9 = some (9, .ireturn, 1, (0, 0, 0, 0, 0), ⟨"", "", ""⟩, "") := rfl
theorem ee_76_9 {d : Nat} {ls : List Value} {h : aH} {v : Int32} : go d 76 9 ls [.int v] h = some (some (.int v), h) := go_iret ke_76_9
theorem ke_76_10 : alook 76 10 = some (10, .aload_n 0, 1, (0, 0, 0, 0, 0), ⟨"", "", ""⟩, "") := rfl
theorem ee_76_10 {d : Nat} {h : aH} {l1 : Value} {x : Nat} {st : List Value} : go d 76 10 [.ref x, l1] st h = go d 76 11 [.ref x, l1] (.ref x :: st) h := go_plain (q := (11, [.ref x, l1], (.ref x :: st), h)) ke_76_10 rfl
theorem ee_76_10N {d : Nat} {h : aH} {l1 : Value} {st : List Value} : go d 76 10 [.null, l1] st h = go d 76 11 [.null, l1] (.null :: st) h := go_plain (q := (11, [.null, l1], (.null :: st), h)) ke_76_10 rfl
theorem ke_76_11 : alook 76 11 = some (11, .getfield 47, 3, (4, 8, 8, 0, 0), ⟨"", "", ""⟩, "WordHidesModel") := rfl
theorem ee_76_11 {d : Nat} {ls st : List Value} {h : aH} {r : Nat} : go d 76 11 ls (.ref r :: st) h = (gf h r 4 8 8).bind fun z => go d 76 14 ls (z :: st) h := go_getf ke_76_11
theorem ke_76_14 : alook 76 14 = some (14, .bipush 16, 2, (0, 0, 0, 0, 0), ⟨"", "", ""⟩, "") := rfl
theorem ee_76_14 {d : Nat} {h : aH} {ls st : List Value} : go d 76 14 ls st h = go d 76 16 ls (.int 16 :: st) h := go_plain (q := (16, ls, (.int 16 :: st), h)) ke_76_14 rfl
theorem ke_76_16 : alook 76 16 = some (16, .if_icmp .ne 6, 3, (22, 0, 0, 0, 0), ⟨"", "", ""⟩, "") := rfl
theorem ee_76_16 {d : Nat} {ls st : List Value} {h : aH} {x y : Int32} : go d 76 16 ls (.int y :: .int x :: st) h = if ¬ x = y then go d 76 22 ls st h else go d 76 19 ls st h := go_ci (go_if2 (tg := 22) (q := 19) (f := fun x y => decide (¬ x = y)) ke_76_16 rfl)
theorem ke_76_19 : alook 76 19 = some (19, .bipush (-4), 2, (0, 0, 0, 0, 0), ⟨"", "", ""⟩, "") := rfl
theorem ee_76_19 {d : Nat} {h : aH} {ls st : List Value} : go d 76 19 ls st h = go d 76 21 ls (.int (-4) :: st) h := go_plain (q := (21, ls, (.int (-4) :: st), h)) ke_76_19 rfl
theorem ke_76_21 : alook 76 21 = some (21, .ireturn, 1, (0, 0, 0, 0, 0), ⟨"", "", ""⟩, "") := rfl
theorem ee_76_21 {d : Nat} {ls : List Value} {h : aH} {v : Int32} : go d 76 21 ls [.int v] h = some (some (.int v), h) := go_iret ke_76_21
theorem ke_76_22 : alook 76 22 = some (22, .aload_n 0, 1, (0, 0, 0, 0, 0), ⟨"", "", ""⟩, "") := rfl
theorem ee_76_22 {d : Nat} {h : aH} {l1 : Value} {x : Nat} {st : List Value} : go d 76 22 [.ref x, l1] st h = go d 76 23 [.ref x, l1] (.ref x :: st) h := go_plain (q := (23, [.ref x, l1], (.ref x :: st), h)) ke_76_22 rfl
theorem ee_76_22N {d : Nat} {h : aH} {l1 : Value} {st : List Value} : go d 76 22 [.null, l1] st h = go d 76 23 [.null, l1] (.null :: st) h := go_plain (q := (23, [.null, l1], (.null :: st), h)) ke_76_22 rfl
theorem ke_76_23 : alook 76 23 = some (23, .getfield 20, 3, (3, 8, 8, 2, 0), ⟨"", "", ""⟩, "WordHidesModel") := rfl
theorem ee_76_23 {d : Nat} {ls st : List Value} {h : aH} {r : Nat} : go d 76 23 ls (.ref r :: st) h = (gf h r 3 8 8).bind fun z => go d 76 26 ls (z :: st) h := go_getf ke_76_23
theorem ke_76_26 : alook 76 26 = some (26, .aload_n 0, 1, (0, 0, 0, 0, 0), ⟨"", "", ""⟩, "") := rfl
theorem ee_76_26 {d : Nat} {h : aH} {l1 : Value} {x : Nat} {st : List Value} : go d 76 26 [.ref x, l1] st h = go d 76 27 [.ref x, l1] (.ref x :: st) h := go_plain (q := (27, [.ref x, l1], (.ref x :: st), h)) ke_76_26 rfl
theorem ee_76_26N {d : Nat} {h : aH} {l1 : Value} {st : List Value} : go d 76 26 [.null, l1] st h = go d 76 27 [.null, l1] (.null :: st) h := go_plain (q := (27, [.null, l1], (.null :: st), h)) ke_76_26 rfl
theorem ke_76_27 : alook 76 27 = some (27, .getfield 47, 3, (4, 8, 8, 0, 0), ⟨"", "", ""⟩, "WordHidesModel") := rfl
theorem ee_76_27 {d : Nat} {ls st : List Value} {h : aH} {r : Nat} : go d 76 27 ls (.ref r :: st) h = (gf h r 4 8 8).bind fun z => go d 76 30 ls (z :: st) h := go_getf ke_76_27
theorem ke_76_30 : alook 76 30 = some (30, .iload_n 1, 1, (0, 0, 0, 0, 0), ⟨"", "", ""⟩, "") := rfl
theorem ee_76_30 {d : Nat} {h : aH} {l0 : Value} {x : Int32} {st : List Value} : go d 76 30 [l0, .int x] st h = go d 76 31 [l0, .int x] (.int x :: st) h := go_plain (q := (31, [l0, .int x], (.int x :: st), h)) ke_76_30 rfl
theorem ke_76_31 : alook 76 31 = some (31, .iastore, 1, (0, 0, 0, 0, 0), ⟨"", "", ""⟩, "") := rfl
theorem ee_76_31 {d : Nat} {ls st : List Value} {h : aH} {r : Nat} {i x : Int32} : go d 76 31 ls (.int x :: .int i :: .ref r :: st) h = (is_ h r i x).bind fun h' => go d 76 32 ls st h' := go_iast ke_76_31
theorem ke_76_32 : alook 76 32 = some (32, .aload_n 0, 1, (0, 0, 0, 0, 0), ⟨"", "", ""⟩, "") := rfl
theorem ee_76_32 {d : Nat} {h : aH} {l1 : Value} {x : Nat} {st : List Value} : go d 76 32 [.ref x, l1] st h = go d 76 33 [.ref x, l1] (.ref x :: st) h := go_plain (q := (33, [.ref x, l1], (.ref x :: st), h)) ke_76_32 rfl
theorem ee_76_32N {d : Nat} {h : aH} {l1 : Value} {st : List Value} : go d 76 32 [.null, l1] st h = go d 76 33 [.null, l1] (.null :: st) h := go_plain (q := (33, [.null, l1], (.null :: st), h)) ke_76_32 rfl
theorem ke_76_33 : alook 76 33 = some (33, .dup, 1, (0, 0, 0, 0, 0), ⟨"", "", ""⟩, "") := rfl
theorem ee_76_33 {d : Nat} {h : aH} {ls st : List Value} {x : Nat} : go d 76 33 ls (.ref x :: st) h = go d 76 34 ls (.ref x :: .ref x :: st) h := go_plain (q := (34, ls, (.ref x :: .ref x :: st), h)) ke_76_33 rfl
theorem ke_76_34 : alook 76 34 = some (34, .getfield 47, 3, (4, 8, 8, 0, 0), ⟨"", "", ""⟩, "WordHidesModel") := rfl
theorem ee_76_34 {d : Nat} {ls st : List Value} {h : aH} {r : Nat} : go d 76 34 ls (.ref r :: st) h = (gf h r 4 8 8).bind fun z => go d 76 37 ls (z :: st) h := go_getf ke_76_34
theorem ke_76_37 : alook 76 37 = some (37, .iconst 1, 1, (0, 0, 0, 0, 0), ⟨"", "", ""⟩, "") := rfl
theorem ee_76_37 {d : Nat} {h : aH} {ls st : List Value} : go d 76 37 ls st h = go d 76 38 ls (.int 1 :: st) h := go_plain (q := (38, ls, (.int 1 :: st), h)) ke_76_37 rfl
theorem ke_76_38 : alook 76 38 = some (38, .iadd, 1, (0, 0, 0, 0, 0), ⟨"", "", ""⟩, "") := rfl
theorem ee_76_38 {d : Nat} {h : aH} {ls st : List Value} {x y : Int32} : go d 76 38 ls (.int y :: .int x :: st) h = go d 76 39 ls (.int (x + y) :: st) h := go_plain (q := (39, ls, (.int (x + y) :: st), h)) ke_76_38 rfl
theorem ke_76_39 : alook 76 39 = some (39, .putfield 47, 3, (4, 8, 8, 0, 0), ⟨"", "", ""⟩, "WordHidesModel") := rfl
theorem ee_76_39 {d : Nat} {ls st : List Value} {h : aH} {r : Nat} {w : Value} : go d 76 39 ls (w :: .ref r :: st) h = (pf h r 4 8 8 0 w).bind fun h' => go d 76 42 ls st h' := go_putf ke_76_39
theorem ke_76_42 : alook 76 42 = some (42, .aload_n 0, 1, (0, 0, 0, 0, 0), ⟨"", "", ""⟩, "") := rfl
theorem ee_76_42 {d : Nat} {h : aH} {l1 : Value} {x : Nat} {st : List Value} : go d 76 42 [.ref x, l1] st h = go d 76 43 [.ref x, l1] (.ref x :: st) h := go_plain (q := (43, [.ref x, l1], (.ref x :: st), h)) ke_76_42 rfl
theorem ee_76_42N {d : Nat} {h : aH} {l1 : Value} {st : List Value} : go d 76 42 [.null, l1] st h = go d 76 43 [.null, l1] (.null :: st) h := go_plain (q := (43, [.null, l1], (.null :: st), h)) ke_76_42 rfl
theorem ke_76_43 : alook 76 43 = some (43, .getfield 47, 3, (4, 8, 8, 0, 0), ⟨"", "", ""⟩, "WordHidesModel") := rfl
theorem ee_76_43 {d : Nat} {ls st : List Value} {h : aH} {r : Nat} : go d 76 43 ls (.ref r :: st) h = (gf h r 4 8 8).bind fun z => go d 76 46 ls (z :: st) h := go_getf ke_76_43
theorem ke_76_46 : alook 76 46 = some (46, .ireturn, 1, (0, 0, 0, 0, 0), ⟨"", "", ""⟩, "") := rfl
theorem ee_76_46 {d : Nat} {ls : List Value} {h : aH} {v : Int32} : go d 76 46 ls [.int v] h = some (some (.int v), h) := go_iret ke_76_46
theorem ke_77_0 : alook 77 0 = some (0, .aload_n 0, 1, (0, 0, 0, 0, 0), ⟨"", "", ""⟩, "") := rfl
theorem ee_77_0 {d : Nat} {h : aH} {l1 : Value} {x : Nat} {st : List Value} : go d 77 0 [.ref x, l1] st h = go d 77 1 [.ref x, l1] (.ref x :: st) h := go_plain (q := (1, [.ref x, l1], (.ref x :: st), h)) ke_77_0 rfl
theorem ee_77_0N {d : Nat} {h : aH} {l1 : Value} {st : List Value} : go d 77 0 [.null, l1] st h = go d 77 1 [.null, l1] (.null :: st) h := go_plain (q := (1, [.null, l1], (.null :: st), h)) ke_77_0 rfl
theorem ke_77_1 : alook 77 1 = some (1, .getfield 47, 3, (4, 8, 8, 0, 0), ⟨"", "", ""⟩, "WordHidesModel") := rfl
theorem ee_77_1 {d : Nat} {ls st : List Value} {h : aH} {r : Nat} : go d 77 1 ls (.ref r :: st) h = (gf h r 4 8 8).bind fun z => go d 77 4 ls (z :: st) h := go_getf ke_77_1
theorem ke_77_4 : alook 77 4 = some (4, .istore_n 1, 1, (0, 0, 0, 0, 0), ⟨"", "", ""⟩, "") := rfl
theorem ee_77_4 {d : Nat} {h : aH} {l0 l1 : Value} {x : Int32} {st : List Value} : go d 77 4 [l0, l1] (.int x :: st) h = go d 77 5 [l0, .int x] st h := go_plain (q := (5, [l0, .int x], st, h)) ke_77_4 rfl
theorem ke_77_5 : alook 77 5 = some (5, .aload_n 0, 1, (0, 0, 0, 0, 0), ⟨"", "", ""⟩, "") := rfl
theorem ee_77_5 {d : Nat} {h : aH} {l1 : Value} {x : Nat} {st : List Value} : go d 77 5 [.ref x, l1] st h = go d 77 6 [.ref x, l1] (.ref x :: st) h := go_plain (q := (6, [.ref x, l1], (.ref x :: st), h)) ke_77_5 rfl
theorem ee_77_5N {d : Nat} {h : aH} {l1 : Value} {st : List Value} : go d 77 5 [.null, l1] st h = go d 77 6 [.null, l1] (.null :: st) h := go_plain (q := (6, [.null, l1], (.null :: st), h)) ke_77_5 rfl
theorem ke_77_6 : alook 77 6 = some (6, .iconst 0, 1, (0, 0, 0, 0, 0), ⟨"", "", ""⟩, "") := rfl
theorem ee_77_6 {d : Nat} {h : aH} {ls st : List Value} : go d 77 6 ls st h = go d 77 7 ls (.int 0 :: st) h := go_plain (q := (7, ls, (.int 0 :: st), h)) ke_77_6 rfl
theorem ke_77_7 : alook 77 7 = some (7, .putfield 47, 3, (4, 8, 8, 0, 0), ⟨"", "", ""⟩, "WordHidesModel") := rfl
theorem ee_77_7 {d : Nat} {ls st : List Value} {h : aH} {r : Nat} {w : Value} : go d 77 7 ls (w :: .ref r :: st) h = (pf h r 4 8 8 0 w).bind fun h' => go d 77 10 ls st h' := go_putf ke_77_7
theorem ke_77_10 : alook 77 10 = some (10, .iload_n 1, 1, (0, 0, 0, 0, 0), ⟨"", "", ""⟩, "") := rfl
theorem ee_77_10 {d : Nat} {h : aH} {l0 : Value} {x : Int32} {st : List Value} : go d 77 10 [l0, .int x] st h = go d 77 11 [l0, .int x] (.int x :: st) h := go_plain (q := (11, [l0, .int x], (.int x :: st), h)) ke_77_10 rfl
theorem ke_77_11 : alook 77 11 = some (11, .ireturn, 1, (0, 0, 0, 0, 0), ⟨"", "", ""⟩, "") := rfl
theorem ee_77_11 {d : Nat} {ls : List Value} {h : aH} {v : Int32} : go d 77 11 ls [.int v] h = some (some (.int v), h) := go_iret ke_77_11
theorem ke_78_0 : alook 78 0 = some (0, .iconst 0, 1, (0, 0, 0, 0, 0), ⟨"", "", ""⟩, "") := rfl
theorem ee_78_0 {d : Nat} {h : aH} {ls st : List Value} : go d 78 0 ls st h = go d 78 1 ls (.int 0 :: st) h := go_plain (q := (1, ls, (.int 0 :: st), h)) ke_78_0 rfl
theorem ke_78_1 : alook 78 1 = some (1, .istore_n 1, 1, (0, 0, 0, 0, 0), ⟨"", "", ""⟩, "") := rfl
theorem ee_78_1 {d : Nat} {h : aH} {l0 l1 : Value} {x : Int32} {st : List Value} : go d 78 1 [l0, l1] (.int x :: st) h = go d 78 2 [l0, .int x] st h := go_plain (q := (2, [l0, .int x], st, h)) ke_78_1 rfl
theorem ke_78_2 : alook 78 2 = some (2, .iload_n 1, 1, (0, 0, 0, 0, 0), ⟨"", "", ""⟩, "") := rfl
theorem ee_78_2 {d : Nat} {h : aH} {l0 : Value} {x : Int32} {st : List Value} : go d 78 2 [l0, .int x] st h = go d 78 3 [l0, .int x] (.int x :: st) h := go_plain (q := (3, [l0, .int x], (.int x :: st), h)) ke_78_2 rfl
theorem ke_78_3 : alook 78 3 = some (3, .aload_n 0, 1, (0, 0, 0, 0, 0), ⟨"", "", ""⟩, "") := rfl
theorem ee_78_3 {d : Nat} {h : aH} {l1 : Value} {x : Nat} {st : List Value} : go d 78 3 [.ref x, l1] st h = go d 78 4 [.ref x, l1] (.ref x :: st) h := go_plain (q := (4, [.ref x, l1], (.ref x :: st), h)) ke_78_3 rfl
theorem ee_78_3N {d : Nat} {h : aH} {l1 : Value} {st : List Value} : go d 78 3 [.null, l1] st h = go d 78 4 [.null, l1] (.null :: st) h := go_plain (q := (4, [.null, l1], (.null :: st), h)) ke_78_3 rfl
theorem ke_78_4 : alook 78 4 = some (4, .getfield 47, 3, (4, 8, 8, 0, 0), ⟨"", "", ""⟩, "WordHidesModel") := rfl
theorem ee_78_4 {d : Nat} {ls st : List Value} {h : aH} {r : Nat} : go d 78 4 ls (.ref r :: st) h = (gf h r 4 8 8).bind fun z => go d 78 7 ls (z :: st) h := go_getf ke_78_4
theorem ke_78_7 : alook 78 7 = some (7, .if_icmp .ge 24, 3, (31, 0, 0, 0, 0), ⟨"", "", ""⟩, "") := rfl
theorem ee_78_7 {d : Nat} {ls st : List Value} {h : aH} {x y : Int32} : go d 78 7 ls (.int y :: .int x :: st) h = if y ≤ x then go d 78 31 ls st h else go d 78 10 ls st h := go_ci (go_if2 (tg := 31) (q := 10) (f := fun x y => decide (y ≤ x)) ke_78_7 rfl)
theorem ke_78_10 : alook 78 10 = some (10, .aload_n 0, 1, (0, 0, 0, 0, 0), ⟨"", "", ""⟩, "") := rfl
theorem ee_78_10 {d : Nat} {h : aH} {l1 : Value} {x : Nat} {st : List Value} : go d 78 10 [.ref x, l1] st h = go d 78 11 [.ref x, l1] (.ref x :: st) h := go_plain (q := (11, [.ref x, l1], (.ref x :: st), h)) ke_78_10 rfl
theorem ee_78_10N {d : Nat} {h : aH} {l1 : Value} {st : List Value} : go d 78 10 [.null, l1] st h = go d 78 11 [.null, l1] (.null :: st) h := go_plain (q := (11, [.null, l1], (.null :: st), h)) ke_78_10 rfl
theorem ke_78_11 : alook 78 11 = some (11, .getfield 7, 3, (0, 8, 8, 2, 0), ⟨"", "", ""⟩, "WordHidesModel") := rfl
theorem ee_78_11 {d : Nat} {ls st : List Value} {h : aH} {r : Nat} : go d 78 11 ls (.ref r :: st) h = (gf h r 0 8 8).bind fun z => go d 78 14 ls (z :: st) h := go_getf ke_78_11
theorem ke_78_14 : alook 78 14 = some (14, .bipush 17, 2, (0, 0, 0, 0, 0), ⟨"", "", ""⟩, "") := rfl
theorem ee_78_14 {d : Nat} {h : aH} {ls st : List Value} : go d 78 14 ls st h = go d 78 16 ls (.int 17 :: st) h := go_plain (q := (16, ls, (.int 17 :: st), h)) ke_78_14 rfl
theorem ke_78_16 : alook 78 16 = some (16, .iload_n 1, 1, (0, 0, 0, 0, 0), ⟨"", "", ""⟩, "") := rfl
theorem ee_78_16 {d : Nat} {h : aH} {l0 : Value} {x : Int32} {st : List Value} : go d 78 16 [l0, .int x] st h = go d 78 17 [l0, .int x] (.int x :: st) h := go_plain (q := (17, [l0, .int x], (.int x :: st), h)) ke_78_16 rfl
theorem ke_78_17 : alook 78 17 = some (17, .iadd, 1, (0, 0, 0, 0, 0), ⟨"", "", ""⟩, "") := rfl
theorem ee_78_17 {d : Nat} {h : aH} {ls st : List Value} {x y : Int32} : go d 78 17 ls (.int y :: .int x :: st) h = go d 78 18 ls (.int (x + y) :: st) h := go_plain (q := (18, ls, (.int (x + y) :: st), h)) ke_78_17 rfl
theorem ke_78_18 : alook 78 18 = some (18, .aload_n 0, 1, (0, 0, 0, 0, 0), ⟨"", "", ""⟩, "") := rfl
theorem ee_78_18 {d : Nat} {h : aH} {l1 : Value} {x : Nat} {st : List Value} : go d 78 18 [.ref x, l1] st h = go d 78 19 [.ref x, l1] (.ref x :: st) h := go_plain (q := (19, [.ref x, l1], (.ref x :: st), h)) ke_78_18 rfl
theorem ee_78_18N {d : Nat} {h : aH} {l1 : Value} {st : List Value} : go d 78 18 [.null, l1] st h = go d 78 19 [.null, l1] (.null :: st) h := go_plain (q := (19, [.null, l1], (.null :: st), h)) ke_78_18 rfl
theorem ke_78_19 : alook 78 19 = some (19, .getfield 20, 3, (3, 8, 8, 2, 0), ⟨"", "", ""⟩, "WordHidesModel") := rfl
theorem ee_78_19 {d : Nat} {ls st : List Value} {h : aH} {r : Nat} : go d 78 19 ls (.ref r :: st) h = (gf h r 3 8 8).bind fun z => go d 78 22 ls (z :: st) h := go_getf ke_78_19
theorem ke_78_22 : alook 78 22 = some (22, .iload_n 1, 1, (0, 0, 0, 0, 0), ⟨"", "", ""⟩, "") := rfl
theorem ee_78_22 {d : Nat} {h : aH} {l0 : Value} {x : Int32} {st : List Value} : go d 78 22 [l0, .int x] st h = go d 78 23 [l0, .int x] (.int x :: st) h := go_plain (q := (23, [l0, .int x], (.int x :: st), h)) ke_78_22 rfl
theorem ke_78_23 : alook 78 23 = some (23, .iaload, 1, (0, 0, 0, 0, 0), ⟨"", "", ""⟩, "") := rfl
theorem ee_78_23 {d : Nat} {ls st : List Value} {h : aH} {r : Nat} {i : Int32} : go d 78 23 ls (.int i :: .ref r :: st) h = (ia h r i).bind fun z => go d 78 24 ls (.int z :: st) h := go_iald ke_78_23
theorem ke_78_24 : alook 78 24 = some (24, .iastore, 1, (0, 0, 0, 0, 0), ⟨"", "", ""⟩, "") := rfl
theorem ee_78_24 {d : Nat} {ls st : List Value} {h : aH} {r : Nat} {i x : Int32} : go d 78 24 ls (.int x :: .int i :: .ref r :: st) h = (is_ h r i x).bind fun h' => go d 78 25 ls st h' := go_iast ke_78_24
theorem ke_78_25 : alook 78 25 = some (25, .iinc 1 1, 3, (0, 0, 0, 0, 0), ⟨"", "", ""⟩, "") := rfl
theorem ee_78_25 {d : Nat} {h : aH} {l0 : Value} {x : Int32} {st : List Value} : go d 78 25 [l0, .int x] st h = go d 78 28 [l0, .int (x + 1)] st h := go_plain (q := (28, [l0, .int (x + 1)], st, h)) ke_78_25 rfl
theorem ke_78_28 : alook 78 28 = some (28, .goto (-26), 3, (2, 0, 0, 0, 0), ⟨"", "", ""⟩, "") := rfl
theorem ee_78_28 {d : Nat} {h : aH} {ls st : List Value} : go d 78 28 ls st h = go d 78 2 ls st h := go_plain (q := (2, ls, st, h)) ke_78_28 rfl
theorem ke_78_31 : alook 78 31 = some (31, .aload_n 0, 1, (0, 0, 0, 0, 0), ⟨"", "", ""⟩, "") := rfl
theorem ee_78_31 {d : Nat} {h : aH} {l1 : Value} {x : Nat} {st : List Value} : go d 78 31 [.ref x, l1] st h = go d 78 32 [.ref x, l1] (.ref x :: st) h := go_plain (q := (32, [.ref x, l1], (.ref x :: st), h)) ke_78_31 rfl
theorem ee_78_31N {d : Nat} {h : aH} {l1 : Value} {st : List Value} : go d 78 31 [.null, l1] st h = go d 78 32 [.null, l1] (.null :: st) h := go_plain (q := (32, [.null, l1], (.null :: st), h)) ke_78_31 rfl
theorem ke_78_32 : alook 78 32 = some (32, .getfield 7, 3, (0, 8, 8, 2, 0), ⟨"", "", ""⟩, "WordHidesModel") := rfl
theorem ee_78_32 {d : Nat} {ls st : List Value} {h : aH} {r : Nat} : go d 78 32 ls (.ref r :: st) h = (gf h r 0 8 8).bind fun z => go d 78 35 ls (z :: st) h := go_getf ke_78_32
theorem ke_78_35 : alook 78 35 = some (35, .bipush 26, 2, (0, 0, 0, 0, 0), ⟨"", "", ""⟩, "") := rfl
theorem ee_78_35 {d : Nat} {h : aH} {ls st : List Value} : go d 78 35 ls st h = go d 78 37 ls (.int 26 :: st) h := go_plain (q := (37, ls, (.int 26 :: st), h)) ke_78_35 rfl
theorem ke_78_37 : alook 78 37 = some (37, .aload_n 0, 1, (0, 0, 0, 0, 0), ⟨"", "", ""⟩, "") := rfl
theorem ee_78_37 {d : Nat} {h : aH} {l1 : Value} {x : Nat} {st : List Value} : go d 78 37 [.ref x, l1] st h = go d 78 38 [.ref x, l1] (.ref x :: st) h := go_plain (q := (38, [.ref x, l1], (.ref x :: st), h)) ke_78_37 rfl
theorem ee_78_37N {d : Nat} {h : aH} {l1 : Value} {st : List Value} : go d 78 37 [.null, l1] st h = go d 78 38 [.null, l1] (.null :: st) h := go_plain (q := (38, [.null, l1], (.null :: st), h)) ke_78_37 rfl
theorem ke_78_38 : alook 78 38 = some (38, .getfield 47, 3, (4, 8, 8, 0, 0), ⟨"", "", ""⟩, "WordHidesModel") := rfl
theorem ee_78_38 {d : Nat} {ls st : List Value} {h : aH} {r : Nat} : go d 78 38 ls (.ref r :: st) h = (gf h r 4 8 8).bind fun z => go d 78 41 ls (z :: st) h := go_getf ke_78_38
theorem ke_78_41 : alook 78 41 = some (41, .iastore, 1, (0, 0, 0, 0, 0), ⟨"", "", ""⟩, "") := rfl
theorem ee_78_41 {d : Nat} {ls st : List Value} {h : aH} {r : Nat} {i x : Int32} : go d 78 41 ls (.int x :: .int i :: .ref r :: st) h = (is_ h r i x).bind fun h' => go d 78 42 ls st h' := go_iast ke_78_41
theorem ke_78_42 : alook 78 42 = some (42, .aload_n 0, 1, (0, 0, 0, 0, 0), ⟨"", "", ""⟩, "") := rfl
theorem ee_78_42 {d : Nat} {h : aH} {l1 : Value} {x : Nat} {st : List Value} : go d 78 42 [.ref x, l1] st h = go d 78 43 [.ref x, l1] (.ref x :: st) h := go_plain (q := (43, [.ref x, l1], (.ref x :: st), h)) ke_78_42 rfl
theorem ee_78_42N {d : Nat} {h : aH} {l1 : Value} {st : List Value} : go d 78 42 [.null, l1] st h = go d 78 43 [.null, l1] (.null :: st) h := go_plain (q := (43, [.null, l1], (.null :: st), h)) ke_78_42 rfl
theorem ke_78_43 : alook 78 43 = some (43, .iconst 0, 1, (0, 0, 0, 0, 0), ⟨"", "", ""⟩, "") := rfl
theorem ee_78_43 {d : Nat} {h : aH} {ls st : List Value} : go d 78 43 ls st h = go d 78 44 ls (.int 0 :: st) h := go_plain (q := (44, ls, (.int 0 :: st), h)) ke_78_43 rfl
theorem ke_78_44 : alook 78 44 = some (44, .putfield 47, 3, (4, 8, 8, 0, 0), ⟨"", "", ""⟩, "WordHidesModel") := rfl
theorem ee_78_44 {d : Nat} {ls st : List Value} {h : aH} {r : Nat} {w : Value} : go d 78 44 ls (w :: .ref r :: st) h = (pf h r 4 8 8 0 w).bind fun h' => go d 78 47 ls st h' := go_putf ke_78_44
theorem ke_78_47 : alook 78 47 = some (47, .aload_n 0, 1, (0, 0, 0, 0, 0), ⟨"", "", ""⟩, "") := rfl
theorem ee_78_47 {d : Nat} {h : aH} {l1 : Value} {x : Nat} {st : List Value} : go d 78 47 [.ref x, l1] st h = go d 78 48 [.ref x, l1] (.ref x :: st) h := go_plain (q := (48, [.ref x, l1], (.ref x :: st), h)) ke_78_47 rfl
theorem ee_78_47N {d : Nat} {h : aH} {l1 : Value} {st : List Value} : go d 78 47 [.null, l1] st h = go d 78 48 [.null, l1] (.null :: st) h := go_plain (q := (48, [.null, l1], (.null :: st), h)) ke_78_47 rfl
theorem ke_78_48 : alook 78 48 = some (48, .getfield 7, 3, (0, 8, 8, 2, 0), ⟨"", "", ""⟩, "WordHidesModel") := rfl
theorem ee_78_48 {d : Nat} {ls st : List Value} {h : aH} {r : Nat} : go d 78 48 ls (.ref r :: st) h = (gf h r 0 8 8).bind fun z => go d 78 51 ls (z :: st) h := go_getf ke_78_48
theorem ke_78_51 : alook 78 51 = some (51, .bipush 26, 2, (0, 0, 0, 0, 0), ⟨"", "", ""⟩, "") := rfl
theorem ee_78_51 {d : Nat} {h : aH} {ls st : List Value} : go d 78 51 ls st h = go d 78 53 ls (.int 26 :: st) h := go_plain (q := (53, ls, (.int 26 :: st), h)) ke_78_51 rfl
theorem ke_78_53 : alook 78 53 = some (53, .iaload, 1, (0, 0, 0, 0, 0), ⟨"", "", ""⟩, "") := rfl
theorem ee_78_53 {d : Nat} {ls st : List Value} {h : aH} {r : Nat} {i : Int32} : go d 78 53 ls (.int i :: .ref r :: st) h = (ia h r i).bind fun z => go d 78 54 ls (.int z :: st) h := go_iald ke_78_53
theorem ke_78_54 : alook 78 54 = some (54, .ireturn, 1, (0, 0, 0, 0, 0), ⟨"", "", ""⟩, "") := rfl
theorem ee_78_54 {d : Nat} {ls : List Value} {h : aH} {v : Int32} : go d 78 54 ls [.int v] h = some (some (.int v), h) := go_iret ke_78_54
theorem ke_79_0 : alook 79 0 = some (0, .iload_n 1, 1, (0, 0, 0, 0, 0), ⟨"", "", ""⟩, "") := rfl
theorem ee_79_0 {d : Nat} {h : aH} {l0 l2 l3 : Value} {x : Int32} {st : List Value} : go d 79 0 [l0, .int x, l2, l3] st h = go d 79 1 [l0, .int x, l2, l3] (.int x :: st) h := go_plain (q := (1, [l0, .int x, l2, l3], (.int x :: st), h)) ke_79_0 rfl
theorem ke_79_1 : alook 79 1 = some (1, .iconst 0, 1, (0, 0, 0, 0, 0), ⟨"", "", ""⟩, "") := rfl
theorem ee_79_1 {d : Nat} {h : aH} {ls st : List Value} : go d 79 1 ls st h = go d 79 2 ls (.int 0 :: st) h := go_plain (q := (2, ls, (.int 0 :: st), h)) ke_79_1 rfl
theorem ke_79_2 : alook 79 2 = some (2, .iconst 2, 1, (0, 0, 0, 0, 0), ⟨"", "", ""⟩, "") := rfl
theorem ee_79_2 {d : Nat} {h : aH} {ls st : List Value} : go d 79 2 ls st h = go d 79 3 ls (.int 2 :: st) h := go_plain (q := (3, ls, (.int 2 :: st), h)) ke_79_2 rfl
theorem ke_79_3 : alook 79 3 = some (3, .invokestatic 36, 3, (3, 0, 65, 0, 0), ⟨"WordHidesModel", "in", "(III)Z"⟩, "") := rfl
theorem ee_79_3 {d : Nat} {ls : List Value} {h : aH} {i0 : Int32} {i1 : Int32} {i2 : Int32} : go (d + 1) 79 3 ls [.int i0, .int i1, .int i2] h = (go d 65 0 [.int i2, .int i1, .int i0] [] h).bind (fun q => go (d + 1) 79 6 ls (q.1.toList ++ []) q.2) := go_cs (as := [.int i2, .int i1, .int i0]) (rest := []) (L := [.int i2, .int i1, .int i0]) ke_79_3 rfl rfl rfl
theorem ke_79_6 : alook 79 6 = some (6, .ifCond .ne 6, 3, (12, 0, 0, 0, 0), ⟨"", "", ""⟩, "") := rfl
theorem ee_79_6 {d : Nat} {ls st : List Value} {h : aH} {x : Int32} : go d 79 6 ls (.int x :: st) h = if ¬ x = 0 then go d 79 12 ls st h else go d 79 9 ls st h := go_c1 (go_if1 (tg := 12) (q := 9) (f := fun x => decide (¬ x = 0)) ke_79_6 rfl)
theorem ke_79_9 : alook 79 9 = some (9, .bipush (-2), 2, (0, 0, 0, 0, 0), ⟨"", "", ""⟩, "") := rfl
theorem ee_79_9 {d : Nat} {h : aH} {ls st : List Value} : go d 79 9 ls st h = go d 79 11 ls (.int (-2) :: st) h := go_plain (q := (11, ls, (.int (-2) :: st), h)) ke_79_9 rfl
theorem ke_79_11 : alook 79 11 = some (11, .ireturn, 1, (0, 0, 0, 0, 0), ⟨"", "", ""⟩, "") := rfl
theorem ee_79_11 {d : Nat} {ls : List Value} {h : aH} {v : Int32} : go d 79 11 ls [.int v] h = some (some (.int v), h) := go_iret ke_79_11
theorem ke_79_12 : alook 79 12 = some (12, .aload_n 0, 1, (0, 0, 0, 0, 0), ⟨"", "", ""⟩, "") := rfl
theorem ee_79_12 {d : Nat} {h : aH} {l1 l2 l3 : Value} {x : Nat} {st : List Value} : go d 79 12 [.ref x, l1, l2, l3] st h = go d 79 13 [.ref x, l1, l2, l3] (.ref x :: st) h := go_plain (q := (13, [.ref x, l1, l2, l3], (.ref x :: st), h)) ke_79_12 rfl
theorem ee_79_12N {d : Nat} {h : aH} {l1 l2 l3 : Value} {st : List Value} : go d 79 12 [.null, l1, l2, l3] st h = go d 79 13 [.null, l1, l2, l3] (.null :: st) h := go_plain (q := (13, [.null, l1, l2, l3], (.null :: st), h)) ke_79_12 rfl
theorem ke_79_13 : alook 79 13 = some (13, .getfield 47, 3, (4, 8, 8, 0, 0), ⟨"", "", ""⟩, "WordHidesModel") := rfl
theorem ee_79_13 {d : Nat} {ls st : List Value} {h : aH} {r : Nat} : go d 79 13 ls (.ref r :: st) h = (gf h r 4 8 8).bind fun z => go d 79 16 ls (z :: st) h := go_getf ke_79_13
theorem ke_79_16 : alook 79 16 = some (16, .iload_n 1, 1, (0, 0, 0, 0, 0), ⟨"", "", ""⟩, "") := rfl
theorem ee_79_16 {d : Nat} {h : aH} {l0 l2 l3 : Value} {x : Int32} {st : List Value} : go d 79 16 [l0, .int x, l2, l3] st h = go d 79 17 [l0, .int x, l2, l3] (.int x :: st) h := go_plain (q := (17, [l0, .int x, l2, l3], (.int x :: st), h)) ke_79_16 rfl
theorem ke_79_17 : alook 79 17 = some (17, .ifCond .ne 7, 3, (24, 0, 0, 0, 0), ⟨"", "", ""⟩, "") := rfl
theorem ee_79_17 {d : Nat} {ls st : List Value} {h : aH} {x : Int32} : go d 79 17 ls (.int x :: st) h = if ¬ x = 0 then go d 79 24 ls st h else go d 79 20 ls st h := go_c1 (go_if1 (tg := 24) (q := 20) (f := fun x => decide (¬ x = 0)) ke_79_17 rfl)
theorem ke_79_20 : alook 79 20 = some (20, .iconst 3, 1, (0, 0, 0, 0, 0), ⟨"", "", ""⟩, "") := rfl
theorem ee_79_20 {d : Nat} {h : aH} {ls st : List Value} : go d 79 20 ls st h = go d 79 21 ls (.int 3 :: st) h := go_plain (q := (21, ls, (.int 3 :: st), h)) ke_79_20 rfl
theorem ke_79_21 : alook 79 21 = some (21, .goto 13, 3, (34, 0, 0, 0, 0), ⟨"", "", ""⟩, "") := rfl
theorem ee_79_21 {d : Nat} {h : aH} {ls st : List Value} : go d 79 21 ls st h = go d 79 34 ls st h := go_plain (q := (34, ls, st, h)) ke_79_21 rfl
theorem ke_79_24 : alook 79 24 = some (24, .iload_n 1, 1, (0, 0, 0, 0, 0), ⟨"", "", ""⟩, "") := rfl
theorem ee_79_24 {d : Nat} {h : aH} {l0 l2 l3 : Value} {x : Int32} {st : List Value} : go d 79 24 [l0, .int x, l2, l3] st h = go d 79 25 [l0, .int x, l2, l3] (.int x :: st) h := go_plain (q := (25, [l0, .int x, l2, l3], (.int x :: st), h)) ke_79_24 rfl
theorem ke_79_25 : alook 79 25 = some (25, .iconst 1, 1, (0, 0, 0, 0, 0), ⟨"", "", ""⟩, "") := rfl
theorem ee_79_25 {d : Nat} {h : aH} {ls st : List Value} : go d 79 25 ls st h = go d 79 26 ls (.int 1 :: st) h := go_plain (q := (26, ls, (.int 1 :: st), h)) ke_79_25 rfl
theorem ke_79_26 : alook 79 26 = some (26, .if_icmp .ne 7, 3, (33, 0, 0, 0, 0), ⟨"", "", ""⟩, "") := rfl
theorem ee_79_26 {d : Nat} {ls st : List Value} {h : aH} {x y : Int32} : go d 79 26 ls (.int y :: .int x :: st) h = if ¬ x = y then go d 79 33 ls st h else go d 79 29 ls st h := go_ci (go_if2 (tg := 33) (q := 29) (f := fun x y => decide (¬ x = y)) ke_79_26 rfl)
theorem ke_79_29 : alook 79 29 = some (29, .iconst 2, 1, (0, 0, 0, 0, 0), ⟨"", "", ""⟩, "") := rfl
theorem ee_79_29 {d : Nat} {h : aH} {ls st : List Value} : go d 79 29 ls st h = go d 79 30 ls (.int 2 :: st) h := go_plain (q := (30, ls, (.int 2 :: st), h)) ke_79_29 rfl
theorem ke_79_30 : alook 79 30 = some (30, .goto 4, 3, (34, 0, 0, 0, 0), ⟨"", "", ""⟩, "") := rfl
theorem ee_79_30 {d : Nat} {h : aH} {ls st : List Value} : go d 79 30 ls st h = go d 79 34 ls st h := go_plain (q := (34, ls, st, h)) ke_79_30 rfl
theorem ke_79_33 : alook 79 33 = some (33, .iconst 1, 1, (0, 0, 0, 0, 0), ⟨"", "", ""⟩, "") := rfl
theorem ee_79_33 {d : Nat} {h : aH} {ls st : List Value} : go d 79 33 ls st h = go d 79 34 ls (.int 1 :: st) h := go_plain (q := (34, ls, (.int 1 :: st), h)) ke_79_33 rfl
theorem ke_79_34 : alook 79 34 = some (34, .iload_n 1, 1, (0, 0, 0, 0, 0), ⟨"", "", ""⟩, "") := rfl
theorem ee_79_34 {d : Nat} {h : aH} {l0 l2 l3 : Value} {x : Int32} {st : List Value} : go d 79 34 [l0, .int x, l2, l3] st h = go d 79 35 [l0, .int x, l2, l3] (.int x :: st) h := go_plain (q := (35, [l0, .int x, l2, l3], (.int x :: st), h)) ke_79_34 rfl
theorem ke_79_35 : alook 79 35 = some (35, .iconst 2, 1, (0, 0, 0, 0, 0), ⟨"", "", ""⟩, "") := rfl
theorem ee_79_35 {d : Nat} {h : aH} {ls st : List Value} : go d 79 35 ls st h = go d 79 36 ls (.int 2 :: st) h := go_plain (q := (36, ls, (.int 2 :: st), h)) ke_79_35 rfl
theorem ke_79_36 : alook 79 36 = some (36, .if_icmp .ne 8, 3, (44, 0, 0, 0, 0), ⟨"", "", ""⟩, "") := rfl
theorem ee_79_36 {d : Nat} {ls st : List Value} {h : aH} {x y : Int32} : go d 79 36 ls (.int y :: .int x :: st) h = if ¬ x = y then go d 79 44 ls st h else go d 79 39 ls st h := go_ci (go_if2 (tg := 44) (q := 39) (f := fun x y => decide (¬ x = y)) ke_79_36 rfl)
theorem ke_79_39 : alook 79 39 = some (39, .bipush 9, 2, (0, 0, 0, 0, 0), ⟨"", "", ""⟩, "") := rfl
theorem ee_79_39 {d : Nat} {h : aH} {ls st : List Value} : go d 79 39 ls st h = go d 79 41 ls (.int 9 :: st) h := go_plain (q := (41, ls, (.int 9 :: st), h)) ke_79_39 rfl
theorem ke_79_41 : alook 79 41 = some (41, .goto 4, 3, (45, 0, 0, 0, 0), ⟨"", "", ""⟩, "") := rfl
theorem ee_79_41 {d : Nat} {h : aH} {ls st : List Value} : go d 79 41 ls st h = go d 79 45 ls st h := go_plain (q := (45, ls, st, h)) ke_79_41 rfl
theorem ke_79_44 : alook 79 44 = some (44, .iconst 4, 1, (0, 0, 0, 0, 0), ⟨"", "", ""⟩, "") := rfl
theorem ee_79_44 {d : Nat} {h : aH} {ls st : List Value} : go d 79 44 ls st h = go d 79 45 ls (.int 4 :: st) h := go_plain (q := (45, ls, (.int 4 :: st), h)) ke_79_44 rfl
theorem ke_79_45 : alook 79 45 = some (45, .invokestatic 36, 3, (3, 0, 65, 0, 0), ⟨"WordHidesModel", "in", "(III)Z"⟩, "") := rfl
theorem ee_79_45 {d : Nat} {ls : List Value} {h : aH} {i0 : Int32} {i1 : Int32} {i2 : Int32} : go (d + 1) 79 45 ls [.int i0, .int i1, .int i2] h = (go d 65 0 [.int i2, .int i1, .int i0] [] h).bind (fun q => go (d + 1) 79 48 ls (q.1.toList ++ []) q.2) := go_cs (as := [.int i2, .int i1, .int i0]) (rest := []) (L := [.int i2, .int i1, .int i0]) ke_79_45 rfl rfl rfl
theorem ke_79_48 : alook 79 48 = some (48, .ifCond .ne 6, 3, (54, 0, 0, 0, 0), ⟨"", "", ""⟩, "") := rfl
theorem ee_79_48 {d : Nat} {ls st : List Value} {h : aH} {x : Int32} : go d 79 48 ls (.int x :: st) h = if ¬ x = 0 then go d 79 54 ls st h else go d 79 51 ls st h := go_c1 (go_if1 (tg := 54) (q := 51) (f := fun x => decide (¬ x = 0)) ke_79_48 rfl)
theorem ke_79_51 : alook 79 51 = some (51, .bipush (-7), 2, (0, 0, 0, 0, 0), ⟨"", "", ""⟩, "") := rfl
theorem ee_79_51 {d : Nat} {h : aH} {ls st : List Value} : go d 79 51 ls st h = go d 79 53 ls (.int (-7) :: st) h := go_plain (q := (53, ls, (.int (-7) :: st), h)) ke_79_51 rfl
theorem ke_79_53 : alook 79 53 = some (53, .ireturn, 1, (0, 0, 0, 0, 0), ⟨"", "", ""⟩, "") := rfl
theorem ee_79_53 {d : Nat} {ls : List Value} {h : aH} {v : Int32} : go d 79 53 ls [.int v] h = some (some (.int v), h) := go_iret ke_79_53
theorem ke_79_54 : alook 79 54 = some (54, .iload_n 1, 1, (0, 0, 0, 0, 0), ⟨"", "", ""⟩, "") := rfl
theorem ee_79_54 {d : Nat} {h : aH} {l0 l2 l3 : Value} {x : Int32} {st : List Value} : go d 79 54 [l0, .int x, l2, l3] st h = go d 79 55 [l0, .int x, l2, l3] (.int x :: st) h := go_plain (q := (55, [l0, .int x, l2, l3], (.int x :: st), h)) ke_79_54 rfl
theorem ke_79_55 : alook 79 55 = some (55, .iconst 2, 1, (0, 0, 0, 0, 0), ⟨"", "", ""⟩, "") := rfl
theorem ee_79_55 {d : Nat} {h : aH} {ls st : List Value} : go d 79 55 ls st h = go d 79 56 ls (.int 2 :: st) h := go_plain (q := (56, ls, (.int 2 :: st), h)) ke_79_55 rfl
theorem ke_79_56 : alook 79 56 = some (56, .if_icmp .ne 8, 3, (64, 0, 0, 0, 0), ⟨"", "", ""⟩, "") := rfl
theorem ee_79_56 {d : Nat} {ls st : List Value} {h : aH} {x y : Int32} : go d 79 56 ls (.int y :: .int x :: st) h = if ¬ x = y then go d 79 64 ls st h else go d 79 59 ls st h := go_ci (go_if2 (tg := 64) (q := 59) (f := fun x y => decide (¬ x = y)) ke_79_56 rfl)
theorem ke_79_59 : alook 79 59 = some (59, .aload_n 0, 1, (0, 0, 0, 0, 0), ⟨"", "", ""⟩, "") := rfl
theorem ee_79_59 {d : Nat} {h : aH} {l1 l2 l3 : Value} {x : Nat} {st : List Value} : go d 79 59 [.ref x, l1, l2, l3] st h = go d 79 60 [.ref x, l1, l2, l3] (.ref x :: st) h := go_plain (q := (60, [.ref x, l1, l2, l3], (.ref x :: st), h)) ke_79_59 rfl
theorem ee_79_59N {d : Nat} {h : aH} {l1 l2 l3 : Value} {st : List Value} : go d 79 59 [.null, l1, l2, l3] st h = go d 79 60 [.null, l1, l2, l3] (.null :: st) h := go_plain (q := (60, [.null, l1, l2, l3], (.null :: st), h)) ke_79_59 rfl
theorem ke_79_60 : alook 79 60 = some (60, .invokevirtual 51, 3, (0, 8, 78, 8, 78), ⟨"WordHidesModel", "takeRest", "()I"⟩, "") := rfl
theorem ee_79_60 {d : Nat} {ls : List Value} {h : aH} {r0 : Nat} : go (d + 1) 79 60 ls [.ref r0] h = if isC h r0 8 = true then (go d 78 0 [.ref r0, aU] [] h).bind (fun q => go (d + 1) 79 63 ls (q.1.toList ++ []) q.2) else none := go_cv1 (as := []) (rest := []) (L := [.ref r0, aU]) ke_79_60 rfl rfl rfl
theorem ke_79_63 : alook 79 63 = some (63, .ireturn, 1, (0, 0, 0, 0, 0), ⟨"", "", ""⟩, "") := rfl
theorem ee_79_63 {d : Nat} {ls : List Value} {h : aH} {v : Int32} : go d 79 63 ls [.int v] h = some (some (.int v), h) := go_iret ke_79_63
theorem ke_79_64 : alook 79 64 = some (64, .aload_n 0, 1, (0, 0, 0, 0, 0), ⟨"", "", ""⟩, "") := rfl
theorem ee_79_64 {d : Nat} {h : aH} {l1 l2 l3 : Value} {x : Nat} {st : List Value} : go d 79 64 [.ref x, l1, l2, l3] st h = go d 79 65 [.ref x, l1, l2, l3] (.ref x :: st) h := go_plain (q := (65, [.ref x, l1, l2, l3], (.ref x :: st), h)) ke_79_64 rfl
theorem ee_79_64N {d : Nat} {h : aH} {l1 l2 l3 : Value} {st : List Value} : go d 79 64 [.null, l1, l2, l3] st h = go d 79 65 [.null, l1, l2, l3] (.null :: st) h := go_plain (q := (65, [.null, l1, l2, l3], (.null :: st), h)) ke_79_64 rfl
theorem ke_79_65 : alook 79 65 = some (65, .getfield 7, 3, (0, 8, 8, 2, 0), ⟨"", "", ""⟩, "WordHidesModel") := rfl
theorem ee_79_65 {d : Nat} {ls st : List Value} {h : aH} {r : Nat} : go d 79 65 ls (.ref r :: st) h = (gf h r 0 8 8).bind fun z => go d 79 68 ls (z :: st) h := go_getf ke_79_65
theorem ke_79_68 : alook 79 68 = some (68, .bipush 27, 2, (0, 0, 0, 0, 0), ⟨"", "", ""⟩, "") := rfl
theorem ee_79_68 {d : Nat} {h : aH} {ls st : List Value} : go d 79 68 ls st h = go d 79 70 ls (.int 27 :: st) h := go_plain (q := (70, ls, (.int 27 :: st), h)) ke_79_68 rfl
theorem ke_79_70 : alook 79 70 = some (70, .iload_n 1, 1, (0, 0, 0, 0, 0), ⟨"", "", ""⟩, "") := rfl
theorem ee_79_70 {d : Nat} {h : aH} {l0 l2 l3 : Value} {x : Int32} {st : List Value} : go d 79 70 [l0, .int x, l2, l3] st h = go d 79 71 [l0, .int x, l2, l3] (.int x :: st) h := go_plain (q := (71, [l0, .int x, l2, l3], (.int x :: st), h)) ke_79_70 rfl
theorem ke_79_71 : alook 79 71 = some (71, .iadd, 1, (0, 0, 0, 0, 0), ⟨"", "", ""⟩, "") := rfl
theorem ee_79_71 {d : Nat} {h : aH} {ls st : List Value} {x y : Int32} : go d 79 71 ls (.int y :: .int x :: st) h = go d 79 72 ls (.int (x + y) :: st) h := go_plain (q := (72, ls, (.int (x + y) :: st), h)) ke_79_71 rfl
theorem ke_79_72 : alook 79 72 = some (72, .iaload, 1, (0, 0, 0, 0, 0), ⟨"", "", ""⟩, "") := rfl
theorem ee_79_72 {d : Nat} {ls st : List Value} {h : aH} {r : Nat} {i : Int32} : go d 79 72 ls (.int i :: .ref r :: st) h = (ia h r i).bind fun z => go d 79 73 ls (.int z :: st) h := go_iald ke_79_72
theorem ke_79_73 : alook 79 73 = some (73, .istore_n 2, 1, (0, 0, 0, 0, 0), ⟨"", "", ""⟩, "") := rfl
theorem ee_79_73 {d : Nat} {h : aH} {l0 l1 l2 l3 : Value} {x : Int32} {st : List Value} : go d 79 73 [l0, l1, l2, l3] (.int x :: st) h = go d 79 74 [l0, l1, .int x, l3] st h := go_plain (q := (74, [l0, l1, .int x, l3], st, h)) ke_79_73 rfl
theorem ke_79_74 : alook 79 74 = some (74, .iload_n 2, 1, (0, 0, 0, 0, 0), ⟨"", "", ""⟩, "") := rfl
theorem ee_79_74 {d : Nat} {h : aH} {l0 l1 l3 : Value} {x : Int32} {st : List Value} : go d 79 74 [l0, l1, .int x, l3] st h = go d 79 75 [l0, l1, .int x, l3] (.int x :: st) h := go_plain (q := (75, [l0, l1, .int x, l3], (.int x :: st), h)) ke_79_74 rfl
theorem ke_79_75 : alook 79 75 = some (75, .iconst 3, 1, (0, 0, 0, 0, 0), ⟨"", "", ""⟩, "") := rfl
theorem ee_79_75 {d : Nat} {h : aH} {ls st : List Value} : go d 79 75 ls st h = go d 79 76 ls (.int 3 :: st) h := go_plain (q := (76, ls, (.int 3 :: st), h)) ke_79_75 rfl
theorem ke_79_76 : alook 79 76 = some (76, .if_icmp .ne 6, 3, (82, 0, 0, 0, 0), ⟨"", "", ""⟩, "") := rfl
theorem ee_79_76 {d : Nat} {ls st : List Value} {h : aH} {x y : Int32} : go d 79 76 ls (.int y :: .int x :: st) h = if ¬ x = y then go d 79 82 ls st h else go d 79 79 ls st h := go_ci (go_if2 (tg := 82) (q := 79) (f := fun x y => decide (¬ x = y)) ke_79_76 rfl)
theorem ke_79_79 : alook 79 79 = some (79, .bipush (-4), 2, (0, 0, 0, 0, 0), ⟨"", "", ""⟩, "") := rfl
theorem ee_79_79 {d : Nat} {h : aH} {ls st : List Value} : go d 79 79 ls st h = go d 79 81 ls (.int (-4) :: st) h := go_plain (q := (81, ls, (.int (-4) :: st), h)) ke_79_79 rfl
theorem ke_79_81 : alook 79 81 = some (81, .ireturn, 1, (0, 0, 0, 0, 0), ⟨"", "", ""⟩, "") := rfl
theorem ee_79_81 {d : Nat} {ls : List Value} {h : aH} {v : Int32} : go d 79 81 ls [.int v] h = some (some (.int v), h) := go_iret ke_79_81
theorem ke_79_82 : alook 79 82 = some (82, .iconst 0, 1, (0, 0, 0, 0, 0), ⟨"", "", ""⟩, "") := rfl
theorem ee_79_82 {d : Nat} {h : aH} {ls st : List Value} : go d 79 82 ls st h = go d 79 83 ls (.int 0 :: st) h := go_plain (q := (83, ls, (.int 0 :: st), h)) ke_79_82 rfl
theorem ke_79_83 : alook 79 83 = some (83, .istore_n 3, 1, (0, 0, 0, 0, 0), ⟨"", "", ""⟩, "") := rfl
theorem ee_79_83 {d : Nat} {h : aH} {l0 l1 l2 l3 : Value} {x : Int32} {st : List Value} : go d 79 83 [l0, l1, l2, l3] (.int x :: st) h = go d 79 84 [l0, l1, l2, .int x] st h := go_plain (q := (84, [l0, l1, l2, .int x], st, h)) ke_79_83 rfl
theorem ke_79_84 : alook 79 84 = some (84, .iload_n 3, 1, (0, 0, 0, 0, 0), ⟨"", "", ""⟩, "") := rfl
theorem ee_79_84 {d : Nat} {h : aH} {l0 l1 l2 : Value} {x : Int32} {st : List Value} : go d 79 84 [l0, l1, l2, .int x] st h = go d 79 85 [l0, l1, l2, .int x] (.int x :: st) h := go_plain (q := (85, [l0, l1, l2, .int x], (.int x :: st), h)) ke_79_84 rfl
theorem ke_79_85 : alook 79 85 = some (85, .aload_n 0, 1, (0, 0, 0, 0, 0), ⟨"", "", ""⟩, "") := rfl
theorem ee_79_85 {d : Nat} {h : aH} {l1 l2 l3 : Value} {x : Nat} {st : List Value} : go d 79 85 [.ref x, l1, l2, l3] st h = go d 79 86 [.ref x, l1, l2, l3] (.ref x :: st) h := go_plain (q := (86, [.ref x, l1, l2, l3], (.ref x :: st), h)) ke_79_85 rfl
theorem ee_79_85N {d : Nat} {h : aH} {l1 l2 l3 : Value} {st : List Value} : go d 79 85 [.null, l1, l2, l3] st h = go d 79 86 [.null, l1, l2, l3] (.null :: st) h := go_plain (q := (86, [.null, l1, l2, l3], (.null :: st), h)) ke_79_85 rfl
theorem ke_79_86 : alook 79 86 = some (86, .getfield 47, 3, (4, 8, 8, 0, 0), ⟨"", "", ""⟩, "WordHidesModel") := rfl
theorem ee_79_86 {d : Nat} {ls st : List Value} {h : aH} {r : Nat} : go d 79 86 ls (.ref r :: st) h = (gf h r 4 8 8).bind fun z => go d 79 89 ls (z :: st) h := go_getf ke_79_86
theorem ke_79_89 : alook 79 89 = some (89, .if_icmp .ge 33, 3, (122, 0, 0, 0, 0), ⟨"", "", ""⟩, "") := rfl
theorem ee_79_89 {d : Nat} {ls st : List Value} {h : aH} {x y : Int32} : go d 79 89 ls (.int y :: .int x :: st) h = if y ≤ x then go d 79 122 ls st h else go d 79 92 ls st h := go_ci (go_if2 (tg := 122) (q := 92) (f := fun x y => decide (y ≤ x)) ke_79_89 rfl)
theorem ke_79_92 : alook 79 92 = some (92, .aload_n 0, 1, (0, 0, 0, 0, 0), ⟨"", "", ""⟩, "") := rfl
theorem ee_79_92 {d : Nat} {h : aH} {l1 l2 l3 : Value} {x : Nat} {st : List Value} : go d 79 92 [.ref x, l1, l2, l3] st h = go d 79 93 [.ref x, l1, l2, l3] (.ref x :: st) h := go_plain (q := (93, [.ref x, l1, l2, l3], (.ref x :: st), h)) ke_79_92 rfl
theorem ee_79_92N {d : Nat} {h : aH} {l1 l2 l3 : Value} {st : List Value} : go d 79 92 [.null, l1, l2, l3] st h = go d 79 93 [.null, l1, l2, l3] (.null :: st) h := go_plain (q := (93, [.null, l1, l2, l3], (.null :: st), h)) ke_79_92 rfl
theorem ke_79_93 : alook 79 93 = some (93, .getfield 7, 3, (0, 8, 8, 2, 0), ⟨"", "", ""⟩, "WordHidesModel") := rfl
theorem ee_79_93 {d : Nat} {ls st : List Value} {h : aH} {r : Nat} : go d 79 93 ls (.ref r :: st) h = (gf h r 0 8 8).bind fun z => go d 79 96 ls (z :: st) h := go_getf ke_79_93
theorem ke_79_96 : alook 79 96 = some (96, .bipush 29, 2, (0, 0, 0, 0, 0), ⟨"", "", ""⟩, "") := rfl
theorem ee_79_96 {d : Nat} {h : aH} {ls st : List Value} : go d 79 96 ls st h = go d 79 98 ls (.int 29 :: st) h := go_plain (q := (98, ls, (.int 29 :: st), h)) ke_79_96 rfl
theorem ke_79_98 : alook 79 98 = some (98, .bipush 12, 2, (0, 0, 0, 0, 0), ⟨"", "", ""⟩, "") := rfl
theorem ee_79_98 {d : Nat} {h : aH} {ls st : List Value} : go d 79 98 ls st h = go d 79 100 ls (.int 12 :: st) h := go_plain (q := (100, ls, (.int 12 :: st), h)) ke_79_98 rfl
theorem ke_79_100 : alook 79 100 = some (100, .iload_n 1, 1, (0, 0, 0, 0, 0), ⟨"", "", ""⟩, "") := rfl
theorem ee_79_100 {d : Nat} {h : aH} {l0 l2 l3 : Value} {x : Int32} {st : List Value} : go d 79 100 [l0, .int x, l2, l3] st h = go d 79 101 [l0, .int x, l2, l3] (.int x :: st) h := go_plain (q := (101, [l0, .int x, l2, l3], (.int x :: st), h)) ke_79_100 rfl
theorem ke_79_101 : alook 79 101 = some (101, .imul, 1, (0, 0, 0, 0, 0), ⟨"", "", ""⟩, "") := rfl
theorem ee_79_101 {d : Nat} {h : aH} {ls st : List Value} {x y : Int32} : go d 79 101 ls (.int y :: .int x :: st) h = go d 79 102 ls (.int (x * y) :: st) h := go_plain (q := (102, ls, (.int (x * y) :: st), h)) ke_79_101 rfl
theorem ke_79_102 : alook 79 102 = some (102, .iadd, 1, (0, 0, 0, 0, 0), ⟨"", "", ""⟩, "") := rfl
theorem ee_79_102 {d : Nat} {h : aH} {ls st : List Value} {x y : Int32} : go d 79 102 ls (.int y :: .int x :: st) h = go d 79 103 ls (.int (x + y) :: st) h := go_plain (q := (103, ls, (.int (x + y) :: st), h)) ke_79_102 rfl
theorem ke_79_103 : alook 79 103 = some (103, .iconst 4, 1, (0, 0, 0, 0, 0), ⟨"", "", ""⟩, "") := rfl
theorem ee_79_103 {d : Nat} {h : aH} {ls st : List Value} : go d 79 103 ls st h = go d 79 104 ls (.int 4 :: st) h := go_plain (q := (104, ls, (.int 4 :: st), h)) ke_79_103 rfl
theorem ke_79_104 : alook 79 104 = some (104, .iload_n 2, 1, (0, 0, 0, 0, 0), ⟨"", "", ""⟩, "") := rfl
theorem ee_79_104 {d : Nat} {h : aH} {l0 l1 l3 : Value} {x : Int32} {st : List Value} : go d 79 104 [l0, l1, .int x, l3] st h = go d 79 105 [l0, l1, .int x, l3] (.int x :: st) h := go_plain (q := (105, [l0, l1, .int x, l3], (.int x :: st), h)) ke_79_104 rfl
theorem ke_79_105 : alook 79 105 = some (105, .imul, 1, (0, 0, 0, 0, 0), ⟨"", "", ""⟩, "") := rfl
theorem ee_79_105 {d : Nat} {h : aH} {ls st : List Value} {x y : Int32} : go d 79 105 ls (.int y :: .int x :: st) h = go d 79 106 ls (.int (x * y) :: st) h := go_plain (q := (106, ls, (.int (x * y) :: st), h)) ke_79_105 rfl
theorem ke_79_106 : alook 79 106 = some (106, .iadd, 1, (0, 0, 0, 0, 0), ⟨"", "", ""⟩, "") := rfl
theorem ee_79_106 {d : Nat} {h : aH} {ls st : List Value} {x y : Int32} : go d 79 106 ls (.int y :: .int x :: st) h = go d 79 107 ls (.int (x + y) :: st) h := go_plain (q := (107, ls, (.int (x + y) :: st), h)) ke_79_106 rfl
theorem ke_79_107 : alook 79 107 = some (107, .iload_n 3, 1, (0, 0, 0, 0, 0), ⟨"", "", ""⟩, "") := rfl
theorem ee_79_107 {d : Nat} {h : aH} {l0 l1 l2 : Value} {x : Int32} {st : List Value} : go d 79 107 [l0, l1, l2, .int x] st h = go d 79 108 [l0, l1, l2, .int x] (.int x :: st) h := go_plain (q := (108, [l0, l1, l2, .int x], (.int x :: st), h)) ke_79_107 rfl
theorem ke_79_108 : alook 79 108 = some (108, .iadd, 1, (0, 0, 0, 0, 0), ⟨"", "", ""⟩, "") := rfl
theorem ee_79_108 {d : Nat} {h : aH} {ls st : List Value} {x y : Int32} : go d 79 108 ls (.int y :: .int x :: st) h = go d 79 109 ls (.int (x + y) :: st) h := go_plain (q := (109, ls, (.int (x + y) :: st), h)) ke_79_108 rfl
theorem ke_79_109 : alook 79 109 = some (109, .aload_n 0, 1, (0, 0, 0, 0, 0), ⟨"", "", ""⟩, "") := rfl
theorem ee_79_109 {d : Nat} {h : aH} {l1 l2 l3 : Value} {x : Nat} {st : List Value} : go d 79 109 [.ref x, l1, l2, l3] st h = go d 79 110 [.ref x, l1, l2, l3] (.ref x :: st) h := go_plain (q := (110, [.ref x, l1, l2, l3], (.ref x :: st), h)) ke_79_109 rfl
theorem ee_79_109N {d : Nat} {h : aH} {l1 l2 l3 : Value} {st : List Value} : go d 79 109 [.null, l1, l2, l3] st h = go d 79 110 [.null, l1, l2, l3] (.null :: st) h := go_plain (q := (110, [.null, l1, l2, l3], (.null :: st), h)) ke_79_109 rfl
theorem ke_79_110 : alook 79 110 = some (110, .getfield 20, 3, (3, 8, 8, 2, 0), ⟨"", "", ""⟩, "WordHidesModel") := rfl
theorem ee_79_110 {d : Nat} {ls st : List Value} {h : aH} {r : Nat} : go d 79 110 ls (.ref r :: st) h = (gf h r 3 8 8).bind fun z => go d 79 113 ls (z :: st) h := go_getf ke_79_110
theorem ke_79_113 : alook 79 113 = some (113, .iload_n 3, 1, (0, 0, 0, 0, 0), ⟨"", "", ""⟩, "") := rfl
theorem ee_79_113 {d : Nat} {h : aH} {l0 l1 l2 : Value} {x : Int32} {st : List Value} : go d 79 113 [l0, l1, l2, .int x] st h = go d 79 114 [l0, l1, l2, .int x] (.int x :: st) h := go_plain (q := (114, [l0, l1, l2, .int x], (.int x :: st), h)) ke_79_113 rfl
theorem ke_79_114 : alook 79 114 = some (114, .iaload, 1, (0, 0, 0, 0, 0), ⟨"", "", ""⟩, "") := rfl
theorem ee_79_114 {d : Nat} {ls st : List Value} {h : aH} {r : Nat} {i : Int32} : go d 79 114 ls (.int i :: .ref r :: st) h = (ia h r i).bind fun z => go d 79 115 ls (.int z :: st) h := go_iald ke_79_114
theorem ke_79_115 : alook 79 115 = some (115, .iastore, 1, (0, 0, 0, 0, 0), ⟨"", "", ""⟩, "") := rfl
theorem ee_79_115 {d : Nat} {ls st : List Value} {h : aH} {r : Nat} {i x : Int32} : go d 79 115 ls (.int x :: .int i :: .ref r :: st) h = (is_ h r i x).bind fun h' => go d 79 116 ls st h' := go_iast ke_79_115
theorem ke_79_116 : alook 79 116 = some (116, .iinc 3 1, 3, (0, 0, 0, 0, 0), ⟨"", "", ""⟩, "") := rfl
theorem ee_79_116 {d : Nat} {h : aH} {l0 l1 l2 : Value} {x : Int32} {st : List Value} : go d 79 116 [l0, l1, l2, .int x] st h = go d 79 119 [l0, l1, l2, .int (x + 1)] st h := go_plain (q := (119, [l0, l1, l2, .int (x + 1)], st, h)) ke_79_116 rfl
theorem ke_79_119 : alook 79 119 = some (119, .goto (-35), 3, (84, 0, 0, 0, 0), ⟨"", "", ""⟩, "") := rfl
theorem ee_79_119 {d : Nat} {h : aH} {ls st : List Value} : go d 79 119 ls st h = go d 79 84 ls st h := go_plain (q := (84, ls, st, h)) ke_79_119 rfl
theorem ke_79_122 : alook 79 122 = some (122, .aload_n 0, 1, (0, 0, 0, 0, 0), ⟨"", "", ""⟩, "") := rfl
theorem ee_79_122 {d : Nat} {h : aH} {l1 l2 l3 : Value} {x : Nat} {st : List Value} : go d 79 122 [.ref x, l1, l2, l3] st h = go d 79 123 [.ref x, l1, l2, l3] (.ref x :: st) h := go_plain (q := (123, [.ref x, l1, l2, l3], (.ref x :: st), h)) ke_79_122 rfl
theorem ee_79_122N {d : Nat} {h : aH} {l1 l2 l3 : Value} {st : List Value} : go d 79 122 [.null, l1, l2, l3] st h = go d 79 123 [.null, l1, l2, l3] (.null :: st) h := go_plain (q := (123, [.null, l1, l2, l3], (.null :: st), h)) ke_79_122 rfl
theorem ke_79_123 : alook 79 123 = some (123, .getfield 7, 3, (0, 8, 8, 2, 0), ⟨"", "", ""⟩, "WordHidesModel") := rfl
theorem ee_79_123 {d : Nat} {ls st : List Value} {h : aH} {r : Nat} : go d 79 123 ls (.ref r :: st) h = (gf h r 0 8 8).bind fun z => go d 79 126 ls (z :: st) h := go_getf ke_79_123
theorem ke_79_126 : alook 79 126 = some (126, .bipush 53, 2, (0, 0, 0, 0, 0), ⟨"", "", ""⟩, "") := rfl
theorem ee_79_126 {d : Nat} {h : aH} {ls st : List Value} : go d 79 126 ls st h = go d 79 128 ls (.int 53 :: st) h := go_plain (q := (128, ls, (.int 53 :: st), h)) ke_79_126 rfl
theorem ke_79_128 : alook 79 128 = some (128, .iconst 3, 1, (0, 0, 0, 0, 0), ⟨"", "", ""⟩, "") := rfl
theorem ee_79_128 {d : Nat} {h : aH} {ls st : List Value} : go d 79 128 ls st h = go d 79 129 ls (.int 3 :: st) h := go_plain (q := (129, ls, (.int 3 :: st), h)) ke_79_128 rfl
theorem ke_79_129 : alook 79 129 = some (129, .iload_n 1, 1, (0, 0, 0, 0, 0), ⟨"", "", ""⟩, "") := rfl
theorem ee_79_129 {d : Nat} {h : aH} {l0 l2 l3 : Value} {x : Int32} {st : List Value} : go d 79 129 [l0, .int x, l2, l3] st h = go d 79 130 [l0, .int x, l2, l3] (.int x :: st) h := go_plain (q := (130, [l0, .int x, l2, l3], (.int x :: st), h)) ke_79_129 rfl
theorem ke_79_130 : alook 79 130 = some (130, .imul, 1, (0, 0, 0, 0, 0), ⟨"", "", ""⟩, "") := rfl
theorem ee_79_130 {d : Nat} {h : aH} {ls st : List Value} {x y : Int32} : go d 79 130 ls (.int y :: .int x :: st) h = go d 79 131 ls (.int (x * y) :: st) h := go_plain (q := (131, ls, (.int (x * y) :: st), h)) ke_79_130 rfl
theorem ke_79_131 : alook 79 131 = some (131, .iadd, 1, (0, 0, 0, 0, 0), ⟨"", "", ""⟩, "") := rfl
theorem ee_79_131 {d : Nat} {h : aH} {ls st : List Value} {x y : Int32} : go d 79 131 ls (.int y :: .int x :: st) h = go d 79 132 ls (.int (x + y) :: st) h := go_plain (q := (132, ls, (.int (x + y) :: st), h)) ke_79_131 rfl
theorem ke_79_132 : alook 79 132 = some (132, .iload_n 2, 1, (0, 0, 0, 0, 0), ⟨"", "", ""⟩, "") := rfl
theorem ee_79_132 {d : Nat} {h : aH} {l0 l1 l3 : Value} {x : Int32} {st : List Value} : go d 79 132 [l0, l1, .int x, l3] st h = go d 79 133 [l0, l1, .int x, l3] (.int x :: st) h := go_plain (q := (133, [l0, l1, .int x, l3], (.int x :: st), h)) ke_79_132 rfl
theorem ke_79_133 : alook 79 133 = some (133, .iadd, 1, (0, 0, 0, 0, 0), ⟨"", "", ""⟩, "") := rfl
theorem ee_79_133 {d : Nat} {h : aH} {ls st : List Value} {x y : Int32} : go d 79 133 ls (.int y :: .int x :: st) h = go d 79 134 ls (.int (x + y) :: st) h := go_plain (q := (134, ls, (.int (x + y) :: st), h)) ke_79_133 rfl
theorem ke_79_134 : alook 79 134 = some (134, .aload_n 0, 1, (0, 0, 0, 0, 0), ⟨"", "", ""⟩, "") := rfl
theorem ee_79_134 {d : Nat} {h : aH} {l1 l2 l3 : Value} {x : Nat} {st : List Value} : go d 79 134 [.ref x, l1, l2, l3] st h = go d 79 135 [.ref x, l1, l2, l3] (.ref x :: st) h := go_plain (q := (135, [.ref x, l1, l2, l3], (.ref x :: st), h)) ke_79_134 rfl
theorem ee_79_134N {d : Nat} {h : aH} {l1 l2 l3 : Value} {st : List Value} : go d 79 134 [.null, l1, l2, l3] st h = go d 79 135 [.null, l1, l2, l3] (.null :: st) h := go_plain (q := (135, [.null, l1, l2, l3], (.null :: st), h)) ke_79_134 rfl
theorem ke_79_135 : alook 79 135 = some (135, .getfield 47, 3, (4, 8, 8, 0, 0), ⟨"", "", ""⟩, "WordHidesModel") := rfl
theorem ee_79_135 {d : Nat} {ls st : List Value} {h : aH} {r : Nat} : go d 79 135 ls (.ref r :: st) h = (gf h r 4 8 8).bind fun z => go d 79 138 ls (z :: st) h := go_getf ke_79_135
theorem ke_79_138 : alook 79 138 = some (138, .iastore, 1, (0, 0, 0, 0, 0), ⟨"", "", ""⟩, "") := rfl
theorem ee_79_138 {d : Nat} {ls st : List Value} {h : aH} {r : Nat} {i x : Int32} : go d 79 138 ls (.int x :: .int i :: .ref r :: st) h = (is_ h r i x).bind fun h' => go d 79 139 ls st h' := go_iast ke_79_138
theorem ke_79_139 : alook 79 139 = some (139, .aload_n 0, 1, (0, 0, 0, 0, 0), ⟨"", "", ""⟩, "") := rfl
theorem ee_79_139 {d : Nat} {h : aH} {l1 l2 l3 : Value} {x : Nat} {st : List Value} : go d 79 139 [.ref x, l1, l2, l3] st h = go d 79 140 [.ref x, l1, l2, l3] (.ref x :: st) h := go_plain (q := (140, [.ref x, l1, l2, l3], (.ref x :: st), h)) ke_79_139 rfl
theorem ee_79_139N {d : Nat} {h : aH} {l1 l2 l3 : Value} {st : List Value} : go d 79 139 [.null, l1, l2, l3] st h = go d 79 140 [.null, l1, l2, l3] (.null :: st) h := go_plain (q := (140, [.null, l1, l2, l3], (.null :: st), h)) ke_79_139 rfl
theorem ke_79_140 : alook 79 140 = some (140, .getfield 7, 3, (0, 8, 8, 2, 0), ⟨"", "", ""⟩, "WordHidesModel") := rfl
theorem ee_79_140 {d : Nat} {ls st : List Value} {h : aH} {r : Nat} : go d 79 140 ls (.ref r :: st) h = (gf h r 0 8 8).bind fun z => go d 79 143 ls (z :: st) h := go_getf ke_79_140
theorem ke_79_143 : alook 79 143 = some (143, .bipush 27, 2, (0, 0, 0, 0, 0), ⟨"", "", ""⟩, "") := rfl
theorem ee_79_143 {d : Nat} {h : aH} {ls st : List Value} : go d 79 143 ls st h = go d 79 145 ls (.int 27 :: st) h := go_plain (q := (145, ls, (.int 27 :: st), h)) ke_79_143 rfl
theorem ke_79_145 : alook 79 145 = some (145, .iload_n 1, 1, (0, 0, 0, 0, 0), ⟨"", "", ""⟩, "") := rfl
theorem ee_79_145 {d : Nat} {h : aH} {l0 l2 l3 : Value} {x : Int32} {st : List Value} : go d 79 145 [l0, .int x, l2, l3] st h = go d 79 146 [l0, .int x, l2, l3] (.int x :: st) h := go_plain (q := (146, [l0, .int x, l2, l3], (.int x :: st), h)) ke_79_145 rfl
theorem ke_79_146 : alook 79 146 = some (146, .iadd, 1, (0, 0, 0, 0, 0), ⟨"", "", ""⟩, "") := rfl
theorem ee_79_146 {d : Nat} {h : aH} {ls st : List Value} {x y : Int32} : go d 79 146 ls (.int y :: .int x :: st) h = go d 79 147 ls (.int (x + y) :: st) h := go_plain (q := (147, ls, (.int (x + y) :: st), h)) ke_79_146 rfl
theorem ke_79_147 : alook 79 147 = some (147, .dup2, 1, (0, 0, 0, 0, 0), ⟨"", "", ""⟩, "") := rfl
theorem ee_79_147 {d : Nat} {h : aH} {ls st : List Value} {x : Int32} {y : Nat} : go d 79 147 ls (.int x :: .ref y :: st) h = go d 79 148 ls (.int x :: .ref y :: .int x :: .ref y :: st) h := go_plain (q := (148, ls, (.int x :: .ref y :: .int x :: .ref y :: st), h)) ke_79_147 rfl
theorem ke_79_148 : alook 79 148 = some (148, .iaload, 1, (0, 0, 0, 0, 0), ⟨"", "", ""⟩, "") := rfl
theorem ee_79_148 {d : Nat} {ls st : List Value} {h : aH} {r : Nat} {i : Int32} : go d 79 148 ls (.int i :: .ref r :: st) h = (ia h r i).bind fun z => go d 79 149 ls (.int z :: st) h := go_iald ke_79_148
theorem ke_79_149 : alook 79 149 = some (149, .iconst 1, 1, (0, 0, 0, 0, 0), ⟨"", "", ""⟩, "") := rfl
theorem ee_79_149 {d : Nat} {h : aH} {ls st : List Value} : go d 79 149 ls st h = go d 79 150 ls (.int 1 :: st) h := go_plain (q := (150, ls, (.int 1 :: st), h)) ke_79_149 rfl
theorem ke_79_150 : alook 79 150 = some (150, .iadd, 1, (0, 0, 0, 0, 0), ⟨"", "", ""⟩, "") := rfl
theorem ee_79_150 {d : Nat} {h : aH} {ls st : List Value} {x y : Int32} : go d 79 150 ls (.int y :: .int x :: st) h = go d 79 151 ls (.int (x + y) :: st) h := go_plain (q := (151, ls, (.int (x + y) :: st), h)) ke_79_150 rfl
theorem ke_79_151 : alook 79 151 = some (151, .iastore, 1, (0, 0, 0, 0, 0), ⟨"", "", ""⟩, "") := rfl
theorem ee_79_151 {d : Nat} {ls st : List Value} {h : aH} {r : Nat} {i x : Int32} : go d 79 151 ls (.int x :: .int i :: .ref r :: st) h = (is_ h r i x).bind fun h' => go d 79 152 ls st h' := go_iast ke_79_151
theorem ke_79_152 : alook 79 152 = some (152, .aload_n 0, 1, (0, 0, 0, 0, 0), ⟨"", "", ""⟩, "") := rfl
theorem ee_79_152 {d : Nat} {h : aH} {l1 l2 l3 : Value} {x : Nat} {st : List Value} : go d 79 152 [.ref x, l1, l2, l3] st h = go d 79 153 [.ref x, l1, l2, l3] (.ref x :: st) h := go_plain (q := (153, [.ref x, l1, l2, l3], (.ref x :: st), h)) ke_79_152 rfl
theorem ee_79_152N {d : Nat} {h : aH} {l1 l2 l3 : Value} {st : List Value} : go d 79 152 [.null, l1, l2, l3] st h = go d 79 153 [.null, l1, l2, l3] (.null :: st) h := go_plain (q := (153, [.null, l1, l2, l3], (.null :: st), h)) ke_79_152 rfl
theorem ke_79_153 : alook 79 153 = some (153, .iconst 0, 1, (0, 0, 0, 0, 0), ⟨"", "", ""⟩, "") := rfl
theorem ee_79_153 {d : Nat} {h : aH} {ls st : List Value} : go d 79 153 ls st h = go d 79 154 ls (.int 0 :: st) h := go_plain (q := (154, ls, (.int 0 :: st), h)) ke_79_153 rfl
theorem ke_79_154 : alook 79 154 = some (154, .putfield 47, 3, (4, 8, 8, 0, 0), ⟨"", "", ""⟩, "WordHidesModel") := rfl
theorem ee_79_154 {d : Nat} {ls st : List Value} {h : aH} {r : Nat} {w : Value} : go d 79 154 ls (w :: .ref r :: st) h = (pf h r 4 8 8 0 w).bind fun h' => go d 79 157 ls st h' := go_putf ke_79_154
theorem ke_79_157 : alook 79 157 = some (157, .iload_n 2, 1, (0, 0, 0, 0, 0), ⟨"", "", ""⟩, "") := rfl
theorem ee_79_157 {d : Nat} {h : aH} {l0 l1 l3 : Value} {x : Int32} {st : List Value} : go d 79 157 [l0, l1, .int x, l3] st h = go d 79 158 [l0, l1, .int x, l3] (.int x :: st) h := go_plain (q := (158, [l0, l1, .int x, l3], (.int x :: st), h)) ke_79_157 rfl
theorem ke_79_158 : alook 79 158 = some (158, .ireturn, 1, (0, 0, 0, 0, 0), ⟨"", "", ""⟩, "") := rfl
theorem ee_79_158 {d : Nat} {ls : List Value} {h : aH} {v : Int32} : go d 79 158 ls [.int v] h = some (some (.int v), h) := go_iret ke_79_158
theorem ke_80_0 : alook 80 0 = some (0, .iload_n 1, 1, (0, 0, 0, 0, 0), ⟨"", "", ""⟩, "") := rfl
theorem ee_80_0 {d : Nat} {h : aH} {l0 l2 : Value} {x : Int32} {st : List Value} : go d 80 0 [l0, .int x, l2] st h = go d 80 1 [l0, .int x, l2] (.int x :: st) h := go_plain (q := (1, [l0, .int x, l2], (.int x :: st), h)) ke_80_0 rfl
theorem ke_80_1 : alook 80 1 = some (1, .iconst 0, 1, (0, 0, 0, 0, 0), ⟨"", "", ""⟩, "") := rfl
theorem ee_80_1 {d : Nat} {h : aH} {ls st : List Value} : go d 80 1 ls st h = go d 80 2 ls (.int 0 :: st) h := go_plain (q := (2, ls, (.int 0 :: st), h)) ke_80_1 rfl
theorem ke_80_2 : alook 80 2 = some (2, .iconst 1, 1, (0, 0, 0, 0, 0), ⟨"", "", ""⟩, "") := rfl
theorem ee_80_2 {d : Nat} {h : aH} {ls st : List Value} : go d 80 2 ls st h = go d 80 3 ls (.int 1 :: st) h := go_plain (q := (3, ls, (.int 1 :: st), h)) ke_80_2 rfl
theorem ke_80_3 : alook 80 3 = some (3, .invokestatic 36, 3, (3, 0, 65, 0, 0), ⟨"WordHidesModel", "in", "(III)Z"⟩, "") := rfl
theorem ee_80_3 {d : Nat} {ls : List Value} {h : aH} {i0 : Int32} {i1 : Int32} {i2 : Int32} : go (d + 1) 80 3 ls [.int i0, .int i1, .int i2] h = (go d 65 0 [.int i2, .int i1, .int i0] [] h).bind (fun q => go (d + 1) 80 6 ls (q.1.toList ++ []) q.2) := go_cs (as := [.int i2, .int i1, .int i0]) (rest := []) (L := [.int i2, .int i1, .int i0]) ke_80_3 rfl rfl rfl
theorem ke_80_6 : alook 80 6 = some (6, .ifCond .ne 6, 3, (12, 0, 0, 0, 0), ⟨"", "", ""⟩, "") := rfl
theorem ee_80_6 {d : Nat} {ls st : List Value} {h : aH} {x : Int32} : go d 80 6 ls (.int x :: st) h = if ¬ x = 0 then go d 80 12 ls st h else go d 80 9 ls st h := go_c1 (go_if1 (tg := 12) (q := 9) (f := fun x => decide (¬ x = 0)) ke_80_6 rfl)
theorem ke_80_9 : alook 80 9 = some (9, .bipush (-2), 2, (0, 0, 0, 0, 0), ⟨"", "", ""⟩, "") := rfl
theorem ee_80_9 {d : Nat} {h : aH} {ls st : List Value} : go d 80 9 ls st h = go d 80 11 ls (.int (-2) :: st) h := go_plain (q := (11, ls, (.int (-2) :: st), h)) ke_80_9 rfl
theorem ke_80_11 : alook 80 11 = some (11, .ireturn, 1, (0, 0, 0, 0, 0), ⟨"", "", ""⟩, "") := rfl
theorem ee_80_11 {d : Nat} {ls : List Value} {h : aH} {v : Int32} : go d 80 11 ls [.int v] h = some (some (.int v), h) := go_iret ke_80_11
theorem ke_80_12 : alook 80 12 = some (12, .aload_n 0, 1, (0, 0, 0, 0, 0), ⟨"", "", ""⟩, "") := rfl
theorem ee_80_12 {d : Nat} {h : aH} {l1 l2 : Value} {x : Nat} {st : List Value} : go d 80 12 [.ref x, l1, l2] st h = go d 80 13 [.ref x, l1, l2] (.ref x :: st) h := go_plain (q := (13, [.ref x, l1, l2], (.ref x :: st), h)) ke_80_12 rfl
theorem ee_80_12N {d : Nat} {h : aH} {l1 l2 : Value} {st : List Value} : go d 80 12 [.null, l1, l2] st h = go d 80 13 [.null, l1, l2] (.null :: st) h := go_plain (q := (13, [.null, l1, l2], (.null :: st), h)) ke_80_12 rfl
theorem ke_80_13 : alook 80 13 = some (13, .getfield 7, 3, (0, 8, 8, 2, 0), ⟨"", "", ""⟩, "WordHidesModel") := rfl
theorem ee_80_13 {d : Nat} {ls st : List Value} {h : aH} {r : Nat} : go d 80 13 ls (.ref r :: st) h = (gf h r 0 8 8).bind fun z => go d 80 16 ls (z :: st) h := go_getf ke_80_13
theorem ke_80_16 : alook 80 16 = some (16, .bipush 27, 2, (0, 0, 0, 0, 0), ⟨"", "", ""⟩, "") := rfl
theorem ee_80_16 {d : Nat} {h : aH} {ls st : List Value} : go d 80 16 ls st h = go d 80 18 ls (.int 27 :: st) h := go_plain (q := (18, ls, (.int 27 :: st), h)) ke_80_16 rfl
theorem ke_80_18 : alook 80 18 = some (18, .iload_n 1, 1, (0, 0, 0, 0, 0), ⟨"", "", ""⟩, "") := rfl
theorem ee_80_18 {d : Nat} {h : aH} {l0 l2 : Value} {x : Int32} {st : List Value} : go d 80 18 [l0, .int x, l2] st h = go d 80 19 [l0, .int x, l2] (.int x :: st) h := go_plain (q := (19, [l0, .int x, l2], (.int x :: st), h)) ke_80_18 rfl
theorem ke_80_19 : alook 80 19 = some (19, .iadd, 1, (0, 0, 0, 0, 0), ⟨"", "", ""⟩, "") := rfl
theorem ee_80_19 {d : Nat} {h : aH} {ls st : List Value} {x y : Int32} : go d 80 19 ls (.int y :: .int x :: st) h = go d 80 20 ls (.int (x + y) :: st) h := go_plain (q := (20, ls, (.int (x + y) :: st), h)) ke_80_19 rfl
theorem ke_80_20 : alook 80 20 = some (20, .iaload, 1, (0, 0, 0, 0, 0), ⟨"", "", ""⟩, "") := rfl
theorem ee_80_20 {d : Nat} {ls st : List Value} {h : aH} {r : Nat} {i : Int32} : go d 80 20 ls (.int i :: .ref r :: st) h = (ia h r i).bind fun z => go d 80 21 ls (.int z :: st) h := go_iald ke_80_20
theorem ke_80_21 : alook 80 21 = some (21, .istore_n 2, 1, (0, 0, 0, 0, 0), ⟨"", "", ""⟩, "") := rfl
theorem ee_80_21 {d : Nat} {h : aH} {l0 l1 l2 : Value} {x : Int32} {st : List Value} : go d 80 21 [l0, l1, l2] (.int x :: st) h = go d 80 22 [l0, l1, .int x] st h := go_plain (q := (22, [l0, l1, .int x], st, h)) ke_80_21 rfl
theorem ke_80_22 : alook 80 22 = some (22, .aload_n 0, 1, (0, 0, 0, 0, 0), ⟨"", "", ""⟩, "") := rfl
theorem ee_80_22 {d : Nat} {h : aH} {l1 l2 : Value} {x : Nat} {st : List Value} : go d 80 22 [.ref x, l1, l2] st h = go d 80 23 [.ref x, l1, l2] (.ref x :: st) h := go_plain (q := (23, [.ref x, l1, l2], (.ref x :: st), h)) ke_80_22 rfl
theorem ee_80_22N {d : Nat} {h : aH} {l1 l2 : Value} {st : List Value} : go d 80 22 [.null, l1, l2] st h = go d 80 23 [.null, l1, l2] (.null :: st) h := go_plain (q := (23, [.null, l1, l2], (.null :: st), h)) ke_80_22 rfl
theorem ke_80_23 : alook 80 23 = some (23, .getfield 7, 3, (0, 8, 8, 2, 0), ⟨"", "", ""⟩, "WordHidesModel") := rfl
theorem ee_80_23 {d : Nat} {ls st : List Value} {h : aH} {r : Nat} : go d 80 23 ls (.ref r :: st) h = (gf h r 0 8 8).bind fun z => go d 80 26 ls (z :: st) h := go_getf ke_80_23
theorem ke_80_26 : alook 80 26 = some (26, .bipush 27, 2, (0, 0, 0, 0, 0), ⟨"", "", ""⟩, "") := rfl
theorem ee_80_26 {d : Nat} {h : aH} {ls st : List Value} : go d 80 26 ls st h = go d 80 28 ls (.int 27 :: st) h := go_plain (q := (28, ls, (.int 27 :: st), h)) ke_80_26 rfl
theorem ke_80_28 : alook 80 28 = some (28, .iload_n 1, 1, (0, 0, 0, 0, 0), ⟨"", "", ""⟩, "") := rfl
theorem ee_80_28 {d : Nat} {h : aH} {l0 l2 : Value} {x : Int32} {st : List Value} : go d 80 28 [l0, .int x, l2] st h = go d 80 29 [l0, .int x, l2] (.int x :: st) h := go_plain (q := (29, [l0, .int x, l2], (.int x :: st), h)) ke_80_28 rfl
theorem ke_80_29 : alook 80 29 = some (29, .iadd, 1, (0, 0, 0, 0, 0), ⟨"", "", ""⟩, "") := rfl
theorem ee_80_29 {d : Nat} {h : aH} {ls st : List Value} {x y : Int32} : go d 80 29 ls (.int y :: .int x :: st) h = go d 80 30 ls (.int (x + y) :: st) h := go_plain (q := (30, ls, (.int (x + y) :: st), h)) ke_80_29 rfl
theorem ke_80_30 : alook 80 30 = some (30, .iconst 0, 1, (0, 0, 0, 0, 0), ⟨"", "", ""⟩, "") := rfl
theorem ee_80_30 {d : Nat} {h : aH} {ls st : List Value} : go d 80 30 ls st h = go d 80 31 ls (.int 0 :: st) h := go_plain (q := (31, ls, (.int 0 :: st), h)) ke_80_30 rfl
theorem ke_80_31 : alook 80 31 = some (31, .iastore, 1, (0, 0, 0, 0, 0), ⟨"", "", ""⟩, "") := rfl
theorem ee_80_31 {d : Nat} {ls st : List Value} {h : aH} {r : Nat} {i x : Int32} : go d 80 31 ls (.int x :: .int i :: .ref r :: st) h = (is_ h r i x).bind fun h' => go d 80 32 ls st h' := go_iast ke_80_31
theorem ke_80_32 : alook 80 32 = some (32, .iload_n 2, 1, (0, 0, 0, 0, 0), ⟨"", "", ""⟩, "") := rfl
theorem ee_80_32 {d : Nat} {h : aH} {l0 l1 : Value} {x : Int32} {st : List Value} : go d 80 32 [l0, l1, .int x] st h = go d 80 33 [l0, l1, .int x] (.int x :: st) h := go_plain (q := (33, [l0, l1, .int x], (.int x :: st), h)) ke_80_32 rfl
theorem ke_80_33 : alook 80 33 = some (33, .ireturn, 1, (0, 0, 0, 0, 0), ⟨"", "", ""⟩, "") := rfl
theorem ee_80_33 {d : Nat} {ls : List Value} {h : aH} {v : Int32} : go d 80 33 ls [.int v] h = some (some (.int v), h) := go_iret ke_80_33
theorem ke_81_0 : alook 81 0 = some (0, .aload_n 0, 1, (0, 0, 0, 0, 0), ⟨"", "", ""⟩, "") := rfl
theorem ee_81_0 {d : Nat} {h : aH} {l1 l2 : Value} {x : Nat} {st : List Value} : go d 81 0 [.ref x, l1, l2] st h = go d 81 1 [.ref x, l1, l2] (.ref x :: st) h := go_plain (q := (1, [.ref x, l1, l2], (.ref x :: st), h)) ke_81_0 rfl
theorem ee_81_0N {d : Nat} {h : aH} {l1 l2 : Value} {st : List Value} : go d 81 0 [.null, l1, l2] st h = go d 81 1 [.null, l1, l2] (.null :: st) h := go_plain (q := (1, [.null, l1, l2], (.null :: st), h)) ke_81_0 rfl
theorem ke_81_1 : alook 81 1 = some (1, .getfield 47, 3, (4, 8, 8, 0, 0), ⟨"", "", ""⟩, "WordHidesModel") := rfl
theorem ee_81_1 {d : Nat} {ls st : List Value} {h : aH} {r : Nat} : go d 81 1 ls (.ref r :: st) h = (gf h r 4 8 8).bind fun z => go d 81 4 ls (z :: st) h := go_getf ke_81_1
theorem ke_81_4 : alook 81 4 = some (4, .aload_n 0, 1, (0, 0, 0, 0, 0), ⟨"", "", ""⟩, "") := rfl
theorem ee_81_4 {d : Nat} {h : aH} {l1 l2 : Value} {x : Nat} {st : List Value} : go d 81 4 [.ref x, l1, l2] st h = go d 81 5 [.ref x, l1, l2] (.ref x :: st) h := go_plain (q := (5, [.ref x, l1, l2], (.ref x :: st), h)) ke_81_4 rfl
theorem ee_81_4N {d : Nat} {h : aH} {l1 l2 : Value} {st : List Value} : go d 81 4 [.null, l1, l2] st h = go d 81 5 [.null, l1, l2] (.null :: st) h := go_plain (q := (5, [.null, l1, l2], (.null :: st), h)) ke_81_4 rfl
theorem ke_81_5 : alook 81 5 = some (5, .invokevirtual 32, 3, (0, 8, 66, 8, 66), ⟨"WordHidesModel", "cells", "()I"⟩, "") := rfl
theorem ee_81_5 {d : Nat} {ls : List Value} {h : aH} {r0 : Nat} {i1 : Int32} : go (d + 1) 81 5 ls [.ref r0, .int i1] h = if isC h r0 8 = true then (go d 66 0 [.ref r0] [] h).bind (fun q => go (d + 1) 81 8 ls (q.1.toList ++ [.int i1]) q.2) else none := go_cv1 (as := []) (rest := [.int i1]) (L := [.ref r0]) ke_81_5 rfl rfl rfl
theorem ke_81_8 : alook 81 8 = some (8, .if_icmp .eq 6, 3, (14, 0, 0, 0, 0), ⟨"", "", ""⟩, "") := rfl
theorem ee_81_8 {d : Nat} {ls st : List Value} {h : aH} {x y : Int32} : go d 81 8 ls (.int y :: .int x :: st) h = if x = y then go d 81 14 ls st h else go d 81 11 ls st h := go_ci (go_if2 (tg := 14) (q := 11) (f := fun x y => decide (x = y)) ke_81_8 rfl)
theorem ke_81_11 : alook 81 11 = some (11, .bipush (-7), 2, (0, 0, 0, 0, 0), ⟨"", "", ""⟩, "") := rfl
theorem ee_81_11 {d : Nat} {h : aH} {ls st : List Value} : go d 81 11 ls st h = go d 81 13 ls (.int (-7) :: st) h := go_plain (q := (13, ls, (.int (-7) :: st), h)) ke_81_11 rfl
theorem ke_81_13 : alook 81 13 = some (13, .ireturn, 1, (0, 0, 0, 0, 0), ⟨"", "", ""⟩, "") := rfl
theorem ee_81_13 {d : Nat} {ls : List Value} {h : aH} {v : Int32} : go d 81 13 ls [.int v] h = some (some (.int v), h) := go_iret ke_81_13
theorem ke_81_14 : alook 81 14 = some (14, .iconst 0, 1, (0, 0, 0, 0, 0), ⟨"", "", ""⟩, "") := rfl
theorem ee_81_14 {d : Nat} {h : aH} {ls st : List Value} : go d 81 14 ls st h = go d 81 15 ls (.int 0 :: st) h := go_plain (q := (15, ls, (.int 0 :: st), h)) ke_81_14 rfl
theorem ke_81_15 : alook 81 15 = some (15, .istore_n 1, 1, (0, 0, 0, 0, 0), ⟨"", "", ""⟩, "") := rfl
theorem ee_81_15 {d : Nat} {h : aH} {l0 l1 l2 : Value} {x : Int32} {st : List Value} : go d 81 15 [l0, l1, l2] (.int x :: st) h = go d 81 16 [l0, .int x, l2] st h := go_plain (q := (16, [l0, .int x, l2], st, h)) ke_81_15 rfl
theorem ke_81_16 : alook 81 16 = some (16, .iconst 0, 1, (0, 0, 0, 0, 0), ⟨"", "", ""⟩, "") := rfl
theorem ee_81_16 {d : Nat} {h : aH} {ls st : List Value} : go d 81 16 ls st h = go d 81 17 ls (.int 0 :: st) h := go_plain (q := (17, ls, (.int 0 :: st), h)) ke_81_16 rfl
theorem ke_81_17 : alook 81 17 = some (17, .istore_n 2, 1, (0, 0, 0, 0, 0), ⟨"", "", ""⟩, "") := rfl
theorem ee_81_17 {d : Nat} {h : aH} {l0 l1 l2 : Value} {x : Int32} {st : List Value} : go d 81 17 [l0, l1, l2] (.int x :: st) h = go d 81 18 [l0, l1, .int x] st h := go_plain (q := (18, [l0, l1, .int x], st, h)) ke_81_17 rfl
theorem ke_81_18 : alook 81 18 = some (18, .iload_n 2, 1, (0, 0, 0, 0, 0), ⟨"", "", ""⟩, "") := rfl
theorem ee_81_18 {d : Nat} {h : aH} {l0 l1 : Value} {x : Int32} {st : List Value} : go d 81 18 [l0, l1, .int x] st h = go d 81 19 [l0, l1, .int x] (.int x :: st) h := go_plain (q := (19, [l0, l1, .int x], (.int x :: st), h)) ke_81_18 rfl
theorem ke_81_19 : alook 81 19 = some (19, .aload_n 0, 1, (0, 0, 0, 0, 0), ⟨"", "", ""⟩, "") := rfl
theorem ee_81_19 {d : Nat} {h : aH} {l1 l2 : Value} {x : Nat} {st : List Value} : go d 81 19 [.ref x, l1, l2] st h = go d 81 20 [.ref x, l1, l2] (.ref x :: st) h := go_plain (q := (20, [.ref x, l1, l2], (.ref x :: st), h)) ke_81_19 rfl
theorem ee_81_19N {d : Nat} {h : aH} {l1 l2 : Value} {st : List Value} : go d 81 19 [.null, l1, l2] st h = go d 81 20 [.null, l1, l2] (.null :: st) h := go_plain (q := (20, [.null, l1, l2], (.null :: st), h)) ke_81_19 rfl
theorem ke_81_20 : alook 81 20 = some (20, .getfield 47, 3, (4, 8, 8, 0, 0), ⟨"", "", ""⟩, "WordHidesModel") := rfl
theorem ee_81_20 {d : Nat} {ls st : List Value} {h : aH} {r : Nat} : go d 81 20 ls (.ref r :: st) h = (gf h r 4 8 8).bind fun z => go d 81 23 ls (z :: st) h := go_getf ke_81_20
theorem ke_81_23 : alook 81 23 = some (23, .if_icmp .ge 48, 3, (71, 0, 0, 0, 0), ⟨"", "", ""⟩, "") := rfl
theorem ee_81_23 {d : Nat} {ls st : List Value} {h : aH} {x y : Int32} : go d 81 23 ls (.int y :: .int x :: st) h = if y ≤ x then go d 81 71 ls st h else go d 81 26 ls st h := go_ci (go_if2 (tg := 71) (q := 26) (f := fun x y => decide (y ≤ x)) ke_81_23 rfl)
theorem ke_81_26 : alook 81 26 = some (26, .iload_n 1, 1, (0, 0, 0, 0, 0), ⟨"", "", ""⟩, "") := rfl
theorem ee_81_26 {d : Nat} {h : aH} {l0 l2 : Value} {x : Int32} {st : List Value} : go d 81 26 [l0, .int x, l2] st h = go d 81 27 [l0, .int x, l2] (.int x :: st) h := go_plain (q := (27, [l0, .int x, l2], (.int x :: st), h)) ke_81_26 rfl
theorem ke_81_27 : alook 81 27 = some (27, .aload_n 0, 1, (0, 0, 0, 0, 0), ⟨"", "", ""⟩, "") := rfl
theorem ee_81_27 {d : Nat} {h : aH} {l1 l2 : Value} {x : Nat} {st : List Value} : go d 81 27 [.ref x, l1, l2] st h = go d 81 28 [.ref x, l1, l2] (.ref x :: st) h := go_plain (q := (28, [.ref x, l1, l2], (.ref x :: st), h)) ke_81_27 rfl
theorem ee_81_27N {d : Nat} {h : aH} {l1 l2 : Value} {st : List Value} : go d 81 27 [.null, l1, l2] st h = go d 81 28 [.null, l1, l2] (.null :: st) h := go_plain (q := (28, [.null, l1, l2], (.null :: st), h)) ke_81_27 rfl
theorem ke_81_28 : alook 81 28 = some (28, .getfield 7, 3, (0, 8, 8, 2, 0), ⟨"", "", ""⟩, "WordHidesModel") := rfl
theorem ee_81_28 {d : Nat} {ls st : List Value} {h : aH} {r : Nat} : go d 81 28 ls (.ref r :: st) h = (gf h r 0 8 8).bind fun z => go d 81 31 ls (z :: st) h := go_getf ke_81_28
theorem ke_81_31 : alook 81 31 = some (31, .iconst 1, 1, (0, 0, 0, 0, 0), ⟨"", "", ""⟩, "") := rfl
theorem ee_81_31 {d : Nat} {h : aH} {ls st : List Value} : go d 81 31 ls st h = go d 81 32 ls (.int 1 :: st) h := go_plain (q := (32, ls, (.int 1 :: st), h)) ke_81_31 rfl
theorem ke_81_32 : alook 81 32 = some (32, .iload_n 2, 1, (0, 0, 0, 0, 0), ⟨"", "", ""⟩, "") := rfl
theorem ee_81_32 {d : Nat} {h : aH} {l0 l1 : Value} {x : Int32} {st : List Value} : go d 81 32 [l0, l1, .int x] st h = go d 81 33 [l0, l1, .int x] (.int x :: st) h := go_plain (q := (33, [l0, l1, .int x], (.int x :: st), h)) ke_81_32 rfl
theorem ke_81_33 : alook 81 33 = some (33, .iadd, 1, (0, 0, 0, 0, 0), ⟨"", "", ""⟩, "") := rfl
theorem ee_81_33 {d : Nat} {h : aH} {ls st : List Value} {x y : Int32} : go d 81 33 ls (.int y :: .int x :: st) h = go d 81 34 ls (.int (x + y) :: st) h := go_plain (q := (34, ls, (.int (x + y) :: st), h)) ke_81_33 rfl
theorem ke_81_34 : alook 81 34 = some (34, .iaload, 1, (0, 0, 0, 0, 0), ⟨"", "", ""⟩, "") := rfl
theorem ee_81_34 {d : Nat} {ls st : List Value} {h : aH} {r : Nat} {i : Int32} : go d 81 34 ls (.int i :: .ref r :: st) h = (ia h r i).bind fun z => go d 81 35 ls (.int z :: st) h := go_iald ke_81_34
theorem ke_81_35 : alook 81 35 = some (35, .aload_n 0, 1, (0, 0, 0, 0, 0), ⟨"", "", ""⟩, "") := rfl
theorem ee_81_35 {d : Nat} {h : aH} {l1 l2 : Value} {x : Nat} {st : List Value} : go d 81 35 [.ref x, l1, l2] st h = go d 81 36 [.ref x, l1, l2] (.ref x :: st) h := go_plain (q := (36, [.ref x, l1, l2], (.ref x :: st), h)) ke_81_35 rfl
theorem ee_81_35N {d : Nat} {h : aH} {l1 l2 : Value} {st : List Value} : go d 81 35 [.null, l1, l2] st h = go d 81 36 [.null, l1, l2] (.null :: st) h := go_plain (q := (36, [.null, l1, l2], (.null :: st), h)) ke_81_35 rfl
theorem ke_81_36 : alook 81 36 = some (36, .getfield 20, 3, (3, 8, 8, 2, 0), ⟨"", "", ""⟩, "WordHidesModel") := rfl
theorem ee_81_36 {d : Nat} {ls st : List Value} {h : aH} {r : Nat} : go d 81 36 ls (.ref r :: st) h = (gf h r 3 8 8).bind fun z => go d 81 39 ls (z :: st) h := go_getf ke_81_36
theorem ke_81_39 : alook 81 39 = some (39, .iload_n 2, 1, (0, 0, 0, 0, 0), ⟨"", "", ""⟩, "") := rfl
theorem ee_81_39 {d : Nat} {h : aH} {l0 l1 : Value} {x : Int32} {st : List Value} : go d 81 39 [l0, l1, .int x] st h = go d 81 40 [l0, l1, .int x] (.int x :: st) h := go_plain (q := (40, [l0, l1, .int x], (.int x :: st), h)) ke_81_39 rfl
theorem ke_81_40 : alook 81 40 = some (40, .iaload, 1, (0, 0, 0, 0, 0), ⟨"", "", ""⟩, "") := rfl
theorem ee_81_40 {d : Nat} {ls st : List Value} {h : aH} {r : Nat} {i : Int32} : go d 81 40 ls (.int i :: .ref r :: st) h = (ia h r i).bind fun z => go d 81 41 ls (.int z :: st) h := go_iald ke_81_40
theorem ke_81_41 : alook 81 41 = some (41, .if_icmp .ne 7, 3, (48, 0, 0, 0, 0), ⟨"", "", ""⟩, "") := rfl
theorem ee_81_41 {d : Nat} {ls st : List Value} {h : aH} {x y : Int32} : go d 81 41 ls (.int y :: .int x :: st) h = if ¬ x = y then go d 81 48 ls st h else go d 81 44 ls st h := go_ci (go_if2 (tg := 48) (q := 44) (f := fun x y => decide (¬ x = y)) ke_81_41 rfl)
theorem ke_81_44 : alook 81 44 = some (44, .iconst 0, 1, (0, 0, 0, 0, 0), ⟨"", "", ""⟩, "") := rfl
theorem ee_81_44 {d : Nat} {h : aH} {ls st : List Value} : go d 81 44 ls st h = go d 81 45 ls (.int 0 :: st) h := go_plain (q := (45, ls, (.int 0 :: st), h)) ke_81_44 rfl
theorem ke_81_45 : alook 81 45 = some (45, .goto 4, 3, (49, 0, 0, 0, 0), ⟨"", "", ""⟩, "") := rfl
theorem ee_81_45 {d : Nat} {h : aH} {ls st : List Value} : go d 81 45 ls st h = go d 81 49 ls st h := go_plain (q := (49, ls, st, h)) ke_81_45 rfl
theorem ke_81_48 : alook 81 48 = some (48, .iconst 1, 1, (0, 0, 0, 0, 0), ⟨"", "", ""⟩, "") := rfl
theorem ee_81_48 {d : Nat} {h : aH} {ls st : List Value} : go d 81 48 ls st h = go d 81 49 ls (.int 1 :: st) h := go_plain (q := (49, ls, (.int 1 :: st), h)) ke_81_48 rfl
theorem ke_81_49 : alook 81 49 = some (49, .iadd, 1, (0, 0, 0, 0, 0), ⟨"", "", ""⟩, "") := rfl
theorem ee_81_49 {d : Nat} {h : aH} {ls st : List Value} {x y : Int32} : go d 81 49 ls (.int y :: .int x :: st) h = go d 81 50 ls (.int (x + y) :: st) h := go_plain (q := (50, ls, (.int (x + y) :: st), h)) ke_81_49 rfl
theorem ke_81_50 : alook 81 50 = some (50, .istore_n 1, 1, (0, 0, 0, 0, 0), ⟨"", "", ""⟩, "") := rfl
theorem ee_81_50 {d : Nat} {h : aH} {l0 l1 l2 : Value} {x : Int32} {st : List Value} : go d 81 50 [l0, l1, l2] (.int x :: st) h = go d 81 51 [l0, .int x, l2] st h := go_plain (q := (51, [l0, .int x, l2], st, h)) ke_81_50 rfl
theorem ke_81_51 : alook 81 51 = some (51, .aload_n 0, 1, (0, 0, 0, 0, 0), ⟨"", "", ""⟩, "") := rfl
theorem ee_81_51 {d : Nat} {h : aH} {l1 l2 : Value} {x : Nat} {st : List Value} : go d 81 51 [.ref x, l1, l2] st h = go d 81 52 [.ref x, l1, l2] (.ref x :: st) h := go_plain (q := (52, [.ref x, l1, l2], (.ref x :: st), h)) ke_81_51 rfl
theorem ee_81_51N {d : Nat} {h : aH} {l1 l2 : Value} {st : List Value} : go d 81 51 [.null, l1, l2] st h = go d 81 52 [.null, l1, l2] (.null :: st) h := go_plain (q := (52, [.null, l1, l2], (.null :: st), h)) ke_81_51 rfl
theorem ke_81_52 : alook 81 52 = some (52, .getfield 7, 3, (0, 8, 8, 2, 0), ⟨"", "", ""⟩, "WordHidesModel") := rfl
theorem ee_81_52 {d : Nat} {ls st : List Value} {h : aH} {r : Nat} : go d 81 52 ls (.ref r :: st) h = (gf h r 0 8 8).bind fun z => go d 81 55 ls (z :: st) h := go_getf ke_81_52
theorem ke_81_55 : alook 81 55 = some (55, .iconst 1, 1, (0, 0, 0, 0, 0), ⟨"", "", ""⟩, "") := rfl
theorem ee_81_55 {d : Nat} {h : aH} {ls st : List Value} : go d 81 55 ls st h = go d 81 56 ls (.int 1 :: st) h := go_plain (q := (56, ls, (.int 1 :: st), h)) ke_81_55 rfl
theorem ke_81_56 : alook 81 56 = some (56, .iload_n 2, 1, (0, 0, 0, 0, 0), ⟨"", "", ""⟩, "") := rfl
theorem ee_81_56 {d : Nat} {h : aH} {l0 l1 : Value} {x : Int32} {st : List Value} : go d 81 56 [l0, l1, .int x] st h = go d 81 57 [l0, l1, .int x] (.int x :: st) h := go_plain (q := (57, [l0, l1, .int x], (.int x :: st), h)) ke_81_56 rfl
theorem ke_81_57 : alook 81 57 = some (57, .iadd, 1, (0, 0, 0, 0, 0), ⟨"", "", ""⟩, "") := rfl
theorem ee_81_57 {d : Nat} {h : aH} {ls st : List Value} {x y : Int32} : go d 81 57 ls (.int y :: .int x :: st) h = go d 81 58 ls (.int (x + y) :: st) h := go_plain (q := (58, ls, (.int (x + y) :: st), h)) ke_81_57 rfl
theorem ke_81_58 : alook 81 58 = some (58, .aload_n 0, 1, (0, 0, 0, 0, 0), ⟨"", "", ""⟩, "") := rfl
theorem ee_81_58 {d : Nat} {h : aH} {l1 l2 : Value} {x : Nat} {st : List Value} : go d 81 58 [.ref x, l1, l2] st h = go d 81 59 [.ref x, l1, l2] (.ref x :: st) h := go_plain (q := (59, [.ref x, l1, l2], (.ref x :: st), h)) ke_81_58 rfl
theorem ee_81_58N {d : Nat} {h : aH} {l1 l2 : Value} {st : List Value} : go d 81 58 [.null, l1, l2] st h = go d 81 59 [.null, l1, l2] (.null :: st) h := go_plain (q := (59, [.null, l1, l2], (.null :: st), h)) ke_81_58 rfl
theorem ke_81_59 : alook 81 59 = some (59, .getfield 20, 3, (3, 8, 8, 2, 0), ⟨"", "", ""⟩, "WordHidesModel") := rfl
theorem ee_81_59 {d : Nat} {ls st : List Value} {h : aH} {r : Nat} : go d 81 59 ls (.ref r :: st) h = (gf h r 3 8 8).bind fun z => go d 81 62 ls (z :: st) h := go_getf ke_81_59
theorem ke_81_62 : alook 81 62 = some (62, .iload_n 2, 1, (0, 0, 0, 0, 0), ⟨"", "", ""⟩, "") := rfl
theorem ee_81_62 {d : Nat} {h : aH} {l0 l1 : Value} {x : Int32} {st : List Value} : go d 81 62 [l0, l1, .int x] st h = go d 81 63 [l0, l1, .int x] (.int x :: st) h := go_plain (q := (63, [l0, l1, .int x], (.int x :: st), h)) ke_81_62 rfl
theorem ke_81_63 : alook 81 63 = some (63, .iaload, 1, (0, 0, 0, 0, 0), ⟨"", "", ""⟩, "") := rfl
theorem ee_81_63 {d : Nat} {ls st : List Value} {h : aH} {r : Nat} {i : Int32} : go d 81 63 ls (.int i :: .ref r :: st) h = (ia h r i).bind fun z => go d 81 64 ls (.int z :: st) h := go_iald ke_81_63
theorem ke_81_64 : alook 81 64 = some (64, .iastore, 1, (0, 0, 0, 0, 0), ⟨"", "", ""⟩, "") := rfl
theorem ee_81_64 {d : Nat} {ls st : List Value} {h : aH} {r : Nat} {i x : Int32} : go d 81 64 ls (.int x :: .int i :: .ref r :: st) h = (is_ h r i x).bind fun h' => go d 81 65 ls st h' := go_iast ke_81_64
theorem ke_81_65 : alook 81 65 = some (65, .iinc 2 1, 3, (0, 0, 0, 0, 0), ⟨"", "", ""⟩, "") := rfl
theorem ee_81_65 {d : Nat} {h : aH} {l0 l1 : Value} {x : Int32} {st : List Value} : go d 81 65 [l0, l1, .int x] st h = go d 81 68 [l0, l1, .int (x + 1)] st h := go_plain (q := (68, [l0, l1, .int (x + 1)], st, h)) ke_81_65 rfl
theorem ke_81_68 : alook 81 68 = some (68, .goto (-50), 3, (18, 0, 0, 0, 0), ⟨"", "", ""⟩, "") := rfl
theorem ee_81_68 {d : Nat} {h : aH} {ls st : List Value} : go d 81 68 ls st h = go d 81 18 ls st h := go_plain (q := (18, ls, st, h)) ke_81_68 rfl
theorem ke_81_71 : alook 81 71 = some (71, .aload_n 0, 1, (0, 0, 0, 0, 0), ⟨"", "", ""⟩, "") := rfl
theorem ee_81_71 {d : Nat} {h : aH} {l1 l2 : Value} {x : Nat} {st : List Value} : go d 81 71 [.ref x, l1, l2] st h = go d 81 72 [.ref x, l1, l2] (.ref x :: st) h := go_plain (q := (72, [.ref x, l1, l2], (.ref x :: st), h)) ke_81_71 rfl
theorem ee_81_71N {d : Nat} {h : aH} {l1 l2 : Value} {st : List Value} : go d 81 71 [.null, l1, l2] st h = go d 81 72 [.null, l1, l2] (.null :: st) h := go_plain (q := (72, [.null, l1, l2], (.null :: st), h)) ke_81_71 rfl
theorem ke_81_72 : alook 81 72 = some (72, .iconst 0, 1, (0, 0, 0, 0, 0), ⟨"", "", ""⟩, "") := rfl
theorem ee_81_72 {d : Nat} {h : aH} {ls st : List Value} : go d 81 72 ls st h = go d 81 73 ls (.int 0 :: st) h := go_plain (q := (73, ls, (.int 0 :: st), h)) ke_81_72 rfl
theorem ke_81_73 : alook 81 73 = some (73, .putfield 47, 3, (4, 8, 8, 0, 0), ⟨"", "", ""⟩, "WordHidesModel") := rfl
theorem ee_81_73 {d : Nat} {ls st : List Value} {h : aH} {r : Nat} {w : Value} : go d 81 73 ls (w :: .ref r :: st) h = (pf h r 4 8 8 0 w).bind fun h' => go d 81 76 ls st h' := go_putf ke_81_73
theorem ke_81_76 : alook 81 76 = some (76, .iload_n 1, 1, (0, 0, 0, 0, 0), ⟨"", "", ""⟩, "") := rfl
theorem ee_81_76 {d : Nat} {h : aH} {l0 l2 : Value} {x : Int32} {st : List Value} : go d 81 76 [l0, .int x, l2] st h = go d 81 77 [l0, .int x, l2] (.int x :: st) h := go_plain (q := (77, [l0, .int x, l2], (.int x :: st), h)) ke_81_76 rfl
theorem ke_81_77 : alook 81 77 = some (77, .ireturn, 1, (0, 0, 0, 0, 0), ⟨"", "", ""⟩, "") := rfl
theorem ee_81_77 {d : Nat} {ls : List Value} {h : aH} {v : Int32} : go d 81 77 ls [.int v] h = some (some (.int v), h) := go_iret ke_81_77
theorem ke_82_0 : alook 82 0 = some (0, .iload_n 1, 1, (0, 0, 0, 0, 0), ⟨"", "", ""⟩, "") := rfl
theorem ee_82_0 {d : Nat} {h : aH} {l0 l2 l3 : Value} {x : Int32} {st : List Value} : go d 82 0 [l0, .int x, l2, l3] st h = go d 82 1 [l0, .int x, l2, l3] (.int x :: st) h := go_plain (q := (1, [l0, .int x, l2, l3], (.int x :: st), h)) ke_82_0 rfl
theorem ke_82_1 : alook 82 1 = some (1, .iconst 0, 1, (0, 0, 0, 0, 0), ⟨"", "", ""⟩, "") := rfl
theorem ee_82_1 {d : Nat} {h : aH} {ls st : List Value} : go d 82 1 ls st h = go d 82 2 ls (.int 0 :: st) h := go_plain (q := (2, ls, (.int 0 :: st), h)) ke_82_1 rfl
theorem ke_82_2 : alook 82 2 = some (2, .iconst 2, 1, (0, 0, 0, 0, 0), ⟨"", "", ""⟩, "") := rfl
theorem ee_82_2 {d : Nat} {h : aH} {ls st : List Value} : go d 82 2 ls st h = go d 82 3 ls (.int 2 :: st) h := go_plain (q := (3, ls, (.int 2 :: st), h)) ke_82_2 rfl
theorem ke_82_3 : alook 82 3 = some (3, .invokestatic 36, 3, (3, 0, 65, 0, 0), ⟨"WordHidesModel", "in", "(III)Z"⟩, "") := rfl
theorem ee_82_3 {d : Nat} {ls : List Value} {h : aH} {i0 : Int32} {i1 : Int32} {i2 : Int32} : go (d + 1) 82 3 ls [.int i0, .int i1, .int i2] h = (go d 65 0 [.int i2, .int i1, .int i0] [] h).bind (fun q => go (d + 1) 82 6 ls (q.1.toList ++ []) q.2) := go_cs (as := [.int i2, .int i1, .int i0]) (rest := []) (L := [.int i2, .int i1, .int i0]) ke_82_3 rfl rfl rfl
theorem ke_82_6 : alook 82 6 = some (6, .ifCond .eq 8, 3, (14, 0, 0, 0, 0), ⟨"", "", ""⟩, "") := rfl
theorem ee_82_6 {d : Nat} {ls st : List Value} {h : aH} {x : Int32} : go d 82 6 ls (.int x :: st) h = if x = 0 then go d 82 14 ls st h else go d 82 9 ls st h := go_c1 (go_if1 (tg := 14) (q := 9) (f := fun x => decide (x = 0)) ke_82_6 rfl)
theorem ke_82_9 : alook 82 9 = some (9, .iload_n 3, 1, (0, 0, 0, 0, 0), ⟨"", "", ""⟩, "") := rfl
theorem ee_82_9 {d : Nat} {h : aH} {l0 l1 l2 : Value} {x : Int32} {st : List Value} : go d 82 9 [l0, l1, l2, .int x] st h = go d 82 10 [l0, l1, l2, .int x] (.int x :: st) h := go_plain (q := (10, [l0, l1, l2, .int x], (.int x :: st), h)) ke_82_9 rfl
theorem ke_82_10 : alook 82 10 = some (10, .iconst (-1), 1, (0, 0, 0, 0, 0), ⟨"", "", ""⟩, "") := rfl
theorem ee_82_10 {d : Nat} {h : aH} {ls st : List Value} : go d 82 10 ls st h = go d 82 11 ls (.int (-1) :: st) h := go_plain (q := (11, ls, (.int (-1) :: st), h)) ke_82_10 rfl
theorem ke_82_11 : alook 82 11 = some (11, .if_icmp .ge 6, 3, (17, 0, 0, 0, 0), ⟨"", "", ""⟩, "") := rfl
theorem ee_82_11 {d : Nat} {ls st : List Value} {h : aH} {x y : Int32} : go d 82 11 ls (.int y :: .int x :: st) h = if y ≤ x then go d 82 17 ls st h else go d 82 14 ls st h := go_ci (go_if2 (tg := 17) (q := 14) (f := fun x y => decide (y ≤ x)) ke_82_11 rfl)
theorem ke_82_14 : alook 82 14 = some (14, .bipush (-2), 2, (0, 0, 0, 0, 0), ⟨"", "", ""⟩, "") := rfl
theorem ee_82_14 {d : Nat} {h : aH} {ls st : List Value} : go d 82 14 ls st h = go d 82 16 ls (.int (-2) :: st) h := go_plain (q := (16, ls, (.int (-2) :: st), h)) ke_82_14 rfl
theorem ke_82_16 : alook 82 16 = some (16, .ireturn, 1, (0, 0, 0, 0, 0), ⟨"", "", ""⟩, "") := rfl
theorem ee_82_16 {d : Nat} {ls : List Value} {h : aH} {v : Int32} : go d 82 16 ls [.int v] h = some (some (.int v), h) := go_iret ke_82_16
theorem ke_82_17 : alook 82 17 = some (17, .iload_n 1, 1, (0, 0, 0, 0, 0), ⟨"", "", ""⟩, "") := rfl
theorem ee_82_17 {d : Nat} {h : aH} {l0 l2 l3 : Value} {x : Int32} {st : List Value} : go d 82 17 [l0, .int x, l2, l3] st h = go d 82 18 [l0, .int x, l2, l3] (.int x :: st) h := go_plain (q := (18, [l0, .int x, l2, l3], (.int x :: st), h)) ke_82_17 rfl
theorem ke_82_18 : alook 82 18 = some (18, .iconst 2, 1, (0, 0, 0, 0, 0), ⟨"", "", ""⟩, "") := rfl
theorem ee_82_18 {d : Nat} {h : aH} {ls st : List Value} : go d 82 18 ls st h = go d 82 19 ls (.int 2 :: st) h := go_plain (q := (19, ls, (.int 2 :: st), h)) ke_82_18 rfl
theorem ke_82_19 : alook 82 19 = some (19, .if_icmp .ne 44, 3, (63, 0, 0, 0, 0), ⟨"", "", ""⟩, "") := rfl
theorem ee_82_19 {d : Nat} {ls st : List Value} {h : aH} {x y : Int32} : go d 82 19 ls (.int y :: .int x :: st) h = if ¬ x = y then go d 82 63 ls st h else go d 82 22 ls st h := go_ci (go_if2 (tg := 63) (q := 22) (f := fun x y => decide (¬ x = y)) ke_82_19 rfl)
theorem ke_82_22 : alook 82 22 = some (22, .iload_n 3, 1, (0, 0, 0, 0, 0), ⟨"", "", ""⟩, "") := rfl
theorem ee_82_22 {d : Nat} {h : aH} {l0 l1 l2 : Value} {x : Int32} {st : List Value} : go d 82 22 [l0, l1, l2, .int x] st h = go d 82 23 [l0, l1, l2, .int x] (.int x :: st) h := go_plain (q := (23, [l0, l1, l2, .int x], (.int x :: st), h)) ke_82_22 rfl
theorem ke_82_23 : alook 82 23 = some (23, .iconst (-1), 1, (0, 0, 0, 0, 0), ⟨"", "", ""⟩, "") := rfl
theorem ee_82_23 {d : Nat} {h : aH} {ls st : List Value} : go d 82 23 ls st h = go d 82 24 ls (.int (-1) :: st) h := go_plain (q := (24, ls, (.int (-1) :: st), h)) ke_82_23 rfl
theorem ke_82_24 : alook 82 24 = some (24, .if_icmp .ne 13, 3, (37, 0, 0, 0, 0), ⟨"", "", ""⟩, "") := rfl
theorem ee_82_24 {d : Nat} {ls st : List Value} {h : aH} {x y : Int32} : go d 82 24 ls (.int y :: .int x :: st) h = if ¬ x = y then go d 82 37 ls st h else go d 82 27 ls st h := go_ci (go_if2 (tg := 37) (q := 27) (f := fun x y => decide (¬ x = y)) ke_82_24 rfl)
theorem ke_82_27 : alook 82 27 = some (27, .aload_n 0, 1, (0, 0, 0, 0, 0), ⟨"", "", ""⟩, "") := rfl
theorem ee_82_27 {d : Nat} {h : aH} {l1 l2 l3 : Value} {x : Nat} {st : List Value} : go d 82 27 [.ref x, l1, l2, l3] st h = go d 82 28 [.ref x, l1, l2, l3] (.ref x :: st) h := go_plain (q := (28, [.ref x, l1, l2, l3], (.ref x :: st), h)) ke_82_27 rfl
theorem ee_82_27N {d : Nat} {h : aH} {l1 l2 l3 : Value} {st : List Value} : go d 82 27 [.null, l1, l2, l3] st h = go d 82 28 [.null, l1, l2, l3] (.null :: st) h := go_plain (q := (28, [.null, l1, l2, l3], (.null :: st), h)) ke_82_27 rfl
theorem ke_82_28 : alook 82 28 = some (28, .getfield 7, 3, (0, 8, 8, 2, 0), ⟨"", "", ""⟩, "WordHidesModel") := rfl
theorem ee_82_28 {d : Nat} {ls st : List Value} {h : aH} {r : Nat} : go d 82 28 ls (.ref r :: st) h = (gf h r 0 8 8).bind fun z => go d 82 31 ls (z :: st) h := go_getf ke_82_28
theorem ke_82_31 : alook 82 31 = some (31, .bipush 26, 2, (0, 0, 0, 0, 0), ⟨"", "", ""⟩, "") := rfl
theorem ee_82_31 {d : Nat} {h : aH} {ls st : List Value} : go d 82 31 ls st h = go d 82 33 ls (.int 26 :: st) h := go_plain (q := (33, ls, (.int 26 :: st), h)) ke_82_31 rfl
theorem ke_82_33 : alook 82 33 = some (33, .iaload, 1, (0, 0, 0, 0, 0), ⟨"", "", ""⟩, "") := rfl
theorem ee_82_33 {d : Nat} {ls st : List Value} {h : aH} {r : Nat} {i : Int32} : go d 82 33 ls (.int i :: .ref r :: st) h = (ia h r i).bind fun z => go d 82 34 ls (.int z :: st) h := go_iald ke_82_33
theorem ke_82_34 : alook 82 34 = some (34, .goto 28, 3, (62, 0, 0, 0, 0), ⟨"", "", ""⟩, "") := rfl
theorem ee_82_34 {d : Nat} {h : aH} {ls st : List Value} : go d 82 34 ls st h = go d 82 62 ls st h := go_plain (q := (62, ls, st, h)) ke_82_34 rfl
theorem ke_82_37 : alook 82 37 = some (37, .iload_n 3, 1, (0, 0, 0, 0, 0), ⟨"", "", ""⟩, "") := rfl
theorem ee_82_37 {d : Nat} {h : aH} {l0 l1 l2 : Value} {x : Int32} {st : List Value} : go d 82 37 [l0, l1, l2, .int x] st h = go d 82 38 [l0, l1, l2, .int x] (.int x :: st) h := go_plain (q := (38, [l0, l1, l2, .int x], (.int x :: st), h)) ke_82_37 rfl
theorem ke_82_38 : alook 82 38 = some (38, .aload_n 0, 1, (0, 0, 0, 0, 0), ⟨"", "", ""⟩, "") := rfl
theorem ee_82_38 {d : Nat} {h : aH} {l1 l2 l3 : Value} {x : Nat} {st : List Value} : go d 82 38 [.ref x, l1, l2, l3] st h = go d 82 39 [.ref x, l1, l2, l3] (.ref x :: st) h := go_plain (q := (39, [.ref x, l1, l2, l3], (.ref x :: st), h)) ke_82_38 rfl
theorem ee_82_38N {d : Nat} {h : aH} {l1 l2 l3 : Value} {st : List Value} : go d 82 38 [.null, l1, l2, l3] st h = go d 82 39 [.null, l1, l2, l3] (.null :: st) h := go_plain (q := (39, [.null, l1, l2, l3], (.null :: st), h)) ke_82_38 rfl
theorem ke_82_39 : alook 82 39 = some (39, .getfield 7, 3, (0, 8, 8, 2, 0), ⟨"", "", ""⟩, "WordHidesModel") := rfl
theorem ee_82_39 {d : Nat} {ls st : List Value} {h : aH} {r : Nat} : go d 82 39 ls (.ref r :: st) h = (gf h r 0 8 8).bind fun z => go d 82 42 ls (z :: st) h := go_getf ke_82_39
theorem ke_82_42 : alook 82 42 = some (42, .bipush 26, 2, (0, 0, 0, 0, 0), ⟨"", "", ""⟩, "") := rfl
theorem ee_82_42 {d : Nat} {h : aH} {ls st : List Value} : go d 82 42 ls st h = go d 82 44 ls (.int 26 :: st) h := go_plain (q := (44, ls, (.int 26 :: st), h)) ke_82_42 rfl
theorem ke_82_44 : alook 82 44 = some (44, .iaload, 1, (0, 0, 0, 0, 0), ⟨"", "", ""⟩, "") := rfl
theorem ee_82_44 {d : Nat} {ls st : List Value} {h : aH} {r : Nat} {i : Int32} : go d 82 44 ls (.int i :: .ref r :: st) h = (ia h r i).bind fun z => go d 82 45 ls (.int z :: st) h := go_iald ke_82_44
theorem ke_82_45 : alook 82 45 = some (45, .if_icmp .ge 15, 3, (60, 0, 0, 0, 0), ⟨"", "", ""⟩, "") := rfl
theorem ee_82_45 {d : Nat} {ls st : List Value} {h : aH} {x y : Int32} : go d 82 45 ls (.int y :: .int x :: st) h = if y ≤ x then go d 82 60 ls st h else go d 82 48 ls st h := go_ci (go_if2 (tg := 60) (q := 48) (f := fun x y => decide (y ≤ x)) ke_82_45 rfl)
theorem ke_82_48 : alook 82 48 = some (48, .aload_n 0, 1, (0, 0, 0, 0, 0), ⟨"", "", ""⟩, "") := rfl
theorem ee_82_48 {d : Nat} {h : aH} {l1 l2 l3 : Value} {x : Nat} {st : List Value} : go d 82 48 [.ref x, l1, l2, l3] st h = go d 82 49 [.ref x, l1, l2, l3] (.ref x :: st) h := go_plain (q := (49, [.ref x, l1, l2, l3], (.ref x :: st), h)) ke_82_48 rfl
theorem ee_82_48N {d : Nat} {h : aH} {l1 l2 l3 : Value} {st : List Value} : go d 82 48 [.null, l1, l2, l3] st h = go d 82 49 [.null, l1, l2, l3] (.null :: st) h := go_plain (q := (49, [.null, l1, l2, l3], (.null :: st), h)) ke_82_48 rfl
theorem ke_82_49 : alook 82 49 = some (49, .getfield 7, 3, (0, 8, 8, 2, 0), ⟨"", "", ""⟩, "WordHidesModel") := rfl
theorem ee_82_49 {d : Nat} {ls st : List Value} {h : aH} {r : Nat} : go d 82 49 ls (.ref r :: st) h = (gf h r 0 8 8).bind fun z => go d 82 52 ls (z :: st) h := go_getf ke_82_49
theorem ke_82_52 : alook 82 52 = some (52, .bipush 17, 2, (0, 0, 0, 0, 0), ⟨"", "", ""⟩, "") := rfl
theorem ee_82_52 {d : Nat} {h : aH} {ls st : List Value} : go d 82 52 ls st h = go d 82 54 ls (.int 17 :: st) h := go_plain (q := (54, ls, (.int 17 :: st), h)) ke_82_52 rfl
theorem ke_82_54 : alook 82 54 = some (54, .iload_n 3, 1, (0, 0, 0, 0, 0), ⟨"", "", ""⟩, "") := rfl
theorem ee_82_54 {d : Nat} {h : aH} {l0 l1 l2 : Value} {x : Int32} {st : List Value} : go d 82 54 [l0, l1, l2, .int x] st h = go d 82 55 [l0, l1, l2, .int x] (.int x :: st) h := go_plain (q := (55, [l0, l1, l2, .int x], (.int x :: st), h)) ke_82_54 rfl
theorem ke_82_55 : alook 82 55 = some (55, .iadd, 1, (0, 0, 0, 0, 0), ⟨"", "", ""⟩, "") := rfl
theorem ee_82_55 {d : Nat} {h : aH} {ls st : List Value} {x y : Int32} : go d 82 55 ls (.int y :: .int x :: st) h = go d 82 56 ls (.int (x + y) :: st) h := go_plain (q := (56, ls, (.int (x + y) :: st), h)) ke_82_55 rfl
theorem ke_82_56 : alook 82 56 = some (56, .iaload, 1, (0, 0, 0, 0, 0), ⟨"", "", ""⟩, "") := rfl
theorem ee_82_56 {d : Nat} {ls st : List Value} {h : aH} {r : Nat} {i : Int32} : go d 82 56 ls (.int i :: .ref r :: st) h = (ia h r i).bind fun z => go d 82 57 ls (.int z :: st) h := go_iald ke_82_56
theorem ke_82_57 : alook 82 57 = some (57, .goto 5, 3, (62, 0, 0, 0, 0), ⟨"", "", ""⟩, "") := rfl
theorem ee_82_57 {d : Nat} {h : aH} {ls st : List Value} : go d 82 57 ls st h = go d 82 62 ls st h := go_plain (q := (62, ls, st, h)) ke_82_57 rfl
theorem ke_82_60 : alook 82 60 = some (60, .bipush (-6), 2, (0, 0, 0, 0, 0), ⟨"", "", ""⟩, "") := rfl
theorem ee_82_60 {d : Nat} {h : aH} {ls st : List Value} : go d 82 60 ls st h = go d 82 62 ls (.int (-6) :: st) h := go_plain (q := (62, ls, (.int (-6) :: st), h)) ke_82_60 rfl
theorem ke_82_62 : alook 82 62 = some (62, .ireturn, 1, (0, 0, 0, 0, 0), ⟨"", "", ""⟩, "") := rfl
theorem ee_82_62 {d : Nat} {ls : List Value} {h : aH} {v : Int32} : go d 82 62 ls [.int v] h = some (some (.int v), h) := go_iret ke_82_62
theorem ke_82_63 : alook 82 63 = some (63, .aload_n 0, 1, (0, 0, 0, 0, 0), ⟨"", "", ""⟩, "") := rfl
theorem ee_82_63 {d : Nat} {h : aH} {l1 l2 l3 : Value} {x : Nat} {st : List Value} : go d 82 63 [.ref x, l1, l2, l3] st h = go d 82 64 [.ref x, l1, l2, l3] (.ref x :: st) h := go_plain (q := (64, [.ref x, l1, l2, l3], (.ref x :: st), h)) ke_82_63 rfl
theorem ee_82_63N {d : Nat} {h : aH} {l1 l2 l3 : Value} {st : List Value} : go d 82 63 [.null, l1, l2, l3] st h = go d 82 64 [.null, l1, l2, l3] (.null :: st) h := go_plain (q := (64, [.null, l1, l2, l3], (.null :: st), h)) ke_82_63 rfl
theorem ke_82_64 : alook 82 64 = some (64, .iload_n 1, 1, (0, 0, 0, 0, 0), ⟨"", "", ""⟩, "") := rfl
theorem ee_82_64 {d : Nat} {h : aH} {l0 l2 l3 : Value} {x : Int32} {st : List Value} : go d 82 64 [l0, .int x, l2, l3] st h = go d 82 65 [l0, .int x, l2, l3] (.int x :: st) h := go_plain (q := (65, [l0, .int x, l2, l3], (.int x :: st), h)) ke_82_64 rfl
theorem ke_82_65 : alook 82 65 = some (65, .iload_n 2, 1, (0, 0, 0, 0, 0), ⟨"", "", ""⟩, "") := rfl
theorem ee_82_65 {d : Nat} {h : aH} {l0 l1 l3 : Value} {x : Int32} {st : List Value} : go d 82 65 [l0, l1, .int x, l3] st h = go d 82 66 [l0, l1, .int x, l3] (.int x :: st) h := go_plain (q := (66, [l0, l1, .int x, l3], (.int x :: st), h)) ke_82_65 rfl
theorem ke_82_66 : alook 82 66 = some (66, .invokevirtual 54, 3, (2, 8, 70, 8, 70), ⟨"WordHidesModel", "isWord", "(II)Z"⟩, "") := rfl
theorem ee_82_66 {d : Nat} {ls : List Value} {h : aH} {i0 : Int32} {i1 : Int32} {r2 : Nat} : go (d + 1) 82 66 ls [.int i0, .int i1, .ref r2] h = if isC h r2 8 = true then (go d 70 0 [.ref r2, .int i1, .int i0] [] h).bind (fun q => go (d + 1) 82 69 ls (q.1.toList ++ []) q.2) else none := go_cv1 (as := [.int i1, .int i0]) (rest := []) (L := [.ref r2, .int i1, .int i0]) ke_82_66 rfl rfl rfl
theorem ke_82_69 : alook 82 69 = some (69, .ifCond .ne 5, 3, (74, 0, 0, 0, 0), ⟨"", "", ""⟩, "") := rfl
theorem ee_82_69 {d : Nat} {ls st : List Value} {h : aH} {x : Int32} : go d 82 69 ls (.int x :: st) h = if ¬ x = 0 then go d 82 74 ls st h else go d 82 72 ls st h := go_c1 (go_if1 (tg := 74) (q := 72) (f := fun x => decide (¬ x = 0)) ke_82_69 rfl)
theorem ke_82_72 : alook 82 72 = some (72, .iconst (-1), 1, (0, 0, 0, 0, 0), ⟨"", "", ""⟩, "") := rfl
theorem ee_82_72 {d : Nat} {h : aH} {ls st : List Value} : go d 82 72 ls st h = go d 82 73 ls (.int (-1) :: st) h := go_plain (q := (73, ls, (.int (-1) :: st), h)) ke_82_72 rfl
theorem ke_82_73 : alook 82 73 = some (73, .ireturn, 1, (0, 0, 0, 0, 0), ⟨"", "", ""⟩, "") := rfl
theorem ee_82_73 {d : Nat} {ls : List Value} {h : aH} {v : Int32} : go d 82 73 ls [.int v] h = some (some (.int v), h) := go_iret ke_82_73
theorem ke_82_74 : alook 82 74 = some (74, .iload_n 3, 1, (0, 0, 0, 0, 0), ⟨"", "", ""⟩, "") := rfl
theorem ee_82_74 {d : Nat} {h : aH} {l0 l1 l2 : Value} {x : Int32} {st : List Value} : go d 82 74 [l0, l1, l2, .int x] st h = go d 82 75 [l0, l1, l2, .int x] (.int x :: st) h := go_plain (q := (75, [l0, l1, l2, .int x], (.int x :: st), h)) ke_82_74 rfl
theorem ke_82_75 : alook 82 75 = some (75, .iconst (-1), 1, (0, 0, 0, 0, 0), ⟨"", "", ""⟩, "") := rfl
theorem ee_82_75 {d : Nat} {h : aH} {ls st : List Value} : go d 82 75 ls st h = go d 82 76 ls (.int (-1) :: st) h := go_plain (q := (76, ls, (.int (-1) :: st), h)) ke_82_75 rfl
theorem ke_82_76 : alook 82 76 = some (76, .if_icmp .ne 12, 3, (88, 0, 0, 0, 0), ⟨"", "", ""⟩, "") := rfl
theorem ee_82_76 {d : Nat} {ls st : List Value} {h : aH} {x y : Int32} : go d 82 76 ls (.int y :: .int x :: st) h = if ¬ x = y then go d 82 88 ls st h else go d 82 79 ls st h := go_ci (go_if2 (tg := 88) (q := 79) (f := fun x y => decide (¬ x = y)) ke_82_76 rfl)
theorem ke_82_79 : alook 82 79 = some (79, .aload_n 0, 1, (0, 0, 0, 0, 0), ⟨"", "", ""⟩, "") := rfl
theorem ee_82_79 {d : Nat} {h : aH} {l1 l2 l3 : Value} {x : Nat} {st : List Value} : go d 82 79 [.ref x, l1, l2, l3] st h = go d 82 80 [.ref x, l1, l2, l3] (.ref x :: st) h := go_plain (q := (80, [.ref x, l1, l2, l3], (.ref x :: st), h)) ke_82_79 rfl
theorem ee_82_79N {d : Nat} {h : aH} {l1 l2 l3 : Value} {st : List Value} : go d 82 79 [.null, l1, l2, l3] st h = go d 82 80 [.null, l1, l2, l3] (.null :: st) h := go_plain (q := (80, [.null, l1, l2, l3], (.null :: st), h)) ke_82_79 rfl
theorem ke_82_80 : alook 82 80 = some (80, .iload_n 1, 1, (0, 0, 0, 0, 0), ⟨"", "", ""⟩, "") := rfl
theorem ee_82_80 {d : Nat} {h : aH} {l0 l2 l3 : Value} {x : Int32} {st : List Value} : go d 82 80 [l0, .int x, l2, l3] st h = go d 82 81 [l0, .int x, l2, l3] (.int x :: st) h := go_plain (q := (81, [l0, .int x, l2, l3], (.int x :: st), h)) ke_82_80 rfl
theorem ke_82_81 : alook 82 81 = some (81, .iload_n 2, 1, (0, 0, 0, 0, 0), ⟨"", "", ""⟩, "") := rfl
theorem ee_82_81 {d : Nat} {h : aH} {l0 l1 l3 : Value} {x : Int32} {st : List Value} : go d 82 81 [l0, l1, .int x, l3] st h = go d 82 82 [l0, l1, .int x, l3] (.int x :: st) h := go_plain (q := (82, [l0, l1, .int x, l3], (.int x :: st), h)) ke_82_81 rfl
theorem ke_82_82 : alook 82 82 = some (82, .invokevirtual 58, 3, (2, 8, 71, 8, 71), ⟨"WordHidesModel", "longOf", "(II)I"⟩, "") := rfl
theorem ee_82_82 {d : Nat} {ls : List Value} {h : aH} {i0 : Int32} {i1 : Int32} {r2 : Nat} : go (d + 1) 82 82 ls [.int i0, .int i1, .ref r2] h = if isC h r2 8 = true then (go d 71 0 [.ref r2, .int i1, .int i0] [] h).bind (fun q => go (d + 1) 82 85 ls (q.1.toList ++ []) q.2) else none := go_cv1 (as := [.int i1, .int i0]) (rest := []) (L := [.ref r2, .int i1, .int i0]) ke_82_82 rfl rfl rfl
theorem ke_82_85 : alook 82 85 = some (85, .goto 25, 3, (110, 0, 0, 0, 0), ⟨"", "", ""⟩, "") := rfl
theorem ee_82_85 {d : Nat} {h : aH} {ls st : List Value} : go d 82 85 ls st h = go d 82 110 ls st h := go_plain (q := (110, ls, st, h)) ke_82_85 rfl
theorem ke_82_88 : alook 82 88 = some (88, .iload_n 3, 1, (0, 0, 0, 0, 0), ⟨"", "", ""⟩, "") := rfl
theorem ee_82_88 {d : Nat} {h : aH} {l0 l1 l2 : Value} {x : Int32} {st : List Value} : go d 82 88 [l0, l1, l2, .int x] st h = go d 82 89 [l0, l1, l2, .int x] (.int x :: st) h := go_plain (q := (89, [l0, l1, l2, .int x], (.int x :: st), h)) ke_82_88 rfl
theorem ke_82_89 : alook 82 89 = some (89, .aload_n 0, 1, (0, 0, 0, 0, 0), ⟨"", "", ""⟩, "") := rfl
theorem ee_82_89 {d : Nat} {h : aH} {l1 l2 l3 : Value} {x : Nat} {st : List Value} : go d 82 89 [.ref x, l1, l2, l3] st h = go d 82 90 [.ref x, l1, l2, l3] (.ref x :: st) h := go_plain (q := (90, [.ref x, l1, l2, l3], (.ref x :: st), h)) ke_82_89 rfl
theorem ee_82_89N {d : Nat} {h : aH} {l1 l2 l3 : Value} {st : List Value} : go d 82 89 [.null, l1, l2, l3] st h = go d 82 90 [.null, l1, l2, l3] (.null :: st) h := go_plain (q := (90, [.null, l1, l2, l3], (.null :: st), h)) ke_82_89 rfl
theorem ke_82_90 : alook 82 90 = some (90, .iload_n 1, 1, (0, 0, 0, 0, 0), ⟨"", "", ""⟩, "") := rfl
theorem ee_82_90 {d : Nat} {h : aH} {l0 l2 l3 : Value} {x : Int32} {st : List Value} : go d 82 90 [l0, .int x, l2, l3] st h = go d 82 91 [l0, .int x, l2, l3] (.int x :: st) h := go_plain (q := (91, [l0, .int x, l2, l3], (.int x :: st), h)) ke_82_90 rfl
theorem ke_82_91 : alook 82 91 = some (91, .iload_n 2, 1, (0, 0, 0, 0, 0), ⟨"", "", ""⟩, "") := rfl
theorem ee_82_91 {d : Nat} {h : aH} {l0 l1 l3 : Value} {x : Int32} {st : List Value} : go d 82 91 [l0, l1, .int x, l3] st h = go d 82 92 [l0, l1, .int x, l3] (.int x :: st) h := go_plain (q := (92, [l0, l1, .int x, l3], (.int x :: st), h)) ke_82_91 rfl
theorem ke_82_92 : alook 82 92 = some (92, .invokevirtual 58, 3, (2, 8, 71, 8, 71), ⟨"WordHidesModel", "longOf", "(II)I"⟩, "") := rfl
theorem ee_82_92 {d : Nat} {ls : List Value} {h : aH} {i0 : Int32} {i1 : Int32} {r2 : Nat} {i3 : Int32} : go (d + 1) 82 92 ls [.int i0, .int i1, .ref r2, .int i3] h = if isC h r2 8 = true then (go d 71 0 [.ref r2, .int i1, .int i0] [] h).bind (fun q => go (d + 1) 82 95 ls (q.1.toList ++ [.int i3]) q.2) else none := go_cv1 (as := [.int i1, .int i0]) (rest := [.int i3]) (L := [.ref r2, .int i1, .int i0]) ke_82_92 rfl rfl rfl
theorem ke_82_95 : alook 82 95 = some (95, .if_icmp .ge 13, 3, (108, 0, 0, 0, 0), ⟨"", "", ""⟩, "") := rfl
theorem ee_82_95 {d : Nat} {ls st : List Value} {h : aH} {x y : Int32} : go d 82 95 ls (.int y :: .int x :: st) h = if y ≤ x then go d 82 108 ls st h else go d 82 98 ls st h := go_ci (go_if2 (tg := 108) (q := 98) (f := fun x y => decide (y ≤ x)) ke_82_95 rfl)
theorem ke_82_98 : alook 82 98 = some (98, .aload_n 0, 1, (0, 0, 0, 0, 0), ⟨"", "", ""⟩, "") := rfl
theorem ee_82_98 {d : Nat} {h : aH} {l1 l2 l3 : Value} {x : Nat} {st : List Value} : go d 82 98 [.ref x, l1, l2, l3] st h = go d 82 99 [.ref x, l1, l2, l3] (.ref x :: st) h := go_plain (q := (99, [.ref x, l1, l2, l3], (.ref x :: st), h)) ke_82_98 rfl
theorem ee_82_98N {d : Nat} {h : aH} {l1 l2 l3 : Value} {st : List Value} : go d 82 98 [.null, l1, l2, l3] st h = go d 82 99 [.null, l1, l2, l3] (.null :: st) h := go_plain (q := (99, [.null, l1, l2, l3], (.null :: st), h)) ke_82_98 rfl
theorem ke_82_99 : alook 82 99 = some (99, .iload_n 1, 1, (0, 0, 0, 0, 0), ⟨"", "", ""⟩, "") := rfl
theorem ee_82_99 {d : Nat} {h : aH} {l0 l2 l3 : Value} {x : Int32} {st : List Value} : go d 82 99 [l0, .int x, l2, l3] st h = go d 82 100 [l0, .int x, l2, l3] (.int x :: st) h := go_plain (q := (100, [l0, .int x, l2, l3], (.int x :: st), h)) ke_82_99 rfl
theorem ke_82_100 : alook 82 100 = some (100, .iload_n 2, 1, (0, 0, 0, 0, 0), ⟨"", "", ""⟩, "") := rfl
theorem ee_82_100 {d : Nat} {h : aH} {l0 l1 l3 : Value} {x : Int32} {st : List Value} : go d 82 100 [l0, l1, .int x, l3] st h = go d 82 101 [l0, l1, .int x, l3] (.int x :: st) h := go_plain (q := (101, [l0, l1, .int x, l3], (.int x :: st), h)) ke_82_100 rfl
theorem ke_82_101 : alook 82 101 = some (101, .iload_n 3, 1, (0, 0, 0, 0, 0), ⟨"", "", ""⟩, "") := rfl
theorem ee_82_101 {d : Nat} {h : aH} {l0 l1 l2 : Value} {x : Int32} {st : List Value} : go d 82 101 [l0, l1, l2, .int x] st h = go d 82 102 [l0, l1, l2, .int x] (.int x :: st) h := go_plain (q := (102, [l0, l1, l2, .int x], (.int x :: st), h)) ke_82_101 rfl
theorem ke_82_102 : alook 82 102 = some (102, .invokevirtual 62, 3, (3, 8, 72, 8, 72), ⟨"WordHidesModel", "letterOf", "(III)I"⟩, "") := rfl
theorem ee_82_102 {d : Nat} {ls : List Value} {h : aH} {i0 : Int32} {i1 : Int32} {i2 : Int32} {r3 : Nat} : go (d + 1) 82 102 ls [.int i0, .int i1, .int i2, .ref r3] h = if isC h r3 8 = true then (go d 72 0 [.ref r3, .int i2, .int i1, .int i0] [] h).bind (fun q => go (d + 1) 82 105 ls (q.1.toList ++ []) q.2) else none := go_cv1 (as := [.int i2, .int i1, .int i0]) (rest := []) (L := [.ref r3, .int i2, .int i1, .int i0]) ke_82_102 rfl rfl rfl
theorem ke_82_105 : alook 82 105 = some (105, .goto 5, 3, (110, 0, 0, 0, 0), ⟨"", "", ""⟩, "") := rfl
theorem ee_82_105 {d : Nat} {h : aH} {ls st : List Value} : go d 82 105 ls st h = go d 82 110 ls st h := go_plain (q := (110, ls, st, h)) ke_82_105 rfl
theorem ke_82_108 : alook 82 108 = some (108, .bipush (-6), 2, (0, 0, 0, 0, 0), ⟨"", "", ""⟩, "") := rfl
theorem ee_82_108 {d : Nat} {h : aH} {ls st : List Value} : go d 82 108 ls st h = go d 82 110 ls (.int (-6) :: st) h := go_plain (q := (110, ls, (.int (-6) :: st), h)) ke_82_108 rfl
theorem ke_82_110 : alook 82 110 = some (110, .ireturn, 1, (0, 0, 0, 0, 0), ⟨"", "", ""⟩, "") := rfl
theorem ee_82_110 {d : Nat} {ls : List Value} {h : aH} {v : Int32} : go d 82 110 ls [.int v] h = some (some (.int v), h) := go_iret ke_82_110
theorem ke_83_0 : alook 83 0 = some (0, .iload_n 0, 1, (0, 0, 0, 0, 0), ⟨"", "", ""⟩, "") := rfl
theorem ee_83_0 {d : Nat} {h : aH} {x : Int32} {st : List Value} : go d 83 0 [.int x] st h = go d 83 1 [.int x] (.int x :: st) h := go_plain (q := (1, [.int x], (.int x :: st), h)) ke_83_0 rfl
theorem ke_83_1 : alook 83 1 = some (1, .ifCond .eq 14, 3, (15, 0, 0, 0, 0), ⟨"", "", ""⟩, "") := rfl
theorem ee_83_1 {d : Nat} {ls st : List Value} {h : aH} {x : Int32} : go d 83 1 ls (.int x :: st) h = if x = 0 then go d 83 15 ls st h else go d 83 4 ls st h := go_c1 (go_if1 (tg := 15) (q := 4) (f := fun x => decide (x = 0)) ke_83_1 rfl)
theorem ke_83_4 : alook 83 4 = some (4, .iload_n 0, 1, (0, 0, 0, 0, 0), ⟨"", "", ""⟩, "") := rfl
theorem ee_83_4 {d : Nat} {h : aH} {x : Int32} {st : List Value} : go d 83 4 [.int x] st h = go d 83 5 [.int x] (.int x :: st) h := go_plain (q := (5, [.int x], (.int x :: st), h)) ke_83_4 rfl
theorem ke_83_5 : alook 83 5 = some (5, .iconst 1, 1, (0, 0, 0, 0, 0), ⟨"", "", ""⟩, "") := rfl
theorem ee_83_5 {d : Nat} {h : aH} {ls st : List Value} : go d 83 5 ls st h = go d 83 6 ls (.int 1 :: st) h := go_plain (q := (6, ls, (.int 1 :: st), h)) ke_83_5 rfl
theorem ke_83_6 : alook 83 6 = some (6, .if_icmp .eq 9, 3, (15, 0, 0, 0, 0), ⟨"", "", ""⟩, "") := rfl
theorem ee_83_6 {d : Nat} {ls st : List Value} {h : aH} {x y : Int32} : go d 83 6 ls (.int y :: .int x :: st) h = if x = y then go d 83 15 ls st h else go d 83 9 ls st h := go_ci (go_if2 (tg := 15) (q := 9) (f := fun x y => decide (x = y)) ke_83_6 rfl)
theorem ke_83_9 : alook 83 9 = some (9, .iload_n 0, 1, (0, 0, 0, 0, 0), ⟨"", "", ""⟩, "") := rfl
theorem ee_83_9 {d : Nat} {h : aH} {x : Int32} {st : List Value} : go d 83 9 [.int x] st h = go d 83 10 [.int x] (.int x :: st) h := go_plain (q := (10, [.int x], (.int x :: st), h)) ke_83_9 rfl
theorem ke_83_10 : alook 83 10 = some (10, .bipush 7, 2, (0, 0, 0, 0, 0), ⟨"", "", ""⟩, "") := rfl
theorem ee_83_10 {d : Nat} {h : aH} {ls st : List Value} : go d 83 10 ls st h = go d 83 12 ls (.int 7 :: st) h := go_plain (q := (12, ls, (.int 7 :: st), h)) ke_83_10 rfl
theorem ke_83_12 : alook 83 12 = some (12, .if_icmp .ne 7, 3, (19, 0, 0, 0, 0), ⟨"", "", ""⟩, "") := rfl
theorem ee_83_12 {d : Nat} {ls st : List Value} {h : aH} {x y : Int32} : go d 83 12 ls (.int y :: .int x :: st) h = if ¬ x = y then go d 83 19 ls st h else go d 83 15 ls st h := go_ci (go_if2 (tg := 19) (q := 15) (f := fun x y => decide (¬ x = y)) ke_83_12 rfl)
theorem ke_83_15 : alook 83 15 = some (15, .iconst 1, 1, (0, 0, 0, 0, 0), ⟨"", "", ""⟩, "") := rfl
theorem ee_83_15 {d : Nat} {h : aH} {ls st : List Value} : go d 83 15 ls st h = go d 83 16 ls (.int 1 :: st) h := go_plain (q := (16, ls, (.int 1 :: st), h)) ke_83_15 rfl
theorem ke_83_16 : alook 83 16 = some (16, .goto 19, 3, (35, 0, 0, 0, 0), ⟨"", "", ""⟩, "") := rfl
theorem ee_83_16 {d : Nat} {h : aH} {ls st : List Value} : go d 83 16 ls st h = go d 83 35 ls st h := go_plain (q := (35, ls, st, h)) ke_83_16 rfl
theorem ke_83_19 : alook 83 19 = some (19, .iload_n 0, 1, (0, 0, 0, 0, 0), ⟨"", "", ""⟩, "") := rfl
theorem ee_83_19 {d : Nat} {h : aH} {x : Int32} {st : List Value} : go d 83 19 [.int x] st h = go d 83 20 [.int x] (.int x :: st) h := go_plain (q := (20, [.int x], (.int x :: st), h)) ke_83_19 rfl
theorem ke_83_20 : alook 83 20 = some (20, .iconst 2, 1, (0, 0, 0, 0, 0), ⟨"", "", ""⟩, "") := rfl
theorem ee_83_20 {d : Nat} {h : aH} {ls st : List Value} : go d 83 20 ls st h = go d 83 21 ls (.int 2 :: st) h := go_plain (q := (21, ls, (.int 2 :: st), h)) ke_83_20 rfl
theorem ke_83_21 : alook 83 21 = some (21, .if_icmp .eq 9, 3, (30, 0, 0, 0, 0), ⟨"", "", ""⟩, "") := rfl
theorem ee_83_21 {d : Nat} {ls st : List Value} {h : aH} {x y : Int32} : go d 83 21 ls (.int y :: .int x :: st) h = if x = y then go d 83 30 ls st h else go d 83 24 ls st h := go_ci (go_if2 (tg := 30) (q := 24) (f := fun x y => decide (x = y)) ke_83_21 rfl)
theorem ke_83_24 : alook 83 24 = some (24, .iload_n 0, 1, (0, 0, 0, 0, 0), ⟨"", "", ""⟩, "") := rfl
theorem ee_83_24 {d : Nat} {h : aH} {x : Int32} {st : List Value} : go d 83 24 [.int x] st h = go d 83 25 [.int x] (.int x :: st) h := go_plain (q := (25, [.int x], (.int x :: st), h)) ke_83_24 rfl
theorem ke_83_25 : alook 83 25 = some (25, .bipush 6, 2, (0, 0, 0, 0, 0), ⟨"", "", ""⟩, "") := rfl
theorem ee_83_25 {d : Nat} {h : aH} {ls st : List Value} : go d 83 25 ls st h = go d 83 27 ls (.int 6 :: st) h := go_plain (q := (27, ls, (.int 6 :: st), h)) ke_83_25 rfl
theorem ke_83_27 : alook 83 27 = some (27, .if_icmp .ne 7, 3, (34, 0, 0, 0, 0), ⟨"", "", ""⟩, "") := rfl
theorem ee_83_27 {d : Nat} {ls st : List Value} {h : aH} {x y : Int32} : go d 83 27 ls (.int y :: .int x :: st) h = if ¬ x = y then go d 83 34 ls st h else go d 83 30 ls st h := go_ci (go_if2 (tg := 34) (q := 30) (f := fun x y => decide (¬ x = y)) ke_83_27 rfl)
theorem ke_83_30 : alook 83 30 = some (30, .iconst 0, 1, (0, 0, 0, 0, 0), ⟨"", "", ""⟩, "") := rfl
theorem ee_83_30 {d : Nat} {h : aH} {ls st : List Value} : go d 83 30 ls st h = go d 83 31 ls (.int 0 :: st) h := go_plain (q := (31, ls, (.int 0 :: st), h)) ke_83_30 rfl
theorem ke_83_31 : alook 83 31 = some (31, .goto 4, 3, (35, 0, 0, 0, 0), ⟨"", "", ""⟩, "") := rfl
theorem ee_83_31 {d : Nat} {h : aH} {ls st : List Value} : go d 83 31 ls st h = go d 83 35 ls st h := go_plain (q := (35, ls, st, h)) ke_83_31 rfl
theorem ke_83_34 : alook 83 34 = some (34, .iconst (-1), 1, (0, 0, 0, 0, 0), ⟨"", "", ""⟩, "") := rfl
theorem ee_83_34 {d : Nat} {h : aH} {ls st : List Value} : go d 83 34 ls st h = go d 83 35 ls (.int (-1) :: st) h := go_plain (q := (35, ls, (.int (-1) :: st), h)) ke_83_34 rfl
theorem ke_83_35 : alook 83 35 = some (35, .ireturn, 1, (0, 0, 0, 0, 0), ⟨"", "", ""⟩, "") := rfl
theorem ee_83_35 {d : Nat} {ls : List Value} {h : aH} {v : Int32} : go d 83 35 ls [.int v] h = some (some (.int v), h) := go_iret ke_83_35
theorem ke_84_0 : alook 84 0 = some (0, .iload_n 0, 1, (0, 0, 0, 0, 0), ⟨"", "", ""⟩, "") := rfl
theorem ee_84_0 {d : Nat} {h : aH} {x : Int32} {st : List Value} : go d 84 0 [.int x] st h = go d 84 1 [.int x] (.int x :: st) h := go_plain (q := (1, [.int x], (.int x :: st), h)) ke_84_0 rfl
theorem ke_84_1 : alook 84 1 = some (1, .iconst 1, 1, (0, 0, 0, 0, 0), ⟨"", "", ""⟩, "") := rfl
theorem ee_84_1 {d : Nat} {h : aH} {ls st : List Value} : go d 84 1 ls st h = go d 84 2 ls (.int 1 :: st) h := go_plain (q := (2, ls, (.int 1 :: st), h)) ke_84_1 rfl
theorem ke_84_2 : alook 84 2 = some (2, .iconst 3, 1, (0, 0, 0, 0, 0), ⟨"", "", ""⟩, "") := rfl
theorem ee_84_2 {d : Nat} {h : aH} {ls st : List Value} : go d 84 2 ls st h = go d 84 3 ls (.int 3 :: st) h := go_plain (q := (3, ls, (.int 3 :: st), h)) ke_84_2 rfl
theorem ke_84_3 : alook 84 3 = some (3, .invokestatic 36, 3, (3, 0, 65, 0, 0), ⟨"WordHidesModel", "in", "(III)Z"⟩, "") := rfl
theorem ee_84_3 {d : Nat} {ls : List Value} {h : aH} {i0 : Int32} {i1 : Int32} {i2 : Int32} : go (d + 1) 84 3 ls [.int i0, .int i1, .int i2] h = (go d 65 0 [.int i2, .int i1, .int i0] [] h).bind (fun q => go (d + 1) 84 6 ls (q.1.toList ++ []) q.2) := go_cs (as := [.int i2, .int i1, .int i0]) (rest := []) (L := [.int i2, .int i1, .int i0]) ke_84_3 rfl rfl rfl
theorem ke_84_6 : alook 84 6 = some (6, .ifCond .eq 7, 3, (13, 0, 0, 0, 0), ⟨"", "", ""⟩, "") := rfl
theorem ee_84_6 {d : Nat} {ls st : List Value} {h : aH} {x : Int32} : go d 84 6 ls (.int x :: st) h = if x = 0 then go d 84 13 ls st h else go d 84 9 ls st h := go_c1 (go_if1 (tg := 13) (q := 9) (f := fun x => decide (x = 0)) ke_84_6 rfl)
theorem ke_84_9 : alook 84 9 = some (9, .iconst 1, 1, (0, 0, 0, 0, 0), ⟨"", "", ""⟩, "") := rfl
theorem ee_84_9 {d : Nat} {h : aH} {ls st : List Value} : go d 84 9 ls st h = go d 84 10 ls (.int 1 :: st) h := go_plain (q := (10, ls, (.int 1 :: st), h)) ke_84_9 rfl
theorem ke_84_10 : alook 84 10 = some (10, .goto 18, 3, (28, 0, 0, 0, 0), ⟨"", "", ""⟩, "") := rfl
theorem ee_84_10 {d : Nat} {h : aH} {ls st : List Value} : go d 84 10 ls st h = go d 84 28 ls st h := go_plain (q := (28, ls, st, h)) ke_84_10 rfl
theorem ke_84_13 : alook 84 13 = some (13, .iload_n 0, 1, (0, 0, 0, 0, 0), ⟨"", "", ""⟩, "") := rfl
theorem ee_84_13 {d : Nat} {h : aH} {x : Int32} {st : List Value} : go d 84 13 [.int x] st h = go d 84 14 [.int x] (.int x :: st) h := go_plain (q := (14, [.int x], (.int x :: st), h)) ke_84_13 rfl
theorem ke_84_14 : alook 84 14 = some (14, .iconst 5, 1, (0, 0, 0, 0, 0), ⟨"", "", ""⟩, "") := rfl
theorem ee_84_14 {d : Nat} {h : aH} {ls st : List Value} : go d 84 14 ls st h = go d 84 15 ls (.int 5 :: st) h := go_plain (q := (15, ls, (.int 5 :: st), h)) ke_84_14 rfl
theorem ke_84_15 : alook 84 15 = some (15, .bipush 7, 2, (0, 0, 0, 0, 0), ⟨"", "", ""⟩, "") := rfl
theorem ee_84_15 {d : Nat} {h : aH} {ls st : List Value} : go d 84 15 ls st h = go d 84 17 ls (.int 7 :: st) h := go_plain (q := (17, ls, (.int 7 :: st), h)) ke_84_15 rfl
theorem ke_84_17 : alook 84 17 = some (17, .invokestatic 36, 3, (3, 0, 65, 0, 0), ⟨"WordHidesModel", "in", "(III)Z"⟩, "") := rfl
theorem ee_84_17 {d : Nat} {ls : List Value} {h : aH} {i0 : Int32} {i1 : Int32} {i2 : Int32} : go (d + 1) 84 17 ls [.int i0, .int i1, .int i2] h = (go d 65 0 [.int i2, .int i1, .int i0] [] h).bind (fun q => go (d + 1) 84 20 ls (q.1.toList ++ []) q.2) := go_cs (as := [.int i2, .int i1, .int i0]) (rest := []) (L := [.int i2, .int i1, .int i0]) ke_84_17 rfl rfl rfl
theorem ke_84_20 : alook 84 20 = some (20, .ifCond .eq 7, 3, (27, 0, 0, 0, 0), ⟨"", "", ""⟩, "") := rfl
theorem ee_84_20 {d : Nat} {ls st : List Value} {h : aH} {x : Int32} : go d 84 20 ls (.int x :: st) h = if x = 0 then go d 84 27 ls st h else go d 84 23 ls st h := go_c1 (go_if1 (tg := 27) (q := 23) (f := fun x => decide (x = 0)) ke_84_20 rfl)
theorem ke_84_23 : alook 84 23 = some (23, .iconst (-1), 1, (0, 0, 0, 0, 0), ⟨"", "", ""⟩, "") := rfl
theorem ee_84_23 {d : Nat} {h : aH} {ls st : List Value} : go d 84 23 ls st h = go d 84 24 ls (.int (-1) :: st) h := go_plain (q := (24, ls, (.int (-1) :: st), h)) ke_84_23 rfl
theorem ke_84_24 : alook 84 24 = some (24, .goto 4, 3, (28, 0, 0, 0, 0), ⟨"", "", ""⟩, "") := rfl
theorem ee_84_24 {d : Nat} {h : aH} {ls st : List Value} : go d 84 24 ls st h = go d 84 28 ls st h := go_plain (q := (28, ls, st, h)) ke_84_24 rfl
theorem ke_84_27 : alook 84 27 = some (27, .iconst 0, 1, (0, 0, 0, 0, 0), ⟨"", "", ""⟩, "") := rfl
theorem ee_84_27 {d : Nat} {h : aH} {ls st : List Value} : go d 84 27 ls st h = go d 84 28 ls (.int 0 :: st) h := go_plain (q := (28, ls, (.int 0 :: st), h)) ke_84_27 rfl
theorem ke_84_28 : alook 84 28 = some (28, .ireturn, 1, (0, 0, 0, 0, 0), ⟨"", "", ""⟩, "") := rfl
theorem ee_84_28 {d : Nat} {ls : List Value} {h : aH} {v : Int32} : go d 84 28 ls [.int v] h = some (some (.int v), h) := go_iret ke_84_28
theorem ke_85_0 : alook 85 0 = some (0, .aload_n 0, 1, (0, 0, 0, 0, 0), ⟨"", "", ""⟩, "") := rfl
theorem ee_85_0 {d : Nat} {h : aH} {l1 l2 l3 l4 l5 : Value} {x : Nat} {st : List Value} : go d 85 0 [.ref x, l1, l2, l3, l4, l5] st h = go d 85 1 [.ref x, l1, l2, l3, l4, l5] (.ref x :: st) h := go_plain (q := (1, [.ref x, l1, l2, l3, l4, l5], (.ref x :: st), h)) ke_85_0 rfl
theorem ee_85_0N {d : Nat} {h : aH} {l1 l2 l3 l4 l5 : Value} {st : List Value} : go d 85 0 [.null, l1, l2, l3, l4, l5] st h = go d 85 1 [.null, l1, l2, l3, l4, l5] (.null :: st) h := go_plain (q := (1, [.null, l1, l2, l3, l4, l5], (.null :: st), h)) ke_85_0 rfl
theorem ke_85_1 : alook 85 1 = some (1, .getfield 7, 3, (0, 8, 8, 2, 0), ⟨"", "", ""⟩, "WordHidesModel") := rfl
theorem ee_85_1 {d : Nat} {ls st : List Value} {h : aH} {r : Nat} : go d 85 1 ls (.ref r :: st) h = (gf h r 0 8 8).bind fun z => go d 85 4 ls (z :: st) h := go_getf ke_85_1
theorem ke_85_4 : alook 85 4 = some (4, .iconst 0, 1, (0, 0, 0, 0, 0), ⟨"", "", ""⟩, "") := rfl
theorem ee_85_4 {d : Nat} {h : aH} {ls st : List Value} : go d 85 4 ls st h = go d 85 5 ls (.int 0 :: st) h := go_plain (q := (5, ls, (.int 0 :: st), h)) ke_85_4 rfl
theorem ke_85_5 : alook 85 5 = some (5, .iaload, 1, (0, 0, 0, 0, 0), ⟨"", "", ""⟩, "") := rfl
theorem ee_85_5 {d : Nat} {ls st : List Value} {h : aH} {r : Nat} {i : Int32} : go d 85 5 ls (.int i :: .ref r :: st) h = (ia h r i).bind fun z => go d 85 6 ls (.int z :: st) h := go_iald ke_85_5
theorem ke_85_6 : alook 85 6 = some (6, .istore_n 3, 1, (0, 0, 0, 0, 0), ⟨"", "", ""⟩, "") := rfl
theorem ee_85_6 {d : Nat} {h : aH} {l0 l1 l2 l3 l4 l5 : Value} {x : Int32} {st : List Value} : go d 85 6 [l0, l1, l2, l3, l4, l5] (.int x :: st) h = go d 85 7 [l0, l1, l2, .int x, l4, l5] st h := go_plain (q := (7, [l0, l1, l2, .int x, l4, l5], st, h)) ke_85_6 rfl
theorem ke_85_7 : alook 85 7 = some (7, .iload_n 1, 1, (0, 0, 0, 0, 0), ⟨"", "", ""⟩, "") := rfl
theorem ee_85_7 {d : Nat} {h : aH} {l0 l2 l3 l4 l5 : Value} {x : Int32} {st : List Value} : go d 85 7 [l0, .int x, l2, l3, l4, l5] st h = go d 85 8 [l0, .int x, l2, l3, l4, l5] (.int x :: st) h := go_plain (q := (8, [l0, .int x, l2, l3, l4, l5], (.int x :: st), h)) ke_85_7 rfl
theorem ke_85_8 : alook 85 8 = some (8, .bipush 8, 2, (0, 0, 0, 0, 0), ⟨"", "", ""⟩, "") := rfl
theorem ee_85_8 {d : Nat} {h : aH} {ls st : List Value} : go d 85 8 ls st h = go d 85 10 ls (.int 8 :: st) h := go_plain (q := (10, ls, (.int 8 :: st), h)) ke_85_8 rfl
theorem ke_85_10 : alook 85 10 = some (10, .idiv, 1, (0, 0, 0, 0, 0), ⟨"", "", ""⟩, "") := rfl
theorem ee_85_10 {d : Nat} {ls st : List Value} {h : aH} {x y : Int32} : go d 85 10 ls (.int y :: .int x :: st) h = if y = 0 then none else go d 85 11 ls (.int (x / y) :: st) h := go_div (f := fun x y => x / y) (q := 11) ke_85_10 rfl rfl rfl
theorem ke_85_11 : alook 85 11 = some (11, .iload_n 3, 1, (0, 0, 0, 0, 0), ⟨"", "", ""⟩, "") := rfl
theorem ee_85_11 {d : Nat} {h : aH} {l0 l1 l2 l4 l5 : Value} {x : Int32} {st : List Value} : go d 85 11 [l0, l1, l2, .int x, l4, l5] st h = go d 85 12 [l0, l1, l2, .int x, l4, l5] (.int x :: st) h := go_plain (q := (12, [l0, l1, l2, .int x, l4, l5], (.int x :: st), h)) ke_85_11 rfl
theorem ke_85_12 : alook 85 12 = some (12, .irem, 1, (0, 0, 0, 0, 0), ⟨"", "", ""⟩, "") := rfl
theorem ee_85_12 {d : Nat} {ls st : List Value} {h : aH} {x y : Int32} : go d 85 12 ls (.int y :: .int x :: st) h = if y = 0 then none else go d 85 13 ls (.int (x - x / y * y) :: st) h := go_div (f := fun x y => x - x / y * y) (q := 13) ke_85_12 rfl rfl rfl
theorem ke_85_13 : alook 85 13 = some (13, .iload_n 1, 1, (0, 0, 0, 0, 0), ⟨"", "", ""⟩, "") := rfl
theorem ee_85_13 {d : Nat} {h : aH} {l0 l2 l3 l4 l5 : Value} {x : Int32} {st : List Value} : go d 85 13 [l0, .int x, l2, l3, l4, l5] st h = go d 85 14 [l0, .int x, l2, l3, l4, l5] (.int x :: st) h := go_plain (q := (14, [l0, .int x, l2, l3, l4, l5], (.int x :: st), h)) ke_85_13 rfl
theorem ke_85_14 : alook 85 14 = some (14, .bipush 8, 2, (0, 0, 0, 0, 0), ⟨"", "", ""⟩, "") := rfl
theorem ee_85_14 {d : Nat} {h : aH} {ls st : List Value} : go d 85 14 ls st h = go d 85 16 ls (.int 8 :: st) h := go_plain (q := (16, ls, (.int 8 :: st), h)) ke_85_14 rfl
theorem ke_85_16 : alook 85 16 = some (16, .irem, 1, (0, 0, 0, 0, 0), ⟨"", "", ""⟩, "") := rfl
theorem ee_85_16 {d : Nat} {ls st : List Value} {h : aH} {x y : Int32} : go d 85 16 ls (.int y :: .int x :: st) h = if y = 0 then none else go d 85 17 ls (.int (x - x / y * y) :: st) h := go_div (f := fun x y => x - x / y * y) (q := 17) ke_85_16 rfl rfl rfl
theorem ke_85_17 : alook 85 17 = some (17, .invokestatic 66, 3, (1, 0, 83, 0, 0), ⟨"WordHidesModel", "across", "(I)I"⟩, "") := rfl
theorem ee_85_17 {d : Nat} {ls : List Value} {h : aH} {i0 : Int32} {i1 : Int32} : go (d + 1) 85 17 ls [.int i0, .int i1] h = (go d 83 0 [.int i0] [] h).bind (fun q => go (d + 1) 85 20 ls (q.1.toList ++ [.int i1]) q.2) := go_cs (as := [.int i0]) (rest := [.int i1]) (L := [.int i0]) ke_85_17 rfl rfl rfl
theorem ke_85_20 : alook 85 20 = some (20, .iload_n 2, 1, (0, 0, 0, 0, 0), ⟨"", "", ""⟩, "") := rfl
theorem ee_85_20 {d : Nat} {h : aH} {l0 l1 l3 l4 l5 : Value} {x : Int32} {st : List Value} : go d 85 20 [l0, l1, .int x, l3, l4, l5] st h = go d 85 21 [l0, l1, .int x, l3, l4, l5] (.int x :: st) h := go_plain (q := (21, [l0, l1, .int x, l3, l4, l5], (.int x :: st), h)) ke_85_20 rfl
theorem ke_85_21 : alook 85 21 = some (21, .imul, 1, (0, 0, 0, 0, 0), ⟨"", "", ""⟩, "") := rfl
theorem ee_85_21 {d : Nat} {h : aH} {ls st : List Value} {x y : Int32} : go d 85 21 ls (.int y :: .int x :: st) h = go d 85 22 ls (.int (x * y) :: st) h := go_plain (q := (22, ls, (.int (x * y) :: st), h)) ke_85_21 rfl
theorem ke_85_22 : alook 85 22 = some (22, .iadd, 1, (0, 0, 0, 0, 0), ⟨"", "", ""⟩, "") := rfl
theorem ee_85_22 {d : Nat} {h : aH} {ls st : List Value} {x y : Int32} : go d 85 22 ls (.int y :: .int x :: st) h = go d 85 23 ls (.int (x + y) :: st) h := go_plain (q := (23, ls, (.int (x + y) :: st), h)) ke_85_22 rfl
theorem ke_85_23 : alook 85 23 = some (23, .istore 4, 2, (0, 0, 0, 0, 0), ⟨"", "", ""⟩, "") := rfl
theorem ee_85_23 {d : Nat} {h : aH} {l0 l1 l2 l3 l4 l5 : Value} {x : Int32} {st : List Value} : go d 85 23 [l0, l1, l2, l3, l4, l5] (.int x :: st) h = go d 85 25 [l0, l1, l2, l3, .int x, l5] st h := go_plain (q := (25, [l0, l1, l2, l3, .int x, l5], st, h)) ke_85_23 rfl
theorem ke_85_25 : alook 85 25 = some (25, .iload_n 1, 1, (0, 0, 0, 0, 0), ⟨"", "", ""⟩, "") := rfl
theorem ee_85_25 {d : Nat} {h : aH} {l0 l2 l3 l4 l5 : Value} {x : Int32} {st : List Value} : go d 85 25 [l0, .int x, l2, l3, l4, l5] st h = go d 85 26 [l0, .int x, l2, l3, l4, l5] (.int x :: st) h := go_plain (q := (26, [l0, .int x, l2, l3, l4, l5], (.int x :: st), h)) ke_85_25 rfl
theorem ke_85_26 : alook 85 26 = some (26, .bipush 8, 2, (0, 0, 0, 0, 0), ⟨"", "", ""⟩, "") := rfl
theorem ee_85_26 {d : Nat} {h : aH} {ls st : List Value} : go d 85 26 ls st h = go d 85 28 ls (.int 8 :: st) h := go_plain (q := (28, ls, (.int 8 :: st), h)) ke_85_26 rfl
theorem ke_85_28 : alook 85 28 = some (28, .idiv, 1, (0, 0, 0, 0, 0), ⟨"", "", ""⟩, "") := rfl
theorem ee_85_28 {d : Nat} {ls st : List Value} {h : aH} {x y : Int32} : go d 85 28 ls (.int y :: .int x :: st) h = if y = 0 then none else go d 85 29 ls (.int (x / y) :: st) h := go_div (f := fun x y => x / y) (q := 29) ke_85_28 rfl rfl rfl
theorem ke_85_29 : alook 85 29 = some (29, .iload_n 3, 1, (0, 0, 0, 0, 0), ⟨"", "", ""⟩, "") := rfl
theorem ee_85_29 {d : Nat} {h : aH} {l0 l1 l2 l4 l5 : Value} {x : Int32} {st : List Value} : go d 85 29 [l0, l1, l2, .int x, l4, l5] st h = go d 85 30 [l0, l1, l2, .int x, l4, l5] (.int x :: st) h := go_plain (q := (30, [l0, l1, l2, .int x, l4, l5], (.int x :: st), h)) ke_85_29 rfl
theorem ke_85_30 : alook 85 30 = some (30, .idiv, 1, (0, 0, 0, 0, 0), ⟨"", "", ""⟩, "") := rfl
theorem ee_85_30 {d : Nat} {ls st : List Value} {h : aH} {x y : Int32} : go d 85 30 ls (.int y :: .int x :: st) h = if y = 0 then none else go d 85 31 ls (.int (x / y) :: st) h := go_div (f := fun x y => x / y) (q := 31) ke_85_30 rfl rfl rfl
theorem ke_85_31 : alook 85 31 = some (31, .iload_n 1, 1, (0, 0, 0, 0, 0), ⟨"", "", ""⟩, "") := rfl
theorem ee_85_31 {d : Nat} {h : aH} {l0 l2 l3 l4 l5 : Value} {x : Int32} {st : List Value} : go d 85 31 [l0, .int x, l2, l3, l4, l5] st h = go d 85 32 [l0, .int x, l2, l3, l4, l5] (.int x :: st) h := go_plain (q := (32, [l0, .int x, l2, l3, l4, l5], (.int x :: st), h)) ke_85_31 rfl
theorem ke_85_32 : alook 85 32 = some (32, .bipush 8, 2, (0, 0, 0, 0, 0), ⟨"", "", ""⟩, "") := rfl
theorem ee_85_32 {d : Nat} {h : aH} {ls st : List Value} : go d 85 32 ls st h = go d 85 34 ls (.int 8 :: st) h := go_plain (q := (34, ls, (.int 8 :: st), h)) ke_85_32 rfl
theorem ke_85_34 : alook 85 34 = some (34, .irem, 1, (0, 0, 0, 0, 0), ⟨"", "", ""⟩, "") := rfl
theorem ee_85_34 {d : Nat} {ls st : List Value} {h : aH} {x y : Int32} : go d 85 34 ls (.int y :: .int x :: st) h = if y = 0 then none else go d 85 35 ls (.int (x - x / y * y) :: st) h := go_div (f := fun x y => x - x / y * y) (q := 35) ke_85_34 rfl rfl rfl
theorem ke_85_35 : alook 85 35 = some (35, .invokestatic 70, 3, (1, 0, 84, 0, 0), ⟨"WordHidesModel", "down", "(I)I"⟩, "") := rfl
theorem ee_85_35 {d : Nat} {ls : List Value} {h : aH} {i0 : Int32} {i1 : Int32} : go (d + 1) 85 35 ls [.int i0, .int i1] h = (go d 84 0 [.int i0] [] h).bind (fun q => go (d + 1) 85 38 ls (q.1.toList ++ [.int i1]) q.2) := go_cs (as := [.int i0]) (rest := [.int i1]) (L := [.int i0]) ke_85_35 rfl rfl rfl
theorem ke_85_38 : alook 85 38 = some (38, .iload_n 2, 1, (0, 0, 0, 0, 0), ⟨"", "", ""⟩, "") := rfl
theorem ee_85_38 {d : Nat} {h : aH} {l0 l1 l3 l4 l5 : Value} {x : Int32} {st : List Value} : go d 85 38 [l0, l1, .int x, l3, l4, l5] st h = go d 85 39 [l0, l1, .int x, l3, l4, l5] (.int x :: st) h := go_plain (q := (39, [l0, l1, .int x, l3, l4, l5], (.int x :: st), h)) ke_85_38 rfl
theorem ke_85_39 : alook 85 39 = some (39, .imul, 1, (0, 0, 0, 0, 0), ⟨"", "", ""⟩, "") := rfl
theorem ee_85_39 {d : Nat} {h : aH} {ls st : List Value} {x y : Int32} : go d 85 39 ls (.int y :: .int x :: st) h = go d 85 40 ls (.int (x * y) :: st) h := go_plain (q := (40, ls, (.int (x * y) :: st), h)) ke_85_39 rfl
theorem ke_85_40 : alook 85 40 = some (40, .iadd, 1, (0, 0, 0, 0, 0), ⟨"", "", ""⟩, "") := rfl
theorem ee_85_40 {d : Nat} {h : aH} {ls st : List Value} {x y : Int32} : go d 85 40 ls (.int y :: .int x :: st) h = go d 85 41 ls (.int (x + y) :: st) h := go_plain (q := (41, ls, (.int (x + y) :: st), h)) ke_85_40 rfl
theorem ke_85_41 : alook 85 41 = some (41, .istore 5, 2, (0, 0, 0, 0, 0), ⟨"", "", ""⟩, "") := rfl
theorem ee_85_41 {d : Nat} {h : aH} {l0 l1 l2 l3 l4 l5 : Value} {x : Int32} {st : List Value} : go d 85 41 [l0, l1, l2, l3, l4, l5] (.int x :: st) h = go d 85 43 [l0, l1, l2, l3, l4, .int x] st h := go_plain (q := (43, [l0, l1, l2, l3, l4, .int x], st, h)) ke_85_41 rfl
theorem ke_85_43 : alook 85 43 = some (43, .iload 4, 2, (0, 0, 0, 0, 0), ⟨"", "", ""⟩, "") := rfl
theorem ee_85_43 {d : Nat} {h : aH} {l0 l1 l2 l3 l5 : Value} {x : Int32} {st : List Value} : go d 85 43 [l0, l1, l2, l3, .int x, l5] st h = go d 85 45 [l0, l1, l2, l3, .int x, l5] (.int x :: st) h := go_plain (q := (45, [l0, l1, l2, l3, .int x, l5], (.int x :: st), h)) ke_85_43 rfl
theorem ke_85_45 : alook 85 45 = some (45, .iconst 0, 1, (0, 0, 0, 0, 0), ⟨"", "", ""⟩, "") := rfl
theorem ee_85_45 {d : Nat} {h : aH} {ls st : List Value} : go d 85 45 ls st h = go d 85 46 ls (.int 0 :: st) h := go_plain (q := (46, ls, (.int 0 :: st), h)) ke_85_45 rfl
theorem ke_85_46 : alook 85 46 = some (46, .iload_n 3, 1, (0, 0, 0, 0, 0), ⟨"", "", ""⟩, "") := rfl
theorem ee_85_46 {d : Nat} {h : aH} {l0 l1 l2 l4 l5 : Value} {x : Int32} {st : List Value} : go d 85 46 [l0, l1, l2, .int x, l4, l5] st h = go d 85 47 [l0, l1, l2, .int x, l4, l5] (.int x :: st) h := go_plain (q := (47, [l0, l1, l2, .int x, l4, l5], (.int x :: st), h)) ke_85_46 rfl
theorem ke_85_47 : alook 85 47 = some (47, .iconst 1, 1, (0, 0, 0, 0, 0), ⟨"", "", ""⟩, "") := rfl
theorem ee_85_47 {d : Nat} {h : aH} {ls st : List Value} : go d 85 47 ls st h = go d 85 48 ls (.int 1 :: st) h := go_plain (q := (48, ls, (.int 1 :: st), h)) ke_85_47 rfl
theorem ke_85_48 : alook 85 48 = some (48, .isub, 1, (0, 0, 0, 0, 0), ⟨"", "", ""⟩, "") := rfl
theorem ee_85_48 {d : Nat} {h : aH} {ls st : List Value} {x y : Int32} : go d 85 48 ls (.int y :: .int x :: st) h = go d 85 49 ls (.int (x - y) :: st) h := go_plain (q := (49, ls, (.int (x - y) :: st), h)) ke_85_48 rfl
theorem ke_85_49 : alook 85 49 = some (49, .invokestatic 36, 3, (3, 0, 65, 0, 0), ⟨"WordHidesModel", "in", "(III)Z"⟩, "") := rfl
theorem ee_85_49 {d : Nat} {ls : List Value} {h : aH} {i0 : Int32} {i1 : Int32} {i2 : Int32} : go (d + 1) 85 49 ls [.int i0, .int i1, .int i2] h = (go d 65 0 [.int i2, .int i1, .int i0] [] h).bind (fun q => go (d + 1) 85 52 ls (q.1.toList ++ []) q.2) := go_cs (as := [.int i2, .int i1, .int i0]) (rest := []) (L := [.int i2, .int i1, .int i0]) ke_85_49 rfl rfl rfl
theorem ke_85_52 : alook 85 52 = some (52, .ifCond .eq 25, 3, (77, 0, 0, 0, 0), ⟨"", "", ""⟩, "") := rfl
theorem ee_85_52 {d : Nat} {ls st : List Value} {h : aH} {x : Int32} : go d 85 52 ls (.int x :: st) h = if x = 0 then go d 85 77 ls st h else go d 85 55 ls st h := go_c1 (go_if1 (tg := 77) (q := 55) (f := fun x => decide (x = 0)) ke_85_52 rfl)
theorem ke_85_55 : alook 85 55 = some (55, .iload 5, 2, (0, 0, 0, 0, 0), ⟨"", "", ""⟩, "") := rfl
theorem ee_85_55 {d : Nat} {h : aH} {l0 l1 l2 l3 l4 : Value} {x : Int32} {st : List Value} : go d 85 55 [l0, l1, l2, l3, l4, .int x] st h = go d 85 57 [l0, l1, l2, l3, l4, .int x] (.int x :: st) h := go_plain (q := (57, [l0, l1, l2, l3, l4, .int x], (.int x :: st), h)) ke_85_55 rfl
theorem ke_85_57 : alook 85 57 = some (57, .iconst 0, 1, (0, 0, 0, 0, 0), ⟨"", "", ""⟩, "") := rfl
theorem ee_85_57 {d : Nat} {h : aH} {ls st : List Value} : go d 85 57 ls st h = go d 85 58 ls (.int 0 :: st) h := go_plain (q := (58, ls, (.int 0 :: st), h)) ke_85_57 rfl
theorem ke_85_58 : alook 85 58 = some (58, .iload_n 3, 1, (0, 0, 0, 0, 0), ⟨"", "", ""⟩, "") := rfl
theorem ee_85_58 {d : Nat} {h : aH} {l0 l1 l2 l4 l5 : Value} {x : Int32} {st : List Value} : go d 85 58 [l0, l1, l2, .int x, l4, l5] st h = go d 85 59 [l0, l1, l2, .int x, l4, l5] (.int x :: st) h := go_plain (q := (59, [l0, l1, l2, .int x, l4, l5], (.int x :: st), h)) ke_85_58 rfl
theorem ke_85_59 : alook 85 59 = some (59, .iconst 1, 1, (0, 0, 0, 0, 0), ⟨"", "", ""⟩, "") := rfl
theorem ee_85_59 {d : Nat} {h : aH} {ls st : List Value} : go d 85 59 ls st h = go d 85 60 ls (.int 1 :: st) h := go_plain (q := (60, ls, (.int 1 :: st), h)) ke_85_59 rfl
theorem ke_85_60 : alook 85 60 = some (60, .isub, 1, (0, 0, 0, 0, 0), ⟨"", "", ""⟩, "") := rfl
theorem ee_85_60 {d : Nat} {h : aH} {ls st : List Value} {x y : Int32} : go d 85 60 ls (.int y :: .int x :: st) h = go d 85 61 ls (.int (x - y) :: st) h := go_plain (q := (61, ls, (.int (x - y) :: st), h)) ke_85_60 rfl
theorem ke_85_61 : alook 85 61 = some (61, .invokestatic 36, 3, (3, 0, 65, 0, 0), ⟨"WordHidesModel", "in", "(III)Z"⟩, "") := rfl
theorem ee_85_61 {d : Nat} {ls : List Value} {h : aH} {i0 : Int32} {i1 : Int32} {i2 : Int32} : go (d + 1) 85 61 ls [.int i0, .int i1, .int i2] h = (go d 65 0 [.int i2, .int i1, .int i0] [] h).bind (fun q => go (d + 1) 85 64 ls (q.1.toList ++ []) q.2) := go_cs (as := [.int i2, .int i1, .int i0]) (rest := []) (L := [.int i2, .int i1, .int i0]) ke_85_61 rfl rfl rfl
theorem ke_85_64 : alook 85 64 = some (64, .ifCond .eq 13, 3, (77, 0, 0, 0, 0), ⟨"", "", ""⟩, "") := rfl
theorem ee_85_64 {d : Nat} {ls st : List Value} {h : aH} {x : Int32} : go d 85 64 ls (.int x :: st) h = if x = 0 then go d 85 77 ls st h else go d 85 67 ls st h := go_c1 (go_if1 (tg := 77) (q := 67) (f := fun x => decide (x = 0)) ke_85_64 rfl)
theorem ke_85_67 : alook 85 67 = some (67, .iload_n 3, 1, (0, 0, 0, 0, 0), ⟨"", "", ""⟩, "") := rfl
theorem ee_85_67 {d : Nat} {h : aH} {l0 l1 l2 l4 l5 : Value} {x : Int32} {st : List Value} : go d 85 67 [l0, l1, l2, .int x, l4, l5] st h = go d 85 68 [l0, l1, l2, .int x, l4, l5] (.int x :: st) h := go_plain (q := (68, [l0, l1, l2, .int x, l4, l5], (.int x :: st), h)) ke_85_67 rfl
theorem ke_85_68 : alook 85 68 = some (68, .iload 5, 2, (0, 0, 0, 0, 0), ⟨"", "", ""⟩, "") := rfl
theorem ee_85_68 {d : Nat} {h : aH} {l0 l1 l2 l3 l4 : Value} {x : Int32} {st : List Value} : go d 85 68 [l0, l1, l2, l3, l4, .int x] st h = go d 85 70 [l0, l1, l2, l3, l4, .int x] (.int x :: st) h := go_plain (q := (70, [l0, l1, l2, l3, l4, .int x], (.int x :: st), h)) ke_85_68 rfl
theorem ke_85_70 : alook 85 70 = some (70, .imul, 1, (0, 0, 0, 0, 0), ⟨"", "", ""⟩, "") := rfl
theorem ee_85_70 {d : Nat} {h : aH} {ls st : List Value} {x y : Int32} : go d 85 70 ls (.int y :: .int x :: st) h = go d 85 71 ls (.int (x * y) :: st) h := go_plain (q := (71, ls, (.int (x * y) :: st), h)) ke_85_70 rfl
theorem ke_85_71 : alook 85 71 = some (71, .iload 4, 2, (0, 0, 0, 0, 0), ⟨"", "", ""⟩, "") := rfl
theorem ee_85_71 {d : Nat} {h : aH} {l0 l1 l2 l3 l5 : Value} {x : Int32} {st : List Value} : go d 85 71 [l0, l1, l2, l3, .int x, l5] st h = go d 85 73 [l0, l1, l2, l3, .int x, l5] (.int x :: st) h := go_plain (q := (73, [l0, l1, l2, l3, .int x, l5], (.int x :: st), h)) ke_85_71 rfl
theorem ke_85_73 : alook 85 73 = some (73, .iadd, 1, (0, 0, 0, 0, 0), ⟨"", "", ""⟩, "") := rfl
theorem ee_85_73 {d : Nat} {h : aH} {ls st : List Value} {x y : Int32} : go d 85 73 ls (.int y :: .int x :: st) h = go d 85 74 ls (.int (x + y) :: st) h := go_plain (q := (74, ls, (.int (x + y) :: st), h)) ke_85_73 rfl
theorem ke_85_74 : alook 85 74 = some (74, .goto 5, 3, (79, 0, 0, 0, 0), ⟨"", "", ""⟩, "") := rfl
theorem ee_85_74 {d : Nat} {h : aH} {ls st : List Value} : go d 85 74 ls st h = go d 85 79 ls st h := go_plain (q := (79, ls, st, h)) ke_85_74 rfl
theorem ke_85_77 : alook 85 77 = some (77, .bipush (-6), 2, (0, 0, 0, 0, 0), ⟨"", "", ""⟩, "") := rfl
theorem ee_85_77 {d : Nat} {h : aH} {ls st : List Value} : go d 85 77 ls st h = go d 85 79 ls (.int (-6) :: st) h := go_plain (q := (79, ls, (.int (-6) :: st), h)) ke_85_77 rfl
theorem ke_85_79 : alook 85 79 = some (79, .ireturn, 1, (0, 0, 0, 0, 0), ⟨"", "", ""⟩, "") := rfl
theorem ee_85_79 {d : Nat} {ls : List Value} {h : aH} {v : Int32} : go d 85 79 ls [.int v] h = some (some (.int v), h) := go_iret ke_85_79
theorem ke_86_0 : alook 86 0 = some (0, .aload_n 0, 1, (0, 0, 0, 0, 0), ⟨"", "", ""⟩, "") := rfl
theorem ee_86_0 {d : Nat} {h : aH} {l1 l2 : Value} {x : Nat} {st : List Value} : go d 86 0 [.ref x, l1, l2] st h = go d 86 1 [.ref x, l1, l2] (.ref x :: st) h := go_plain (q := (1, [.ref x, l1, l2], (.ref x :: st), h)) ke_86_0 rfl
theorem ee_86_0N {d : Nat} {h : aH} {l1 l2 : Value} {st : List Value} : go d 86 0 [.null, l1, l2] st h = go d 86 1 [.null, l1, l2] (.null :: st) h := go_plain (q := (1, [.null, l1, l2], (.null :: st), h)) ke_86_0 rfl
theorem ke_86_1 : alook 86 1 = some (1, .iload_n 1, 1, (0, 0, 0, 0, 0), ⟨"", "", ""⟩, "") := rfl
theorem ee_86_1 {d : Nat} {h : aH} {l0 l2 : Value} {x : Int32} {st : List Value} : go d 86 1 [l0, .int x, l2] st h = go d 86 2 [l0, .int x, l2] (.int x :: st) h := go_plain (q := (2, [l0, .int x, l2], (.int x :: st), h)) ke_86_1 rfl
theorem ke_86_2 : alook 86 2 = some (2, .iload_n 2, 1, (0, 0, 0, 0, 0), ⟨"", "", ""⟩, "") := rfl
theorem ee_86_2 {d : Nat} {h : aH} {l0 l1 : Value} {x : Int32} {st : List Value} : go d 86 2 [l0, l1, .int x] st h = go d 86 3 [l0, l1, .int x] (.int x :: st) h := go_plain (q := (3, [l0, l1, .int x], (.int x :: st), h)) ke_86_2 rfl
theorem ke_86_3 : alook 86 3 = some (3, .iconst 1, 1, (0, 0, 0, 0, 0), ⟨"", "", ""⟩, "") := rfl
theorem ee_86_3 {d : Nat} {h : aH} {ls st : List Value} : go d 86 3 ls st h = go d 86 4 ls (.int 1 :: st) h := go_plain (q := (4, ls, (.int 1 :: st), h)) ke_86_3 rfl
theorem ke_86_4 : alook 86 4 = some (4, .isub, 1, (0, 0, 0, 0, 0), ⟨"", "", ""⟩, "") := rfl
theorem ee_86_4 {d : Nat} {h : aH} {ls st : List Value} {x y : Int32} : go d 86 4 ls (.int y :: .int x :: st) h = go d 86 5 ls (.int (x - y) :: st) h := go_plain (q := (5, ls, (.int (x - y) :: st), h)) ke_86_4 rfl
theorem ke_86_5 : alook 86 5 = some (5, .invokevirtual 73, 3, (2, 8, 85, 8, 85), ⟨"WordHidesModel", "cellAt", "(II)I"⟩, "") := rfl
theorem ee_86_5 {d : Nat} {ls : List Value} {h : aH} {i0 : Int32} {i1 : Int32} {r2 : Nat} : go (d + 1) 86 5 ls [.int i0, .int i1, .ref r2] h = if isC h r2 8 = true then (go d 85 0 [.ref r2, .int i1, .int i0, aU, aU, aU] [] h).bind (fun q => go (d + 1) 86 8 ls (q.1.toList ++ []) q.2) else none := go_cv1 (as := [.int i1, .int i0]) (rest := []) (L := [.ref r2, .int i1, .int i0, aU, aU, aU]) ke_86_5 rfl rfl rfl
theorem ke_86_8 : alook 86 8 = some (8, .ifCond .lt 7, 3, (15, 0, 0, 0, 0), ⟨"", "", ""⟩, "") := rfl
theorem ee_86_8 {d : Nat} {ls st : List Value} {h : aH} {x : Int32} : go d 86 8 ls (.int x :: st) h = if x < 0 then go d 86 15 ls st h else go d 86 11 ls st h := go_c1 (go_if1 (tg := 15) (q := 11) (f := fun x => decide (x < 0)) ke_86_8 rfl)
theorem ke_86_11 : alook 86 11 = some (11, .iconst 1, 1, (0, 0, 0, 0, 0), ⟨"", "", ""⟩, "") := rfl
theorem ee_86_11 {d : Nat} {h : aH} {ls st : List Value} : go d 86 11 ls st h = go d 86 12 ls (.int 1 :: st) h := go_plain (q := (12, ls, (.int 1 :: st), h)) ke_86_11 rfl
theorem ke_86_12 : alook 86 12 = some (12, .goto 4, 3, (16, 0, 0, 0, 0), ⟨"", "", ""⟩, "") := rfl
theorem ee_86_12 {d : Nat} {h : aH} {ls st : List Value} : go d 86 12 ls st h = go d 86 16 ls st h := go_plain (q := (16, ls, st, h)) ke_86_12 rfl
theorem ke_86_15 : alook 86 15 = some (15, .iconst 0, 1, (0, 0, 0, 0, 0), ⟨"", "", ""⟩, "") := rfl
theorem ee_86_15 {d : Nat} {h : aH} {ls st : List Value} : go d 86 15 ls st h = go d 86 16 ls (.int 0 :: st) h := go_plain (q := (16, ls, (.int 0 :: st), h)) ke_86_15 rfl
theorem ke_86_16 : alook 86 16 = some (16, .ireturn, 1, (1, 0, 0, 0, 0), ⟨"", "", ""⟩, "") := rfl
theorem ee_86_16 {d : Nat} {ls : List Value} {h : aH} : go d 86 16 ls [.int 0] h = some (some (.int 0), h) := go_zret0 ke_86_16
theorem ee_86_16T {d : Nat} {ls : List Value} {h : aH} : go d 86 16 ls [.int 1] h = some (some (.int 1), h) := go_zret1 ke_86_16
theorem ke_87_0 : alook 87 0 = some (0, .iconst 0, 1, (0, 0, 0, 0, 0), ⟨"", "", ""⟩, "") := rfl
theorem ee_87_0 {d : Nat} {h : aH} {ls st : List Value} : go d 87 0 ls st h = go d 87 1 ls (.int 0 :: st) h := go_plain (q := (1, ls, (.int 0 :: st), h)) ke_87_0 rfl
theorem ke_87_1 : alook 87 1 = some (1, .istore_n 1, 1, (0, 0, 0, 0, 0), ⟨"", "", ""⟩, "") := rfl
theorem ee_87_1 {d : Nat} {h : aH} {l0 l1 : Value} {x : Int32} {st : List Value} : go d 87 1 [l0, l1] (.int x :: st) h = go d 87 2 [l0, .int x] st h := go_plain (q := (2, [l0, .int x], st, h)) ke_87_1 rfl
theorem ke_87_2 : alook 87 2 = some (2, .iload_n 1, 1, (0, 0, 0, 0, 0), ⟨"", "", ""⟩, "") := rfl
theorem ee_87_2 {d : Nat} {h : aH} {l0 : Value} {x : Int32} {st : List Value} : go d 87 2 [l0, .int x] st h = go d 87 3 [l0, .int x] (.int x :: st) h := go_plain (q := (3, [l0, .int x], (.int x :: st), h)) ke_87_2 rfl
theorem ke_87_3 : alook 87 3 = some (3, .bipush 16, 2, (0, 0, 0, 0, 0), ⟨"", "", ""⟩, "") := rfl
theorem ee_87_3 {d : Nat} {h : aH} {ls st : List Value} : go d 87 3 ls st h = go d 87 5 ls (.int 16 :: st) h := go_plain (q := (5, ls, (.int 16 :: st), h)) ke_87_3 rfl
theorem ke_87_5 : alook 87 5 = some (5, .if_icmp .ge 30, 3, (35, 0, 0, 0, 0), ⟨"", "", ""⟩, "") := rfl
theorem ee_87_5 {d : Nat} {ls st : List Value} {h : aH} {x y : Int32} : go d 87 5 ls (.int y :: .int x :: st) h = if y ≤ x then go d 87 35 ls st h else go d 87 8 ls st h := go_ci (go_if2 (tg := 35) (q := 8) (f := fun x y => decide (y ≤ x)) ke_87_5 rfl)
theorem ke_87_8 : alook 87 8 = some (8, .aload_n 0, 1, (0, 0, 0, 0, 0), ⟨"", "", ""⟩, "") := rfl
theorem ee_87_8 {d : Nat} {h : aH} {l1 : Value} {x : Nat} {st : List Value} : go d 87 8 [.ref x, l1] st h = go d 87 9 [.ref x, l1] (.ref x :: st) h := go_plain (q := (9, [.ref x, l1], (.ref x :: st), h)) ke_87_8 rfl
theorem ee_87_8N {d : Nat} {h : aH} {l1 : Value} {st : List Value} : go d 87 8 [.null, l1] st h = go d 87 9 [.null, l1] (.null :: st) h := go_plain (q := (9, [.null, l1], (.null :: st), h)) ke_87_8 rfl
theorem ke_87_9 : alook 87 9 = some (9, .getfield 23, 3, (5, 8, 8, 2, 0), ⟨"", "", ""⟩, "WordHidesModel") := rfl
theorem ee_87_9 {d : Nat} {ls st : List Value} {h : aH} {r : Nat} : go d 87 9 ls (.ref r :: st) h = (gf h r 5 8 8).bind fun z => go d 87 12 ls (z :: st) h := go_getf ke_87_9
theorem ke_87_12 : alook 87 12 = some (12, .iload_n 1, 1, (0, 0, 0, 0, 0), ⟨"", "", ""⟩, "") := rfl
theorem ee_87_12 {d : Nat} {h : aH} {l0 : Value} {x : Int32} {st : List Value} : go d 87 12 [l0, .int x] st h = go d 87 13 [l0, .int x] (.int x :: st) h := go_plain (q := (13, [l0, .int x], (.int x :: st), h)) ke_87_12 rfl
theorem ke_87_13 : alook 87 13 = some (13, .aload_n 0, 1, (0, 0, 0, 0, 0), ⟨"", "", ""⟩, "") := rfl
theorem ee_87_13 {d : Nat} {h : aH} {l1 : Value} {x : Nat} {st : List Value} : go d 87 13 [.ref x, l1] st h = go d 87 14 [.ref x, l1] (.ref x :: st) h := go_plain (q := (14, [.ref x, l1], (.ref x :: st), h)) ke_87_13 rfl
theorem ee_87_13N {d : Nat} {h : aH} {l1 : Value} {st : List Value} : go d 87 13 [.null, l1] st h = go d 87 14 [.null, l1] (.null :: st) h := go_plain (q := (14, [.null, l1], (.null :: st), h)) ke_87_13 rfl
theorem ke_87_14 : alook 87 14 = some (14, .getfield 7, 3, (0, 8, 8, 2, 0), ⟨"", "", ""⟩, "WordHidesModel") := rfl
theorem ee_87_14 {d : Nat} {ls st : List Value} {h : aH} {r : Nat} : go d 87 14 ls (.ref r :: st) h = (gf h r 0 8 8).bind fun z => go d 87 17 ls (z :: st) h := go_getf ke_87_14
theorem ke_87_17 : alook 87 17 = some (17, .iconst 1, 1, (0, 0, 0, 0, 0), ⟨"", "", ""⟩, "") := rfl
theorem ee_87_17 {d : Nat} {h : aH} {ls st : List Value} : go d 87 17 ls st h = go d 87 18 ls (.int 1 :: st) h := go_plain (q := (18, ls, (.int 1 :: st), h)) ke_87_17 rfl
theorem ke_87_18 : alook 87 18 = some (18, .iload_n 1, 1, (0, 0, 0, 0, 0), ⟨"", "", ""⟩, "") := rfl
theorem ee_87_18 {d : Nat} {h : aH} {l0 : Value} {x : Int32} {st : List Value} : go d 87 18 [l0, .int x] st h = go d 87 19 [l0, .int x] (.int x :: st) h := go_plain (q := (19, [l0, .int x], (.int x :: st), h)) ke_87_18 rfl
theorem ke_87_19 : alook 87 19 = some (19, .iadd, 1, (0, 0, 0, 0, 0), ⟨"", "", ""⟩, "") := rfl
theorem ee_87_19 {d : Nat} {h : aH} {ls st : List Value} {x y : Int32} : go d 87 19 ls (.int y :: .int x :: st) h = go d 87 20 ls (.int (x + y) :: st) h := go_plain (q := (20, ls, (.int (x + y) :: st), h)) ke_87_19 rfl
theorem ke_87_20 : alook 87 20 = some (20, .iaload, 1, (0, 0, 0, 0, 0), ⟨"", "", ""⟩, "") := rfl
theorem ee_87_20 {d : Nat} {ls st : List Value} {h : aH} {r : Nat} {i : Int32} : go d 87 20 ls (.int i :: .ref r :: st) h = (ia h r i).bind fun z => go d 87 21 ls (.int z :: st) h := go_iald ke_87_20
theorem ke_87_21 : alook 87 21 = some (21, .iastore, 1, (0, 0, 0, 0, 0), ⟨"", "", ""⟩, "") := rfl
theorem ee_87_21 {d : Nat} {ls st : List Value} {h : aH} {r : Nat} {i x : Int32} : go d 87 21 ls (.int x :: .int i :: .ref r :: st) h = (is_ h r i x).bind fun h' => go d 87 22 ls st h' := go_iast ke_87_21
theorem ke_87_22 : alook 87 22 = some (22, .aload_n 0, 1, (0, 0, 0, 0, 0), ⟨"", "", ""⟩, "") := rfl
theorem ee_87_22 {d : Nat} {h : aH} {l1 : Value} {x : Nat} {st : List Value} : go d 87 22 [.ref x, l1] st h = go d 87 23 [.ref x, l1] (.ref x :: st) h := go_plain (q := (23, [.ref x, l1], (.ref x :: st), h)) ke_87_22 rfl
theorem ee_87_22N {d : Nat} {h : aH} {l1 : Value} {st : List Value} : go d 87 22 [.null, l1] st h = go d 87 23 [.null, l1] (.null :: st) h := go_plain (q := (23, [.null, l1], (.null :: st), h)) ke_87_22 rfl
theorem ke_87_23 : alook 87 23 = some (23, .getfield 26, 3, (6, 8, 8, 2, 0), ⟨"", "", ""⟩, "WordHidesModel") := rfl
theorem ee_87_23 {d : Nat} {ls st : List Value} {h : aH} {r : Nat} : go d 87 23 ls (.ref r :: st) h = (gf h r 6 8 8).bind fun z => go d 87 26 ls (z :: st) h := go_getf ke_87_23
theorem ke_87_26 : alook 87 26 = some (26, .iload_n 1, 1, (0, 0, 0, 0, 0), ⟨"", "", ""⟩, "") := rfl
theorem ee_87_26 {d : Nat} {h : aH} {l0 : Value} {x : Int32} {st : List Value} : go d 87 26 [l0, .int x] st h = go d 87 27 [l0, .int x] (.int x :: st) h := go_plain (q := (27, [l0, .int x], (.int x :: st), h)) ke_87_26 rfl
theorem ke_87_27 : alook 87 27 = some (27, .iconst 0, 1, (0, 0, 0, 0, 0), ⟨"", "", ""⟩, "") := rfl
theorem ee_87_27 {d : Nat} {h : aH} {ls st : List Value} : go d 87 27 ls st h = go d 87 28 ls (.int 0 :: st) h := go_plain (q := (28, ls, (.int 0 :: st), h)) ke_87_27 rfl
theorem ke_87_28 : alook 87 28 = some (28, .iastore, 1, (0, 0, 0, 0, 0), ⟨"", "", ""⟩, "") := rfl
theorem ee_87_28 {d : Nat} {ls st : List Value} {h : aH} {r : Nat} {i x : Int32} : go d 87 28 ls (.int x :: .int i :: .ref r :: st) h = (is_ h r i x).bind fun h' => go d 87 29 ls st h' := go_iast ke_87_28
theorem ke_87_29 : alook 87 29 = some (29, .iinc 1 1, 3, (0, 0, 0, 0, 0), ⟨"", "", ""⟩, "") := rfl
theorem ee_87_29 {d : Nat} {h : aH} {l0 : Value} {x : Int32} {st : List Value} : go d 87 29 [l0, .int x] st h = go d 87 32 [l0, .int (x + 1)] st h := go_plain (q := (32, [l0, .int (x + 1)], st, h)) ke_87_29 rfl
theorem ke_87_32 : alook 87 32 = some (32, .goto (-30), 3, (2, 0, 0, 0, 0), ⟨"", "", ""⟩, "") := rfl
theorem ee_87_32 {d : Nat} {h : aH} {ls st : List Value} : go d 87 32 ls st h = go d 87 2 ls st h := go_plain (q := (2, ls, st, h)) ke_87_32 rfl
theorem ke_87_35 : alook 87 35 = some (35, .return_, 1, (0, 0, 0, 0, 0), ⟨"", "", ""⟩, "") := rfl
theorem ee_87_35 {d : Nat} {ls : List Value} {h : aH} : go d 87 35 ls [] h = some (none, h) := go_ret ke_87_35 rfl rfl rfl
theorem ke_88_0 : alook 88 0 = some (0, .iconst 0, 1, (0, 0, 0, 0, 0), ⟨"", "", ""⟩, "") := rfl
theorem ee_88_0 {d : Nat} {h : aH} {ls st : List Value} : go d 88 0 ls st h = go d 88 1 ls (.int 0 :: st) h := go_plain (q := (1, ls, (.int 0 :: st), h)) ke_88_0 rfl
theorem ke_88_1 : alook 88 1 = some (1, .istore_n 2, 1, (0, 0, 0, 0, 0), ⟨"", "", ""⟩, "") := rfl
theorem ee_88_1 {d : Nat} {h : aH} {l0 l1 l2 : Value} {x : Int32} {st : List Value} : go d 88 1 [l0, l1, l2] (.int x :: st) h = go d 88 2 [l0, l1, .int x] st h := go_plain (q := (2, [l0, l1, .int x], st, h)) ke_88_1 rfl
theorem ke_88_2 : alook 88 2 = some (2, .iload_n 2, 1, (0, 0, 0, 0, 0), ⟨"", "", ""⟩, "") := rfl
theorem ee_88_2 {d : Nat} {h : aH} {l0 l1 : Value} {x : Int32} {st : List Value} : go d 88 2 [l0, l1, .int x] st h = go d 88 3 [l0, l1, .int x] (.int x :: st) h := go_plain (q := (3, [l0, l1, .int x], (.int x :: st), h)) ke_88_2 rfl
theorem ke_88_3 : alook 88 3 = some (3, .bipush 16, 2, (0, 0, 0, 0, 0), ⟨"", "", ""⟩, "") := rfl
theorem ee_88_3 {d : Nat} {h : aH} {ls st : List Value} : go d 88 3 ls st h = go d 88 5 ls (.int 16 :: st) h := go_plain (q := (5, ls, (.int 16 :: st), h)) ke_88_3 rfl
theorem ke_88_5 : alook 88 5 = some (5, .if_icmp .ge 57, 3, (62, 0, 0, 0, 0), ⟨"", "", ""⟩, "") := rfl
theorem ee_88_5 {d : Nat} {ls st : List Value} {h : aH} {x y : Int32} : go d 88 5 ls (.int y :: .int x :: st) h = if y ≤ x then go d 88 62 ls st h else go d 88 8 ls st h := go_ci (go_if2 (tg := 62) (q := 8) (f := fun x y => decide (y ≤ x)) ke_88_5 rfl)
theorem ke_88_8 : alook 88 8 = some (8, .aload_n 0, 1, (0, 0, 0, 0, 0), ⟨"", "", ""⟩, "") := rfl
theorem ee_88_8 {d : Nat} {h : aH} {l1 l2 : Value} {x : Nat} {st : List Value} : go d 88 8 [.ref x, l1, l2] st h = go d 88 9 [.ref x, l1, l2] (.ref x :: st) h := go_plain (q := (9, [.ref x, l1, l2], (.ref x :: st), h)) ke_88_8 rfl
theorem ee_88_8N {d : Nat} {h : aH} {l1 l2 : Value} {st : List Value} : go d 88 8 [.null, l1, l2] st h = go d 88 9 [.null, l1, l2] (.null :: st) h := go_plain (q := (9, [.null, l1, l2], (.null :: st), h)) ke_88_8 rfl
theorem ke_88_9 : alook 88 9 = some (9, .getfield 23, 3, (5, 8, 8, 2, 0), ⟨"", "", ""⟩, "WordHidesModel") := rfl
theorem ee_88_9 {d : Nat} {ls st : List Value} {h : aH} {r : Nat} : go d 88 9 ls (.ref r :: st) h = (gf h r 5 8 8).bind fun z => go d 88 12 ls (z :: st) h := go_getf ke_88_9
theorem ke_88_12 : alook 88 12 = some (12, .bipush 16, 2, (0, 0, 0, 0, 0), ⟨"", "", ""⟩, "") := rfl
theorem ee_88_12 {d : Nat} {h : aH} {ls st : List Value} : go d 88 12 ls st h = go d 88 14 ls (.int 16 :: st) h := go_plain (q := (14, ls, (.int 16 :: st), h)) ke_88_12 rfl
theorem ke_88_14 : alook 88 14 = some (14, .iload_n 1, 1, (0, 0, 0, 0, 0), ⟨"", "", ""⟩, "") := rfl
theorem ee_88_14 {d : Nat} {h : aH} {l0 l2 : Value} {x : Int32} {st : List Value} : go d 88 14 [l0, .int x, l2] st h = go d 88 15 [l0, .int x, l2] (.int x :: st) h := go_plain (q := (15, [l0, .int x, l2], (.int x :: st), h)) ke_88_14 rfl
theorem ke_88_15 : alook 88 15 = some (15, .iconst 1, 1, (0, 0, 0, 0, 0), ⟨"", "", ""⟩, "") := rfl
theorem ee_88_15 {d : Nat} {h : aH} {ls st : List Value} : go d 88 15 ls st h = go d 88 16 ls (.int 1 :: st) h := go_plain (q := (16, ls, (.int 1 :: st), h)) ke_88_15 rfl
theorem ke_88_16 : alook 88 16 = some (16, .iadd, 1, (0, 0, 0, 0, 0), ⟨"", "", ""⟩, "") := rfl
theorem ee_88_16 {d : Nat} {h : aH} {ls st : List Value} {x y : Int32} : go d 88 16 ls (.int y :: .int x :: st) h = go d 88 17 ls (.int (x + y) :: st) h := go_plain (q := (17, ls, (.int (x + y) :: st), h)) ke_88_16 rfl
theorem ke_88_17 : alook 88 17 = some (17, .imul, 1, (0, 0, 0, 0, 0), ⟨"", "", ""⟩, "") := rfl
theorem ee_88_17 {d : Nat} {h : aH} {ls st : List Value} {x y : Int32} : go d 88 17 ls (.int y :: .int x :: st) h = go d 88 18 ls (.int (x * y) :: st) h := go_plain (q := (18, ls, (.int (x * y) :: st), h)) ke_88_17 rfl
theorem ke_88_18 : alook 88 18 = some (18, .iload_n 2, 1, (0, 0, 0, 0, 0), ⟨"", "", ""⟩, "") := rfl
theorem ee_88_18 {d : Nat} {h : aH} {l0 l1 : Value} {x : Int32} {st : List Value} : go d 88 18 [l0, l1, .int x] st h = go d 88 19 [l0, l1, .int x] (.int x :: st) h := go_plain (q := (19, [l0, l1, .int x], (.int x :: st), h)) ke_88_18 rfl
theorem ke_88_19 : alook 88 19 = some (19, .iadd, 1, (0, 0, 0, 0, 0), ⟨"", "", ""⟩, "") := rfl
theorem ee_88_19 {d : Nat} {h : aH} {ls st : List Value} {x y : Int32} : go d 88 19 ls (.int y :: .int x :: st) h = go d 88 20 ls (.int (x + y) :: st) h := go_plain (q := (20, ls, (.int (x + y) :: st), h)) ke_88_19 rfl
theorem ke_88_20 : alook 88 20 = some (20, .aload_n 0, 1, (0, 0, 0, 0, 0), ⟨"", "", ""⟩, "") := rfl
theorem ee_88_20 {d : Nat} {h : aH} {l1 l2 : Value} {x : Nat} {st : List Value} : go d 88 20 [.ref x, l1, l2] st h = go d 88 21 [.ref x, l1, l2] (.ref x :: st) h := go_plain (q := (21, [.ref x, l1, l2], (.ref x :: st), h)) ke_88_20 rfl
theorem ee_88_20N {d : Nat} {h : aH} {l1 l2 : Value} {st : List Value} : go d 88 20 [.null, l1, l2] st h = go d 88 21 [.null, l1, l2] (.null :: st) h := go_plain (q := (21, [.null, l1, l2], (.null :: st), h)) ke_88_20 rfl
theorem ke_88_21 : alook 88 21 = some (21, .getfield 23, 3, (5, 8, 8, 2, 0), ⟨"", "", ""⟩, "WordHidesModel") := rfl
theorem ee_88_21 {d : Nat} {ls st : List Value} {h : aH} {r : Nat} : go d 88 21 ls (.ref r :: st) h = (gf h r 5 8 8).bind fun z => go d 88 24 ls (z :: st) h := go_getf ke_88_21
theorem ke_88_24 : alook 88 24 = some (24, .bipush 16, 2, (0, 0, 0, 0, 0), ⟨"", "", ""⟩, "") := rfl
theorem ee_88_24 {d : Nat} {h : aH} {ls st : List Value} : go d 88 24 ls st h = go d 88 26 ls (.int 16 :: st) h := go_plain (q := (26, ls, (.int 16 :: st), h)) ke_88_24 rfl
theorem ke_88_26 : alook 88 26 = some (26, .iload_n 1, 1, (0, 0, 0, 0, 0), ⟨"", "", ""⟩, "") := rfl
theorem ee_88_26 {d : Nat} {h : aH} {l0 l2 : Value} {x : Int32} {st : List Value} : go d 88 26 [l0, .int x, l2] st h = go d 88 27 [l0, .int x, l2] (.int x :: st) h := go_plain (q := (27, [l0, .int x, l2], (.int x :: st), h)) ke_88_26 rfl
theorem ke_88_27 : alook 88 27 = some (27, .imul, 1, (0, 0, 0, 0, 0), ⟨"", "", ""⟩, "") := rfl
theorem ee_88_27 {d : Nat} {h : aH} {ls st : List Value} {x y : Int32} : go d 88 27 ls (.int y :: .int x :: st) h = go d 88 28 ls (.int (x * y) :: st) h := go_plain (q := (28, ls, (.int (x * y) :: st), h)) ke_88_27 rfl
theorem ke_88_28 : alook 88 28 = some (28, .iload_n 2, 1, (0, 0, 0, 0, 0), ⟨"", "", ""⟩, "") := rfl
theorem ee_88_28 {d : Nat} {h : aH} {l0 l1 : Value} {x : Int32} {st : List Value} : go d 88 28 [l0, l1, .int x] st h = go d 88 29 [l0, l1, .int x] (.int x :: st) h := go_plain (q := (29, [l0, l1, .int x], (.int x :: st), h)) ke_88_28 rfl
theorem ke_88_29 : alook 88 29 = some (29, .iadd, 1, (0, 0, 0, 0, 0), ⟨"", "", ""⟩, "") := rfl
theorem ee_88_29 {d : Nat} {h : aH} {ls st : List Value} {x y : Int32} : go d 88 29 ls (.int y :: .int x :: st) h = go d 88 30 ls (.int (x + y) :: st) h := go_plain (q := (30, ls, (.int (x + y) :: st), h)) ke_88_29 rfl
theorem ke_88_30 : alook 88 30 = some (30, .iaload, 1, (0, 0, 0, 0, 0), ⟨"", "", ""⟩, "") := rfl
theorem ee_88_30 {d : Nat} {ls st : List Value} {h : aH} {r : Nat} {i : Int32} : go d 88 30 ls (.int i :: .ref r :: st) h = (ia h r i).bind fun z => go d 88 31 ls (.int z :: st) h := go_iald ke_88_30
theorem ke_88_31 : alook 88 31 = some (31, .iastore, 1, (0, 0, 0, 0, 0), ⟨"", "", ""⟩, "") := rfl
theorem ee_88_31 {d : Nat} {ls st : List Value} {h : aH} {r : Nat} {i x : Int32} : go d 88 31 ls (.int x :: .int i :: .ref r :: st) h = (is_ h r i x).bind fun h' => go d 88 32 ls st h' := go_iast ke_88_31
theorem ke_88_32 : alook 88 32 = some (32, .aload_n 0, 1, (0, 0, 0, 0, 0), ⟨"", "", ""⟩, "") := rfl
theorem ee_88_32 {d : Nat} {h : aH} {l1 l2 : Value} {x : Nat} {st : List Value} : go d 88 32 [.ref x, l1, l2] st h = go d 88 33 [.ref x, l1, l2] (.ref x :: st) h := go_plain (q := (33, [.ref x, l1, l2], (.ref x :: st), h)) ke_88_32 rfl
theorem ee_88_32N {d : Nat} {h : aH} {l1 l2 : Value} {st : List Value} : go d 88 32 [.null, l1, l2] st h = go d 88 33 [.null, l1, l2] (.null :: st) h := go_plain (q := (33, [.null, l1, l2], (.null :: st), h)) ke_88_32 rfl
theorem ke_88_33 : alook 88 33 = some (33, .getfield 26, 3, (6, 8, 8, 2, 0), ⟨"", "", ""⟩, "WordHidesModel") := rfl
theorem ee_88_33 {d : Nat} {ls st : List Value} {h : aH} {r : Nat} : go d 88 33 ls (.ref r :: st) h = (gf h r 6 8 8).bind fun z => go d 88 36 ls (z :: st) h := go_getf ke_88_33
theorem ke_88_36 : alook 88 36 = some (36, .bipush 16, 2, (0, 0, 0, 0, 0), ⟨"", "", ""⟩, "") := rfl
theorem ee_88_36 {d : Nat} {h : aH} {ls st : List Value} : go d 88 36 ls st h = go d 88 38 ls (.int 16 :: st) h := go_plain (q := (38, ls, (.int 16 :: st), h)) ke_88_36 rfl
theorem ke_88_38 : alook 88 38 = some (38, .iload_n 1, 1, (0, 0, 0, 0, 0), ⟨"", "", ""⟩, "") := rfl
theorem ee_88_38 {d : Nat} {h : aH} {l0 l2 : Value} {x : Int32} {st : List Value} : go d 88 38 [l0, .int x, l2] st h = go d 88 39 [l0, .int x, l2] (.int x :: st) h := go_plain (q := (39, [l0, .int x, l2], (.int x :: st), h)) ke_88_38 rfl
theorem ke_88_39 : alook 88 39 = some (39, .iconst 1, 1, (0, 0, 0, 0, 0), ⟨"", "", ""⟩, "") := rfl
theorem ee_88_39 {d : Nat} {h : aH} {ls st : List Value} : go d 88 39 ls st h = go d 88 40 ls (.int 1 :: st) h := go_plain (q := (40, ls, (.int 1 :: st), h)) ke_88_39 rfl
theorem ke_88_40 : alook 88 40 = some (40, .iadd, 1, (0, 0, 0, 0, 0), ⟨"", "", ""⟩, "") := rfl
theorem ee_88_40 {d : Nat} {h : aH} {ls st : List Value} {x y : Int32} : go d 88 40 ls (.int y :: .int x :: st) h = go d 88 41 ls (.int (x + y) :: st) h := go_plain (q := (41, ls, (.int (x + y) :: st), h)) ke_88_40 rfl
theorem ke_88_41 : alook 88 41 = some (41, .imul, 1, (0, 0, 0, 0, 0), ⟨"", "", ""⟩, "") := rfl
theorem ee_88_41 {d : Nat} {h : aH} {ls st : List Value} {x y : Int32} : go d 88 41 ls (.int y :: .int x :: st) h = go d 88 42 ls (.int (x * y) :: st) h := go_plain (q := (42, ls, (.int (x * y) :: st), h)) ke_88_41 rfl
theorem ke_88_42 : alook 88 42 = some (42, .iload_n 2, 1, (0, 0, 0, 0, 0), ⟨"", "", ""⟩, "") := rfl
theorem ee_88_42 {d : Nat} {h : aH} {l0 l1 : Value} {x : Int32} {st : List Value} : go d 88 42 [l0, l1, .int x] st h = go d 88 43 [l0, l1, .int x] (.int x :: st) h := go_plain (q := (43, [l0, l1, .int x], (.int x :: st), h)) ke_88_42 rfl
theorem ke_88_43 : alook 88 43 = some (43, .iadd, 1, (0, 0, 0, 0, 0), ⟨"", "", ""⟩, "") := rfl
theorem ee_88_43 {d : Nat} {h : aH} {ls st : List Value} {x y : Int32} : go d 88 43 ls (.int y :: .int x :: st) h = go d 88 44 ls (.int (x + y) :: st) h := go_plain (q := (44, ls, (.int (x + y) :: st), h)) ke_88_43 rfl
theorem ke_88_44 : alook 88 44 = some (44, .aload_n 0, 1, (0, 0, 0, 0, 0), ⟨"", "", ""⟩, "") := rfl
theorem ee_88_44 {d : Nat} {h : aH} {l1 l2 : Value} {x : Nat} {st : List Value} : go d 88 44 [.ref x, l1, l2] st h = go d 88 45 [.ref x, l1, l2] (.ref x :: st) h := go_plain (q := (45, [.ref x, l1, l2], (.ref x :: st), h)) ke_88_44 rfl
theorem ee_88_44N {d : Nat} {h : aH} {l1 l2 : Value} {st : List Value} : go d 88 44 [.null, l1, l2] st h = go d 88 45 [.null, l1, l2] (.null :: st) h := go_plain (q := (45, [.null, l1, l2], (.null :: st), h)) ke_88_44 rfl
theorem ke_88_45 : alook 88 45 = some (45, .getfield 26, 3, (6, 8, 8, 2, 0), ⟨"", "", ""⟩, "WordHidesModel") := rfl
theorem ee_88_45 {d : Nat} {ls st : List Value} {h : aH} {r : Nat} : go d 88 45 ls (.ref r :: st) h = (gf h r 6 8 8).bind fun z => go d 88 48 ls (z :: st) h := go_getf ke_88_45
theorem ke_88_48 : alook 88 48 = some (48, .bipush 16, 2, (0, 0, 0, 0, 0), ⟨"", "", ""⟩, "") := rfl
theorem ee_88_48 {d : Nat} {h : aH} {ls st : List Value} : go d 88 48 ls st h = go d 88 50 ls (.int 16 :: st) h := go_plain (q := (50, ls, (.int 16 :: st), h)) ke_88_48 rfl
theorem ke_88_50 : alook 88 50 = some (50, .iload_n 1, 1, (0, 0, 0, 0, 0), ⟨"", "", ""⟩, "") := rfl
theorem ee_88_50 {d : Nat} {h : aH} {l0 l2 : Value} {x : Int32} {st : List Value} : go d 88 50 [l0, .int x, l2] st h = go d 88 51 [l0, .int x, l2] (.int x :: st) h := go_plain (q := (51, [l0, .int x, l2], (.int x :: st), h)) ke_88_50 rfl
theorem ke_88_51 : alook 88 51 = some (51, .imul, 1, (0, 0, 0, 0, 0), ⟨"", "", ""⟩, "") := rfl
theorem ee_88_51 {d : Nat} {h : aH} {ls st : List Value} {x y : Int32} : go d 88 51 ls (.int y :: .int x :: st) h = go d 88 52 ls (.int (x * y) :: st) h := go_plain (q := (52, ls, (.int (x * y) :: st), h)) ke_88_51 rfl
theorem ke_88_52 : alook 88 52 = some (52, .iload_n 2, 1, (0, 0, 0, 0, 0), ⟨"", "", ""⟩, "") := rfl
theorem ee_88_52 {d : Nat} {h : aH} {l0 l1 : Value} {x : Int32} {st : List Value} : go d 88 52 [l0, l1, .int x] st h = go d 88 53 [l0, l1, .int x] (.int x :: st) h := go_plain (q := (53, [l0, l1, .int x], (.int x :: st), h)) ke_88_52 rfl
theorem ke_88_53 : alook 88 53 = some (53, .iadd, 1, (0, 0, 0, 0, 0), ⟨"", "", ""⟩, "") := rfl
theorem ee_88_53 {d : Nat} {h : aH} {ls st : List Value} {x y : Int32} : go d 88 53 ls (.int y :: .int x :: st) h = go d 88 54 ls (.int (x + y) :: st) h := go_plain (q := (54, ls, (.int (x + y) :: st), h)) ke_88_53 rfl
theorem ke_88_54 : alook 88 54 = some (54, .iaload, 1, (0, 0, 0, 0, 0), ⟨"", "", ""⟩, "") := rfl
theorem ee_88_54 {d : Nat} {ls st : List Value} {h : aH} {r : Nat} {i : Int32} : go d 88 54 ls (.int i :: .ref r :: st) h = (ia h r i).bind fun z => go d 88 55 ls (.int z :: st) h := go_iald ke_88_54
theorem ke_88_55 : alook 88 55 = some (55, .iastore, 1, (0, 0, 0, 0, 0), ⟨"", "", ""⟩, "") := rfl
theorem ee_88_55 {d : Nat} {ls st : List Value} {h : aH} {r : Nat} {i x : Int32} : go d 88 55 ls (.int x :: .int i :: .ref r :: st) h = (is_ h r i x).bind fun h' => go d 88 56 ls st h' := go_iast ke_88_55
theorem ke_88_56 : alook 88 56 = some (56, .iinc 2 1, 3, (0, 0, 0, 0, 0), ⟨"", "", ""⟩, "") := rfl
theorem ee_88_56 {d : Nat} {h : aH} {l0 l1 : Value} {x : Int32} {st : List Value} : go d 88 56 [l0, l1, .int x] st h = go d 88 59 [l0, l1, .int (x + 1)] st h := go_plain (q := (59, [l0, l1, .int (x + 1)], st, h)) ke_88_56 rfl
theorem ke_88_59 : alook 88 59 = some (59, .goto (-57), 3, (2, 0, 0, 0, 0), ⟨"", "", ""⟩, "") := rfl
theorem ee_88_59 {d : Nat} {h : aH} {ls st : List Value} : go d 88 59 ls st h = go d 88 2 ls st h := go_plain (q := (2, ls, st, h)) ke_88_59 rfl
theorem ke_88_62 : alook 88 62 = some (62, .return_, 1, (0, 0, 0, 0, 0), ⟨"", "", ""⟩, "") := rfl
theorem ee_88_62 {d : Nat} {ls : List Value} {h : aH} : go d 88 62 ls [] h = some (none, h) := go_ret ke_88_62 rfl rfl rfl
theorem ke_89_0 : alook 89 0 = some (0, .aload_n 0, 1, (0, 0, 0, 0, 0), ⟨"", "", ""⟩, "") := rfl
theorem ee_89_0 {d : Nat} {h : aH} {l1 l2 l3 l4 l5 : Value} {x : Nat} {st : List Value} : go d 89 0 [.ref x, l1, l2, l3, l4, l5] st h = go d 89 1 [.ref x, l1, l2, l3, l4, l5] (.ref x :: st) h := go_plain (q := (1, [.ref x, l1, l2, l3, l4, l5], (.ref x :: st), h)) ke_89_0 rfl
theorem ee_89_0N {d : Nat} {h : aH} {l1 l2 l3 l4 l5 : Value} {st : List Value} : go d 89 0 [.null, l1, l2, l3, l4, l5] st h = go d 89 1 [.null, l1, l2, l3, l4, l5] (.null :: st) h := go_plain (q := (1, [.null, l1, l2, l3, l4, l5], (.null :: st), h)) ke_89_0 rfl
theorem ke_89_1 : alook 89 1 = some (1, .iload_n 2, 1, (0, 0, 0, 0, 0), ⟨"", "", ""⟩, "") := rfl
theorem ee_89_1 {d : Nat} {h : aH} {l0 l1 l3 l4 l5 : Value} {x : Int32} {st : List Value} : go d 89 1 [l0, l1, .int x, l3, l4, l5] st h = go d 89 2 [l0, l1, .int x, l3, l4, l5] (.int x :: st) h := go_plain (q := (2, [l0, l1, .int x, l3, l4, l5], (.int x :: st), h)) ke_89_1 rfl
theorem ke_89_2 : alook 89 2 = some (2, .aload_n 0, 1, (0, 0, 0, 0, 0), ⟨"", "", ""⟩, "") := rfl
theorem ee_89_2 {d : Nat} {h : aH} {l1 l2 l3 l4 l5 : Value} {x : Nat} {st : List Value} : go d 89 2 [.ref x, l1, l2, l3, l4, l5] st h = go d 89 3 [.ref x, l1, l2, l3, l4, l5] (.ref x :: st) h := go_plain (q := (3, [.ref x, l1, l2, l3, l4, l5], (.ref x :: st), h)) ke_89_2 rfl
theorem ee_89_2N {d : Nat} {h : aH} {l1 l2 l3 l4 l5 : Value} {st : List Value} : go d 89 2 [.null, l1, l2, l3, l4, l5] st h = go d 89 3 [.null, l1, l2, l3, l4, l5] (.null :: st) h := go_plain (q := (3, [.null, l1, l2, l3, l4, l5], (.null :: st), h)) ke_89_2 rfl
theorem ke_89_3 : alook 89 3 = some (3, .iconst 0, 1, (0, 0, 0, 0, 0), ⟨"", "", ""⟩, "") := rfl
theorem ee_89_3 {d : Nat} {h : aH} {ls st : List Value} : go d 89 3 ls st h = go d 89 4 ls (.int 0 :: st) h := go_plain (q := (4, ls, (.int 0 :: st), h)) ke_89_3 rfl
theorem ke_89_4 : alook 89 4 = some (4, .iload_n 1, 1, (0, 0, 0, 0, 0), ⟨"", "", ""⟩, "") := rfl
theorem ee_89_4 {d : Nat} {h : aH} {l0 l2 l3 l4 l5 : Value} {x : Int32} {st : List Value} : go d 89 4 [l0, .int x, l2, l3, l4, l5] st h = go d 89 5 [l0, .int x, l2, l3, l4, l5] (.int x :: st) h := go_plain (q := (5, [l0, .int x, l2, l3, l4, l5], (.int x :: st), h)) ke_89_4 rfl
theorem ke_89_5 : alook 89 5 = some (5, .invokevirtual 58, 3, (2, 8, 71, 8, 71), ⟨"WordHidesModel", "longOf", "(II)I"⟩, "") := rfl
theorem ee_89_5 {d : Nat} {ls : List Value} {h : aH} {i0 : Int32} {i1 : Int32} {r2 : Nat} {i3 : Int32} {r4 : Nat} : go (d + 1) 89 5 ls [.int i0, .int i1, .ref r2, .int i3, .ref r4] h = if isC h r2 8 = true then (go d 71 0 [.ref r2, .int i1, .int i0] [] h).bind (fun q => go (d + 1) 89 8 ls (q.1.toList ++ [.int i3, .ref r4]) q.2) else none := go_cv1 (as := [.int i1, .int i0]) (rest := [.int i3, .ref r4]) (L := [.ref r2, .int i1, .int i0]) ke_89_5 rfl rfl rfl
theorem ke_89_8 : alook 89 8 = some (8, .invokevirtual 76, 3, (2, 8, 86, 8, 86), ⟨"WordHidesModel", "canLie", "(II)Z"⟩, "") := rfl
theorem ee_89_8 {d : Nat} {ls : List Value} {h : aH} {i0 : Int32} {i1 : Int32} {r2 : Nat} : go (d + 1) 89 8 ls [.int i0, .int i1, .ref r2] h = if isC h r2 8 = true then (go d 86 0 [.ref r2, .int i1, .int i0] [] h).bind (fun q => go (d + 1) 89 11 ls (q.1.toList ++ []) q.2) else none := go_cv1 (as := [.int i1, .int i0]) (rest := []) (L := [.ref r2, .int i1, .int i0]) ke_89_8 rfl rfl rfl
theorem ke_89_11 : alook 89 11 = some (11, .ifCond .ne 5, 3, (16, 0, 0, 0, 0), ⟨"", "", ""⟩, "") := rfl
theorem ee_89_11 {d : Nat} {ls st : List Value} {h : aH} {x : Int32} : go d 89 11 ls (.int x :: st) h = if ¬ x = 0 then go d 89 16 ls st h else go d 89 14 ls st h := go_c1 (go_if1 (tg := 16) (q := 14) (f := fun x => decide (¬ x = 0)) ke_89_11 rfl)
theorem ke_89_14 : alook 89 14 = some (14, .iconst 0, 1, (0, 0, 0, 0, 0), ⟨"", "", ""⟩, "") := rfl
theorem ee_89_14 {d : Nat} {h : aH} {ls st : List Value} : go d 89 14 ls st h = go d 89 15 ls (.int 0 :: st) h := go_plain (q := (15, ls, (.int 0 :: st), h)) ke_89_14 rfl
theorem ke_89_15 : alook 89 15 = some (15, .ireturn, 1, (1, 0, 0, 0, 0), ⟨"", "", ""⟩, "") := rfl
theorem ee_89_15 {d : Nat} {ls : List Value} {h : aH} : go d 89 15 ls [.int 0] h = some (some (.int 0), h) := go_zret0 ke_89_15
theorem ee_89_15T {d : Nat} {ls : List Value} {h : aH} : go d 89 15 ls [.int 1] h = some (some (.int 1), h) := go_zret1 ke_89_15
theorem ke_89_16 : alook 89 16 = some (16, .aload_n 0, 1, (0, 0, 0, 0, 0), ⟨"", "", ""⟩, "") := rfl
theorem ee_89_16 {d : Nat} {h : aH} {l1 l2 l3 l4 l5 : Value} {x : Nat} {st : List Value} : go d 89 16 [.ref x, l1, l2, l3, l4, l5] st h = go d 89 17 [.ref x, l1, l2, l3, l4, l5] (.ref x :: st) h := go_plain (q := (17, [.ref x, l1, l2, l3, l4, l5], (.ref x :: st), h)) ke_89_16 rfl
theorem ee_89_16N {d : Nat} {h : aH} {l1 l2 l3 l4 l5 : Value} {st : List Value} : go d 89 16 [.null, l1, l2, l3, l4, l5] st h = go d 89 17 [.null, l1, l2, l3, l4, l5] (.null :: st) h := go_plain (q := (17, [.null, l1, l2, l3, l4, l5], (.null :: st), h)) ke_89_16 rfl
theorem ke_89_17 : alook 89 17 = some (17, .iload_n 1, 1, (0, 0, 0, 0, 0), ⟨"", "", ""⟩, "") := rfl
theorem ee_89_17 {d : Nat} {h : aH} {l0 l2 l3 l4 l5 : Value} {x : Int32} {st : List Value} : go d 89 17 [l0, .int x, l2, l3, l4, l5] st h = go d 89 18 [l0, .int x, l2, l3, l4, l5] (.int x :: st) h := go_plain (q := (18, [l0, .int x, l2, l3, l4, l5], (.int x :: st), h)) ke_89_17 rfl
theorem ke_89_18 : alook 89 18 = some (18, .invokevirtual 79, 3, (1, 8, 88, 8, 88), ⟨"WordHidesModel", "copyStep", "(I)V"⟩, "") := rfl
theorem ee_89_18 {d : Nat} {ls : List Value} {h : aH} {i0 : Int32} {r1 : Nat} : go (d + 1) 89 18 ls [.int i0, .ref r1] h = if isC h r1 8 = true then (go d 88 0 [.ref r1, .int i0, aU] [] h).bind (fun q => go (d + 1) 89 21 ls (q.1.toList ++ []) q.2) else none := go_cv1 (as := [.int i0]) (rest := []) (L := [.ref r1, .int i0, aU]) ke_89_18 rfl rfl rfl
theorem ke_89_21 : alook 89 21 = some (21, .iconst 1, 1, (0, 0, 0, 0, 0), ⟨"", "", ""⟩, "") := rfl
theorem ee_89_21 {d : Nat} {h : aH} {ls st : List Value} : go d 89 21 ls st h = go d 89 22 ls (.int 1 :: st) h := go_plain (q := (22, ls, (.int 1 :: st), h)) ke_89_21 rfl
theorem ke_89_22 : alook 89 22 = some (22, .istore_n 3, 1, (0, 0, 0, 0, 0), ⟨"", "", ""⟩, "") := rfl
theorem ee_89_22 {d : Nat} {h : aH} {l0 l1 l2 l3 l4 l5 : Value} {x : Int32} {st : List Value} : go d 89 22 [l0, l1, l2, l3, l4, l5] (.int x :: st) h = go d 89 23 [l0, l1, l2, .int x, l4, l5] st h := go_plain (q := (23, [l0, l1, l2, .int x, l4, l5], st, h)) ke_89_22 rfl
theorem ke_89_23 : alook 89 23 = some (23, .iconst 0, 1, (0, 0, 0, 0, 0), ⟨"", "", ""⟩, "") := rfl
theorem ee_89_23 {d : Nat} {h : aH} {ls st : List Value} : go d 89 23 ls st h = go d 89 24 ls (.int 0 :: st) h := go_plain (q := (24, ls, (.int 0 :: st), h)) ke_89_23 rfl
theorem ke_89_24 : alook 89 24 = some (24, .istore 4, 2, (0, 0, 0, 0, 0), ⟨"", "", ""⟩, "") := rfl
theorem ee_89_24 {d : Nat} {h : aH} {l0 l1 l2 l3 l4 l5 : Value} {x : Int32} {st : List Value} : go d 89 24 [l0, l1, l2, l3, l4, l5] (.int x :: st) h = go d 89 26 [l0, l1, l2, l3, .int x, l5] st h := go_plain (q := (26, [l0, l1, l2, l3, .int x, l5], st, h)) ke_89_24 rfl
theorem ke_89_26 : alook 89 26 = some (26, .iload 4, 2, (0, 0, 0, 0, 0), ⟨"", "", ""⟩, "") := rfl
theorem ee_89_26 {d : Nat} {h : aH} {l0 l1 l2 l3 l5 : Value} {x : Int32} {st : List Value} : go d 89 26 [l0, l1, l2, l3, .int x, l5] st h = go d 89 28 [l0, l1, l2, l3, .int x, l5] (.int x :: st) h := go_plain (q := (28, [l0, l1, l2, l3, .int x, l5], (.int x :: st), h)) ke_89_26 rfl
theorem ke_89_28 : alook 89 28 = some (28, .aload_n 0, 1, (0, 0, 0, 0, 0), ⟨"", "", ""⟩, "") := rfl
theorem ee_89_28 {d : Nat} {h : aH} {l1 l2 l3 l4 l5 : Value} {x : Nat} {st : List Value} : go d 89 28 [.ref x, l1, l2, l3, l4, l5] st h = go d 89 29 [.ref x, l1, l2, l3, l4, l5] (.ref x :: st) h := go_plain (q := (29, [.ref x, l1, l2, l3, l4, l5], (.ref x :: st), h)) ke_89_28 rfl
theorem ee_89_28N {d : Nat} {h : aH} {l1 l2 l3 l4 l5 : Value} {st : List Value} : go d 89 28 [.null, l1, l2, l3, l4, l5] st h = go d 89 29 [.null, l1, l2, l3, l4, l5] (.null :: st) h := go_plain (q := (29, [.null, l1, l2, l3, l4, l5], (.null :: st), h)) ke_89_28 rfl
theorem ke_89_29 : alook 89 29 = some (29, .iconst 0, 1, (0, 0, 0, 0, 0), ⟨"", "", ""⟩, "") := rfl
theorem ee_89_29 {d : Nat} {h : aH} {ls st : List Value} : go d 89 29 ls st h = go d 89 30 ls (.int 0 :: st) h := go_plain (q := (30, ls, (.int 0 :: st), h)) ke_89_29 rfl
theorem ke_89_30 : alook 89 30 = some (30, .iload_n 1, 1, (0, 0, 0, 0, 0), ⟨"", "", ""⟩, "") := rfl
theorem ee_89_30 {d : Nat} {h : aH} {l0 l2 l3 l4 l5 : Value} {x : Int32} {st : List Value} : go d 89 30 [l0, .int x, l2, l3, l4, l5] st h = go d 89 31 [l0, .int x, l2, l3, l4, l5] (.int x :: st) h := go_plain (q := (31, [l0, .int x, l2, l3, l4, l5], (.int x :: st), h)) ke_89_30 rfl
theorem ke_89_31 : alook 89 31 = some (31, .invokevirtual 58, 3, (2, 8, 71, 8, 71), ⟨"WordHidesModel", "longOf", "(II)I"⟩, "") := rfl
theorem ee_89_31 {d : Nat} {ls : List Value} {h : aH} {i0 : Int32} {i1 : Int32} {r2 : Nat} {i3 : Int32} : go (d + 1) 89 31 ls [.int i0, .int i1, .ref r2, .int i3] h = if isC h r2 8 = true then (go d 71 0 [.ref r2, .int i1, .int i0] [] h).bind (fun q => go (d + 1) 89 34 ls (q.1.toList ++ [.int i3]) q.2) else none := go_cv1 (as := [.int i1, .int i0]) (rest := [.int i3]) (L := [.ref r2, .int i1, .int i0]) ke_89_31 rfl rfl rfl
theorem ke_89_34 : alook 89 34 = some (34, .if_icmp .ge 89, 3, (123, 0, 0, 0, 0), ⟨"", "", ""⟩, "") := rfl
theorem ee_89_34 {d : Nat} {ls st : List Value} {h : aH} {x y : Int32} : go d 89 34 ls (.int y :: .int x :: st) h = if y ≤ x then go d 89 123 ls st h else go d 89 37 ls st h := go_ci (go_if2 (tg := 123) (q := 37) (f := fun x y => decide (y ≤ x)) ke_89_34 rfl)
theorem ke_89_37 : alook 89 37 = some (37, .iload_n 3, 1, (0, 0, 0, 0, 0), ⟨"", "", ""⟩, "") := rfl
theorem ee_89_37 {d : Nat} {h : aH} {l0 l1 l2 l4 l5 : Value} {x : Int32} {st : List Value} : go d 89 37 [l0, l1, l2, .int x, l4, l5] st h = go d 89 38 [l0, l1, l2, .int x, l4, l5] (.int x :: st) h := go_plain (q := (38, [l0, l1, l2, .int x, l4, l5], (.int x :: st), h)) ke_89_37 rfl
theorem ke_89_38 : alook 89 38 = some (38, .ifCond .eq 85, 3, (123, 0, 0, 0, 0), ⟨"", "", ""⟩, "") := rfl
theorem ee_89_38 {d : Nat} {ls st : List Value} {h : aH} {x : Int32} : go d 89 38 ls (.int x :: st) h = if x = 0 then go d 89 123 ls st h else go d 89 41 ls st h := go_c1 (go_if1 (tg := 123) (q := 41) (f := fun x => decide (x = 0)) ke_89_38 rfl)
theorem ke_89_41 : alook 89 41 = some (41, .bipush 16, 2, (0, 0, 0, 0, 0), ⟨"", "", ""⟩, "") := rfl
theorem ee_89_41 {d : Nat} {h : aH} {ls st : List Value} : go d 89 41 ls st h = go d 89 43 ls (.int 16 :: st) h := go_plain (q := (43, ls, (.int 16 :: st), h)) ke_89_41 rfl
theorem ke_89_43 : alook 89 43 = some (43, .iload_n 1, 1, (0, 0, 0, 0, 0), ⟨"", "", ""⟩, "") := rfl
theorem ee_89_43 {d : Nat} {h : aH} {l0 l2 l3 l4 l5 : Value} {x : Int32} {st : List Value} : go d 89 43 [l0, .int x, l2, l3, l4, l5] st h = go d 89 44 [l0, .int x, l2, l3, l4, l5] (.int x :: st) h := go_plain (q := (44, [l0, .int x, l2, l3, l4, l5], (.int x :: st), h)) ke_89_43 rfl
theorem ke_89_44 : alook 89 44 = some (44, .iconst 1, 1, (0, 0, 0, 0, 0), ⟨"", "", ""⟩, "") := rfl
theorem ee_89_44 {d : Nat} {h : aH} {ls st : List Value} : go d 89 44 ls st h = go d 89 45 ls (.int 1 :: st) h := go_plain (q := (45, ls, (.int 1 :: st), h)) ke_89_44 rfl
theorem ke_89_45 : alook 89 45 = some (45, .iadd, 1, (0, 0, 0, 0, 0), ⟨"", "", ""⟩, "") := rfl
theorem ee_89_45 {d : Nat} {h : aH} {ls st : List Value} {x y : Int32} : go d 89 45 ls (.int y :: .int x :: st) h = go d 89 46 ls (.int (x + y) :: st) h := go_plain (q := (46, ls, (.int (x + y) :: st), h)) ke_89_45 rfl
theorem ke_89_46 : alook 89 46 = some (46, .imul, 1, (0, 0, 0, 0, 0), ⟨"", "", ""⟩, "") := rfl
theorem ee_89_46 {d : Nat} {h : aH} {ls st : List Value} {x y : Int32} : go d 89 46 ls (.int y :: .int x :: st) h = go d 89 47 ls (.int (x * y) :: st) h := go_plain (q := (47, ls, (.int (x * y) :: st), h)) ke_89_46 rfl
theorem ke_89_47 : alook 89 47 = some (47, .aload_n 0, 1, (0, 0, 0, 0, 0), ⟨"", "", ""⟩, "") := rfl
theorem ee_89_47 {d : Nat} {h : aH} {l1 l2 l3 l4 l5 : Value} {x : Nat} {st : List Value} : go d 89 47 [.ref x, l1, l2, l3, l4, l5] st h = go d 89 48 [.ref x, l1, l2, l3, l4, l5] (.ref x :: st) h := go_plain (q := (48, [.ref x, l1, l2, l3, l4, l5], (.ref x :: st), h)) ke_89_47 rfl
theorem ee_89_47N {d : Nat} {h : aH} {l1 l2 l3 l4 l5 : Value} {st : List Value} : go d 89 47 [.null, l1, l2, l3, l4, l5] st h = go d 89 48 [.null, l1, l2, l3, l4, l5] (.null :: st) h := go_plain (q := (48, [.null, l1, l2, l3, l4, l5], (.null :: st), h)) ke_89_47 rfl
theorem ke_89_48 : alook 89 48 = some (48, .iload_n 2, 1, (0, 0, 0, 0, 0), ⟨"", "", ""⟩, "") := rfl
theorem ee_89_48 {d : Nat} {h : aH} {l0 l1 l3 l4 l5 : Value} {x : Int32} {st : List Value} : go d 89 48 [l0, l1, .int x, l3, l4, l5] st h = go d 89 49 [l0, l1, .int x, l3, l4, l5] (.int x :: st) h := go_plain (q := (49, [l0, l1, .int x, l3, l4, l5], (.int x :: st), h)) ke_89_48 rfl
theorem ke_89_49 : alook 89 49 = some (49, .iload 4, 2, (0, 0, 0, 0, 0), ⟨"", "", ""⟩, "") := rfl
theorem ee_89_49 {d : Nat} {h : aH} {l0 l1 l2 l3 l5 : Value} {x : Int32} {st : List Value} : go d 89 49 [l0, l1, l2, l3, .int x, l5] st h = go d 89 51 [l0, l1, l2, l3, .int x, l5] (.int x :: st) h := go_plain (q := (51, [l0, l1, l2, l3, .int x, l5], (.int x :: st), h)) ke_89_49 rfl
theorem ke_89_51 : alook 89 51 = some (51, .invokevirtual 73, 3, (2, 8, 85, 8, 85), ⟨"WordHidesModel", "cellAt", "(II)I"⟩, "") := rfl
theorem ee_89_51 {d : Nat} {ls : List Value} {h : aH} {i0 : Int32} {i1 : Int32} {r2 : Nat} {i3 : Int32} : go (d + 1) 89 51 ls [.int i0, .int i1, .ref r2, .int i3] h = if isC h r2 8 = true then (go d 85 0 [.ref r2, .int i1, .int i0, aU, aU, aU] [] h).bind (fun q => go (d + 1) 89 54 ls (q.1.toList ++ [.int i3]) q.2) else none := go_cv1 (as := [.int i1, .int i0]) (rest := [.int i3]) (L := [.ref r2, .int i1, .int i0, aU, aU, aU]) ke_89_51 rfl rfl rfl
theorem ke_89_54 : alook 89 54 = some (54, .iadd, 1, (0, 0, 0, 0, 0), ⟨"", "", ""⟩, "") := rfl
theorem ee_89_54 {d : Nat} {h : aH} {ls st : List Value} {x y : Int32} : go d 89 54 ls (.int y :: .int x :: st) h = go d 89 55 ls (.int (x + y) :: st) h := go_plain (q := (55, ls, (.int (x + y) :: st), h)) ke_89_54 rfl
theorem ke_89_55 : alook 89 55 = some (55, .istore 5, 2, (0, 0, 0, 0, 0), ⟨"", "", ""⟩, "") := rfl
theorem ee_89_55 {d : Nat} {h : aH} {l0 l1 l2 l3 l4 l5 : Value} {x : Int32} {st : List Value} : go d 89 55 [l0, l1, l2, l3, l4, l5] (.int x :: st) h = go d 89 57 [l0, l1, l2, l3, l4, .int x] st h := go_plain (q := (57, [l0, l1, l2, l3, l4, .int x], st, h)) ke_89_55 rfl
theorem ke_89_57 : alook 89 57 = some (57, .aload_n 0, 1, (0, 0, 0, 0, 0), ⟨"", "", ""⟩, "") := rfl
theorem ee_89_57 {d : Nat} {h : aH} {l1 l2 l3 l4 l5 : Value} {x : Nat} {st : List Value} : go d 89 57 [.ref x, l1, l2, l3, l4, l5] st h = go d 89 58 [.ref x, l1, l2, l3, l4, l5] (.ref x :: st) h := go_plain (q := (58, [.ref x, l1, l2, l3, l4, l5], (.ref x :: st), h)) ke_89_57 rfl
theorem ee_89_57N {d : Nat} {h : aH} {l1 l2 l3 l4 l5 : Value} {st : List Value} : go d 89 57 [.null, l1, l2, l3, l4, l5] st h = go d 89 58 [.null, l1, l2, l3, l4, l5] (.null :: st) h := go_plain (q := (58, [.null, l1, l2, l3, l4, l5], (.null :: st), h)) ke_89_57 rfl
theorem ke_89_58 : alook 89 58 = some (58, .getfield 23, 3, (5, 8, 8, 2, 0), ⟨"", "", ""⟩, "WordHidesModel") := rfl
theorem ee_89_58 {d : Nat} {ls st : List Value} {h : aH} {r : Nat} : go d 89 58 ls (.ref r :: st) h = (gf h r 5 8 8).bind fun z => go d 89 61 ls (z :: st) h := go_getf ke_89_58
theorem ke_89_61 : alook 89 61 = some (61, .iload 5, 2, (0, 0, 0, 0, 0), ⟨"", "", ""⟩, "") := rfl
theorem ee_89_61 {d : Nat} {h : aH} {l0 l1 l2 l3 l4 : Value} {x : Int32} {st : List Value} : go d 89 61 [l0, l1, l2, l3, l4, .int x] st h = go d 89 63 [l0, l1, l2, l3, l4, .int x] (.int x :: st) h := go_plain (q := (63, [l0, l1, l2, l3, l4, .int x], (.int x :: st), h)) ke_89_61 rfl
theorem ke_89_63 : alook 89 63 = some (63, .iaload, 1, (0, 0, 0, 0, 0), ⟨"", "", ""⟩, "") := rfl
theorem ee_89_63 {d : Nat} {ls st : List Value} {h : aH} {r : Nat} {i : Int32} : go d 89 63 ls (.int i :: .ref r :: st) h = (ia h r i).bind fun z => go d 89 64 ls (.int z :: st) h := go_iald ke_89_63
theorem ke_89_64 : alook 89 64 = some (64, .ifCond .eq 21, 3, (85, 0, 0, 0, 0), ⟨"", "", ""⟩, "") := rfl
theorem ee_89_64 {d : Nat} {ls st : List Value} {h : aH} {x : Int32} : go d 89 64 ls (.int x :: st) h = if x = 0 then go d 89 85 ls st h else go d 89 67 ls st h := go_c1 (go_if1 (tg := 85) (q := 67) (f := fun x => decide (x = 0)) ke_89_64 rfl)
theorem ke_89_67 : alook 89 67 = some (67, .aload_n 0, 1, (0, 0, 0, 0, 0), ⟨"", "", ""⟩, "") := rfl
theorem ee_89_67 {d : Nat} {h : aH} {l1 l2 l3 l4 l5 : Value} {x : Nat} {st : List Value} : go d 89 67 [.ref x, l1, l2, l3, l4, l5] st h = go d 89 68 [.ref x, l1, l2, l3, l4, l5] (.ref x :: st) h := go_plain (q := (68, [.ref x, l1, l2, l3, l4, l5], (.ref x :: st), h)) ke_89_67 rfl
theorem ee_89_67N {d : Nat} {h : aH} {l1 l2 l3 l4 l5 : Value} {st : List Value} : go d 89 67 [.null, l1, l2, l3, l4, l5] st h = go d 89 68 [.null, l1, l2, l3, l4, l5] (.null :: st) h := go_plain (q := (68, [.null, l1, l2, l3, l4, l5], (.null :: st), h)) ke_89_67 rfl
theorem ke_89_68 : alook 89 68 = some (68, .getfield 23, 3, (5, 8, 8, 2, 0), ⟨"", "", ""⟩, "WordHidesModel") := rfl
theorem ee_89_68 {d : Nat} {ls st : List Value} {h : aH} {r : Nat} : go d 89 68 ls (.ref r :: st) h = (gf h r 5 8 8).bind fun z => go d 89 71 ls (z :: st) h := go_getf ke_89_68
theorem ke_89_71 : alook 89 71 = some (71, .iload 5, 2, (0, 0, 0, 0, 0), ⟨"", "", ""⟩, "") := rfl
theorem ee_89_71 {d : Nat} {h : aH} {l0 l1 l2 l3 l4 : Value} {x : Int32} {st : List Value} : go d 89 71 [l0, l1, l2, l3, l4, .int x] st h = go d 89 73 [l0, l1, l2, l3, l4, .int x] (.int x :: st) h := go_plain (q := (73, [l0, l1, l2, l3, l4, .int x], (.int x :: st), h)) ke_89_71 rfl
theorem ke_89_73 : alook 89 73 = some (73, .iaload, 1, (0, 0, 0, 0, 0), ⟨"", "", ""⟩, "") := rfl
theorem ee_89_73 {d : Nat} {ls st : List Value} {h : aH} {r : Nat} {i : Int32} : go d 89 73 ls (.int i :: .ref r :: st) h = (ia h r i).bind fun z => go d 89 74 ls (.int z :: st) h := go_iald ke_89_73
theorem ke_89_74 : alook 89 74 = some (74, .aload_n 0, 1, (0, 0, 0, 0, 0), ⟨"", "", ""⟩, "") := rfl
theorem ee_89_74 {d : Nat} {h : aH} {l1 l2 l3 l4 l5 : Value} {x : Nat} {st : List Value} : go d 89 74 [.ref x, l1, l2, l3, l4, l5] st h = go d 89 75 [.ref x, l1, l2, l3, l4, l5] (.ref x :: st) h := go_plain (q := (75, [.ref x, l1, l2, l3, l4, l5], (.ref x :: st), h)) ke_89_74 rfl
theorem ee_89_74N {d : Nat} {h : aH} {l1 l2 l3 l4 l5 : Value} {st : List Value} : go d 89 74 [.null, l1, l2, l3, l4, l5] st h = go d 89 75 [.null, l1, l2, l3, l4, l5] (.null :: st) h := go_plain (q := (75, [.null, l1, l2, l3, l4, l5], (.null :: st), h)) ke_89_74 rfl
theorem ke_89_75 : alook 89 75 = some (75, .iconst 0, 1, (0, 0, 0, 0, 0), ⟨"", "", ""⟩, "") := rfl
theorem ee_89_75 {d : Nat} {h : aH} {ls st : List Value} : go d 89 75 ls st h = go d 89 76 ls (.int 0 :: st) h := go_plain (q := (76, ls, (.int 0 :: st), h)) ke_89_75 rfl
theorem ke_89_76 : alook 89 76 = some (76, .iload_n 1, 1, (0, 0, 0, 0, 0), ⟨"", "", ""⟩, "") := rfl
theorem ee_89_76 {d : Nat} {h : aH} {l0 l2 l3 l4 l5 : Value} {x : Int32} {st : List Value} : go d 89 76 [l0, .int x, l2, l3, l4, l5] st h = go d 89 77 [l0, .int x, l2, l3, l4, l5] (.int x :: st) h := go_plain (q := (77, [l0, .int x, l2, l3, l4, l5], (.int x :: st), h)) ke_89_76 rfl
theorem ke_89_77 : alook 89 77 = some (77, .iload 4, 2, (0, 0, 0, 0, 0), ⟨"", "", ""⟩, "") := rfl
theorem ee_89_77 {d : Nat} {h : aH} {l0 l1 l2 l3 l5 : Value} {x : Int32} {st : List Value} : go d 89 77 [l0, l1, l2, l3, .int x, l5] st h = go d 89 79 [l0, l1, l2, l3, .int x, l5] (.int x :: st) h := go_plain (q := (79, [l0, l1, l2, l3, .int x, l5], (.int x :: st), h)) ke_89_77 rfl
theorem ke_89_79 : alook 89 79 = some (79, .invokevirtual 62, 3, (3, 8, 72, 8, 72), ⟨"WordHidesModel", "letterOf", "(III)I"⟩, "") := rfl
theorem ee_89_79 {d : Nat} {ls : List Value} {h : aH} {i0 : Int32} {i1 : Int32} {i2 : Int32} {r3 : Nat} {i4 : Int32} : go (d + 1) 89 79 ls [.int i0, .int i1, .int i2, .ref r3, .int i4] h = if isC h r3 8 = true then (go d 72 0 [.ref r3, .int i2, .int i1, .int i0] [] h).bind (fun q => go (d + 1) 89 82 ls (q.1.toList ++ [.int i4]) q.2) else none := go_cv1 (as := [.int i2, .int i1, .int i0]) (rest := [.int i4]) (L := [.ref r3, .int i2, .int i1, .int i0]) ke_89_79 rfl rfl rfl
theorem ke_89_82 : alook 89 82 = some (82, .if_icmp .ne 7, 3, (89, 0, 0, 0, 0), ⟨"", "", ""⟩, "") := rfl
theorem ee_89_82 {d : Nat} {ls st : List Value} {h : aH} {x y : Int32} : go d 89 82 ls (.int y :: .int x :: st) h = if ¬ x = y then go d 89 89 ls st h else go d 89 85 ls st h := go_ci (go_if2 (tg := 89) (q := 85) (f := fun x y => decide (¬ x = y)) ke_89_82 rfl)
theorem ke_89_85 : alook 89 85 = some (85, .iconst 1, 1, (0, 0, 0, 0, 0), ⟨"", "", ""⟩, "") := rfl
theorem ee_89_85 {d : Nat} {h : aH} {ls st : List Value} : go d 89 85 ls st h = go d 89 86 ls (.int 1 :: st) h := go_plain (q := (86, ls, (.int 1 :: st), h)) ke_89_85 rfl
theorem ke_89_86 : alook 89 86 = some (86, .goto 4, 3, (90, 0, 0, 0, 0), ⟨"", "", ""⟩, "") := rfl
theorem ee_89_86 {d : Nat} {h : aH} {ls st : List Value} : go d 89 86 ls st h = go d 89 90 ls st h := go_plain (q := (90, ls, st, h)) ke_89_86 rfl
theorem ke_89_89 : alook 89 89 = some (89, .iconst 0, 1, (0, 0, 0, 0, 0), ⟨"", "", ""⟩, "") := rfl
theorem ee_89_89 {d : Nat} {h : aH} {ls st : List Value} : go d 89 89 ls st h = go d 89 90 ls (.int 0 :: st) h := go_plain (q := (90, ls, (.int 0 :: st), h)) ke_89_89 rfl
theorem ke_89_90 : alook 89 90 = some (90, .istore_n 3, 1, (0, 0, 0, 0, 0), ⟨"", "", ""⟩, "") := rfl
theorem ee_89_90 {d : Nat} {h : aH} {l0 l1 l2 l3 l4 l5 : Value} {x : Int32} {st : List Value} : go d 89 90 [l0, l1, l2, l3, l4, l5] (.int x :: st) h = go d 89 91 [l0, l1, l2, .int x, l4, l5] st h := go_plain (q := (91, [l0, l1, l2, .int x, l4, l5], st, h)) ke_89_90 rfl
theorem ke_89_91 : alook 89 91 = some (91, .aload_n 0, 1, (0, 0, 0, 0, 0), ⟨"", "", ""⟩, "") := rfl
theorem ee_89_91 {d : Nat} {h : aH} {l1 l2 l3 l4 l5 : Value} {x : Nat} {st : List Value} : go d 89 91 [.ref x, l1, l2, l3, l4, l5] st h = go d 89 92 [.ref x, l1, l2, l3, l4, l5] (.ref x :: st) h := go_plain (q := (92, [.ref x, l1, l2, l3, l4, l5], (.ref x :: st), h)) ke_89_91 rfl
theorem ee_89_91N {d : Nat} {h : aH} {l1 l2 l3 l4 l5 : Value} {st : List Value} : go d 89 91 [.null, l1, l2, l3, l4, l5] st h = go d 89 92 [.null, l1, l2, l3, l4, l5] (.null :: st) h := go_plain (q := (92, [.null, l1, l2, l3, l4, l5], (.null :: st), h)) ke_89_91 rfl
theorem ke_89_92 : alook 89 92 = some (92, .getfield 23, 3, (5, 8, 8, 2, 0), ⟨"", "", ""⟩, "WordHidesModel") := rfl
theorem ee_89_92 {d : Nat} {ls st : List Value} {h : aH} {r : Nat} : go d 89 92 ls (.ref r :: st) h = (gf h r 5 8 8).bind fun z => go d 89 95 ls (z :: st) h := go_getf ke_89_92
theorem ke_89_95 : alook 89 95 = some (95, .iload 5, 2, (0, 0, 0, 0, 0), ⟨"", "", ""⟩, "") := rfl
theorem ee_89_95 {d : Nat} {h : aH} {l0 l1 l2 l3 l4 : Value} {x : Int32} {st : List Value} : go d 89 95 [l0, l1, l2, l3, l4, .int x] st h = go d 89 97 [l0, l1, l2, l3, l4, .int x] (.int x :: st) h := go_plain (q := (97, [l0, l1, l2, l3, l4, .int x], (.int x :: st), h)) ke_89_95 rfl
theorem ke_89_97 : alook 89 97 = some (97, .aload_n 0, 1, (0, 0, 0, 0, 0), ⟨"", "", ""⟩, "") := rfl
theorem ee_89_97 {d : Nat} {h : aH} {l1 l2 l3 l4 l5 : Value} {x : Nat} {st : List Value} : go d 89 97 [.ref x, l1, l2, l3, l4, l5] st h = go d 89 98 [.ref x, l1, l2, l3, l4, l5] (.ref x :: st) h := go_plain (q := (98, [.ref x, l1, l2, l3, l4, l5], (.ref x :: st), h)) ke_89_97 rfl
theorem ee_89_97N {d : Nat} {h : aH} {l1 l2 l3 l4 l5 : Value} {st : List Value} : go d 89 97 [.null, l1, l2, l3, l4, l5] st h = go d 89 98 [.null, l1, l2, l3, l4, l5] (.null :: st) h := go_plain (q := (98, [.null, l1, l2, l3, l4, l5], (.null :: st), h)) ke_89_97 rfl
theorem ke_89_98 : alook 89 98 = some (98, .iconst 0, 1, (0, 0, 0, 0, 0), ⟨"", "", ""⟩, "") := rfl
theorem ee_89_98 {d : Nat} {h : aH} {ls st : List Value} : go d 89 98 ls st h = go d 89 99 ls (.int 0 :: st) h := go_plain (q := (99, ls, (.int 0 :: st), h)) ke_89_98 rfl
theorem ke_89_99 : alook 89 99 = some (99, .iload_n 1, 1, (0, 0, 0, 0, 0), ⟨"", "", ""⟩, "") := rfl
theorem ee_89_99 {d : Nat} {h : aH} {l0 l2 l3 l4 l5 : Value} {x : Int32} {st : List Value} : go d 89 99 [l0, .int x, l2, l3, l4, l5] st h = go d 89 100 [l0, .int x, l2, l3, l4, l5] (.int x :: st) h := go_plain (q := (100, [l0, .int x, l2, l3, l4, l5], (.int x :: st), h)) ke_89_99 rfl
theorem ke_89_100 : alook 89 100 = some (100, .iload 4, 2, (0, 0, 0, 0, 0), ⟨"", "", ""⟩, "") := rfl
theorem ee_89_100 {d : Nat} {h : aH} {l0 l1 l2 l3 l5 : Value} {x : Int32} {st : List Value} : go d 89 100 [l0, l1, l2, l3, .int x, l5] st h = go d 89 102 [l0, l1, l2, l3, .int x, l5] (.int x :: st) h := go_plain (q := (102, [l0, l1, l2, l3, .int x, l5], (.int x :: st), h)) ke_89_100 rfl
theorem ke_89_102 : alook 89 102 = some (102, .invokevirtual 62, 3, (3, 8, 72, 8, 72), ⟨"WordHidesModel", "letterOf", "(III)I"⟩, "") := rfl
theorem ee_89_102 {d : Nat} {ls : List Value} {h : aH} {i0 : Int32} {i1 : Int32} {i2 : Int32} {r3 : Nat} {i4 : Int32} {r5 : Nat} : go (d + 1) 89 102 ls [.int i0, .int i1, .int i2, .ref r3, .int i4, .ref r5] h = if isC h r3 8 = true then (go d 72 0 [.ref r3, .int i2, .int i1, .int i0] [] h).bind (fun q => go (d + 1) 89 105 ls (q.1.toList ++ [.int i4, .ref r5]) q.2) else none := go_cv1 (as := [.int i2, .int i1, .int i0]) (rest := [.int i4, .ref r5]) (L := [.ref r3, .int i2, .int i1, .int i0]) ke_89_102 rfl rfl rfl
theorem ke_89_105 : alook 89 105 = some (105, .iastore, 1, (0, 0, 0, 0, 0), ⟨"", "", ""⟩, "") := rfl
theorem ee_89_105 {d : Nat} {ls st : List Value} {h : aH} {r : Nat} {i x : Int32} : go d 89 105 ls (.int x :: .int i :: .ref r :: st) h = (is_ h r i x).bind fun h' => go d 89 106 ls st h' := go_iast ke_89_105
theorem ke_89_106 : alook 89 106 = some (106, .aload_n 0, 1, (0, 0, 0, 0, 0), ⟨"", "", ""⟩, "") := rfl
theorem ee_89_106 {d : Nat} {h : aH} {l1 l2 l3 l4 l5 : Value} {x : Nat} {st : List Value} : go d 89 106 [.ref x, l1, l2, l3, l4, l5] st h = go d 89 107 [.ref x, l1, l2, l3, l4, l5] (.ref x :: st) h := go_plain (q := (107, [.ref x, l1, l2, l3, l4, l5], (.ref x :: st), h)) ke_89_106 rfl
theorem ee_89_106N {d : Nat} {h : aH} {l1 l2 l3 l4 l5 : Value} {st : List Value} : go d 89 106 [.null, l1, l2, l3, l4, l5] st h = go d 89 107 [.null, l1, l2, l3, l4, l5] (.null :: st) h := go_plain (q := (107, [.null, l1, l2, l3, l4, l5], (.null :: st), h)) ke_89_106 rfl
theorem ke_89_107 : alook 89 107 = some (107, .getfield 26, 3, (6, 8, 8, 2, 0), ⟨"", "", ""⟩, "WordHidesModel") := rfl
theorem ee_89_107 {d : Nat} {ls st : List Value} {h : aH} {r : Nat} : go d 89 107 ls (.ref r :: st) h = (gf h r 6 8 8).bind fun z => go d 89 110 ls (z :: st) h := go_getf ke_89_107
theorem ke_89_110 : alook 89 110 = some (110, .iload 5, 2, (0, 0, 0, 0, 0), ⟨"", "", ""⟩, "") := rfl
theorem ee_89_110 {d : Nat} {h : aH} {l0 l1 l2 l3 l4 : Value} {x : Int32} {st : List Value} : go d 89 110 [l0, l1, l2, l3, l4, .int x] st h = go d 89 112 [l0, l1, l2, l3, l4, .int x] (.int x :: st) h := go_plain (q := (112, [l0, l1, l2, l3, l4, .int x], (.int x :: st), h)) ke_89_110 rfl
theorem ke_89_112 : alook 89 112 = some (112, .dup2, 1, (0, 0, 0, 0, 0), ⟨"", "", ""⟩, "") := rfl
theorem ee_89_112 {d : Nat} {h : aH} {ls st : List Value} {x : Int32} {y : Nat} : go d 89 112 ls (.int x :: .ref y :: st) h = go d 89 113 ls (.int x :: .ref y :: .int x :: .ref y :: st) h := go_plain (q := (113, ls, (.int x :: .ref y :: .int x :: .ref y :: st), h)) ke_89_112 rfl
theorem ke_89_113 : alook 89 113 = some (113, .iaload, 1, (0, 0, 0, 0, 0), ⟨"", "", ""⟩, "") := rfl
theorem ee_89_113 {d : Nat} {ls st : List Value} {h : aH} {r : Nat} {i : Int32} : go d 89 113 ls (.int i :: .ref r :: st) h = (ia h r i).bind fun z => go d 89 114 ls (.int z :: st) h := go_iald ke_89_113
theorem ke_89_114 : alook 89 114 = some (114, .iconst 1, 1, (0, 0, 0, 0, 0), ⟨"", "", ""⟩, "") := rfl
theorem ee_89_114 {d : Nat} {h : aH} {ls st : List Value} : go d 89 114 ls st h = go d 89 115 ls (.int 1 :: st) h := go_plain (q := (115, ls, (.int 1 :: st), h)) ke_89_114 rfl
theorem ke_89_115 : alook 89 115 = some (115, .iadd, 1, (0, 0, 0, 0, 0), ⟨"", "", ""⟩, "") := rfl
theorem ee_89_115 {d : Nat} {h : aH} {ls st : List Value} {x y : Int32} : go d 89 115 ls (.int y :: .int x :: st) h = go d 89 116 ls (.int (x + y) :: st) h := go_plain (q := (116, ls, (.int (x + y) :: st), h)) ke_89_115 rfl
theorem ke_89_116 : alook 89 116 = some (116, .iastore, 1, (0, 0, 0, 0, 0), ⟨"", "", ""⟩, "") := rfl
theorem ee_89_116 {d : Nat} {ls st : List Value} {h : aH} {r : Nat} {i x : Int32} : go d 89 116 ls (.int x :: .int i :: .ref r :: st) h = (is_ h r i x).bind fun h' => go d 89 117 ls st h' := go_iast ke_89_116
theorem ke_89_117 : alook 89 117 = some (117, .iinc 4 1, 3, (0, 0, 0, 0, 0), ⟨"", "", ""⟩, "") := rfl
theorem ee_89_117 {d : Nat} {h : aH} {l0 l1 l2 l3 l5 : Value} {x : Int32} {st : List Value} : go d 89 117 [l0, l1, l2, l3, .int x, l5] st h = go d 89 120 [l0, l1, l2, l3, .int (x + 1), l5] st h := go_plain (q := (120, [l0, l1, l2, l3, .int (x + 1), l5], st, h)) ke_89_117 rfl
theorem ke_89_120 : alook 89 120 = some (120, .goto (-94), 3, (26, 0, 0, 0, 0), ⟨"", "", ""⟩, "") := rfl
theorem ee_89_120 {d : Nat} {h : aH} {ls st : List Value} : go d 89 120 ls st h = go d 89 26 ls st h := go_plain (q := (26, ls, st, h)) ke_89_120 rfl
theorem ke_89_123 : alook 89 123 = some (123, .iload_n 3, 1, (0, 0, 0, 0, 0), ⟨"", "", ""⟩, "") := rfl
theorem ee_89_123 {d : Nat} {h : aH} {l0 l1 l2 l4 l5 : Value} {x : Int32} {st : List Value} : go d 89 123 [l0, l1, l2, .int x, l4, l5] st h = go d 89 124 [l0, l1, l2, .int x, l4, l5] (.int x :: st) h := go_plain (q := (124, [l0, l1, l2, .int x, l4, l5], (.int x :: st), h)) ke_89_123 rfl
theorem ke_89_124 : alook 89 124 = some (124, .ireturn, 1, (1, 0, 0, 0, 0), ⟨"", "", ""⟩, "") := rfl
theorem ee_89_124 {d : Nat} {ls : List Value} {h : aH} : go d 89 124 ls [.int 0] h = some (some (.int 0), h) := go_zret0 ke_89_124
theorem ee_89_124T {d : Nat} {ls : List Value} {h : aH} : go d 89 124 ls [.int 1] h = some (some (.int 1), h) := go_zret1 ke_89_124
theorem ke_90_0 : alook 90 0 = some (0, .iload_n 1, 1, (0, 0, 0, 0, 0), ⟨"", "", ""⟩, "") := rfl
theorem ee_90_0 {d : Nat} {h : aH} {l0 : Value} {x : Int32} {st : List Value} : go d 90 0 [l0, .int x] st h = go d 90 1 [l0, .int x] (.int x :: st) h := go_plain (q := (1, [l0, .int x], (.int x :: st), h)) ke_90_0 rfl
theorem ke_90_1 : alook 90 1 = some (1, .aload_n 0, 1, (0, 0, 0, 0, 0), ⟨"", "", ""⟩, "") := rfl
theorem ee_90_1 {d : Nat} {h : aH} {l1 : Value} {x : Nat} {st : List Value} : go d 90 1 [.ref x, l1] st h = go d 90 2 [.ref x, l1] (.ref x :: st) h := go_plain (q := (2, [.ref x, l1], (.ref x :: st), h)) ke_90_1 rfl
theorem ee_90_1N {d : Nat} {h : aH} {l1 : Value} {st : List Value} : go d 90 1 [.null, l1] st h = go d 90 2 [.null, l1] (.null :: st) h := go_plain (q := (2, [.null, l1], (.null :: st), h)) ke_90_1 rfl
theorem ke_90_2 : alook 90 2 = some (2, .getfield 7, 3, (0, 8, 8, 2, 0), ⟨"", "", ""⟩, "WordHidesModel") := rfl
theorem ee_90_2 {d : Nat} {ls st : List Value} {h : aH} {r : Nat} : go d 90 2 ls (.ref r :: st) h = (gf h r 0 8 8).bind fun z => go d 90 5 ls (z :: st) h := go_getf ke_90_2
theorem ke_90_5 : alook 90 5 = some (5, .bipush 27, 2, (0, 0, 0, 0, 0), ⟨"", "", ""⟩, "") := rfl
theorem ee_90_5 {d : Nat} {h : aH} {ls st : List Value} : go d 90 5 ls st h = go d 90 7 ls (.int 27 :: st) h := go_plain (q := (7, ls, (.int 27 :: st), h)) ke_90_5 rfl
theorem ke_90_7 : alook 90 7 = some (7, .iaload, 1, (0, 0, 0, 0, 0), ⟨"", "", ""⟩, "") := rfl
theorem ee_90_7 {d : Nat} {ls st : List Value} {h : aH} {r : Nat} {i : Int32} : go d 90 7 ls (.int i :: .ref r :: st) h = (ia h r i).bind fun z => go d 90 8 ls (.int z :: st) h := go_iald ke_90_7
theorem ke_90_8 : alook 90 8 = some (8, .if_icmp .ge 13, 3, (21, 0, 0, 0, 0), ⟨"", "", ""⟩, "") := rfl
theorem ee_90_8 {d : Nat} {ls st : List Value} {h : aH} {x y : Int32} : go d 90 8 ls (.int y :: .int x :: st) h = if y ≤ x then go d 90 21 ls st h else go d 90 11 ls st h := go_ci (go_if2 (tg := 21) (q := 11) (f := fun x y => decide (y ≤ x)) ke_90_8 rfl)
theorem ke_90_11 : alook 90 11 = some (11, .bipush 8, 2, (0, 0, 0, 0, 0), ⟨"", "", ""⟩, "") := rfl
theorem ee_90_11 {d : Nat} {h : aH} {ls st : List Value} : go d 90 11 ls st h = go d 90 13 ls (.int 8 :: st) h := go_plain (q := (13, ls, (.int 8 :: st), h)) ke_90_11 rfl
theorem ke_90_13 : alook 90 13 = some (13, .aload_n 0, 1, (0, 0, 0, 0, 0), ⟨"", "", ""⟩, "") := rfl
theorem ee_90_13 {d : Nat} {h : aH} {l1 : Value} {x : Nat} {st : List Value} : go d 90 13 [.ref x, l1] st h = go d 90 14 [.ref x, l1] (.ref x :: st) h := go_plain (q := (14, [.ref x, l1], (.ref x :: st), h)) ke_90_13 rfl
theorem ee_90_13N {d : Nat} {h : aH} {l1 : Value} {st : List Value} : go d 90 13 [.null, l1] st h = go d 90 14 [.null, l1] (.null :: st) h := go_plain (q := (14, [.null, l1], (.null :: st), h)) ke_90_13 rfl
theorem ke_90_14 : alook 90 14 = some (14, .invokevirtual 32, 3, (0, 8, 66, 8, 66), ⟨"WordHidesModel", "cells", "()I"⟩, "") := rfl
theorem ee_90_14 {d : Nat} {ls : List Value} {h : aH} {r0 : Nat} {i1 : Int32} : go (d + 1) 90 14 ls [.ref r0, .int i1] h = if isC h r0 8 = true then (go d 66 0 [.ref r0] [] h).bind (fun q => go (d + 1) 90 17 ls (q.1.toList ++ [.int i1]) q.2) else none := go_cv1 (as := []) (rest := [.int i1]) (L := [.ref r0]) ke_90_14 rfl rfl rfl
theorem ke_90_17 : alook 90 17 = some (17, .imul, 1, (0, 0, 0, 0, 0), ⟨"", "", ""⟩, "") := rfl
theorem ee_90_17 {d : Nat} {h : aH} {ls st : List Value} {x y : Int32} : go d 90 17 ls (.int y :: .int x :: st) h = go d 90 18 ls (.int (x * y) :: st) h := go_plain (q := (18, ls, (.int (x * y) :: st), h)) ke_90_17 rfl
theorem ke_90_18 : alook 90 18 = some (18, .goto 4, 3, (22, 0, 0, 0, 0), ⟨"", "", ""⟩, "") := rfl
theorem ee_90_18 {d : Nat} {h : aH} {ls st : List Value} : go d 90 18 ls st h = go d 90 22 ls st h := go_plain (q := (22, ls, st, h)) ke_90_18 rfl
theorem ke_90_21 : alook 90 21 = some (21, .iconst 1, 1, (0, 0, 0, 0, 0), ⟨"", "", ""⟩, "") := rfl
theorem ee_90_21 {d : Nat} {h : aH} {ls st : List Value} : go d 90 21 ls st h = go d 90 22 ls (.int 1 :: st) h := go_plain (q := (22, ls, (.int 1 :: st), h)) ke_90_21 rfl
theorem ke_90_22 : alook 90 22 = some (22, .ireturn, 1, (0, 0, 0, 0, 0), ⟨"", "", ""⟩, "") := rfl
theorem ee_90_22 {d : Nat} {ls : List Value} {h : aH} {v : Int32} : go d 90 22 ls [.int v] h = some (some (.int v), h) := go_iret ke_90_22
theorem ke_91_0 : alook 91 0 = some (0, .iload_n 1, 1, (0, 0, 0, 0, 0), ⟨"", "", ""⟩, "") := rfl
theorem ee_91_0 {d : Nat} {h : aH} {l0 l2 : Value} {x : Int32} {st : List Value} : go d 91 0 [l0, .int x, l2] st h = go d 91 1 [l0, .int x, l2] (.int x :: st) h := go_plain (q := (1, [l0, .int x, l2], (.int x :: st), h)) ke_91_0 rfl
theorem ke_91_1 : alook 91 1 = some (1, .aload_n 0, 1, (0, 0, 0, 0, 0), ⟨"", "", ""⟩, "") := rfl
theorem ee_91_1 {d : Nat} {h : aH} {l1 l2 : Value} {x : Nat} {st : List Value} : go d 91 1 [.ref x, l1, l2] st h = go d 91 2 [.ref x, l1, l2] (.ref x :: st) h := go_plain (q := (2, [.ref x, l1, l2], (.ref x :: st), h)) ke_91_1 rfl
theorem ee_91_1N {d : Nat} {h : aH} {l1 l2 : Value} {st : List Value} : go d 91 1 [.null, l1, l2] st h = go d 91 2 [.null, l1, l2] (.null :: st) h := go_plain (q := (2, [.null, l1, l2], (.null :: st), h)) ke_91_1 rfl
theorem ke_91_2 : alook 91 2 = some (2, .getfield 7, 3, (0, 8, 8, 2, 0), ⟨"", "", ""⟩, "WordHidesModel") := rfl
theorem ee_91_2 {d : Nat} {ls st : List Value} {h : aH} {r : Nat} : go d 91 2 ls (.ref r :: st) h = (gf h r 0 8 8).bind fun z => go d 91 5 ls (z :: st) h := go_getf ke_91_2
theorem ke_91_5 : alook 91 5 = some (5, .bipush 27, 2, (0, 0, 0, 0, 0), ⟨"", "", ""⟩, "") := rfl
theorem ee_91_5 {d : Nat} {h : aH} {ls st : List Value} : go d 91 5 ls st h = go d 91 7 ls (.int 27 :: st) h := go_plain (q := (7, ls, (.int 27 :: st), h)) ke_91_5 rfl
theorem ke_91_7 : alook 91 7 = some (7, .iaload, 1, (0, 0, 0, 0, 0), ⟨"", "", ""⟩, "") := rfl
theorem ee_91_7 {d : Nat} {ls st : List Value} {h : aH} {r : Nat} {i : Int32} : go d 91 7 ls (.int i :: .ref r :: st) h = (ia h r i).bind fun z => go d 91 8 ls (.int z :: st) h := go_iald ke_91_7
theorem ke_91_8 : alook 91 8 = some (8, .if_icmp .lt 10, 3, (18, 0, 0, 0, 0), ⟨"", "", ""⟩, "") := rfl
theorem ee_91_8 {d : Nat} {ls st : List Value} {h : aH} {x y : Int32} : go d 91 8 ls (.int y :: .int x :: st) h = if x < y then go d 91 18 ls st h else go d 91 11 ls st h := go_ci (go_if2 (tg := 18) (q := 11) (f := fun x y => decide (x < y)) ke_91_8 rfl)
theorem ke_91_11 : alook 91 11 = some (11, .aload_n 0, 1, (0, 0, 0, 0, 0), ⟨"", "", ""⟩, "") := rfl
theorem ee_91_11 {d : Nat} {h : aH} {l1 l2 : Value} {x : Nat} {st : List Value} : go d 91 11 [.ref x, l1, l2] st h = go d 91 12 [.ref x, l1, l2] (.ref x :: st) h := go_plain (q := (12, [.ref x, l1, l2], (.ref x :: st), h)) ke_91_11 rfl
theorem ee_91_11N {d : Nat} {h : aH} {l1 l2 : Value} {st : List Value} : go d 91 11 [.null, l1, l2] st h = go d 91 12 [.null, l1, l2] (.null :: st) h := go_plain (q := (12, [.null, l1, l2], (.null :: st), h)) ke_91_11 rfl
theorem ke_91_12 : alook 91 12 = some (12, .iload_n 1, 1, (0, 0, 0, 0, 0), ⟨"", "", ""⟩, "") := rfl
theorem ee_91_12 {d : Nat} {h : aH} {l0 l2 : Value} {x : Int32} {st : List Value} : go d 91 12 [l0, .int x, l2] st h = go d 91 13 [l0, .int x, l2] (.int x :: st) h := go_plain (q := (13, [l0, .int x, l2], (.int x :: st), h)) ke_91_12 rfl
theorem ke_91_13 : alook 91 13 = some (13, .invokevirtual 79, 3, (1, 8, 88, 8, 88), ⟨"WordHidesModel", "copyStep", "(I)V"⟩, "") := rfl
theorem ee_91_13 {d : Nat} {ls : List Value} {h : aH} {i0 : Int32} {r1 : Nat} : go (d + 1) 91 13 ls [.int i0, .ref r1] h = if isC h r1 8 = true then (go d 88 0 [.ref r1, .int i0, aU] [] h).bind (fun q => go (d + 1) 91 16 ls (q.1.toList ++ []) q.2) else none := go_cv1 (as := [.int i0]) (rest := []) (L := [.ref r1, .int i0, aU]) ke_91_13 rfl rfl rfl
theorem ke_91_16 : alook 91 16 = some (16, .iconst 1, 1, (0, 0, 0, 0, 0), ⟨"", "", ""⟩, "") := rfl
theorem ee_91_16 {d : Nat} {h : aH} {ls st : List Value} : go d 91 16 ls st h = go d 91 17 ls (.int 1 :: st) h := go_plain (q := (17, ls, (.int 1 :: st), h)) ke_91_16 rfl
theorem ke_91_17 : alook 91 17 = some (17, .ireturn, 1, (1, 0, 0, 0, 0), ⟨"", "", ""⟩, "") := rfl
theorem ee_91_17 {d : Nat} {ls : List Value} {h : aH} : go d 91 17 ls [.int 0] h = some (some (.int 0), h) := go_zret0 ke_91_17
theorem ee_91_17T {d : Nat} {ls : List Value} {h : aH} : go d 91 17 ls [.int 1] h = some (some (.int 1), h) := go_zret1 ke_91_17
theorem ke_91_18 : alook 91 18 = some (18, .aload_n 0, 1, (0, 0, 0, 0, 0), ⟨"", "", ""⟩, "") := rfl
theorem ee_91_18 {d : Nat} {h : aH} {l1 l2 : Value} {x : Nat} {st : List Value} : go d 91 18 [.ref x, l1, l2] st h = go d 91 19 [.ref x, l1, l2] (.ref x :: st) h := go_plain (q := (19, [.ref x, l1, l2], (.ref x :: st), h)) ke_91_18 rfl
theorem ee_91_18N {d : Nat} {h : aH} {l1 l2 : Value} {st : List Value} : go d 91 18 [.null, l1, l2] st h = go d 91 19 [.null, l1, l2] (.null :: st) h := go_plain (q := (19, [.null, l1, l2], (.null :: st), h)) ke_91_18 rfl
theorem ke_91_19 : alook 91 19 = some (19, .iload_n 1, 1, (0, 0, 0, 0, 0), ⟨"", "", ""⟩, "") := rfl
theorem ee_91_19 {d : Nat} {h : aH} {l0 l2 : Value} {x : Int32} {st : List Value} : go d 91 19 [l0, .int x, l2] st h = go d 91 20 [l0, .int x, l2] (.int x :: st) h := go_plain (q := (20, [l0, .int x, l2], (.int x :: st), h)) ke_91_19 rfl
theorem ke_91_20 : alook 91 20 = some (20, .iload_n 2, 1, (0, 0, 0, 0, 0), ⟨"", "", ""⟩, "") := rfl
theorem ee_91_20 {d : Nat} {h : aH} {l0 l1 : Value} {x : Int32} {st : List Value} : go d 91 20 [l0, l1, .int x] st h = go d 91 21 [l0, l1, .int x] (.int x :: st) h := go_plain (q := (21, [l0, l1, .int x], (.int x :: st), h)) ke_91_20 rfl
theorem ke_91_21 : alook 91 21 = some (21, .invokevirtual 83, 3, (2, 8, 89, 8, 89), ⟨"WordHidesModel", "layWord", "(II)Z"⟩, "") := rfl
theorem ee_91_21 {d : Nat} {ls : List Value} {h : aH} {i0 : Int32} {i1 : Int32} {r2 : Nat} : go (d + 1) 91 21 ls [.int i0, .int i1, .ref r2] h = if isC h r2 8 = true then (go d 89 0 [.ref r2, .int i1, .int i0, aU, aU, aU] [] h).bind (fun q => go (d + 1) 91 24 ls (q.1.toList ++ []) q.2) else none := go_cv1 (as := [.int i1, .int i0]) (rest := []) (L := [.ref r2, .int i1, .int i0, aU, aU, aU]) ke_91_21 rfl rfl rfl
theorem ke_91_24 : alook 91 24 = some (24, .ireturn, 1, (1, 0, 0, 0, 0), ⟨"", "", ""⟩, "") := rfl
theorem ee_91_24 {d : Nat} {ls : List Value} {h : aH} : go d 91 24 ls [.int 0] h = some (some (.int 0), h) := go_zret0 ke_91_24
theorem ee_91_24T {d : Nat} {ls : List Value} {h : aH} : go d 91 24 ls [.int 1] h = some (some (.int 1), h) := go_zret1 ke_91_24
theorem ke_92_0 : alook 92 0 = some (0, .aload_n 0, 1, (0, 0, 0, 0, 0), ⟨"", "", ""⟩, "") := rfl
theorem ee_92_0 {d : Nat} {h : aH} {l1 l2 l3 l4 l5 l6 l7 : Value} {x : Nat} {st : List Value} : go d 92 0 [.ref x, l1, l2, l3, l4, l5, l6, l7] st h = go d 92 1 [.ref x, l1, l2, l3, l4, l5, l6, l7] (.ref x :: st) h := go_plain (q := (1, [.ref x, l1, l2, l3, l4, l5, l6, l7], (.ref x :: st), h)) ke_92_0 rfl
theorem ee_92_0N {d : Nat} {h : aH} {l1 l2 l3 l4 l5 l6 l7 : Value} {st : List Value} : go d 92 0 [.null, l1, l2, l3, l4, l5, l6, l7] st h = go d 92 1 [.null, l1, l2, l3, l4, l5, l6, l7] (.null :: st) h := go_plain (q := (1, [.null, l1, l2, l3, l4, l5, l6, l7], (.null :: st), h)) ke_92_0 rfl
theorem ke_92_1 : alook 92 1 = some (1, .iload_n 2, 1, (0, 0, 0, 0, 0), ⟨"", "", ""⟩, "") := rfl
theorem ee_92_1 {d : Nat} {h : aH} {l0 l1 l3 l4 l5 l6 l7 : Value} {x : Int32} {st : List Value} : go d 92 1 [l0, l1, .int x, l3, l4, l5, l6, l7] st h = go d 92 2 [l0, l1, .int x, l3, l4, l5, l6, l7] (.int x :: st) h := go_plain (q := (2, [l0, l1, .int x, l3, l4, l5, l6, l7], (.int x :: st), h)) ke_92_1 rfl
theorem ke_92_2 : alook 92 2 = some (2, .iload_n 3, 1, (0, 0, 0, 0, 0), ⟨"", "", ""⟩, "") := rfl
theorem ee_92_2 {d : Nat} {h : aH} {l0 l1 l2 l4 l5 l6 l7 : Value} {x : Int32} {st : List Value} : go d 92 2 [l0, l1, l2, .int x, l4, l5, l6, l7] st h = go d 92 3 [l0, l1, l2, .int x, l4, l5, l6, l7] (.int x :: st) h := go_plain (q := (3, [l0, l1, l2, .int x, l4, l5, l6, l7], (.int x :: st), h)) ke_92_2 rfl
theorem ke_92_3 : alook 92 3 = some (3, .invokevirtual 58, 3, (2, 8, 71, 8, 71), ⟨"WordHidesModel", "longOf", "(II)I"⟩, "") := rfl
theorem ee_92_3 {d : Nat} {ls : List Value} {h : aH} {i0 : Int32} {i1 : Int32} {r2 : Nat} : go (d + 1) 92 3 ls [.int i0, .int i1, .ref r2] h = if isC h r2 8 = true then (go d 71 0 [.ref r2, .int i1, .int i0] [] h).bind (fun q => go (d + 1) 92 6 ls (q.1.toList ++ []) q.2) else none := go_cv1 (as := [.int i1, .int i0]) (rest := []) (L := [.ref r2, .int i1, .int i0]) ke_92_3 rfl rfl rfl
theorem ke_92_6 : alook 92 6 = some (6, .istore 5, 2, (0, 0, 0, 0, 0), ⟨"", "", ""⟩, "") := rfl
theorem ee_92_6 {d : Nat} {h : aH} {l0 l1 l2 l3 l4 l5 l6 l7 : Value} {x : Int32} {st : List Value} : go d 92 6 [l0, l1, l2, l3, l4, l5, l6, l7] (.int x :: st) h = go d 92 8 [l0, l1, l2, l3, l4, .int x, l6, l7] st h := go_plain (q := (8, [l0, l1, l2, l3, l4, .int x, l6, l7], st, h)) ke_92_6 rfl
theorem ke_92_8 : alook 92 8 = some (8, .aload_n 0, 1, (0, 0, 0, 0, 0), ⟨"", "", ""⟩, "") := rfl
theorem ee_92_8 {d : Nat} {h : aH} {l1 l2 l3 l4 l5 l6 l7 : Value} {x : Nat} {st : List Value} : go d 92 8 [.ref x, l1, l2, l3, l4, l5, l6, l7] st h = go d 92 9 [.ref x, l1, l2, l3, l4, l5, l6, l7] (.ref x :: st) h := go_plain (q := (9, [.ref x, l1, l2, l3, l4, l5, l6, l7], (.ref x :: st), h)) ke_92_8 rfl
theorem ee_92_8N {d : Nat} {h : aH} {l1 l2 l3 l4 l5 l6 l7 : Value} {st : List Value} : go d 92 8 [.null, l1, l2, l3, l4, l5, l6, l7] st h = go d 92 9 [.null, l1, l2, l3, l4, l5, l6, l7] (.null :: st) h := go_plain (q := (9, [.null, l1, l2, l3, l4, l5, l6, l7], (.null :: st), h)) ke_92_8 rfl
theorem ke_92_9 : alook 92 9 = some (9, .getfield 23, 3, (5, 8, 8, 2, 0), ⟨"", "", ""⟩, "WordHidesModel") := rfl
theorem ee_92_9 {d : Nat} {ls st : List Value} {h : aH} {r : Nat} : go d 92 9 ls (.ref r :: st) h = (gf h r 5 8 8).bind fun z => go d 92 12 ls (z :: st) h := go_getf ke_92_9
theorem ke_92_12 : alook 92 12 = some (12, .iload_n 1, 1, (0, 0, 0, 0, 0), ⟨"", "", ""⟩, "") := rfl
theorem ee_92_12 {d : Nat} {h : aH} {l0 l2 l3 l4 l5 l6 l7 : Value} {x : Int32} {st : List Value} : go d 92 12 [l0, .int x, l2, l3, l4, l5, l6, l7] st h = go d 92 13 [l0, .int x, l2, l3, l4, l5, l6, l7] (.int x :: st) h := go_plain (q := (13, [l0, .int x, l2, l3, l4, l5, l6, l7], (.int x :: st), h)) ke_92_12 rfl
theorem ke_92_13 : alook 92 13 = some (13, .iload 4, 2, (0, 0, 0, 0, 0), ⟨"", "", ""⟩, "") := rfl
theorem ee_92_13 {d : Nat} {h : aH} {l0 l1 l2 l3 l5 l6 l7 : Value} {x : Int32} {st : List Value} : go d 92 13 [l0, l1, l2, l3, .int x, l5, l6, l7] st h = go d 92 15 [l0, l1, l2, l3, .int x, l5, l6, l7] (.int x :: st) h := go_plain (q := (15, [l0, l1, l2, l3, .int x, l5, l6, l7], (.int x :: st), h)) ke_92_13 rfl
theorem ke_92_15 : alook 92 15 = some (15, .bipush 8, 2, (0, 0, 0, 0, 0), ⟨"", "", ""⟩, "") := rfl
theorem ee_92_15 {d : Nat} {h : aH} {ls st : List Value} : go d 92 15 ls st h = go d 92 17 ls (.int 8 :: st) h := go_plain (q := (17, ls, (.int 8 :: st), h)) ke_92_15 rfl
theorem ke_92_17 : alook 92 17 = some (17, .idiv, 1, (0, 0, 0, 0, 0), ⟨"", "", ""⟩, "") := rfl
theorem ee_92_17 {d : Nat} {ls st : List Value} {h : aH} {x y : Int32} : go d 92 17 ls (.int y :: .int x :: st) h = if y = 0 then none else go d 92 18 ls (.int (x / y) :: st) h := go_div (f := fun x y => x / y) (q := 18) ke_92_17 rfl rfl rfl
theorem ke_92_18 : alook 92 18 = some (18, .iadd, 1, (0, 0, 0, 0, 0), ⟨"", "", ""⟩, "") := rfl
theorem ee_92_18 {d : Nat} {h : aH} {ls st : List Value} {x y : Int32} : go d 92 18 ls (.int y :: .int x :: st) h = go d 92 19 ls (.int (x + y) :: st) h := go_plain (q := (19, ls, (.int (x + y) :: st), h)) ke_92_18 rfl
theorem ke_92_19 : alook 92 19 = some (19, .iaload, 1, (0, 0, 0, 0, 0), ⟨"", "", ""⟩, "") := rfl
theorem ee_92_19 {d : Nat} {ls st : List Value} {h : aH} {r : Nat} {i : Int32} : go d 92 19 ls (.int i :: .ref r :: st) h = (ia h r i).bind fun z => go d 92 20 ls (.int z :: st) h := go_iald ke_92_19
theorem ke_92_20 : alook 92 20 = some (20, .aload_n 0, 1, (0, 0, 0, 0, 0), ⟨"", "", ""⟩, "") := rfl
theorem ee_92_20 {d : Nat} {h : aH} {l1 l2 l3 l4 l5 l6 l7 : Value} {x : Nat} {st : List Value} : go d 92 20 [.ref x, l1, l2, l3, l4, l5, l6, l7] st h = go d 92 21 [.ref x, l1, l2, l3, l4, l5, l6, l7] (.ref x :: st) h := go_plain (q := (21, [.ref x, l1, l2, l3, l4, l5, l6, l7], (.ref x :: st), h)) ke_92_20 rfl
theorem ee_92_20N {d : Nat} {h : aH} {l1 l2 l3 l4 l5 l6 l7 : Value} {st : List Value} : go d 92 20 [.null, l1, l2, l3, l4, l5, l6, l7] st h = go d 92 21 [.null, l1, l2, l3, l4, l5, l6, l7] (.null :: st) h := go_plain (q := (21, [.null, l1, l2, l3, l4, l5, l6, l7], (.null :: st), h)) ke_92_20 rfl
theorem ke_92_21 : alook 92 21 = some (21, .iload_n 2, 1, (0, 0, 0, 0, 0), ⟨"", "", ""⟩, "") := rfl
theorem ee_92_21 {d : Nat} {h : aH} {l0 l1 l3 l4 l5 l6 l7 : Value} {x : Int32} {st : List Value} : go d 92 21 [l0, l1, .int x, l3, l4, l5, l6, l7] st h = go d 92 22 [l0, l1, .int x, l3, l4, l5, l6, l7] (.int x :: st) h := go_plain (q := (22, [l0, l1, .int x, l3, l4, l5, l6, l7], (.int x :: st), h)) ke_92_21 rfl
theorem ke_92_22 : alook 92 22 = some (22, .iload_n 3, 1, (0, 0, 0, 0, 0), ⟨"", "", ""⟩, "") := rfl
theorem ee_92_22 {d : Nat} {h : aH} {l0 l1 l2 l4 l5 l6 l7 : Value} {x : Int32} {st : List Value} : go d 92 22 [l0, l1, l2, .int x, l4, l5, l6, l7] st h = go d 92 23 [l0, l1, l2, .int x, l4, l5, l6, l7] (.int x :: st) h := go_plain (q := (23, [l0, l1, l2, .int x, l4, l5, l6, l7], (.int x :: st), h)) ke_92_22 rfl
theorem ke_92_23 : alook 92 23 = some (23, .iconst 0, 1, (0, 0, 0, 0, 0), ⟨"", "", ""⟩, "") := rfl
theorem ee_92_23 {d : Nat} {h : aH} {ls st : List Value} : go d 92 23 ls st h = go d 92 24 ls (.int 0 :: st) h := go_plain (q := (24, ls, (.int 0 :: st), h)) ke_92_23 rfl
theorem ke_92_24 : alook 92 24 = some (24, .invokevirtual 62, 3, (3, 8, 72, 8, 72), ⟨"WordHidesModel", "letterOf", "(III)I"⟩, "") := rfl
theorem ee_92_24 {d : Nat} {ls : List Value} {h : aH} {i0 : Int32} {i1 : Int32} {i2 : Int32} {r3 : Nat} {i4 : Int32} : go (d + 1) 92 24 ls [.int i0, .int i1, .int i2, .ref r3, .int i4] h = if isC h r3 8 = true then (go d 72 0 [.ref r3, .int i2, .int i1, .int i0] [] h).bind (fun q => go (d + 1) 92 27 ls (q.1.toList ++ [.int i4]) q.2) else none := go_cv1 (as := [.int i2, .int i1, .int i0]) (rest := [.int i4]) (L := [.ref r3, .int i2, .int i1, .int i0]) ke_92_24 rfl rfl rfl
theorem ke_92_27 : alook 92 27 = some (27, .if_icmp .ne 14, 3, (41, 0, 0, 0, 0), ⟨"", "", ""⟩, "") := rfl
theorem ee_92_27 {d : Nat} {ls st : List Value} {h : aH} {x y : Int32} : go d 92 27 ls (.int y :: .int x :: st) h = if ¬ x = y then go d 92 41 ls st h else go d 92 30 ls st h := go_ci (go_if2 (tg := 41) (q := 30) (f := fun x y => decide (¬ x = y)) ke_92_27 rfl)
theorem ke_92_30 : alook 92 30 = some (30, .aload_n 0, 1, (0, 0, 0, 0, 0), ⟨"", "", ""⟩, "") := rfl
theorem ee_92_30 {d : Nat} {h : aH} {l1 l2 l3 l4 l5 l6 l7 : Value} {x : Nat} {st : List Value} : go d 92 30 [.ref x, l1, l2, l3, l4, l5, l6, l7] st h = go d 92 31 [.ref x, l1, l2, l3, l4, l5, l6, l7] (.ref x :: st) h := go_plain (q := (31, [.ref x, l1, l2, l3, l4, l5, l6, l7], (.ref x :: st), h)) ke_92_30 rfl
theorem ee_92_30N {d : Nat} {h : aH} {l1 l2 l3 l4 l5 l6 l7 : Value} {st : List Value} : go d 92 30 [.null, l1, l2, l3, l4, l5, l6, l7] st h = go d 92 31 [.null, l1, l2, l3, l4, l5, l6, l7] (.null :: st) h := go_plain (q := (31, [.null, l1, l2, l3, l4, l5, l6, l7], (.null :: st), h)) ke_92_30 rfl
theorem ke_92_31 : alook 92 31 = some (31, .iload 4, 2, (0, 0, 0, 0, 0), ⟨"", "", ""⟩, "") := rfl
theorem ee_92_31 {d : Nat} {h : aH} {l0 l1 l2 l3 l5 l6 l7 : Value} {x : Int32} {st : List Value} : go d 92 31 [l0, l1, l2, l3, .int x, l5, l6, l7] st h = go d 92 33 [l0, l1, l2, l3, .int x, l5, l6, l7] (.int x :: st) h := go_plain (q := (33, [l0, l1, l2, l3, .int x, l5, l6, l7], (.int x :: st), h)) ke_92_31 rfl
theorem ke_92_33 : alook 92 33 = some (33, .iload 5, 2, (0, 0, 0, 0, 0), ⟨"", "", ""⟩, "") := rfl
theorem ee_92_33 {d : Nat} {h : aH} {l0 l1 l2 l3 l4 l6 l7 : Value} {x : Int32} {st : List Value} : go d 92 33 [l0, l1, l2, l3, l4, .int x, l6, l7] st h = go d 92 35 [l0, l1, l2, l3, l4, .int x, l6, l7] (.int x :: st) h := go_plain (q := (35, [l0, l1, l2, l3, l4, .int x, l6, l7], (.int x :: st), h)) ke_92_33 rfl
theorem ke_92_35 : alook 92 35 = some (35, .invokevirtual 76, 3, (2, 8, 86, 8, 86), ⟨"WordHidesModel", "canLie", "(II)Z"⟩, "") := rfl
theorem ee_92_35 {d : Nat} {ls : List Value} {h : aH} {i0 : Int32} {i1 : Int32} {r2 : Nat} : go (d + 1) 92 35 ls [.int i0, .int i1, .ref r2] h = if isC h r2 8 = true then (go d 86 0 [.ref r2, .int i1, .int i0] [] h).bind (fun q => go (d + 1) 92 38 ls (q.1.toList ++ []) q.2) else none := go_cv1 (as := [.int i1, .int i0]) (rest := []) (L := [.ref r2, .int i1, .int i0]) ke_92_35 rfl rfl rfl
theorem ke_92_38 : alook 92 38 = some (38, .ifCond .ne 5, 3, (43, 0, 0, 0, 0), ⟨"", "", ""⟩, "") := rfl
theorem ee_92_38 {d : Nat} {ls st : List Value} {h : aH} {x : Int32} : go d 92 38 ls (.int x :: st) h = if ¬ x = 0 then go d 92 43 ls st h else go d 92 41 ls st h := go_c1 (go_if1 (tg := 43) (q := 41) (f := fun x => decide (¬ x = 0)) ke_92_38 rfl)
theorem ke_92_41 : alook 92 41 = some (41, .iconst 0, 1, (0, 0, 0, 0, 0), ⟨"", "", ""⟩, "") := rfl
theorem ee_92_41 {d : Nat} {h : aH} {ls st : List Value} : go d 92 41 ls st h = go d 92 42 ls (.int 0 :: st) h := go_plain (q := (42, ls, (.int 0 :: st), h)) ke_92_41 rfl
theorem ke_92_42 : alook 92 42 = some (42, .ireturn, 1, (1, 0, 0, 0, 0), ⟨"", "", ""⟩, "") := rfl
theorem ee_92_42 {d : Nat} {ls : List Value} {h : aH} : go d 92 42 ls [.int 0] h = some (some (.int 0), h) := go_zret0 ke_92_42
theorem ee_92_42T {d : Nat} {ls : List Value} {h : aH} : go d 92 42 ls [.int 1] h = some (some (.int 1), h) := go_zret1 ke_92_42
theorem ke_92_43 : alook 92 43 = some (43, .iconst 1, 1, (0, 0, 0, 0, 0), ⟨"", "", ""⟩, "") := rfl
theorem ee_92_43 {d : Nat} {h : aH} {ls st : List Value} : go d 92 43 ls st h = go d 92 44 ls (.int 1 :: st) h := go_plain (q := (44, ls, (.int 1 :: st), h)) ke_92_43 rfl
theorem ke_92_44 : alook 92 44 = some (44, .istore 6, 2, (0, 0, 0, 0, 0), ⟨"", "", ""⟩, "") := rfl
theorem ee_92_44 {d : Nat} {h : aH} {l0 l1 l2 l3 l4 l5 l6 l7 : Value} {x : Int32} {st : List Value} : go d 92 44 [l0, l1, l2, l3, l4, l5, l6, l7] (.int x :: st) h = go d 92 46 [l0, l1, l2, l3, l4, l5, .int x, l7] st h := go_plain (q := (46, [l0, l1, l2, l3, l4, l5, .int x, l7], st, h)) ke_92_44 rfl
theorem ke_92_46 : alook 92 46 = some (46, .iconst 1, 1, (0, 0, 0, 0, 0), ⟨"", "", ""⟩, "") := rfl
theorem ee_92_46 {d : Nat} {h : aH} {ls st : List Value} : go d 92 46 ls st h = go d 92 47 ls (.int 1 :: st) h := go_plain (q := (47, ls, (.int 1 :: st), h)) ke_92_46 rfl
theorem ke_92_47 : alook 92 47 = some (47, .istore 7, 2, (0, 0, 0, 0, 0), ⟨"", "", ""⟩, "") := rfl
theorem ee_92_47 {d : Nat} {h : aH} {l0 l1 l2 l3 l4 l5 l6 l7 : Value} {x : Int32} {st : List Value} : go d 92 47 [l0, l1, l2, l3, l4, l5, l6, l7] (.int x :: st) h = go d 92 49 [l0, l1, l2, l3, l4, l5, l6, .int x] st h := go_plain (q := (49, [l0, l1, l2, l3, l4, l5, l6, .int x], st, h)) ke_92_47 rfl
theorem ke_92_49 : alook 92 49 = some (49, .iload 7, 2, (0, 0, 0, 0, 0), ⟨"", "", ""⟩, "") := rfl
theorem ee_92_49 {d : Nat} {h : aH} {l0 l1 l2 l3 l4 l5 l6 : Value} {x : Int32} {st : List Value} : go d 92 49 [l0, l1, l2, l3, l4, l5, l6, .int x] st h = go d 92 51 [l0, l1, l2, l3, l4, l5, l6, .int x] (.int x :: st) h := go_plain (q := (51, [l0, l1, l2, l3, l4, l5, l6, .int x], (.int x :: st), h)) ke_92_49 rfl
theorem ke_92_51 : alook 92 51 = some (51, .iload 5, 2, (0, 0, 0, 0, 0), ⟨"", "", ""⟩, "") := rfl
theorem ee_92_51 {d : Nat} {h : aH} {l0 l1 l2 l3 l4 l6 l7 : Value} {x : Int32} {st : List Value} : go d 92 51 [l0, l1, l2, l3, l4, .int x, l6, l7] st h = go d 92 53 [l0, l1, l2, l3, l4, .int x, l6, l7] (.int x :: st) h := go_plain (q := (53, [l0, l1, l2, l3, l4, .int x, l6, l7], (.int x :: st), h)) ke_92_51 rfl
theorem ke_92_53 : alook 92 53 = some (53, .if_icmp .ge 47, 3, (100, 0, 0, 0, 0), ⟨"", "", ""⟩, "") := rfl
theorem ee_92_53 {d : Nat} {ls st : List Value} {h : aH} {x y : Int32} : go d 92 53 ls (.int y :: .int x :: st) h = if y ≤ x then go d 92 100 ls st h else go d 92 56 ls st h := go_ci (go_if2 (tg := 100) (q := 56) (f := fun x y => decide (y ≤ x)) ke_92_53 rfl)
theorem ke_92_56 : alook 92 56 = some (56, .iload 6, 2, (0, 0, 0, 0, 0), ⟨"", "", ""⟩, "") := rfl
theorem ee_92_56 {d : Nat} {h : aH} {l0 l1 l2 l3 l4 l5 l7 : Value} {x : Int32} {st : List Value} : go d 92 56 [l0, l1, l2, l3, l4, l5, .int x, l7] st h = go d 92 58 [l0, l1, l2, l3, l4, l5, .int x, l7] (.int x :: st) h := go_plain (q := (58, [l0, l1, l2, l3, l4, l5, .int x, l7], (.int x :: st), h)) ke_92_56 rfl
theorem ke_92_58 : alook 92 58 = some (58, .ifCond .eq 33, 3, (91, 0, 0, 0, 0), ⟨"", "", ""⟩, "") := rfl
theorem ee_92_58 {d : Nat} {ls st : List Value} {h : aH} {x : Int32} : go d 92 58 ls (.int x :: st) h = if x = 0 then go d 92 91 ls st h else go d 92 61 ls st h := go_c1 (go_if1 (tg := 91) (q := 61) (f := fun x => decide (x = 0)) ke_92_58 rfl)
theorem ke_92_61 : alook 92 61 = some (61, .aload_n 0, 1, (0, 0, 0, 0, 0), ⟨"", "", ""⟩, "") := rfl
theorem ee_92_61 {d : Nat} {h : aH} {l1 l2 l3 l4 l5 l6 l7 : Value} {x : Nat} {st : List Value} : go d 92 61 [.ref x, l1, l2, l3, l4, l5, l6, l7] st h = go d 92 62 [.ref x, l1, l2, l3, l4, l5, l6, l7] (.ref x :: st) h := go_plain (q := (62, [.ref x, l1, l2, l3, l4, l5, l6, l7], (.ref x :: st), h)) ke_92_61 rfl
theorem ee_92_61N {d : Nat} {h : aH} {l1 l2 l3 l4 l5 l6 l7 : Value} {st : List Value} : go d 92 61 [.null, l1, l2, l3, l4, l5, l6, l7] st h = go d 92 62 [.null, l1, l2, l3, l4, l5, l6, l7] (.null :: st) h := go_plain (q := (62, [.null, l1, l2, l3, l4, l5, l6, l7], (.null :: st), h)) ke_92_61 rfl
theorem ke_92_62 : alook 92 62 = some (62, .getfield 23, 3, (5, 8, 8, 2, 0), ⟨"", "", ""⟩, "WordHidesModel") := rfl
theorem ee_92_62 {d : Nat} {ls st : List Value} {h : aH} {r : Nat} : go d 92 62 ls (.ref r :: st) h = (gf h r 5 8 8).bind fun z => go d 92 65 ls (z :: st) h := go_getf ke_92_62
theorem ke_92_65 : alook 92 65 = some (65, .iload_n 1, 1, (0, 0, 0, 0, 0), ⟨"", "", ""⟩, "") := rfl
theorem ee_92_65 {d : Nat} {h : aH} {l0 l2 l3 l4 l5 l6 l7 : Value} {x : Int32} {st : List Value} : go d 92 65 [l0, .int x, l2, l3, l4, l5, l6, l7] st h = go d 92 66 [l0, .int x, l2, l3, l4, l5, l6, l7] (.int x :: st) h := go_plain (q := (66, [l0, .int x, l2, l3, l4, l5, l6, l7], (.int x :: st), h)) ke_92_65 rfl
theorem ke_92_66 : alook 92 66 = some (66, .aload_n 0, 1, (0, 0, 0, 0, 0), ⟨"", "", ""⟩, "") := rfl
theorem ee_92_66 {d : Nat} {h : aH} {l1 l2 l3 l4 l5 l6 l7 : Value} {x : Nat} {st : List Value} : go d 92 66 [.ref x, l1, l2, l3, l4, l5, l6, l7] st h = go d 92 67 [.ref x, l1, l2, l3, l4, l5, l6, l7] (.ref x :: st) h := go_plain (q := (67, [.ref x, l1, l2, l3, l4, l5, l6, l7], (.ref x :: st), h)) ke_92_66 rfl
theorem ee_92_66N {d : Nat} {h : aH} {l1 l2 l3 l4 l5 l6 l7 : Value} {st : List Value} : go d 92 66 [.null, l1, l2, l3, l4, l5, l6, l7] st h = go d 92 67 [.null, l1, l2, l3, l4, l5, l6, l7] (.null :: st) h := go_plain (q := (67, [.null, l1, l2, l3, l4, l5, l6, l7], (.null :: st), h)) ke_92_66 rfl
theorem ke_92_67 : alook 92 67 = some (67, .iload 4, 2, (0, 0, 0, 0, 0), ⟨"", "", ""⟩, "") := rfl
theorem ee_92_67 {d : Nat} {h : aH} {l0 l1 l2 l3 l5 l6 l7 : Value} {x : Int32} {st : List Value} : go d 92 67 [l0, l1, l2, l3, .int x, l5, l6, l7] st h = go d 92 69 [l0, l1, l2, l3, .int x, l5, l6, l7] (.int x :: st) h := go_plain (q := (69, [l0, l1, l2, l3, .int x, l5, l6, l7], (.int x :: st), h)) ke_92_67 rfl
theorem ke_92_69 : alook 92 69 = some (69, .iload 7, 2, (0, 0, 0, 0, 0), ⟨"", "", ""⟩, "") := rfl
theorem ee_92_69 {d : Nat} {h : aH} {l0 l1 l2 l3 l4 l5 l6 : Value} {x : Int32} {st : List Value} : go d 92 69 [l0, l1, l2, l3, l4, l5, l6, .int x] st h = go d 92 71 [l0, l1, l2, l3, l4, l5, l6, .int x] (.int x :: st) h := go_plain (q := (71, [l0, l1, l2, l3, l4, l5, l6, .int x], (.int x :: st), h)) ke_92_69 rfl
theorem ke_92_71 : alook 92 71 = some (71, .invokevirtual 73, 3, (2, 8, 85, 8, 85), ⟨"WordHidesModel", "cellAt", "(II)I"⟩, "") := rfl
theorem ee_92_71 {d : Nat} {ls : List Value} {h : aH} {i0 : Int32} {i1 : Int32} {r2 : Nat} {i3 : Int32} {r4 : Nat} : go (d + 1) 92 71 ls [.int i0, .int i1, .ref r2, .int i3, .ref r4] h = if isC h r2 8 = true then (go d 85 0 [.ref r2, .int i1, .int i0, aU, aU, aU] [] h).bind (fun q => go (d + 1) 92 74 ls (q.1.toList ++ [.int i3, .ref r4]) q.2) else none := go_cv1 (as := [.int i1, .int i0]) (rest := [.int i3, .ref r4]) (L := [.ref r2, .int i1, .int i0, aU, aU, aU]) ke_92_71 rfl rfl rfl
theorem ke_92_74 : alook 92 74 = some (74, .iadd, 1, (0, 0, 0, 0, 0), ⟨"", "", ""⟩, "") := rfl
theorem ee_92_74 {d : Nat} {h : aH} {ls st : List Value} {x y : Int32} : go d 92 74 ls (.int y :: .int x :: st) h = go d 92 75 ls (.int (x + y) :: st) h := go_plain (q := (75, ls, (.int (x + y) :: st), h)) ke_92_74 rfl
theorem ke_92_75 : alook 92 75 = some (75, .iaload, 1, (0, 0, 0, 0, 0), ⟨"", "", ""⟩, "") := rfl
theorem ee_92_75 {d : Nat} {ls st : List Value} {h : aH} {r : Nat} {i : Int32} : go d 92 75 ls (.int i :: .ref r :: st) h = (ia h r i).bind fun z => go d 92 76 ls (.int z :: st) h := go_iald ke_92_75
theorem ke_92_76 : alook 92 76 = some (76, .aload_n 0, 1, (0, 0, 0, 0, 0), ⟨"", "", ""⟩, "") := rfl
theorem ee_92_76 {d : Nat} {h : aH} {l1 l2 l3 l4 l5 l6 l7 : Value} {x : Nat} {st : List Value} : go d 92 76 [.ref x, l1, l2, l3, l4, l5, l6, l7] st h = go d 92 77 [.ref x, l1, l2, l3, l4, l5, l6, l7] (.ref x :: st) h := go_plain (q := (77, [.ref x, l1, l2, l3, l4, l5, l6, l7], (.ref x :: st), h)) ke_92_76 rfl
theorem ee_92_76N {d : Nat} {h : aH} {l1 l2 l3 l4 l5 l6 l7 : Value} {st : List Value} : go d 92 76 [.null, l1, l2, l3, l4, l5, l6, l7] st h = go d 92 77 [.null, l1, l2, l3, l4, l5, l6, l7] (.null :: st) h := go_plain (q := (77, [.null, l1, l2, l3, l4, l5, l6, l7], (.null :: st), h)) ke_92_76 rfl
theorem ke_92_77 : alook 92 77 = some (77, .iload_n 2, 1, (0, 0, 0, 0, 0), ⟨"", "", ""⟩, "") := rfl
theorem ee_92_77 {d : Nat} {h : aH} {l0 l1 l3 l4 l5 l6 l7 : Value} {x : Int32} {st : List Value} : go d 92 77 [l0, l1, .int x, l3, l4, l5, l6, l7] st h = go d 92 78 [l0, l1, .int x, l3, l4, l5, l6, l7] (.int x :: st) h := go_plain (q := (78, [l0, l1, .int x, l3, l4, l5, l6, l7], (.int x :: st), h)) ke_92_77 rfl
theorem ke_92_78 : alook 92 78 = some (78, .iload_n 3, 1, (0, 0, 0, 0, 0), ⟨"", "", ""⟩, "") := rfl
theorem ee_92_78 {d : Nat} {h : aH} {l0 l1 l2 l4 l5 l6 l7 : Value} {x : Int32} {st : List Value} : go d 92 78 [l0, l1, l2, .int x, l4, l5, l6, l7] st h = go d 92 79 [l0, l1, l2, .int x, l4, l5, l6, l7] (.int x :: st) h := go_plain (q := (79, [l0, l1, l2, .int x, l4, l5, l6, l7], (.int x :: st), h)) ke_92_78 rfl
theorem ke_92_79 : alook 92 79 = some (79, .iload 7, 2, (0, 0, 0, 0, 0), ⟨"", "", ""⟩, "") := rfl
theorem ee_92_79 {d : Nat} {h : aH} {l0 l1 l2 l3 l4 l5 l6 : Value} {x : Int32} {st : List Value} : go d 92 79 [l0, l1, l2, l3, l4, l5, l6, .int x] st h = go d 92 81 [l0, l1, l2, l3, l4, l5, l6, .int x] (.int x :: st) h := go_plain (q := (81, [l0, l1, l2, l3, l4, l5, l6, .int x], (.int x :: st), h)) ke_92_79 rfl
theorem ke_92_81 : alook 92 81 = some (81, .invokevirtual 62, 3, (3, 8, 72, 8, 72), ⟨"WordHidesModel", "letterOf", "(III)I"⟩, "") := rfl
theorem ee_92_81 {d : Nat} {ls : List Value} {h : aH} {i0 : Int32} {i1 : Int32} {i2 : Int32} {r3 : Nat} {i4 : Int32} : go (d + 1) 92 81 ls [.int i0, .int i1, .int i2, .ref r3, .int i4] h = if isC h r3 8 = true then (go d 72 0 [.ref r3, .int i2, .int i1, .int i0] [] h).bind (fun q => go (d + 1) 92 84 ls (q.1.toList ++ [.int i4]) q.2) else none := go_cv1 (as := [.int i2, .int i1, .int i0]) (rest := [.int i4]) (L := [.ref r3, .int i2, .int i1, .int i0]) ke_92_81 rfl rfl rfl
theorem ke_92_84 : alook 92 84 = some (84, .if_icmp .ne 7, 3, (91, 0, 0, 0, 0), ⟨"", "", ""⟩, "") := rfl
theorem ee_92_84 {d : Nat} {ls st : List Value} {h : aH} {x y : Int32} : go d 92 84 ls (.int y :: .int x :: st) h = if ¬ x = y then go d 92 91 ls st h else go d 92 87 ls st h := go_ci (go_if2 (tg := 91) (q := 87) (f := fun x y => decide (¬ x = y)) ke_92_84 rfl)
theorem ke_92_87 : alook 92 87 = some (87, .iconst 1, 1, (0, 0, 0, 0, 0), ⟨"", "", ""⟩, "") := rfl
theorem ee_92_87 {d : Nat} {h : aH} {ls st : List Value} : go d 92 87 ls st h = go d 92 88 ls (.int 1 :: st) h := go_plain (q := (88, ls, (.int 1 :: st), h)) ke_92_87 rfl
theorem ke_92_88 : alook 92 88 = some (88, .goto 4, 3, (92, 0, 0, 0, 0), ⟨"", "", ""⟩, "") := rfl
theorem ee_92_88 {d : Nat} {h : aH} {ls st : List Value} : go d 92 88 ls st h = go d 92 92 ls st h := go_plain (q := (92, ls, st, h)) ke_92_88 rfl
theorem ke_92_91 : alook 92 91 = some (91, .iconst 0, 1, (0, 0, 0, 0, 0), ⟨"", "", ""⟩, "") := rfl
theorem ee_92_91 {d : Nat} {h : aH} {ls st : List Value} : go d 92 91 ls st h = go d 92 92 ls (.int 0 :: st) h := go_plain (q := (92, ls, (.int 0 :: st), h)) ke_92_91 rfl
theorem ke_92_92 : alook 92 92 = some (92, .istore 6, 2, (0, 0, 0, 0, 0), ⟨"", "", ""⟩, "") := rfl
theorem ee_92_92 {d : Nat} {h : aH} {l0 l1 l2 l3 l4 l5 l6 l7 : Value} {x : Int32} {st : List Value} : go d 92 92 [l0, l1, l2, l3, l4, l5, l6, l7] (.int x :: st) h = go d 92 94 [l0, l1, l2, l3, l4, l5, .int x, l7] st h := go_plain (q := (94, [l0, l1, l2, l3, l4, l5, .int x, l7], st, h)) ke_92_92 rfl
theorem ke_92_94 : alook 92 94 = some (94, .iinc 7 1, 3, (0, 0, 0, 0, 0), ⟨"", "", ""⟩, "") := rfl
theorem ee_92_94 {d : Nat} {h : aH} {l0 l1 l2 l3 l4 l5 l6 : Value} {x : Int32} {st : List Value} : go d 92 94 [l0, l1, l2, l3, l4, l5, l6, .int x] st h = go d 92 97 [l0, l1, l2, l3, l4, l5, l6, .int (x + 1)] st h := go_plain (q := (97, [l0, l1, l2, l3, l4, l5, l6, .int (x + 1)], st, h)) ke_92_94 rfl
theorem ke_92_97 : alook 92 97 = some (97, .goto (-48), 3, (49, 0, 0, 0, 0), ⟨"", "", ""⟩, "") := rfl
theorem ee_92_97 {d : Nat} {h : aH} {ls st : List Value} : go d 92 97 ls st h = go d 92 49 ls st h := go_plain (q := (49, ls, st, h)) ke_92_97 rfl
theorem ke_92_100 : alook 92 100 = some (100, .iload 6, 2, (0, 0, 0, 0, 0), ⟨"", "", ""⟩, "") := rfl
theorem ee_92_100 {d : Nat} {h : aH} {l0 l1 l2 l3 l4 l5 l7 : Value} {x : Int32} {st : List Value} : go d 92 100 [l0, l1, l2, l3, l4, l5, .int x, l7] st h = go d 92 102 [l0, l1, l2, l3, l4, l5, .int x, l7] (.int x :: st) h := go_plain (q := (102, [l0, l1, l2, l3, l4, l5, .int x, l7], (.int x :: st), h)) ke_92_100 rfl
theorem ke_92_102 : alook 92 102 = some (102, .ireturn, 1, (1, 0, 0, 0, 0), ⟨"", "", ""⟩, "") := rfl
theorem ee_92_102 {d : Nat} {ls : List Value} {h : aH} : go d 92 102 ls [.int 0] h = some (some (.int 0), h) := go_zret0 ke_92_102
theorem ee_92_102T {d : Nat} {ls : List Value} {h : aH} : go d 92 102 ls [.int 1] h = some (some (.int 1), h) := go_zret1 ke_92_102
theorem ke_93_0 : alook 93 0 = some (0, .iconst 0, 1, (0, 0, 0, 0, 0), ⟨"", "", ""⟩, "") := rfl
theorem ee_93_0 {d : Nat} {h : aH} {ls st : List Value} : go d 93 0 ls st h = go d 93 1 ls (.int 0 :: st) h := go_plain (q := (1, ls, (.int 0 :: st), h)) ke_93_0 rfl
theorem ke_93_1 : alook 93 1 = some (1, .istore 4, 2, (0, 0, 0, 0, 0), ⟨"", "", ""⟩, "") := rfl
theorem ee_93_1 {d : Nat} {h : aH} {l0 l1 l2 l3 l4 l5 : Value} {x : Int32} {st : List Value} : go d 93 1 [l0, l1, l2, l3, l4, l5] (.int x :: st) h = go d 93 3 [l0, l1, l2, l3, .int x, l5] st h := go_plain (q := (3, [l0, l1, l2, l3, .int x, l5], st, h)) ke_93_1 rfl
theorem ke_93_3 : alook 93 3 = some (3, .iconst 0, 1, (0, 0, 0, 0, 0), ⟨"", "", ""⟩, "") := rfl
theorem ee_93_3 {d : Nat} {h : aH} {ls st : List Value} : go d 93 3 ls st h = go d 93 4 ls (.int 0 :: st) h := go_plain (q := (4, ls, (.int 0 :: st), h)) ke_93_3 rfl
theorem ke_93_4 : alook 93 4 = some (4, .istore 5, 2, (0, 0, 0, 0, 0), ⟨"", "", ""⟩, "") := rfl
theorem ee_93_4 {d : Nat} {h : aH} {l0 l1 l2 l3 l4 l5 : Value} {x : Int32} {st : List Value} : go d 93 4 [l0, l1, l2, l3, l4, l5] (.int x :: st) h = go d 93 6 [l0, l1, l2, l3, l4, .int x] st h := go_plain (q := (6, [l0, l1, l2, l3, l4, .int x], st, h)) ke_93_4 rfl
theorem ke_93_6 : alook 93 6 = some (6, .iload 5, 2, (0, 0, 0, 0, 0), ⟨"", "", ""⟩, "") := rfl
theorem ee_93_6 {d : Nat} {h : aH} {l0 l1 l2 l3 l4 : Value} {x : Int32} {st : List Value} : go d 93 6 [l0, l1, l2, l3, l4, .int x] st h = go d 93 8 [l0, l1, l2, l3, l4, .int x] (.int x :: st) h := go_plain (q := (8, [l0, l1, l2, l3, l4, .int x], (.int x :: st), h)) ke_93_6 rfl
theorem ke_93_8 : alook 93 8 = some (8, .bipush 8, 2, (0, 0, 0, 0, 0), ⟨"", "", ""⟩, "") := rfl
theorem ee_93_8 {d : Nat} {h : aH} {ls st : List Value} : go d 93 8 ls st h = go d 93 10 ls (.int 8 :: st) h := go_plain (q := (10, ls, (.int 8 :: st), h)) ke_93_8 rfl
theorem ke_93_10 : alook 93 10 = some (10, .aload_n 0, 1, (0, 0, 0, 0, 0), ⟨"", "", ""⟩, "") := rfl
theorem ee_93_10 {d : Nat} {h : aH} {l1 l2 l3 l4 l5 : Value} {x : Nat} {st : List Value} : go d 93 10 [.ref x, l1, l2, l3, l4, l5] st h = go d 93 11 [.ref x, l1, l2, l3, l4, l5] (.ref x :: st) h := go_plain (q := (11, [.ref x, l1, l2, l3, l4, l5], (.ref x :: st), h)) ke_93_10 rfl
theorem ee_93_10N {d : Nat} {h : aH} {l1 l2 l3 l4 l5 : Value} {st : List Value} : go d 93 10 [.null, l1, l2, l3, l4, l5] st h = go d 93 11 [.null, l1, l2, l3, l4, l5] (.null :: st) h := go_plain (q := (11, [.null, l1, l2, l3, l4, l5], (.null :: st), h)) ke_93_10 rfl
theorem ke_93_11 : alook 93 11 = some (11, .invokevirtual 32, 3, (0, 8, 66, 8, 66), ⟨"WordHidesModel", "cells", "()I"⟩, "") := rfl
theorem ee_93_11 {d : Nat} {ls : List Value} {h : aH} {r0 : Nat} {i1 : Int32} {i2 : Int32} : go (d + 1) 93 11 ls [.ref r0, .int i1, .int i2] h = if isC h r0 8 = true then (go d 66 0 [.ref r0] [] h).bind (fun q => go (d + 1) 93 14 ls (q.1.toList ++ [.int i1, .int i2]) q.2) else none := go_cv1 (as := []) (rest := [.int i1, .int i2]) (L := [.ref r0]) ke_93_11 rfl rfl rfl
theorem ke_93_14 : alook 93 14 = some (14, .imul, 1, (0, 0, 0, 0, 0), ⟨"", "", ""⟩, "") := rfl
theorem ee_93_14 {d : Nat} {h : aH} {ls st : List Value} {x y : Int32} : go d 93 14 ls (.int y :: .int x :: st) h = go d 93 15 ls (.int (x * y) :: st) h := go_plain (q := (15, ls, (.int (x * y) :: st), h)) ke_93_14 rfl
theorem ke_93_15 : alook 93 15 = some (15, .if_icmp .ge 31, 3, (46, 0, 0, 0, 0), ⟨"", "", ""⟩, "") := rfl
theorem ee_93_15 {d : Nat} {ls st : List Value} {h : aH} {x y : Int32} : go d 93 15 ls (.int y :: .int x :: st) h = if y ≤ x then go d 93 46 ls st h else go d 93 18 ls st h := go_ci (go_if2 (tg := 46) (q := 18) (f := fun x y => decide (y ≤ x)) ke_93_15 rfl)
theorem ke_93_18 : alook 93 18 = some (18, .iload 4, 2, (0, 0, 0, 0, 0), ⟨"", "", ""⟩, "") := rfl
theorem ee_93_18 {d : Nat} {h : aH} {l0 l1 l2 l3 l5 : Value} {x : Int32} {st : List Value} : go d 93 18 [l0, l1, l2, l3, .int x, l5] st h = go d 93 20 [l0, l1, l2, l3, .int x, l5] (.int x :: st) h := go_plain (q := (20, [l0, l1, l2, l3, .int x, l5], (.int x :: st), h)) ke_93_18 rfl
theorem ke_93_20 : alook 93 20 = some (20, .aload_n 0, 1, (0, 0, 0, 0, 0), ⟨"", "", ""⟩, "") := rfl
theorem ee_93_20 {d : Nat} {h : aH} {l1 l2 l3 l4 l5 : Value} {x : Nat} {st : List Value} : go d 93 20 [.ref x, l1, l2, l3, l4, l5] st h = go d 93 21 [.ref x, l1, l2, l3, l4, l5] (.ref x :: st) h := go_plain (q := (21, [.ref x, l1, l2, l3, l4, l5], (.ref x :: st), h)) ke_93_20 rfl
theorem ee_93_20N {d : Nat} {h : aH} {l1 l2 l3 l4 l5 : Value} {st : List Value} : go d 93 20 [.null, l1, l2, l3, l4, l5] st h = go d 93 21 [.null, l1, l2, l3, l4, l5] (.null :: st) h := go_plain (q := (21, [.null, l1, l2, l3, l4, l5], (.null :: st), h)) ke_93_20 rfl
theorem ke_93_21 : alook 93 21 = some (21, .iload_n 1, 1, (0, 0, 0, 0, 0), ⟨"", "", ""⟩, "") := rfl
theorem ee_93_21 {d : Nat} {h : aH} {l0 l2 l3 l4 l5 : Value} {x : Int32} {st : List Value} : go d 93 21 [l0, .int x, l2, l3, l4, l5] st h = go d 93 22 [l0, .int x, l2, l3, l4, l5] (.int x :: st) h := go_plain (q := (22, [l0, .int x, l2, l3, l4, l5], (.int x :: st), h)) ke_93_21 rfl
theorem ke_93_22 : alook 93 22 = some (22, .iload_n 2, 1, (0, 0, 0, 0, 0), ⟨"", "", ""⟩, "") := rfl
theorem ee_93_22 {d : Nat} {h : aH} {l0 l1 l3 l4 l5 : Value} {x : Int32} {st : List Value} : go d 93 22 [l0, l1, .int x, l3, l4, l5] st h = go d 93 23 [l0, l1, .int x, l3, l4, l5] (.int x :: st) h := go_plain (q := (23, [l0, l1, .int x, l3, l4, l5], (.int x :: st), h)) ke_93_22 rfl
theorem ke_93_23 : alook 93 23 = some (23, .iload_n 3, 1, (0, 0, 0, 0, 0), ⟨"", "", ""⟩, "") := rfl
theorem ee_93_23 {d : Nat} {h : aH} {l0 l1 l2 l4 l5 : Value} {x : Int32} {st : List Value} : go d 93 23 [l0, l1, l2, .int x, l4, l5] st h = go d 93 24 [l0, l1, l2, .int x, l4, l5] (.int x :: st) h := go_plain (q := (24, [l0, l1, l2, .int x, l4, l5], (.int x :: st), h)) ke_93_23 rfl
theorem ke_93_24 : alook 93 24 = some (24, .iload 5, 2, (0, 0, 0, 0, 0), ⟨"", "", ""⟩, "") := rfl
theorem ee_93_24 {d : Nat} {h : aH} {l0 l1 l2 l3 l4 : Value} {x : Int32} {st : List Value} : go d 93 24 [l0, l1, l2, l3, l4, .int x] st h = go d 93 26 [l0, l1, l2, l3, l4, .int x] (.int x :: st) h := go_plain (q := (26, [l0, l1, l2, l3, l4, .int x], (.int x :: st), h)) ke_93_24 rfl
theorem ke_93_26 : alook 93 26 = some (26, .invokevirtual 86, 3, (4, 8, 92, 8, 92), ⟨"WordHidesModel", "standsIn", "(IIII)Z"⟩, "") := rfl
theorem ee_93_26 {d : Nat} {ls : List Value} {h : aH} {i0 : Int32} {i1 : Int32} {i2 : Int32} {i3 : Int32} {r4 : Nat} {i5 : Int32} : go (d + 1) 93 26 ls [.int i0, .int i1, .int i2, .int i3, .ref r4, .int i5] h = if isC h r4 8 = true then (go d 92 0 [.ref r4, .int i3, .int i2, .int i1, .int i0, aU, aU, aU] [] h).bind (fun q => go (d + 1) 93 29 ls (q.1.toList ++ [.int i5]) q.2) else none := go_cv1 (as := [.int i3, .int i2, .int i1, .int i0]) (rest := [.int i5]) (L := [.ref r4, .int i3, .int i2, .int i1, .int i0, aU, aU, aU]) ke_93_26 rfl rfl rfl
theorem ke_93_29 : alook 93 29 = some (29, .ifCond .eq 7, 3, (36, 0, 0, 0, 0), ⟨"", "", ""⟩, "") := rfl
theorem ee_93_29 {d : Nat} {ls st : List Value} {h : aH} {x : Int32} : go d 93 29 ls (.int x :: st) h = if x = 0 then go d 93 36 ls st h else go d 93 32 ls st h := go_c1 (go_if1 (tg := 36) (q := 32) (f := fun x => decide (x = 0)) ke_93_29 rfl)
theorem ke_93_32 : alook 93 32 = some (32, .iconst 1, 1, (0, 0, 0, 0, 0), ⟨"", "", ""⟩, "") := rfl
theorem ee_93_32 {d : Nat} {h : aH} {ls st : List Value} : go d 93 32 ls st h = go d 93 33 ls (.int 1 :: st) h := go_plain (q := (33, ls, (.int 1 :: st), h)) ke_93_32 rfl
theorem ke_93_33 : alook 93 33 = some (33, .goto 4, 3, (37, 0, 0, 0, 0), ⟨"", "", ""⟩, "") := rfl
theorem ee_93_33 {d : Nat} {h : aH} {ls st : List Value} : go d 93 33 ls st h = go d 93 37 ls st h := go_plain (q := (37, ls, st, h)) ke_93_33 rfl
theorem ke_93_36 : alook 93 36 = some (36, .iconst 0, 1, (0, 0, 0, 0, 0), ⟨"", "", ""⟩, "") := rfl
theorem ee_93_36 {d : Nat} {h : aH} {ls st : List Value} : go d 93 36 ls st h = go d 93 37 ls (.int 0 :: st) h := go_plain (q := (37, ls, (.int 0 :: st), h)) ke_93_36 rfl
theorem ke_93_37 : alook 93 37 = some (37, .iadd, 1, (0, 0, 0, 0, 0), ⟨"", "", ""⟩, "") := rfl
theorem ee_93_37 {d : Nat} {h : aH} {ls st : List Value} {x y : Int32} : go d 93 37 ls (.int y :: .int x :: st) h = go d 93 38 ls (.int (x + y) :: st) h := go_plain (q := (38, ls, (.int (x + y) :: st), h)) ke_93_37 rfl
theorem ke_93_38 : alook 93 38 = some (38, .istore 4, 2, (0, 0, 0, 0, 0), ⟨"", "", ""⟩, "") := rfl
theorem ee_93_38 {d : Nat} {h : aH} {l0 l1 l2 l3 l4 l5 : Value} {x : Int32} {st : List Value} : go d 93 38 [l0, l1, l2, l3, l4, l5] (.int x :: st) h = go d 93 40 [l0, l1, l2, l3, .int x, l5] st h := go_plain (q := (40, [l0, l1, l2, l3, .int x, l5], st, h)) ke_93_38 rfl
theorem ke_93_40 : alook 93 40 = some (40, .iinc 5 1, 3, (0, 0, 0, 0, 0), ⟨"", "", ""⟩, "") := rfl
theorem ee_93_40 {d : Nat} {h : aH} {l0 l1 l2 l3 l4 : Value} {x : Int32} {st : List Value} : go d 93 40 [l0, l1, l2, l3, l4, .int x] st h = go d 93 43 [l0, l1, l2, l3, l4, .int (x + 1)] st h := go_plain (q := (43, [l0, l1, l2, l3, l4, .int (x + 1)], st, h)) ke_93_40 rfl
theorem ke_93_43 : alook 93 43 = some (43, .goto (-37), 3, (6, 0, 0, 0, 0), ⟨"", "", ""⟩, "") := rfl
theorem ee_93_43 {d : Nat} {h : aH} {ls st : List Value} : go d 93 43 ls st h = go d 93 6 ls st h := go_plain (q := (6, ls, st, h)) ke_93_43 rfl
theorem ke_93_46 : alook 93 46 = some (46, .iload 4, 2, (0, 0, 0, 0, 0), ⟨"", "", ""⟩, "") := rfl
theorem ee_93_46 {d : Nat} {h : aH} {l0 l1 l2 l3 l5 : Value} {x : Int32} {st : List Value} : go d 93 46 [l0, l1, l2, l3, .int x, l5] st h = go d 93 48 [l0, l1, l2, l3, .int x, l5] (.int x :: st) h := go_plain (q := (48, [l0, l1, l2, l3, .int x, l5], (.int x :: st), h)) ke_93_46 rfl
theorem ke_93_48 : alook 93 48 = some (48, .ireturn, 1, (0, 0, 0, 0, 0), ⟨"", "", ""⟩, "") := rfl
theorem ee_93_48 {d : Nat} {ls : List Value} {h : aH} {v : Int32} : go d 93 48 ls [.int v] h = some (some (.int v), h) := go_iret ke_93_48
theorem ke_94_0 : alook 94 0 = some (0, .iload_n 1, 1, (0, 0, 0, 0, 0), ⟨"", "", ""⟩, "") := rfl
theorem ee_94_0 {d : Nat} {h : aH} {l0 l2 l3 l4 l5 : Value} {x : Int32} {st : List Value} : go d 94 0 [l0, .int x, l2, l3, l4, l5] st h = go d 94 1 [l0, .int x, l2, l3, l4, l5] (.int x :: st) h := go_plain (q := (1, [l0, .int x, l2, l3, l4, l5], (.int x :: st), h)) ke_94_0 rfl
theorem ke_94_1 : alook 94 1 = some (1, .iconst 0, 1, (0, 0, 0, 0, 0), ⟨"", "", ""⟩, "") := rfl
theorem ee_94_1 {d : Nat} {h : aH} {ls st : List Value} : go d 94 1 ls st h = go d 94 2 ls (.int 0 :: st) h := go_plain (q := (2, ls, (.int 0 :: st), h)) ke_94_1 rfl
theorem ke_94_2 : alook 94 2 = some (2, .iconst 1, 1, (0, 0, 0, 0, 0), ⟨"", "", ""⟩, "") := rfl
theorem ee_94_2 {d : Nat} {h : aH} {ls st : List Value} : go d 94 2 ls st h = go d 94 3 ls (.int 1 :: st) h := go_plain (q := (3, ls, (.int 1 :: st), h)) ke_94_2 rfl
theorem ke_94_3 : alook 94 3 = some (3, .invokestatic 36, 3, (3, 0, 65, 0, 0), ⟨"WordHidesModel", "in", "(III)Z"⟩, "") := rfl
theorem ee_94_3 {d : Nat} {ls : List Value} {h : aH} {i0 : Int32} {i1 : Int32} {i2 : Int32} : go (d + 1) 94 3 ls [.int i0, .int i1, .int i2] h = (go d 65 0 [.int i2, .int i1, .int i0] [] h).bind (fun q => go (d + 1) 94 6 ls (q.1.toList ++ []) q.2) := go_cs (as := [.int i2, .int i1, .int i0]) (rest := []) (L := [.int i2, .int i1, .int i0]) ke_94_3 rfl rfl rfl
theorem ke_94_6 : alook 94 6 = some (6, .ifCond .eq 8, 3, (14, 0, 0, 0, 0), ⟨"", "", ""⟩, "") := rfl
theorem ee_94_6 {d : Nat} {ls st : List Value} {h : aH} {x : Int32} : go d 94 6 ls (.int x :: st) h = if x = 0 then go d 94 14 ls st h else go d 94 9 ls st h := go_c1 (go_if1 (tg := 14) (q := 9) (f := fun x => decide (x = 0)) ke_94_6 rfl)
theorem ke_94_9 : alook 94 9 = some (9, .iload_n 3, 1, (0, 0, 0, 0, 0), ⟨"", "", ""⟩, "") := rfl
theorem ee_94_9 {d : Nat} {h : aH} {l0 l1 l2 l4 l5 : Value} {x : Int32} {st : List Value} : go d 94 9 [l0, l1, l2, .int x, l4, l5] st h = go d 94 10 [l0, l1, l2, .int x, l4, l5] (.int x :: st) h := go_plain (q := (10, [l0, l1, l2, .int x, l4, l5], (.int x :: st), h)) ke_94_9 rfl
theorem ke_94_10 : alook 94 10 = some (10, .iconst (-1), 1, (0, 0, 0, 0, 0), ⟨"", "", ""⟩, "") := rfl
theorem ee_94_10 {d : Nat} {h : aH} {ls st : List Value} : go d 94 10 ls st h = go d 94 11 ls (.int (-1) :: st) h := go_plain (q := (11, ls, (.int (-1) :: st), h)) ke_94_10 rfl
theorem ke_94_11 : alook 94 11 = some (11, .if_icmp .ge 6, 3, (17, 0, 0, 0, 0), ⟨"", "", ""⟩, "") := rfl
theorem ee_94_11 {d : Nat} {ls st : List Value} {h : aH} {x y : Int32} : go d 94 11 ls (.int y :: .int x :: st) h = if y ≤ x then go d 94 17 ls st h else go d 94 14 ls st h := go_ci (go_if2 (tg := 17) (q := 14) (f := fun x y => decide (y ≤ x)) ke_94_11 rfl)
theorem ke_94_14 : alook 94 14 = some (14, .bipush (-2), 2, (0, 0, 0, 0, 0), ⟨"", "", ""⟩, "") := rfl
theorem ee_94_14 {d : Nat} {h : aH} {ls st : List Value} : go d 94 14 ls st h = go d 94 16 ls (.int (-2) :: st) h := go_plain (q := (16, ls, (.int (-2) :: st), h)) ke_94_14 rfl
theorem ke_94_16 : alook 94 16 = some (16, .ireturn, 1, (0, 0, 0, 0, 0), ⟨"", "", ""⟩, "") := rfl
theorem ee_94_16 {d : Nat} {ls : List Value} {h : aH} {v : Int32} : go d 94 16 ls [.int v] h = some (some (.int v), h) := go_iret ke_94_16
theorem ke_94_17 : alook 94 17 = some (17, .aload_n 0, 1, (0, 0, 0, 0, 0), ⟨"", "", ""⟩, "") := rfl
theorem ee_94_17 {d : Nat} {h : aH} {l1 l2 l3 l4 l5 : Value} {x : Nat} {st : List Value} : go d 94 17 [.ref x, l1, l2, l3, l4, l5] st h = go d 94 18 [.ref x, l1, l2, l3, l4, l5] (.ref x :: st) h := go_plain (q := (18, [.ref x, l1, l2, l3, l4, l5], (.ref x :: st), h)) ke_94_17 rfl
theorem ee_94_17N {d : Nat} {h : aH} {l1 l2 l3 l4 l5 : Value} {st : List Value} : go d 94 17 [.null, l1, l2, l3, l4, l5] st h = go d 94 18 [.null, l1, l2, l3, l4, l5] (.null :: st) h := go_plain (q := (18, [.null, l1, l2, l3, l4, l5], (.null :: st), h)) ke_94_17 rfl
theorem ke_94_18 : alook 94 18 = some (18, .iload_n 1, 1, (0, 0, 0, 0, 0), ⟨"", "", ""⟩, "") := rfl
theorem ee_94_18 {d : Nat} {h : aH} {l0 l2 l3 l4 l5 : Value} {x : Int32} {st : List Value} : go d 94 18 [l0, .int x, l2, l3, l4, l5] st h = go d 94 19 [l0, .int x, l2, l3, l4, l5] (.int x :: st) h := go_plain (q := (19, [l0, .int x, l2, l3, l4, l5], (.int x :: st), h)) ke_94_18 rfl
theorem ke_94_19 : alook 94 19 = some (19, .iload_n 2, 1, (0, 0, 0, 0, 0), ⟨"", "", ""⟩, "") := rfl
theorem ee_94_19 {d : Nat} {h : aH} {l0 l1 l3 l4 l5 : Value} {x : Int32} {st : List Value} : go d 94 19 [l0, l1, .int x, l3, l4, l5] st h = go d 94 20 [l0, l1, .int x, l3, l4, l5] (.int x :: st) h := go_plain (q := (20, [l0, l1, .int x, l3, l4, l5], (.int x :: st), h)) ke_94_19 rfl
theorem ke_94_20 : alook 94 20 = some (20, .invokevirtual 54, 3, (2, 8, 70, 8, 70), ⟨"WordHidesModel", "isWord", "(II)Z"⟩, "") := rfl
theorem ee_94_20 {d : Nat} {ls : List Value} {h : aH} {i0 : Int32} {i1 : Int32} {r2 : Nat} : go (d + 1) 94 20 ls [.int i0, .int i1, .ref r2] h = if isC h r2 8 = true then (go d 70 0 [.ref r2, .int i1, .int i0] [] h).bind (fun q => go (d + 1) 94 23 ls (q.1.toList ++ []) q.2) else none := go_cv1 (as := [.int i1, .int i0]) (rest := []) (L := [.ref r2, .int i1, .int i0]) ke_94_20 rfl rfl rfl
theorem ke_94_23 : alook 94 23 = some (23, .ifCond .ne 5, 3, (28, 0, 0, 0, 0), ⟨"", "", ""⟩, "") := rfl
theorem ee_94_23 {d : Nat} {ls st : List Value} {h : aH} {x : Int32} : go d 94 23 ls (.int x :: st) h = if ¬ x = 0 then go d 94 28 ls st h else go d 94 26 ls st h := go_c1 (go_if1 (tg := 28) (q := 26) (f := fun x => decide (¬ x = 0)) ke_94_23 rfl)
theorem ke_94_26 : alook 94 26 = some (26, .iconst (-1), 1, (0, 0, 0, 0, 0), ⟨"", "", ""⟩, "") := rfl
theorem ee_94_26 {d : Nat} {h : aH} {ls st : List Value} : go d 94 26 ls st h = go d 94 27 ls (.int (-1) :: st) h := go_plain (q := (27, ls, (.int (-1) :: st), h)) ke_94_26 rfl
theorem ke_94_27 : alook 94 27 = some (27, .ireturn, 1, (0, 0, 0, 0, 0), ⟨"", "", ""⟩, "") := rfl
theorem ee_94_27 {d : Nat} {ls : List Value} {h : aH} {v : Int32} : go d 94 27 ls [.int v] h = some (some (.int v), h) := go_iret ke_94_27
theorem ke_94_28 : alook 94 28 = some (28, .aload_n 0, 1, (0, 0, 0, 0, 0), ⟨"", "", ""⟩, "") := rfl
theorem ee_94_28 {d : Nat} {h : aH} {l1 l2 l3 l4 l5 : Value} {x : Nat} {st : List Value} : go d 94 28 [.ref x, l1, l2, l3, l4, l5] st h = go d 94 29 [.ref x, l1, l2, l3, l4, l5] (.ref x :: st) h := go_plain (q := (29, [.ref x, l1, l2, l3, l4, l5], (.ref x :: st), h)) ke_94_28 rfl
theorem ee_94_28N {d : Nat} {h : aH} {l1 l2 l3 l4 l5 : Value} {st : List Value} : go d 94 28 [.null, l1, l2, l3, l4, l5] st h = go d 94 29 [.null, l1, l2, l3, l4, l5] (.null :: st) h := go_plain (q := (29, [.null, l1, l2, l3, l4, l5], (.null :: st), h)) ke_94_28 rfl
theorem ke_94_29 : alook 94 29 = some (29, .invokevirtual 90, 3, (0, 8, 87, 8, 87), ⟨"WordHidesModel", "begin", "()V"⟩, "") := rfl
theorem ee_94_29 {d : Nat} {ls : List Value} {h : aH} {r0 : Nat} : go (d + 1) 94 29 ls [.ref r0] h = if isC h r0 8 = true then (go d 87 0 [.ref r0, aU] [] h).bind (fun q => go (d + 1) 94 32 ls (q.1.toList ++ []) q.2) else none := go_cv1 (as := []) (rest := []) (L := [.ref r0, aU]) ke_94_29 rfl rfl rfl
theorem ke_94_32 : alook 94 32 = some (32, .iconst 0, 1, (0, 0, 0, 0, 0), ⟨"", "", ""⟩, "") := rfl
theorem ee_94_32 {d : Nat} {h : aH} {ls st : List Value} : go d 94 32 ls st h = go d 94 33 ls (.int 0 :: st) h := go_plain (q := (33, ls, (.int 0 :: st), h)) ke_94_32 rfl
theorem ke_94_33 : alook 94 33 = some (33, .istore 4, 2, (0, 0, 0, 0, 0), ⟨"", "", ""⟩, "") := rfl
theorem ee_94_33 {d : Nat} {h : aH} {l0 l1 l2 l3 l4 l5 : Value} {x : Int32} {st : List Value} : go d 94 33 [l0, l1, l2, l3, l4, l5] (.int x :: st) h = go d 94 35 [l0, l1, l2, l3, .int x, l5] st h := go_plain (q := (35, [l0, l1, l2, l3, .int x, l5], st, h)) ke_94_33 rfl
theorem ke_94_35 : alook 94 35 = some (35, .iconst 0, 1, (0, 0, 0, 0, 0), ⟨"", "", ""⟩, "") := rfl
theorem ee_94_35 {d : Nat} {h : aH} {ls st : List Value} : go d 94 35 ls st h = go d 94 36 ls (.int 0 :: st) h := go_plain (q := (36, ls, (.int 0 :: st), h)) ke_94_35 rfl
theorem ke_94_36 : alook 94 36 = some (36, .istore 5, 2, (0, 0, 0, 0, 0), ⟨"", "", ""⟩, "") := rfl
theorem ee_94_36 {d : Nat} {h : aH} {l0 l1 l2 l3 l4 l5 : Value} {x : Int32} {st : List Value} : go d 94 36 [l0, l1, l2, l3, l4, l5] (.int x :: st) h = go d 94 38 [l0, l1, l2, l3, l4, .int x] st h := go_plain (q := (38, [l0, l1, l2, l3, l4, .int x], st, h)) ke_94_36 rfl
theorem ke_94_38 : alook 94 38 = some (38, .iload 5, 2, (0, 0, 0, 0, 0), ⟨"", "", ""⟩, "") := rfl
theorem ee_94_38 {d : Nat} {h : aH} {l0 l1 l2 l3 l4 : Value} {x : Int32} {st : List Value} : go d 94 38 [l0, l1, l2, l3, l4, .int x] st h = go d 94 40 [l0, l1, l2, l3, l4, .int x] (.int x :: st) h := go_plain (q := (40, [l0, l1, l2, l3, l4, .int x], (.int x :: st), h)) ke_94_38 rfl
theorem ke_94_40 : alook 94 40 = some (40, .bipush 8, 2, (0, 0, 0, 0, 0), ⟨"", "", ""⟩, "") := rfl
theorem ee_94_40 {d : Nat} {h : aH} {ls st : List Value} : go d 94 40 ls st h = go d 94 42 ls (.int 8 :: st) h := go_plain (q := (42, ls, (.int 8 :: st), h)) ke_94_40 rfl
theorem ke_94_42 : alook 94 42 = some (42, .aload_n 0, 1, (0, 0, 0, 0, 0), ⟨"", "", ""⟩, "") := rfl
theorem ee_94_42 {d : Nat} {h : aH} {l1 l2 l3 l4 l5 : Value} {x : Nat} {st : List Value} : go d 94 42 [.ref x, l1, l2, l3, l4, l5] st h = go d 94 43 [.ref x, l1, l2, l3, l4, l5] (.ref x :: st) h := go_plain (q := (43, [.ref x, l1, l2, l3, l4, l5], (.ref x :: st), h)) ke_94_42 rfl
theorem ee_94_42N {d : Nat} {h : aH} {l1 l2 l3 l4 l5 : Value} {st : List Value} : go d 94 42 [.null, l1, l2, l3, l4, l5] st h = go d 94 43 [.null, l1, l2, l3, l4, l5] (.null :: st) h := go_plain (q := (43, [.null, l1, l2, l3, l4, l5], (.null :: st), h)) ke_94_42 rfl
theorem ke_94_43 : alook 94 43 = some (43, .invokevirtual 32, 3, (0, 8, 66, 8, 66), ⟨"WordHidesModel", "cells", "()I"⟩, "") := rfl
theorem ee_94_43 {d : Nat} {ls : List Value} {h : aH} {r0 : Nat} {i1 : Int32} {i2 : Int32} : go (d + 1) 94 43 ls [.ref r0, .int i1, .int i2] h = if isC h r0 8 = true then (go d 66 0 [.ref r0] [] h).bind (fun q => go (d + 1) 94 46 ls (q.1.toList ++ [.int i1, .int i2]) q.2) else none := go_cv1 (as := []) (rest := [.int i1, .int i2]) (L := [.ref r0]) ke_94_43 rfl rfl rfl
theorem ke_94_46 : alook 94 46 = some (46, .imul, 1, (0, 0, 0, 0, 0), ⟨"", "", ""⟩, "") := rfl
theorem ee_94_46 {d : Nat} {h : aH} {ls st : List Value} {x y : Int32} : go d 94 46 ls (.int y :: .int x :: st) h = go d 94 47 ls (.int (x * y) :: st) h := go_plain (q := (47, ls, (.int (x * y) :: st), h)) ke_94_46 rfl
theorem ke_94_47 : alook 94 47 = some (47, .if_icmp .ge 33, 3, (80, 0, 0, 0, 0), ⟨"", "", ""⟩, "") := rfl
theorem ee_94_47 {d : Nat} {ls st : List Value} {h : aH} {x y : Int32} : go d 94 47 ls (.int y :: .int x :: st) h = if y ≤ x then go d 94 80 ls st h else go d 94 50 ls st h := go_ci (go_if2 (tg := 80) (q := 50) (f := fun x y => decide (y ≤ x)) ke_94_47 rfl)
theorem ke_94_50 : alook 94 50 = some (50, .aload_n 0, 1, (0, 0, 0, 0, 0), ⟨"", "", ""⟩, "") := rfl
theorem ee_94_50 {d : Nat} {h : aH} {l1 l2 l3 l4 l5 : Value} {x : Nat} {st : List Value} : go d 94 50 [.ref x, l1, l2, l3, l4, l5] st h = go d 94 51 [.ref x, l1, l2, l3, l4, l5] (.ref x :: st) h := go_plain (q := (51, [.ref x, l1, l2, l3, l4, l5], (.ref x :: st), h)) ke_94_50 rfl
theorem ee_94_50N {d : Nat} {h : aH} {l1 l2 l3 l4 l5 : Value} {st : List Value} : go d 94 50 [.null, l1, l2, l3, l4, l5] st h = go d 94 51 [.null, l1, l2, l3, l4, l5] (.null :: st) h := go_plain (q := (51, [.null, l1, l2, l3, l4, l5], (.null :: st), h)) ke_94_50 rfl
theorem ke_94_51 : alook 94 51 = some (51, .iconst 0, 1, (0, 0, 0, 0, 0), ⟨"", "", ""⟩, "") := rfl
theorem ee_94_51 {d : Nat} {h : aH} {ls st : List Value} : go d 94 51 ls st h = go d 94 52 ls (.int 0 :: st) h := go_plain (q := (52, ls, (.int 0 :: st), h)) ke_94_51 rfl
theorem ke_94_52 : alook 94 52 = some (52, .iload_n 1, 1, (0, 0, 0, 0, 0), ⟨"", "", ""⟩, "") := rfl
theorem ee_94_52 {d : Nat} {h : aH} {l0 l2 l3 l4 l5 : Value} {x : Int32} {st : List Value} : go d 94 52 [l0, .int x, l2, l3, l4, l5] st h = go d 94 53 [l0, .int x, l2, l3, l4, l5] (.int x :: st) h := go_plain (q := (53, [l0, .int x, l2, l3, l4, l5], (.int x :: st), h)) ke_94_52 rfl
theorem ke_94_53 : alook 94 53 = some (53, .iload_n 2, 1, (0, 0, 0, 0, 0), ⟨"", "", ""⟩, "") := rfl
theorem ee_94_53 {d : Nat} {h : aH} {l0 l1 l3 l4 l5 : Value} {x : Int32} {st : List Value} : go d 94 53 [l0, l1, .int x, l3, l4, l5] st h = go d 94 54 [l0, l1, .int x, l3, l4, l5] (.int x :: st) h := go_plain (q := (54, [l0, l1, .int x, l3, l4, l5], (.int x :: st), h)) ke_94_53 rfl
theorem ke_94_54 : alook 94 54 = some (54, .iload 5, 2, (0, 0, 0, 0, 0), ⟨"", "", ""⟩, "") := rfl
theorem ee_94_54 {d : Nat} {h : aH} {l0 l1 l2 l3 l4 : Value} {x : Int32} {st : List Value} : go d 94 54 [l0, l1, l2, l3, l4, .int x] st h = go d 94 56 [l0, l1, l2, l3, l4, .int x] (.int x :: st) h := go_plain (q := (56, [l0, l1, l2, l3, l4, .int x], (.int x :: st), h)) ke_94_54 rfl
theorem ke_94_56 : alook 94 56 = some (56, .invokevirtual 86, 3, (4, 8, 92, 8, 92), ⟨"WordHidesModel", "standsIn", "(IIII)Z"⟩, "") := rfl
theorem ee_94_56 {d : Nat} {ls : List Value} {h : aH} {i0 : Int32} {i1 : Int32} {i2 : Int32} {i3 : Int32} {r4 : Nat} : go (d + 1) 94 56 ls [.int i0, .int i1, .int i2, .int i3, .ref r4] h = if isC h r4 8 = true then (go d 92 0 [.ref r4, .int i3, .int i2, .int i1, .int i0, aU, aU, aU] [] h).bind (fun q => go (d + 1) 94 59 ls (q.1.toList ++ []) q.2) else none := go_cv1 (as := [.int i3, .int i2, .int i1, .int i0]) (rest := []) (L := [.ref r4, .int i3, .int i2, .int i1, .int i0, aU, aU, aU]) ke_94_56 rfl rfl rfl
theorem ke_94_59 : alook 94 59 = some (59, .ifCond .eq 15, 3, (74, 0, 0, 0, 0), ⟨"", "", ""⟩, "") := rfl
theorem ee_94_59 {d : Nat} {ls st : List Value} {h : aH} {x : Int32} : go d 94 59 ls (.int x :: st) h = if x = 0 then go d 94 74 ls st h else go d 94 62 ls st h := go_c1 (go_if1 (tg := 74) (q := 62) (f := fun x => decide (x = 0)) ke_94_59 rfl)
theorem ke_94_62 : alook 94 62 = some (62, .iload 4, 2, (0, 0, 0, 0, 0), ⟨"", "", ""⟩, "") := rfl
theorem ee_94_62 {d : Nat} {h : aH} {l0 l1 l2 l3 l5 : Value} {x : Int32} {st : List Value} : go d 94 62 [l0, l1, l2, l3, .int x, l5] st h = go d 94 64 [l0, l1, l2, l3, .int x, l5] (.int x :: st) h := go_plain (q := (64, [l0, l1, l2, l3, .int x, l5], (.int x :: st), h)) ke_94_62 rfl
theorem ke_94_64 : alook 94 64 = some (64, .iload_n 3, 1, (0, 0, 0, 0, 0), ⟨"", "", ""⟩, "") := rfl
theorem ee_94_64 {d : Nat} {h : aH} {l0 l1 l2 l4 l5 : Value} {x : Int32} {st : List Value} : go d 94 64 [l0, l1, l2, .int x, l4, l5] st h = go d 94 65 [l0, l1, l2, .int x, l4, l5] (.int x :: st) h := go_plain (q := (65, [l0, l1, l2, .int x, l4, l5], (.int x :: st), h)) ke_94_64 rfl
theorem ke_94_65 : alook 94 65 = some (65, .if_icmp .ne 6, 3, (71, 0, 0, 0, 0), ⟨"", "", ""⟩, "") := rfl
theorem ee_94_65 {d : Nat} {ls st : List Value} {h : aH} {x y : Int32} : go d 94 65 ls (.int y :: .int x :: st) h = if ¬ x = y then go d 94 71 ls st h else go d 94 68 ls st h := go_ci (go_if2 (tg := 71) (q := 68) (f := fun x y => decide (¬ x = y)) ke_94_65 rfl)
theorem ke_94_68 : alook 94 68 = some (68, .iload 5, 2, (0, 0, 0, 0, 0), ⟨"", "", ""⟩, "") := rfl
theorem ee_94_68 {d : Nat} {h : aH} {l0 l1 l2 l3 l4 : Value} {x : Int32} {st : List Value} : go d 94 68 [l0, l1, l2, l3, l4, .int x] st h = go d 94 70 [l0, l1, l2, l3, l4, .int x] (.int x :: st) h := go_plain (q := (70, [l0, l1, l2, l3, l4, .int x], (.int x :: st), h)) ke_94_68 rfl
theorem ke_94_70 : alook 94 70 = some (70, .ireturn, 1, (0, 0, 0, 0, 0), ⟨"", "", ""⟩, "") := rfl
theorem ee_94_70 {d : Nat} {ls : List Value} {h : aH} {v : Int32} : go d 94 70 ls [.int v] h = some (some (.int v), h) := go_iret ke_94_70
theorem ke_94_71 : alook 94 71 = some (71, .iinc 4 1, 3, (0, 0, 0, 0, 0), ⟨"", "", ""⟩, "") := rfl
theorem ee_94_71 {d : Nat} {h : aH} {l0 l1 l2 l3 l5 : Value} {x : Int32} {st : List Value} : go d 94 71 [l0, l1, l2, l3, .int x, l5] st h = go d 94 74 [l0, l1, l2, l3, .int (x + 1), l5] st h := go_plain (q := (74, [l0, l1, l2, l3, .int (x + 1), l5], st, h)) ke_94_71 rfl
theorem ke_94_74 : alook 94 74 = some (74, .iinc 5 1, 3, (0, 0, 0, 0, 0), ⟨"", "", ""⟩, "") := rfl
theorem ee_94_74 {d : Nat} {h : aH} {l0 l1 l2 l3 l4 : Value} {x : Int32} {st : List Value} : go d 94 74 [l0, l1, l2, l3, l4, .int x] st h = go d 94 77 [l0, l1, l2, l3, l4, .int (x + 1)] st h := go_plain (q := (77, [l0, l1, l2, l3, l4, .int (x + 1)], st, h)) ke_94_74 rfl
theorem ke_94_77 : alook 94 77 = some (77, .goto (-39), 3, (38, 0, 0, 0, 0), ⟨"", "", ""⟩, "") := rfl
theorem ee_94_77 {d : Nat} {h : aH} {ls st : List Value} : go d 94 77 ls st h = go d 94 38 ls st h := go_plain (q := (38, ls, st, h)) ke_94_77 rfl
theorem ke_94_80 : alook 94 80 = some (80, .iload_n 3, 1, (0, 0, 0, 0, 0), ⟨"", "", ""⟩, "") := rfl
theorem ee_94_80 {d : Nat} {h : aH} {l0 l1 l2 l4 l5 : Value} {x : Int32} {st : List Value} : go d 94 80 [l0, l1, l2, .int x, l4, l5] st h = go d 94 81 [l0, l1, l2, .int x, l4, l5] (.int x :: st) h := go_plain (q := (81, [l0, l1, l2, .int x, l4, l5], (.int x :: st), h)) ke_94_80 rfl
theorem ke_94_81 : alook 94 81 = some (81, .iconst (-1), 1, (0, 0, 0, 0, 0), ⟨"", "", ""⟩, "") := rfl
theorem ee_94_81 {d : Nat} {h : aH} {ls st : List Value} : go d 94 81 ls st h = go d 94 82 ls (.int (-1) :: st) h := go_plain (q := (82, ls, (.int (-1) :: st), h)) ke_94_81 rfl
theorem ke_94_82 : alook 94 82 = some (82, .if_icmp .ne 8, 3, (90, 0, 0, 0, 0), ⟨"", "", ""⟩, "") := rfl
theorem ee_94_82 {d : Nat} {ls st : List Value} {h : aH} {x y : Int32} : go d 94 82 ls (.int y :: .int x :: st) h = if ¬ x = y then go d 94 90 ls st h else go d 94 85 ls st h := go_ci (go_if2 (tg := 90) (q := 85) (f := fun x y => decide (¬ x = y)) ke_94_82 rfl)
theorem ke_94_85 : alook 94 85 = some (85, .iload 4, 2, (0, 0, 0, 0, 0), ⟨"", "", ""⟩, "") := rfl
theorem ee_94_85 {d : Nat} {h : aH} {l0 l1 l2 l3 l5 : Value} {x : Int32} {st : List Value} : go d 94 85 [l0, l1, l2, l3, .int x, l5] st h = go d 94 87 [l0, l1, l2, l3, .int x, l5] (.int x :: st) h := go_plain (q := (87, [l0, l1, l2, l3, .int x, l5], (.int x :: st), h)) ke_94_85 rfl
theorem ke_94_87 : alook 94 87 = some (87, .goto 5, 3, (92, 0, 0, 0, 0), ⟨"", "", ""⟩, "") := rfl
theorem ee_94_87 {d : Nat} {h : aH} {ls st : List Value} : go d 94 87 ls st h = go d 94 92 ls st h := go_plain (q := (92, ls, st, h)) ke_94_87 rfl
theorem ke_94_90 : alook 94 90 = some (90, .bipush (-6), 2, (0, 0, 0, 0, 0), ⟨"", "", ""⟩, "") := rfl
theorem ee_94_90 {d : Nat} {h : aH} {ls st : List Value} : go d 94 90 ls st h = go d 94 92 ls (.int (-6) :: st) h := go_plain (q := (92, ls, (.int (-6) :: st), h)) ke_94_90 rfl
theorem ke_94_92 : alook 94 92 = some (92, .ireturn, 1, (0, 0, 0, 0, 0), ⟨"", "", ""⟩, "") := rfl
theorem ee_94_92 {d : Nat} {ls : List Value} {h : aH} {v : Int32} : go d 94 92 ls [.int v] h = some (some (.int v), h) := go_iret ke_94_92
theorem ke_95_0 : alook 95 0 = some (0, .aload_n 0, 1, (0, 0, 0, 0, 0), ⟨"", "", ""⟩, "") := rfl
theorem ee_95_0 {d : Nat} {h : aH} {l1 l2 l3 l4 l5 : Value} {x : Nat} {st : List Value} : go d 95 0 [.ref x, l1, l2, l3, l4, l5] st h = go d 95 1 [.ref x, l1, l2, l3, l4, l5] (.ref x :: st) h := go_plain (q := (1, [.ref x, l1, l2, l3, l4, l5], (.ref x :: st), h)) ke_95_0 rfl
theorem ee_95_0N {d : Nat} {h : aH} {l1 l2 l3 l4 l5 : Value} {st : List Value} : go d 95 0 [.null, l1, l2, l3, l4, l5] st h = go d 95 1 [.null, l1, l2, l3, l4, l5] (.null :: st) h := go_plain (q := (1, [.null, l1, l2, l3, l4, l5], (.null :: st), h)) ke_95_0 rfl
theorem ke_95_1 : alook 95 1 = some (1, .iload_n 2, 1, (0, 0, 0, 0, 0), ⟨"", "", ""⟩, "") := rfl
theorem ee_95_1 {d : Nat} {h : aH} {l0 l1 l3 l4 l5 : Value} {x : Int32} {st : List Value} : go d 95 1 [l0, l1, .int x, l3, l4, l5] st h = go d 95 2 [l0, l1, .int x, l3, l4, l5] (.int x :: st) h := go_plain (q := (2, [l0, l1, .int x, l3, l4, l5], (.int x :: st), h)) ke_95_1 rfl
theorem ke_95_2 : alook 95 2 = some (2, .aload_n 0, 1, (0, 0, 0, 0, 0), ⟨"", "", ""⟩, "") := rfl
theorem ee_95_2 {d : Nat} {h : aH} {l1 l2 l3 l4 l5 : Value} {x : Nat} {st : List Value} : go d 95 2 [.ref x, l1, l2, l3, l4, l5] st h = go d 95 3 [.ref x, l1, l2, l3, l4, l5] (.ref x :: st) h := go_plain (q := (3, [.ref x, l1, l2, l3, l4, l5], (.ref x :: st), h)) ke_95_2 rfl
theorem ee_95_2N {d : Nat} {h : aH} {l1 l2 l3 l4 l5 : Value} {st : List Value} : go d 95 2 [.null, l1, l2, l3, l4, l5] st h = go d 95 3 [.null, l1, l2, l3, l4, l5] (.null :: st) h := go_plain (q := (3, [.null, l1, l2, l3, l4, l5], (.null :: st), h)) ke_95_2 rfl
theorem ke_95_3 : alook 95 3 = some (3, .iconst 0, 1, (0, 0, 0, 0, 0), ⟨"", "", ""⟩, "") := rfl
theorem ee_95_3 {d : Nat} {h : aH} {ls st : List Value} : go d 95 3 ls st h = go d 95 4 ls (.int 0 :: st) h := go_plain (q := (4, ls, (.int 0 :: st), h)) ke_95_3 rfl
theorem ke_95_4 : alook 95 4 = some (4, .iload_n 1, 1, (0, 0, 0, 0, 0), ⟨"", "", ""⟩, "") := rfl
theorem ee_95_4 {d : Nat} {h : aH} {l0 l2 l3 l4 l5 : Value} {x : Int32} {st : List Value} : go d 95 4 [l0, .int x, l2, l3, l4, l5] st h = go d 95 5 [l0, .int x, l2, l3, l4, l5] (.int x :: st) h := go_plain (q := (5, [l0, .int x, l2, l3, l4, l5], (.int x :: st), h)) ke_95_4 rfl
theorem ke_95_5 : alook 95 5 = some (5, .invokevirtual 58, 3, (2, 8, 71, 8, 71), ⟨"WordHidesModel", "longOf", "(II)I"⟩, "") := rfl
theorem ee_95_5 {d : Nat} {ls : List Value} {h : aH} {i0 : Int32} {i1 : Int32} {r2 : Nat} {i3 : Int32} {r4 : Nat} : go (d + 1) 95 5 ls [.int i0, .int i1, .ref r2, .int i3, .ref r4] h = if isC h r2 8 = true then (go d 71 0 [.ref r2, .int i1, .int i0] [] h).bind (fun q => go (d + 1) 95 8 ls (q.1.toList ++ [.int i3, .ref r4]) q.2) else none := go_cv1 (as := [.int i1, .int i0]) (rest := [.int i3, .ref r4]) (L := [.ref r2, .int i1, .int i0]) ke_95_5 rfl rfl rfl
theorem ke_95_8 : alook 95 8 = some (8, .invokevirtual 76, 3, (2, 8, 86, 8, 86), ⟨"WordHidesModel", "canLie", "(II)Z"⟩, "") := rfl
theorem ee_95_8 {d : Nat} {ls : List Value} {h : aH} {i0 : Int32} {i1 : Int32} {r2 : Nat} : go (d + 1) 95 8 ls [.int i0, .int i1, .ref r2] h = if isC h r2 8 = true then (go d 86 0 [.ref r2, .int i1, .int i0] [] h).bind (fun q => go (d + 1) 95 11 ls (q.1.toList ++ []) q.2) else none := go_cv1 (as := [.int i1, .int i0]) (rest := []) (L := [.ref r2, .int i1, .int i0]) ke_95_8 rfl rfl rfl
theorem ke_95_11 : alook 95 11 = some (11, .istore_n 3, 1, (0, 0, 0, 0, 0), ⟨"", "", ""⟩, "") := rfl
theorem ee_95_11 {d : Nat} {h : aH} {l0 l1 l2 l3 l4 l5 : Value} {x : Int32} {st : List Value} : go d 95 11 [l0, l1, l2, l3, l4, l5] (.int x :: st) h = go d 95 12 [l0, l1, l2, .int x, l4, l5] st h := go_plain (q := (12, [l0, l1, l2, .int x, l4, l5], st, h)) ke_95_11 rfl
theorem ke_95_12 : alook 95 12 = some (12, .iconst 0, 1, (0, 0, 0, 0, 0), ⟨"", "", ""⟩, "") := rfl
theorem ee_95_12 {d : Nat} {h : aH} {ls st : List Value} : go d 95 12 ls st h = go d 95 13 ls (.int 0 :: st) h := go_plain (q := (13, ls, (.int 0 :: st), h)) ke_95_12 rfl
theorem ke_95_13 : alook 95 13 = some (13, .istore 4, 2, (0, 0, 0, 0, 0), ⟨"", "", ""⟩, "") := rfl
theorem ee_95_13 {d : Nat} {h : aH} {l0 l1 l2 l3 l4 l5 : Value} {x : Int32} {st : List Value} : go d 95 13 [l0, l1, l2, l3, l4, l5] (.int x :: st) h = go d 95 15 [l0, l1, l2, l3, .int x, l5] st h := go_plain (q := (15, [l0, l1, l2, l3, .int x, l5], st, h)) ke_95_13 rfl
theorem ke_95_15 : alook 95 15 = some (15, .iload 4, 2, (0, 0, 0, 0, 0), ⟨"", "", ""⟩, "") := rfl
theorem ee_95_15 {d : Nat} {h : aH} {l0 l1 l2 l3 l5 : Value} {x : Int32} {st : List Value} : go d 95 15 [l0, l1, l2, l3, .int x, l5] st h = go d 95 17 [l0, l1, l2, l3, .int x, l5] (.int x :: st) h := go_plain (q := (17, [l0, l1, l2, l3, .int x, l5], (.int x :: st), h)) ke_95_15 rfl
theorem ke_95_17 : alook 95 17 = some (17, .aload_n 0, 1, (0, 0, 0, 0, 0), ⟨"", "", ""⟩, "") := rfl
theorem ee_95_17 {d : Nat} {h : aH} {l1 l2 l3 l4 l5 : Value} {x : Nat} {st : List Value} : go d 95 17 [.ref x, l1, l2, l3, l4, l5] st h = go d 95 18 [.ref x, l1, l2, l3, l4, l5] (.ref x :: st) h := go_plain (q := (18, [.ref x, l1, l2, l3, l4, l5], (.ref x :: st), h)) ke_95_17 rfl
theorem ee_95_17N {d : Nat} {h : aH} {l1 l2 l3 l4 l5 : Value} {st : List Value} : go d 95 17 [.null, l1, l2, l3, l4, l5] st h = go d 95 18 [.null, l1, l2, l3, l4, l5] (.null :: st) h := go_plain (q := (18, [.null, l1, l2, l3, l4, l5], (.null :: st), h)) ke_95_17 rfl
theorem ke_95_18 : alook 95 18 = some (18, .iconst 0, 1, (0, 0, 0, 0, 0), ⟨"", "", ""⟩, "") := rfl
theorem ee_95_18 {d : Nat} {h : aH} {ls st : List Value} : go d 95 18 ls st h = go d 95 19 ls (.int 0 :: st) h := go_plain (q := (19, ls, (.int 0 :: st), h)) ke_95_18 rfl
theorem ke_95_19 : alook 95 19 = some (19, .iload_n 1, 1, (0, 0, 0, 0, 0), ⟨"", "", ""⟩, "") := rfl
theorem ee_95_19 {d : Nat} {h : aH} {l0 l2 l3 l4 l5 : Value} {x : Int32} {st : List Value} : go d 95 19 [l0, .int x, l2, l3, l4, l5] st h = go d 95 20 [l0, .int x, l2, l3, l4, l5] (.int x :: st) h := go_plain (q := (20, [l0, .int x, l2, l3, l4, l5], (.int x :: st), h)) ke_95_19 rfl
theorem ke_95_20 : alook 95 20 = some (20, .invokevirtual 58, 3, (2, 8, 71, 8, 71), ⟨"WordHidesModel", "longOf", "(II)I"⟩, "") := rfl
theorem ee_95_20 {d : Nat} {ls : List Value} {h : aH} {i0 : Int32} {i1 : Int32} {r2 : Nat} {i3 : Int32} : go (d + 1) 95 20 ls [.int i0, .int i1, .ref r2, .int i3] h = if isC h r2 8 = true then (go d 71 0 [.ref r2, .int i1, .int i0] [] h).bind (fun q => go (d + 1) 95 23 ls (q.1.toList ++ [.int i3]) q.2) else none := go_cv1 (as := [.int i1, .int i0]) (rest := [.int i3]) (L := [.ref r2, .int i1, .int i0]) ke_95_20 rfl rfl rfl
theorem ke_95_23 : alook 95 23 = some (23, .if_icmp .ge 53, 3, (76, 0, 0, 0, 0), ⟨"", "", ""⟩, "") := rfl
theorem ee_95_23 {d : Nat} {ls st : List Value} {h : aH} {x y : Int32} : go d 95 23 ls (.int y :: .int x :: st) h = if y ≤ x then go d 95 76 ls st h else go d 95 26 ls st h := go_ci (go_if2 (tg := 76) (q := 26) (f := fun x y => decide (y ≤ x)) ke_95_23 rfl)
theorem ke_95_26 : alook 95 26 = some (26, .iload_n 3, 1, (0, 0, 0, 0, 0), ⟨"", "", ""⟩, "") := rfl
theorem ee_95_26 {d : Nat} {h : aH} {l0 l1 l2 l4 l5 : Value} {x : Int32} {st : List Value} : go d 95 26 [l0, l1, l2, .int x, l4, l5] st h = go d 95 27 [l0, l1, l2, .int x, l4, l5] (.int x :: st) h := go_plain (q := (27, [l0, l1, l2, .int x, l4, l5], (.int x :: st), h)) ke_95_26 rfl
theorem ke_95_27 : alook 95 27 = some (27, .ifCond .eq 49, 3, (76, 0, 0, 0, 0), ⟨"", "", ""⟩, "") := rfl
theorem ee_95_27 {d : Nat} {ls st : List Value} {h : aH} {x : Int32} : go d 95 27 ls (.int x :: st) h = if x = 0 then go d 95 76 ls st h else go d 95 30 ls st h := go_c1 (go_if1 (tg := 76) (q := 30) (f := fun x => decide (x = 0)) ke_95_27 rfl)
theorem ke_95_30 : alook 95 30 = some (30, .aload_n 0, 1, (0, 0, 0, 0, 0), ⟨"", "", ""⟩, "") := rfl
theorem ee_95_30 {d : Nat} {h : aH} {l1 l2 l3 l4 l5 : Value} {x : Nat} {st : List Value} : go d 95 30 [.ref x, l1, l2, l3, l4, l5] st h = go d 95 31 [.ref x, l1, l2, l3, l4, l5] (.ref x :: st) h := go_plain (q := (31, [.ref x, l1, l2, l3, l4, l5], (.ref x :: st), h)) ke_95_30 rfl
theorem ee_95_30N {d : Nat} {h : aH} {l1 l2 l3 l4 l5 : Value} {st : List Value} : go d 95 30 [.null, l1, l2, l3, l4, l5] st h = go d 95 31 [.null, l1, l2, l3, l4, l5] (.null :: st) h := go_plain (q := (31, [.null, l1, l2, l3, l4, l5], (.null :: st), h)) ke_95_30 rfl
theorem ke_95_31 : alook 95 31 = some (31, .getfield 7, 3, (0, 8, 8, 2, 0), ⟨"", "", ""⟩, "WordHidesModel") := rfl
theorem ee_95_31 {d : Nat} {ls st : List Value} {h : aH} {r : Nat} : go d 95 31 ls (.ref r :: st) h = (gf h r 0 8 8).bind fun z => go d 95 34 ls (z :: st) h := go_getf ke_95_31
theorem ke_95_34 : alook 95 34 = some (34, .iconst 1, 1, (0, 0, 0, 0, 0), ⟨"", "", ""⟩, "") := rfl
theorem ee_95_34 {d : Nat} {h : aH} {ls st : List Value} : go d 95 34 ls st h = go d 95 35 ls (.int 1 :: st) h := go_plain (q := (35, ls, (.int 1 :: st), h)) ke_95_34 rfl
theorem ke_95_35 : alook 95 35 = some (35, .aload_n 0, 1, (0, 0, 0, 0, 0), ⟨"", "", ""⟩, "") := rfl
theorem ee_95_35 {d : Nat} {h : aH} {l1 l2 l3 l4 l5 : Value} {x : Nat} {st : List Value} : go d 95 35 [.ref x, l1, l2, l3, l4, l5] st h = go d 95 36 [.ref x, l1, l2, l3, l4, l5] (.ref x :: st) h := go_plain (q := (36, [.ref x, l1, l2, l3, l4, l5], (.ref x :: st), h)) ke_95_35 rfl
theorem ee_95_35N {d : Nat} {h : aH} {l1 l2 l3 l4 l5 : Value} {st : List Value} : go d 95 35 [.null, l1, l2, l3, l4, l5] st h = go d 95 36 [.null, l1, l2, l3, l4, l5] (.null :: st) h := go_plain (q := (36, [.null, l1, l2, l3, l4, l5], (.null :: st), h)) ke_95_35 rfl
theorem ke_95_36 : alook 95 36 = some (36, .iload_n 2, 1, (0, 0, 0, 0, 0), ⟨"", "", ""⟩, "") := rfl
theorem ee_95_36 {d : Nat} {h : aH} {l0 l1 l3 l4 l5 : Value} {x : Int32} {st : List Value} : go d 95 36 [l0, l1, .int x, l3, l4, l5] st h = go d 95 37 [l0, l1, .int x, l3, l4, l5] (.int x :: st) h := go_plain (q := (37, [l0, l1, .int x, l3, l4, l5], (.int x :: st), h)) ke_95_36 rfl
theorem ke_95_37 : alook 95 37 = some (37, .iload 4, 2, (0, 0, 0, 0, 0), ⟨"", "", ""⟩, "") := rfl
theorem ee_95_37 {d : Nat} {h : aH} {l0 l1 l2 l3 l5 : Value} {x : Int32} {st : List Value} : go d 95 37 [l0, l1, l2, l3, .int x, l5] st h = go d 95 39 [l0, l1, l2, l3, .int x, l5] (.int x :: st) h := go_plain (q := (39, [l0, l1, l2, l3, .int x, l5], (.int x :: st), h)) ke_95_37 rfl
theorem ke_95_39 : alook 95 39 = some (39, .invokevirtual 73, 3, (2, 8, 85, 8, 85), ⟨"WordHidesModel", "cellAt", "(II)I"⟩, "") := rfl
theorem ee_95_39 {d : Nat} {ls : List Value} {h : aH} {i0 : Int32} {i1 : Int32} {r2 : Nat} {i3 : Int32} {r4 : Nat} : go (d + 1) 95 39 ls [.int i0, .int i1, .ref r2, .int i3, .ref r4] h = if isC h r2 8 = true then (go d 85 0 [.ref r2, .int i1, .int i0, aU, aU, aU] [] h).bind (fun q => go (d + 1) 95 42 ls (q.1.toList ++ [.int i3, .ref r4]) q.2) else none := go_cv1 (as := [.int i1, .int i0]) (rest := [.int i3, .ref r4]) (L := [.ref r2, .int i1, .int i0, aU, aU, aU]) ke_95_39 rfl rfl rfl
theorem ke_95_42 : alook 95 42 = some (42, .iadd, 1, (0, 0, 0, 0, 0), ⟨"", "", ""⟩, "") := rfl
theorem ee_95_42 {d : Nat} {h : aH} {ls st : List Value} {x y : Int32} : go d 95 42 ls (.int y :: .int x :: st) h = go d 95 43 ls (.int (x + y) :: st) h := go_plain (q := (43, ls, (.int (x + y) :: st), h)) ke_95_42 rfl
theorem ke_95_43 : alook 95 43 = some (43, .iaload, 1, (0, 0, 0, 0, 0), ⟨"", "", ""⟩, "") := rfl
theorem ee_95_43 {d : Nat} {ls st : List Value} {h : aH} {r : Nat} {i : Int32} : go d 95 43 ls (.int i :: .ref r :: st) h = (ia h r i).bind fun z => go d 95 44 ls (.int z :: st) h := go_iald ke_95_43
theorem ke_95_44 : alook 95 44 = some (44, .istore 5, 2, (0, 0, 0, 0, 0), ⟨"", "", ""⟩, "") := rfl
theorem ee_95_44 {d : Nat} {h : aH} {l0 l1 l2 l3 l4 l5 : Value} {x : Int32} {st : List Value} : go d 95 44 [l0, l1, l2, l3, l4, l5] (.int x :: st) h = go d 95 46 [l0, l1, l2, l3, l4, .int x] st h := go_plain (q := (46, [l0, l1, l2, l3, l4, .int x], st, h)) ke_95_44 rfl
theorem ke_95_46 : alook 95 46 = some (46, .iload 5, 2, (0, 0, 0, 0, 0), ⟨"", "", ""⟩, "") := rfl
theorem ee_95_46 {d : Nat} {h : aH} {l0 l1 l2 l3 l4 : Value} {x : Int32} {st : List Value} : go d 95 46 [l0, l1, l2, l3, l4, .int x] st h = go d 95 48 [l0, l1, l2, l3, l4, .int x] (.int x :: st) h := go_plain (q := (48, [l0, l1, l2, l3, l4, .int x], (.int x :: st), h)) ke_95_46 rfl
theorem ke_95_48 : alook 95 48 = some (48, .ifCond .eq 16, 3, (64, 0, 0, 0, 0), ⟨"", "", ""⟩, "") := rfl
theorem ee_95_48 {d : Nat} {ls st : List Value} {h : aH} {x : Int32} : go d 95 48 ls (.int x :: st) h = if x = 0 then go d 95 64 ls st h else go d 95 51 ls st h := go_c1 (go_if1 (tg := 64) (q := 51) (f := fun x => decide (x = 0)) ke_95_48 rfl)
theorem ke_95_51 : alook 95 51 = some (51, .iload 5, 2, (0, 0, 0, 0, 0), ⟨"", "", ""⟩, "") := rfl
theorem ee_95_51 {d : Nat} {h : aH} {l0 l1 l2 l3 l4 : Value} {x : Int32} {st : List Value} : go d 95 51 [l0, l1, l2, l3, l4, .int x] st h = go d 95 53 [l0, l1, l2, l3, l4, .int x] (.int x :: st) h := go_plain (q := (53, [l0, l1, l2, l3, l4, .int x], (.int x :: st), h)) ke_95_51 rfl
theorem ke_95_53 : alook 95 53 = some (53, .aload_n 0, 1, (0, 0, 0, 0, 0), ⟨"", "", ""⟩, "") := rfl
theorem ee_95_53 {d : Nat} {h : aH} {l1 l2 l3 l4 l5 : Value} {x : Nat} {st : List Value} : go d 95 53 [.ref x, l1, l2, l3, l4, l5] st h = go d 95 54 [.ref x, l1, l2, l3, l4, l5] (.ref x :: st) h := go_plain (q := (54, [.ref x, l1, l2, l3, l4, l5], (.ref x :: st), h)) ke_95_53 rfl
theorem ee_95_53N {d : Nat} {h : aH} {l1 l2 l3 l4 l5 : Value} {st : List Value} : go d 95 53 [.null, l1, l2, l3, l4, l5] st h = go d 95 54 [.null, l1, l2, l3, l4, l5] (.null :: st) h := go_plain (q := (54, [.null, l1, l2, l3, l4, l5], (.null :: st), h)) ke_95_53 rfl
theorem ke_95_54 : alook 95 54 = some (54, .iconst 0, 1, (0, 0, 0, 0, 0), ⟨"", "", ""⟩, "") := rfl
theorem ee_95_54 {d : Nat} {h : aH} {ls st : List Value} : go d 95 54 ls st h = go d 95 55 ls (.int 0 :: st) h := go_plain (q := (55, ls, (.int 0 :: st), h)) ke_95_54 rfl
theorem ke_95_55 : alook 95 55 = some (55, .iload_n 1, 1, (0, 0, 0, 0, 0), ⟨"", "", ""⟩, "") := rfl
theorem ee_95_55 {d : Nat} {h : aH} {l0 l2 l3 l4 l5 : Value} {x : Int32} {st : List Value} : go d 95 55 [l0, .int x, l2, l3, l4, l5] st h = go d 95 56 [l0, .int x, l2, l3, l4, l5] (.int x :: st) h := go_plain (q := (56, [l0, .int x, l2, l3, l4, l5], (.int x :: st), h)) ke_95_55 rfl
theorem ke_95_56 : alook 95 56 = some (56, .iload 4, 2, (0, 0, 0, 0, 0), ⟨"", "", ""⟩, "") := rfl
theorem ee_95_56 {d : Nat} {h : aH} {l0 l1 l2 l3 l5 : Value} {x : Int32} {st : List Value} : go d 95 56 [l0, l1, l2, l3, .int x, l5] st h = go d 95 58 [l0, l1, l2, l3, .int x, l5] (.int x :: st) h := go_plain (q := (58, [l0, l1, l2, l3, .int x, l5], (.int x :: st), h)) ke_95_56 rfl
theorem ke_95_58 : alook 95 58 = some (58, .invokevirtual 62, 3, (3, 8, 72, 8, 72), ⟨"WordHidesModel", "letterOf", "(III)I"⟩, "") := rfl
theorem ee_95_58 {d : Nat} {ls : List Value} {h : aH} {i0 : Int32} {i1 : Int32} {i2 : Int32} {r3 : Nat} {i4 : Int32} : go (d + 1) 95 58 ls [.int i0, .int i1, .int i2, .ref r3, .int i4] h = if isC h r3 8 = true then (go d 72 0 [.ref r3, .int i2, .int i1, .int i0] [] h).bind (fun q => go (d + 1) 95 61 ls (q.1.toList ++ [.int i4]) q.2) else none := go_cv1 (as := [.int i2, .int i1, .int i0]) (rest := [.int i4]) (L := [.ref r3, .int i2, .int i1, .int i0]) ke_95_58 rfl rfl rfl
theorem ke_95_61 : alook 95 61 = some (61, .if_icmp .ne 7, 3, (68, 0, 0, 0, 0), ⟨"", "", ""⟩, "") := rfl
theorem ee_95_61 {d : Nat} {ls st : List Value} {h : aH} {x y : Int32} : go d 95 61 ls (.int y :: .int x :: st) h = if ¬ x = y then go d 95 68 ls st h else go d 95 64 ls st h := go_ci (go_if2 (tg := 68) (q := 64) (f := fun x y => decide (¬ x = y)) ke_95_61 rfl)
theorem ke_95_64 : alook 95 64 = some (64, .iconst 1, 1, (0, 0, 0, 0, 0), ⟨"", "", ""⟩, "") := rfl
theorem ee_95_64 {d : Nat} {h : aH} {ls st : List Value} : go d 95 64 ls st h = go d 95 65 ls (.int 1 :: st) h := go_plain (q := (65, ls, (.int 1 :: st), h)) ke_95_64 rfl
theorem ke_95_65 : alook 95 65 = some (65, .goto 4, 3, (69, 0, 0, 0, 0), ⟨"", "", ""⟩, "") := rfl
theorem ee_95_65 {d : Nat} {h : aH} {ls st : List Value} : go d 95 65 ls st h = go d 95 69 ls st h := go_plain (q := (69, ls, st, h)) ke_95_65 rfl
theorem ke_95_68 : alook 95 68 = some (68, .iconst 0, 1, (0, 0, 0, 0, 0), ⟨"", "", ""⟩, "") := rfl
theorem ee_95_68 {d : Nat} {h : aH} {ls st : List Value} : go d 95 68 ls st h = go d 95 69 ls (.int 0 :: st) h := go_plain (q := (69, ls, (.int 0 :: st), h)) ke_95_68 rfl
theorem ke_95_69 : alook 95 69 = some (69, .istore_n 3, 1, (0, 0, 0, 0, 0), ⟨"", "", ""⟩, "") := rfl
theorem ee_95_69 {d : Nat} {h : aH} {l0 l1 l2 l3 l4 l5 : Value} {x : Int32} {st : List Value} : go d 95 69 [l0, l1, l2, l3, l4, l5] (.int x :: st) h = go d 95 70 [l0, l1, l2, .int x, l4, l5] st h := go_plain (q := (70, [l0, l1, l2, .int x, l4, l5], st, h)) ke_95_69 rfl
theorem ke_95_70 : alook 95 70 = some (70, .iinc 4 1, 3, (0, 0, 0, 0, 0), ⟨"", "", ""⟩, "") := rfl
theorem ee_95_70 {d : Nat} {h : aH} {l0 l1 l2 l3 l5 : Value} {x : Int32} {st : List Value} : go d 95 70 [l0, l1, l2, l3, .int x, l5] st h = go d 95 73 [l0, l1, l2, l3, .int (x + 1), l5] st h := go_plain (q := (73, [l0, l1, l2, l3, .int (x + 1), l5], st, h)) ke_95_70 rfl
theorem ke_95_73 : alook 95 73 = some (73, .goto (-58), 3, (15, 0, 0, 0, 0), ⟨"", "", ""⟩, "") := rfl
theorem ee_95_73 {d : Nat} {h : aH} {ls st : List Value} : go d 95 73 ls st h = go d 95 15 ls st h := go_plain (q := (15, ls, st, h)) ke_95_73 rfl
theorem ke_95_76 : alook 95 76 = some (76, .iload_n 3, 1, (0, 0, 0, 0, 0), ⟨"", "", ""⟩, "") := rfl
theorem ee_95_76 {d : Nat} {h : aH} {l0 l1 l2 l4 l5 : Value} {x : Int32} {st : List Value} : go d 95 76 [l0, l1, l2, .int x, l4, l5] st h = go d 95 77 [l0, l1, l2, .int x, l4, l5] (.int x :: st) h := go_plain (q := (77, [l0, l1, l2, .int x, l4, l5], (.int x :: st), h)) ke_95_76 rfl
theorem ke_95_77 : alook 95 77 = some (77, .ireturn, 1, (1, 0, 0, 0, 0), ⟨"", "", ""⟩, "") := rfl
theorem ee_95_77 {d : Nat} {ls : List Value} {h : aH} : go d 95 77 ls [.int 0] h = some (some (.int 0), h) := go_zret0 ke_95_77
theorem ee_95_77T {d : Nat} {ls : List Value} {h : aH} : go d 95 77 ls [.int 1] h = some (some (.int 1), h) := go_zret1 ke_95_77
theorem ke_96_0 : alook 96 0 = some (0, .aload_n 0, 1, (0, 0, 0, 0, 0), ⟨"", "", ""⟩, "") := rfl
theorem ee_96_0 {d : Nat} {h : aH} {l1 l2 l3 l4 l5 : Value} {x : Nat} {st : List Value} : go d 96 0 [.ref x, l1, l2, l3, l4, l5] st h = go d 96 1 [.ref x, l1, l2, l3, l4, l5] (.ref x :: st) h := go_plain (q := (1, [.ref x, l1, l2, l3, l4, l5], (.ref x :: st), h)) ke_96_0 rfl
theorem ee_96_0N {d : Nat} {h : aH} {l1 l2 l3 l4 l5 : Value} {st : List Value} : go d 96 0 [.null, l1, l2, l3, l4, l5] st h = go d 96 1 [.null, l1, l2, l3, l4, l5] (.null :: st) h := go_plain (q := (1, [.null, l1, l2, l3, l4, l5], (.null :: st), h)) ke_96_0 rfl
theorem ke_96_1 : alook 96 1 = some (1, .iconst 0, 1, (0, 0, 0, 0, 0), ⟨"", "", ""⟩, "") := rfl
theorem ee_96_1 {d : Nat} {h : aH} {ls st : List Value} : go d 96 1 ls st h = go d 96 2 ls (.int 0 :: st) h := go_plain (q := (2, ls, (.int 0 :: st), h)) ke_96_1 rfl
theorem ke_96_2 : alook 96 2 = some (2, .iload_n 1, 1, (0, 0, 0, 0, 0), ⟨"", "", ""⟩, "") := rfl
theorem ee_96_2 {d : Nat} {h : aH} {l0 l2 l3 l4 l5 : Value} {x : Int32} {st : List Value} : go d 96 2 [l0, .int x, l2, l3, l4, l5] st h = go d 96 3 [l0, .int x, l2, l3, l4, l5] (.int x :: st) h := go_plain (q := (3, [l0, .int x, l2, l3, l4, l5], (.int x :: st), h)) ke_96_2 rfl
theorem ke_96_3 : alook 96 3 = some (3, .invokevirtual 54, 3, (2, 8, 70, 8, 70), ⟨"WordHidesModel", "isWord", "(II)Z"⟩, "") := rfl
theorem ee_96_3 {d : Nat} {ls : List Value} {h : aH} {i0 : Int32} {i1 : Int32} {r2 : Nat} : go (d + 1) 96 3 ls [.int i0, .int i1, .ref r2] h = if isC h r2 8 = true then (go d 70 0 [.ref r2, .int i1, .int i0] [] h).bind (fun q => go (d + 1) 96 6 ls (q.1.toList ++ []) q.2) else none := go_cv1 (as := [.int i1, .int i0]) (rest := []) (L := [.ref r2, .int i1, .int i0]) ke_96_3 rfl rfl rfl
theorem ke_96_6 : alook 96 6 = some (6, .ifCond .ne 5, 3, (11, 0, 0, 0, 0), ⟨"", "", ""⟩, "") := rfl
theorem ee_96_6 {d : Nat} {ls st : List Value} {h : aH} {x : Int32} : go d 96 6 ls (.int x :: st) h = if ¬ x = 0 then go d 96 11 ls st h else go d 96 9 ls st h := go_c1 (go_if1 (tg := 11) (q := 9) (f := fun x => decide (¬ x = 0)) ke_96_6 rfl)
theorem ke_96_9 : alook 96 9 = some (9, .iconst (-1), 1, (0, 0, 0, 0, 0), ⟨"", "", ""⟩, "") := rfl
theorem ee_96_9 {d : Nat} {h : aH} {ls st : List Value} : go d 96 9 ls st h = go d 96 10 ls (.int (-1) :: st) h := go_plain (q := (10, ls, (.int (-1) :: st), h)) ke_96_9 rfl
theorem ke_96_10 : alook 96 10 = some (10, .ireturn, 1, (0, 0, 0, 0, 0), ⟨"", "", ""⟩, "") := rfl
theorem ee_96_10 {d : Nat} {ls : List Value} {h : aH} {v : Int32} : go d 96 10 ls [.int v] h = some (some (.int v), h) := go_iret ke_96_10
theorem ke_96_11 : alook 96 11 = some (11, .aload_n 0, 1, (0, 0, 0, 0, 0), ⟨"", "", ""⟩, "") := rfl
theorem ee_96_11 {d : Nat} {h : aH} {l1 l2 l3 l4 l5 : Value} {x : Nat} {st : List Value} : go d 96 11 [.ref x, l1, l2, l3, l4, l5] st h = go d 96 12 [.ref x, l1, l2, l3, l4, l5] (.ref x :: st) h := go_plain (q := (12, [.ref x, l1, l2, l3, l4, l5], (.ref x :: st), h)) ke_96_11 rfl
theorem ee_96_11N {d : Nat} {h : aH} {l1 l2 l3 l4 l5 : Value} {st : List Value} : go d 96 11 [.null, l1, l2, l3, l4, l5] st h = go d 96 12 [.null, l1, l2, l3, l4, l5] (.null :: st) h := go_plain (q := (12, [.null, l1, l2, l3, l4, l5], (.null :: st), h)) ke_96_11 rfl
theorem ke_96_12 : alook 96 12 = some (12, .iload_n 2, 1, (0, 0, 0, 0, 0), ⟨"", "", ""⟩, "") := rfl
theorem ee_96_12 {d : Nat} {h : aH} {l0 l1 l3 l4 l5 : Value} {x : Int32} {st : List Value} : go d 96 12 [l0, l1, .int x, l3, l4, l5] st h = go d 96 13 [l0, l1, .int x, l3, l4, l5] (.int x :: st) h := go_plain (q := (13, [l0, l1, .int x, l3, l4, l5], (.int x :: st), h)) ke_96_12 rfl
theorem ke_96_13 : alook 96 13 = some (13, .invokevirtual 93, 3, (1, 8, 69, 8, 69), ⟨"WordHidesModel", "isPlace", "(I)Z"⟩, "") := rfl
theorem ee_96_13 {d : Nat} {ls : List Value} {h : aH} {i0 : Int32} {r1 : Nat} : go (d + 1) 96 13 ls [.int i0, .ref r1] h = if isC h r1 8 = true then (go d 69 0 [.ref r1, .int i0] [] h).bind (fun q => go (d + 1) 96 16 ls (q.1.toList ++ []) q.2) else none := go_cv1 (as := [.int i0]) (rest := []) (L := [.ref r1, .int i0]) ke_96_13 rfl rfl rfl
theorem ke_96_16 : alook 96 16 = some (16, .ifCond .ne 6, 3, (22, 0, 0, 0, 0), ⟨"", "", ""⟩, "") := rfl
theorem ee_96_16 {d : Nat} {ls st : List Value} {h : aH} {x : Int32} : go d 96 16 ls (.int x :: st) h = if ¬ x = 0 then go d 96 22 ls st h else go d 96 19 ls st h := go_c1 (go_if1 (tg := 22) (q := 19) (f := fun x => decide (¬ x = 0)) ke_96_16 rfl)
theorem ke_96_19 : alook 96 19 = some (19, .bipush (-2), 2, (0, 0, 0, 0, 0), ⟨"", "", ""⟩, "") := rfl
theorem ee_96_19 {d : Nat} {h : aH} {ls st : List Value} : go d 96 19 ls st h = go d 96 21 ls (.int (-2) :: st) h := go_plain (q := (21, ls, (.int (-2) :: st), h)) ke_96_19 rfl
theorem ke_96_21 : alook 96 21 = some (21, .ireturn, 1, (0, 0, 0, 0, 0), ⟨"", "", ""⟩, "") := rfl
theorem ee_96_21 {d : Nat} {ls : List Value} {h : aH} {v : Int32} : go d 96 21 ls [.int v] h = some (some (.int v), h) := go_iret ke_96_21
theorem ke_96_22 : alook 96 22 = some (22, .aload_n 0, 1, (0, 0, 0, 0, 0), ⟨"", "", ""⟩, "") := rfl
theorem ee_96_22 {d : Nat} {h : aH} {l1 l2 l3 l4 l5 : Value} {x : Nat} {st : List Value} : go d 96 22 [.ref x, l1, l2, l3, l4, l5] st h = go d 96 23 [.ref x, l1, l2, l3, l4, l5] (.ref x :: st) h := go_plain (q := (23, [.ref x, l1, l2, l3, l4, l5], (.ref x :: st), h)) ke_96_22 rfl
theorem ee_96_22N {d : Nat} {h : aH} {l1 l2 l3 l4 l5 : Value} {st : List Value} : go d 96 22 [.null, l1, l2, l3, l4, l5] st h = go d 96 23 [.null, l1, l2, l3, l4, l5] (.null :: st) h := go_plain (q := (23, [.null, l1, l2, l3, l4, l5], (.null :: st), h)) ke_96_22 rfl
theorem ke_96_23 : alook 96 23 = some (23, .iload_n 1, 1, (0, 0, 0, 0, 0), ⟨"", "", ""⟩, "") := rfl
theorem ee_96_23 {d : Nat} {h : aH} {l0 l2 l3 l4 l5 : Value} {x : Int32} {st : List Value} : go d 96 23 [l0, .int x, l2, l3, l4, l5] st h = go d 96 24 [l0, .int x, l2, l3, l4, l5] (.int x :: st) h := go_plain (q := (24, [l0, .int x, l2, l3, l4, l5], (.int x :: st), h)) ke_96_23 rfl
theorem ke_96_24 : alook 96 24 = some (24, .iload_n 2, 1, (0, 0, 0, 0, 0), ⟨"", "", ""⟩, "") := rfl
theorem ee_96_24 {d : Nat} {h : aH} {l0 l1 l3 l4 l5 : Value} {x : Int32} {st : List Value} : go d 96 24 [l0, l1, .int x, l3, l4, l5] st h = go d 96 25 [l0, l1, .int x, l3, l4, l5] (.int x :: st) h := go_plain (q := (25, [l0, l1, .int x, l3, l4, l5], (.int x :: st), h)) ke_96_24 rfl
theorem ke_96_25 : alook 96 25 = some (25, .invokevirtual 96, 3, (2, 8, 95, 8, 95), ⟨"WordHidesModel", "canPut", "(II)Z"⟩, "") := rfl
theorem ee_96_25 {d : Nat} {ls : List Value} {h : aH} {i0 : Int32} {i1 : Int32} {r2 : Nat} : go (d + 1) 96 25 ls [.int i0, .int i1, .ref r2] h = if isC h r2 8 = true then (go d 95 0 [.ref r2, .int i1, .int i0, aU, aU, aU] [] h).bind (fun q => go (d + 1) 96 28 ls (q.1.toList ++ []) q.2) else none := go_cv1 (as := [.int i1, .int i0]) (rest := []) (L := [.ref r2, .int i1, .int i0, aU, aU, aU]) ke_96_25 rfl rfl rfl
theorem ke_96_28 : alook 96 28 = some (28, .ifCond .ne 6, 3, (34, 0, 0, 0, 0), ⟨"", "", ""⟩, "") := rfl
theorem ee_96_28 {d : Nat} {ls st : List Value} {h : aH} {x : Int32} : go d 96 28 ls (.int x :: st) h = if ¬ x = 0 then go d 96 34 ls st h else go d 96 31 ls st h := go_c1 (go_if1 (tg := 34) (q := 31) (f := fun x => decide (¬ x = 0)) ke_96_28 rfl)
theorem ke_96_31 : alook 96 31 = some (31, .bipush (-5), 2, (0, 0, 0, 0, 0), ⟨"", "", ""⟩, "") := rfl
theorem ee_96_31 {d : Nat} {h : aH} {ls st : List Value} : go d 96 31 ls st h = go d 96 33 ls (.int (-5) :: st) h := go_plain (q := (33, ls, (.int (-5) :: st), h)) ke_96_31 rfl
theorem ke_96_33 : alook 96 33 = some (33, .ireturn, 1, (0, 0, 0, 0, 0), ⟨"", "", ""⟩, "") := rfl
theorem ee_96_33 {d : Nat} {ls : List Value} {h : aH} {v : Int32} : go d 96 33 ls [.int v] h = some (some (.int v), h) := go_iret ke_96_33
theorem ke_96_34 : alook 96 34 = some (34, .iconst 0, 1, (0, 0, 0, 0, 0), ⟨"", "", ""⟩, "") := rfl
theorem ee_96_34 {d : Nat} {h : aH} {ls st : List Value} : go d 96 34 ls st h = go d 96 35 ls (.int 0 :: st) h := go_plain (q := (35, ls, (.int 0 :: st), h)) ke_96_34 rfl
theorem ke_96_35 : alook 96 35 = some (35, .istore_n 3, 1, (0, 0, 0, 0, 0), ⟨"", "", ""⟩, "") := rfl
theorem ee_96_35 {d : Nat} {h : aH} {l0 l1 l2 l3 l4 l5 : Value} {x : Int32} {st : List Value} : go d 96 35 [l0, l1, l2, l3, l4, l5] (.int x :: st) h = go d 96 36 [l0, l1, l2, .int x, l4, l5] st h := go_plain (q := (36, [l0, l1, l2, .int x, l4, l5], st, h)) ke_96_35 rfl
theorem ke_96_36 : alook 96 36 = some (36, .iconst 0, 1, (0, 0, 0, 0, 0), ⟨"", "", ""⟩, "") := rfl
theorem ee_96_36 {d : Nat} {h : aH} {ls st : List Value} : go d 96 36 ls st h = go d 96 37 ls (.int 0 :: st) h := go_plain (q := (37, ls, (.int 0 :: st), h)) ke_96_36 rfl
theorem ke_96_37 : alook 96 37 = some (37, .istore 4, 2, (0, 0, 0, 0, 0), ⟨"", "", ""⟩, "") := rfl
theorem ee_96_37 {d : Nat} {h : aH} {l0 l1 l2 l3 l4 l5 : Value} {x : Int32} {st : List Value} : go d 96 37 [l0, l1, l2, l3, l4, l5] (.int x :: st) h = go d 96 39 [l0, l1, l2, l3, .int x, l5] st h := go_plain (q := (39, [l0, l1, l2, l3, .int x, l5], st, h)) ke_96_37 rfl
theorem ke_96_39 : alook 96 39 = some (39, .iload 4, 2, (0, 0, 0, 0, 0), ⟨"", "", ""⟩, "") := rfl
theorem ee_96_39 {d : Nat} {h : aH} {l0 l1 l2 l3 l5 : Value} {x : Int32} {st : List Value} : go d 96 39 [l0, l1, l2, l3, .int x, l5] st h = go d 96 41 [l0, l1, l2, l3, .int x, l5] (.int x :: st) h := go_plain (q := (41, [l0, l1, l2, l3, .int x, l5], (.int x :: st), h)) ke_96_39 rfl
theorem ke_96_41 : alook 96 41 = some (41, .aload_n 0, 1, (0, 0, 0, 0, 0), ⟨"", "", ""⟩, "") := rfl
theorem ee_96_41 {d : Nat} {h : aH} {l1 l2 l3 l4 l5 : Value} {x : Nat} {st : List Value} : go d 96 41 [.ref x, l1, l2, l3, l4, l5] st h = go d 96 42 [.ref x, l1, l2, l3, l4, l5] (.ref x :: st) h := go_plain (q := (42, [.ref x, l1, l2, l3, l4, l5], (.ref x :: st), h)) ke_96_41 rfl
theorem ee_96_41N {d : Nat} {h : aH} {l1 l2 l3 l4 l5 : Value} {st : List Value} : go d 96 41 [.null, l1, l2, l3, l4, l5] st h = go d 96 42 [.null, l1, l2, l3, l4, l5] (.null :: st) h := go_plain (q := (42, [.null, l1, l2, l3, l4, l5], (.null :: st), h)) ke_96_41 rfl
theorem ke_96_42 : alook 96 42 = some (42, .iconst 0, 1, (0, 0, 0, 0, 0), ⟨"", "", ""⟩, "") := rfl
theorem ee_96_42 {d : Nat} {h : aH} {ls st : List Value} : go d 96 42 ls st h = go d 96 43 ls (.int 0 :: st) h := go_plain (q := (43, ls, (.int 0 :: st), h)) ke_96_42 rfl
theorem ke_96_43 : alook 96 43 = some (43, .iload_n 1, 1, (0, 0, 0, 0, 0), ⟨"", "", ""⟩, "") := rfl
theorem ee_96_43 {d : Nat} {h : aH} {l0 l2 l3 l4 l5 : Value} {x : Int32} {st : List Value} : go d 96 43 [l0, .int x, l2, l3, l4, l5] st h = go d 96 44 [l0, .int x, l2, l3, l4, l5] (.int x :: st) h := go_plain (q := (44, [l0, .int x, l2, l3, l4, l5], (.int x :: st), h)) ke_96_43 rfl
theorem ke_96_44 : alook 96 44 = some (44, .invokevirtual 58, 3, (2, 8, 71, 8, 71), ⟨"WordHidesModel", "longOf", "(II)I"⟩, "") := rfl
theorem ee_96_44 {d : Nat} {ls : List Value} {h : aH} {i0 : Int32} {i1 : Int32} {r2 : Nat} {i3 : Int32} : go (d + 1) 96 44 ls [.int i0, .int i1, .ref r2, .int i3] h = if isC h r2 8 = true then (go d 71 0 [.ref r2, .int i1, .int i0] [] h).bind (fun q => go (d + 1) 96 47 ls (q.1.toList ++ [.int i3]) q.2) else none := go_cv1 (as := [.int i1, .int i0]) (rest := [.int i3]) (L := [.ref r2, .int i1, .int i0]) ke_96_44 rfl rfl rfl
theorem ke_96_47 : alook 96 47 = some (47, .if_icmp .ge 53, 3, (100, 0, 0, 0, 0), ⟨"", "", ""⟩, "") := rfl
theorem ee_96_47 {d : Nat} {ls st : List Value} {h : aH} {x y : Int32} : go d 96 47 ls (.int y :: .int x :: st) h = if y ≤ x then go d 96 100 ls st h else go d 96 50 ls st h := go_ci (go_if2 (tg := 100) (q := 50) (f := fun x y => decide (y ≤ x)) ke_96_47 rfl)
theorem ke_96_50 : alook 96 50 = some (50, .iconst 1, 1, (0, 0, 0, 0, 0), ⟨"", "", ""⟩, "") := rfl
theorem ee_96_50 {d : Nat} {h : aH} {ls st : List Value} : go d 96 50 ls st h = go d 96 51 ls (.int 1 :: st) h := go_plain (q := (51, ls, (.int 1 :: st), h)) ke_96_50 rfl
theorem ke_96_51 : alook 96 51 = some (51, .aload_n 0, 1, (0, 0, 0, 0, 0), ⟨"", "", ""⟩, "") := rfl
theorem ee_96_51 {d : Nat} {h : aH} {l1 l2 l3 l4 l5 : Value} {x : Nat} {st : List Value} : go d 96 51 [.ref x, l1, l2, l3, l4, l5] st h = go d 96 52 [.ref x, l1, l2, l3, l4, l5] (.ref x :: st) h := go_plain (q := (52, [.ref x, l1, l2, l3, l4, l5], (.ref x :: st), h)) ke_96_51 rfl
theorem ee_96_51N {d : Nat} {h : aH} {l1 l2 l3 l4 l5 : Value} {st : List Value} : go d 96 51 [.null, l1, l2, l3, l4, l5] st h = go d 96 52 [.null, l1, l2, l3, l4, l5] (.null :: st) h := go_plain (q := (52, [.null, l1, l2, l3, l4, l5], (.null :: st), h)) ke_96_51 rfl
theorem ke_96_52 : alook 96 52 = some (52, .iload_n 2, 1, (0, 0, 0, 0, 0), ⟨"", "", ""⟩, "") := rfl
theorem ee_96_52 {d : Nat} {h : aH} {l0 l1 l3 l4 l5 : Value} {x : Int32} {st : List Value} : go d 96 52 [l0, l1, .int x, l3, l4, l5] st h = go d 96 53 [l0, l1, .int x, l3, l4, l5] (.int x :: st) h := go_plain (q := (53, [l0, l1, .int x, l3, l4, l5], (.int x :: st), h)) ke_96_52 rfl
theorem ke_96_53 : alook 96 53 = some (53, .iload 4, 2, (0, 0, 0, 0, 0), ⟨"", "", ""⟩, "") := rfl
theorem ee_96_53 {d : Nat} {h : aH} {l0 l1 l2 l3 l5 : Value} {x : Int32} {st : List Value} : go d 96 53 [l0, l1, l2, l3, .int x, l5] st h = go d 96 55 [l0, l1, l2, l3, .int x, l5] (.int x :: st) h := go_plain (q := (55, [l0, l1, l2, l3, .int x, l5], (.int x :: st), h)) ke_96_53 rfl
theorem ke_96_55 : alook 96 55 = some (55, .invokevirtual 73, 3, (2, 8, 85, 8, 85), ⟨"WordHidesModel", "cellAt", "(II)I"⟩, "") := rfl
theorem ee_96_55 {d : Nat} {ls : List Value} {h : aH} {i0 : Int32} {i1 : Int32} {r2 : Nat} {i3 : Int32} : go (d + 1) 96 55 ls [.int i0, .int i1, .ref r2, .int i3] h = if isC h r2 8 = true then (go d 85 0 [.ref r2, .int i1, .int i0, aU, aU, aU] [] h).bind (fun q => go (d + 1) 96 58 ls (q.1.toList ++ [.int i3]) q.2) else none := go_cv1 (as := [.int i1, .int i0]) (rest := [.int i3]) (L := [.ref r2, .int i1, .int i0, aU, aU, aU]) ke_96_55 rfl rfl rfl
theorem ke_96_58 : alook 96 58 = some (58, .iadd, 1, (0, 0, 0, 0, 0), ⟨"", "", ""⟩, "") := rfl
theorem ee_96_58 {d : Nat} {h : aH} {ls st : List Value} {x y : Int32} : go d 96 58 ls (.int y :: .int x :: st) h = go d 96 59 ls (.int (x + y) :: st) h := go_plain (q := (59, ls, (.int (x + y) :: st), h)) ke_96_58 rfl
theorem ke_96_59 : alook 96 59 = some (59, .istore 5, 2, (0, 0, 0, 0, 0), ⟨"", "", ""⟩, "") := rfl
theorem ee_96_59 {d : Nat} {h : aH} {l0 l1 l2 l3 l4 l5 : Value} {x : Int32} {st : List Value} : go d 96 59 [l0, l1, l2, l3, l4, l5] (.int x :: st) h = go d 96 61 [l0, l1, l2, l3, l4, .int x] st h := go_plain (q := (61, [l0, l1, l2, l3, l4, .int x], st, h)) ke_96_59 rfl
theorem ke_96_61 : alook 96 61 = some (61, .iload_n 3, 1, (0, 0, 0, 0, 0), ⟨"", "", ""⟩, "") := rfl
theorem ee_96_61 {d : Nat} {h : aH} {l0 l1 l2 l4 l5 : Value} {x : Int32} {st : List Value} : go d 96 61 [l0, l1, l2, .int x, l4, l5] st h = go d 96 62 [l0, l1, l2, .int x, l4, l5] (.int x :: st) h := go_plain (q := (62, [l0, l1, l2, .int x, l4, l5], (.int x :: st), h)) ke_96_61 rfl
theorem ke_96_62 : alook 96 62 = some (62, .aload_n 0, 1, (0, 0, 0, 0, 0), ⟨"", "", ""⟩, "") := rfl
theorem ee_96_62 {d : Nat} {h : aH} {l1 l2 l3 l4 l5 : Value} {x : Nat} {st : List Value} : go d 96 62 [.ref x, l1, l2, l3, l4, l5] st h = go d 96 63 [.ref x, l1, l2, l3, l4, l5] (.ref x :: st) h := go_plain (q := (63, [.ref x, l1, l2, l3, l4, l5], (.ref x :: st), h)) ke_96_62 rfl
theorem ee_96_62N {d : Nat} {h : aH} {l1 l2 l3 l4 l5 : Value} {st : List Value} : go d 96 62 [.null, l1, l2, l3, l4, l5] st h = go d 96 63 [.null, l1, l2, l3, l4, l5] (.null :: st) h := go_plain (q := (63, [.null, l1, l2, l3, l4, l5], (.null :: st), h)) ke_96_62 rfl
theorem ke_96_63 : alook 96 63 = some (63, .getfield 7, 3, (0, 8, 8, 2, 0), ⟨"", "", ""⟩, "WordHidesModel") := rfl
theorem ee_96_63 {d : Nat} {ls st : List Value} {h : aH} {r : Nat} : go d 96 63 ls (.ref r :: st) h = (gf h r 0 8 8).bind fun z => go d 96 66 ls (z :: st) h := go_getf ke_96_63
theorem ke_96_66 : alook 96 66 = some (66, .iload 5, 2, (0, 0, 0, 0, 0), ⟨"", "", ""⟩, "") := rfl
theorem ee_96_66 {d : Nat} {h : aH} {l0 l1 l2 l3 l4 : Value} {x : Int32} {st : List Value} : go d 96 66 [l0, l1, l2, l3, l4, .int x] st h = go d 96 68 [l0, l1, l2, l3, l4, .int x] (.int x :: st) h := go_plain (q := (68, [l0, l1, l2, l3, l4, .int x], (.int x :: st), h)) ke_96_66 rfl
theorem ke_96_68 : alook 96 68 = some (68, .iaload, 1, (0, 0, 0, 0, 0), ⟨"", "", ""⟩, "") := rfl
theorem ee_96_68 {d : Nat} {ls st : List Value} {h : aH} {r : Nat} {i : Int32} : go d 96 68 ls (.int i :: .ref r :: st) h = (ia h r i).bind fun z => go d 96 69 ls (.int z :: st) h := go_iald ke_96_68
theorem ke_96_69 : alook 96 69 = some (69, .ifCond .ne 7, 3, (76, 0, 0, 0, 0), ⟨"", "", ""⟩, "") := rfl
theorem ee_96_69 {d : Nat} {ls st : List Value} {h : aH} {x : Int32} : go d 96 69 ls (.int x :: st) h = if ¬ x = 0 then go d 96 76 ls st h else go d 96 72 ls st h := go_c1 (go_if1 (tg := 76) (q := 72) (f := fun x => decide (¬ x = 0)) ke_96_69 rfl)
theorem ke_96_72 : alook 96 72 = some (72, .iconst 1, 1, (0, 0, 0, 0, 0), ⟨"", "", ""⟩, "") := rfl
theorem ee_96_72 {d : Nat} {h : aH} {ls st : List Value} : go d 96 72 ls st h = go d 96 73 ls (.int 1 :: st) h := go_plain (q := (73, ls, (.int 1 :: st), h)) ke_96_72 rfl
theorem ke_96_73 : alook 96 73 = some (73, .goto 4, 3, (77, 0, 0, 0, 0), ⟨"", "", ""⟩, "") := rfl
theorem ee_96_73 {d : Nat} {h : aH} {ls st : List Value} : go d 96 73 ls st h = go d 96 77 ls st h := go_plain (q := (77, ls, st, h)) ke_96_73 rfl
theorem ke_96_76 : alook 96 76 = some (76, .iconst 0, 1, (0, 0, 0, 0, 0), ⟨"", "", ""⟩, "") := rfl
theorem ee_96_76 {d : Nat} {h : aH} {ls st : List Value} : go d 96 76 ls st h = go d 96 77 ls (.int 0 :: st) h := go_plain (q := (77, ls, (.int 0 :: st), h)) ke_96_76 rfl
theorem ke_96_77 : alook 96 77 = some (77, .iadd, 1, (0, 0, 0, 0, 0), ⟨"", "", ""⟩, "") := rfl
theorem ee_96_77 {d : Nat} {h : aH} {ls st : List Value} {x y : Int32} : go d 96 77 ls (.int y :: .int x :: st) h = go d 96 78 ls (.int (x + y) :: st) h := go_plain (q := (78, ls, (.int (x + y) :: st), h)) ke_96_77 rfl
theorem ke_96_78 : alook 96 78 = some (78, .istore_n 3, 1, (0, 0, 0, 0, 0), ⟨"", "", ""⟩, "") := rfl
theorem ee_96_78 {d : Nat} {h : aH} {l0 l1 l2 l3 l4 l5 : Value} {x : Int32} {st : List Value} : go d 96 78 [l0, l1, l2, l3, l4, l5] (.int x :: st) h = go d 96 79 [l0, l1, l2, .int x, l4, l5] st h := go_plain (q := (79, [l0, l1, l2, .int x, l4, l5], st, h)) ke_96_78 rfl
theorem ke_96_79 : alook 96 79 = some (79, .aload_n 0, 1, (0, 0, 0, 0, 0), ⟨"", "", ""⟩, "") := rfl
theorem ee_96_79 {d : Nat} {h : aH} {l1 l2 l3 l4 l5 : Value} {x : Nat} {st : List Value} : go d 96 79 [.ref x, l1, l2, l3, l4, l5] st h = go d 96 80 [.ref x, l1, l2, l3, l4, l5] (.ref x :: st) h := go_plain (q := (80, [.ref x, l1, l2, l3, l4, l5], (.ref x :: st), h)) ke_96_79 rfl
theorem ee_96_79N {d : Nat} {h : aH} {l1 l2 l3 l4 l5 : Value} {st : List Value} : go d 96 79 [.null, l1, l2, l3, l4, l5] st h = go d 96 80 [.null, l1, l2, l3, l4, l5] (.null :: st) h := go_plain (q := (80, [.null, l1, l2, l3, l4, l5], (.null :: st), h)) ke_96_79 rfl
theorem ke_96_80 : alook 96 80 = some (80, .getfield 7, 3, (0, 8, 8, 2, 0), ⟨"", "", ""⟩, "WordHidesModel") := rfl
theorem ee_96_80 {d : Nat} {ls st : List Value} {h : aH} {r : Nat} : go d 96 80 ls (.ref r :: st) h = (gf h r 0 8 8).bind fun z => go d 96 83 ls (z :: st) h := go_getf ke_96_80
theorem ke_96_83 : alook 96 83 = some (83, .iload 5, 2, (0, 0, 0, 0, 0), ⟨"", "", ""⟩, "") := rfl
theorem ee_96_83 {d : Nat} {h : aH} {l0 l1 l2 l3 l4 : Value} {x : Int32} {st : List Value} : go d 96 83 [l0, l1, l2, l3, l4, .int x] st h = go d 96 85 [l0, l1, l2, l3, l4, .int x] (.int x :: st) h := go_plain (q := (85, [l0, l1, l2, l3, l4, .int x], (.int x :: st), h)) ke_96_83 rfl
theorem ke_96_85 : alook 96 85 = some (85, .aload_n 0, 1, (0, 0, 0, 0, 0), ⟨"", "", ""⟩, "") := rfl
theorem ee_96_85 {d : Nat} {h : aH} {l1 l2 l3 l4 l5 : Value} {x : Nat} {st : List Value} : go d 96 85 [.ref x, l1, l2, l3, l4, l5] st h = go d 96 86 [.ref x, l1, l2, l3, l4, l5] (.ref x :: st) h := go_plain (q := (86, [.ref x, l1, l2, l3, l4, l5], (.ref x :: st), h)) ke_96_85 rfl
theorem ee_96_85N {d : Nat} {h : aH} {l1 l2 l3 l4 l5 : Value} {st : List Value} : go d 96 85 [.null, l1, l2, l3, l4, l5] st h = go d 96 86 [.null, l1, l2, l3, l4, l5] (.null :: st) h := go_plain (q := (86, [.null, l1, l2, l3, l4, l5], (.null :: st), h)) ke_96_85 rfl
theorem ke_96_86 : alook 96 86 = some (86, .iconst 0, 1, (0, 0, 0, 0, 0), ⟨"", "", ""⟩, "") := rfl
theorem ee_96_86 {d : Nat} {h : aH} {ls st : List Value} : go d 96 86 ls st h = go d 96 87 ls (.int 0 :: st) h := go_plain (q := (87, ls, (.int 0 :: st), h)) ke_96_86 rfl
theorem ke_96_87 : alook 96 87 = some (87, .iload_n 1, 1, (0, 0, 0, 0, 0), ⟨"", "", ""⟩, "") := rfl
theorem ee_96_87 {d : Nat} {h : aH} {l0 l2 l3 l4 l5 : Value} {x : Int32} {st : List Value} : go d 96 87 [l0, .int x, l2, l3, l4, l5] st h = go d 96 88 [l0, .int x, l2, l3, l4, l5] (.int x :: st) h := go_plain (q := (88, [l0, .int x, l2, l3, l4, l5], (.int x :: st), h)) ke_96_87 rfl
theorem ke_96_88 : alook 96 88 = some (88, .iload 4, 2, (0, 0, 0, 0, 0), ⟨"", "", ""⟩, "") := rfl
theorem ee_96_88 {d : Nat} {h : aH} {l0 l1 l2 l3 l5 : Value} {x : Int32} {st : List Value} : go d 96 88 [l0, l1, l2, l3, .int x, l5] st h = go d 96 90 [l0, l1, l2, l3, .int x, l5] (.int x :: st) h := go_plain (q := (90, [l0, l1, l2, l3, .int x, l5], (.int x :: st), h)) ke_96_88 rfl
theorem ke_96_90 : alook 96 90 = some (90, .invokevirtual 62, 3, (3, 8, 72, 8, 72), ⟨"WordHidesModel", "letterOf", "(III)I"⟩, "") := rfl
theorem ee_96_90 {d : Nat} {ls : List Value} {h : aH} {i0 : Int32} {i1 : Int32} {i2 : Int32} {r3 : Nat} {i4 : Int32} {r5 : Nat} : go (d + 1) 96 90 ls [.int i0, .int i1, .int i2, .ref r3, .int i4, .ref r5] h = if isC h r3 8 = true then (go d 72 0 [.ref r3, .int i2, .int i1, .int i0] [] h).bind (fun q => go (d + 1) 96 93 ls (q.1.toList ++ [.int i4, .ref r5]) q.2) else none := go_cv1 (as := [.int i2, .int i1, .int i0]) (rest := [.int i4, .ref r5]) (L := [.ref r3, .int i2, .int i1, .int i0]) ke_96_90 rfl rfl rfl
theorem ke_96_93 : alook 96 93 = some (93, .iastore, 1, (0, 0, 0, 0, 0), ⟨"", "", ""⟩, "") := rfl
theorem ee_96_93 {d : Nat} {ls st : List Value} {h : aH} {r : Nat} {i x : Int32} : go d 96 93 ls (.int x :: .int i :: .ref r :: st) h = (is_ h r i x).bind fun h' => go d 96 94 ls st h' := go_iast ke_96_93
theorem ke_96_94 : alook 96 94 = some (94, .iinc 4 1, 3, (0, 0, 0, 0, 0), ⟨"", "", ""⟩, "") := rfl
theorem ee_96_94 {d : Nat} {h : aH} {l0 l1 l2 l3 l5 : Value} {x : Int32} {st : List Value} : go d 96 94 [l0, l1, l2, l3, .int x, l5] st h = go d 96 97 [l0, l1, l2, l3, .int (x + 1), l5] st h := go_plain (q := (97, [l0, l1, l2, l3, .int (x + 1), l5], st, h)) ke_96_94 rfl
theorem ke_96_97 : alook 96 97 = some (97, .goto (-58), 3, (39, 0, 0, 0, 0), ⟨"", "", ""⟩, "") := rfl
theorem ee_96_97 {d : Nat} {h : aH} {ls st : List Value} : go d 96 97 ls st h = go d 96 39 ls st h := go_plain (q := (39, ls, st, h)) ke_96_97 rfl
theorem ke_96_100 : alook 96 100 = some (100, .iload_n 3, 1, (0, 0, 0, 0, 0), ⟨"", "", ""⟩, "") := rfl
theorem ee_96_100 {d : Nat} {h : aH} {l0 l1 l2 l4 l5 : Value} {x : Int32} {st : List Value} : go d 96 100 [l0, l1, l2, .int x, l4, l5] st h = go d 96 101 [l0, l1, l2, .int x, l4, l5] (.int x :: st) h := go_plain (q := (101, [l0, l1, l2, .int x, l4, l5], (.int x :: st), h)) ke_96_100 rfl
theorem ke_96_101 : alook 96 101 = some (101, .ireturn, 1, (0, 0, 0, 0, 0), ⟨"", "", ""⟩, "") := rfl
theorem ee_96_101 {d : Nat} {ls : List Value} {h : aH} {v : Int32} : go d 96 101 ls [.int v] h = some (some (.int v), h) := go_iret ke_96_101
theorem ke_97_0 : alook 97 0 = some (0, .aload_n 0, 1, (0, 0, 0, 0, 0), ⟨"", "", ""⟩, "") := rfl
theorem ee_97_0 {d : Nat} {h : aH} {l1 l2 l3 l4 : Value} {x : Nat} {st : List Value} : go d 97 0 [.ref x, l1, l2, l3, l4] st h = go d 97 1 [.ref x, l1, l2, l3, l4] (.ref x :: st) h := go_plain (q := (1, [.ref x, l1, l2, l3, l4], (.ref x :: st), h)) ke_97_0 rfl
theorem ee_97_0N {d : Nat} {h : aH} {l1 l2 l3 l4 : Value} {st : List Value} : go d 97 0 [.null, l1, l2, l3, l4] st h = go d 97 1 [.null, l1, l2, l3, l4] (.null :: st) h := go_plain (q := (1, [.null, l1, l2, l3, l4], (.null :: st), h)) ke_97_0 rfl
theorem ke_97_1 : alook 97 1 = some (1, .iconst 0, 1, (0, 0, 0, 0, 0), ⟨"", "", ""⟩, "") := rfl
theorem ee_97_1 {d : Nat} {h : aH} {ls st : List Value} : go d 97 1 ls st h = go d 97 2 ls (.int 0 :: st) h := go_plain (q := (2, ls, (.int 0 :: st), h)) ke_97_1 rfl
theorem ke_97_2 : alook 97 2 = some (2, .iload_n 1, 1, (0, 0, 0, 0, 0), ⟨"", "", ""⟩, "") := rfl
theorem ee_97_2 {d : Nat} {h : aH} {l0 l2 l3 l4 : Value} {x : Int32} {st : List Value} : go d 97 2 [l0, .int x, l2, l3, l4] st h = go d 97 3 [l0, .int x, l2, l3, l4] (.int x :: st) h := go_plain (q := (3, [l0, .int x, l2, l3, l4], (.int x :: st), h)) ke_97_2 rfl
theorem ke_97_3 : alook 97 3 = some (3, .invokevirtual 54, 3, (2, 8, 70, 8, 70), ⟨"WordHidesModel", "isWord", "(II)Z"⟩, "") := rfl
theorem ee_97_3 {d : Nat} {ls : List Value} {h : aH} {i0 : Int32} {i1 : Int32} {r2 : Nat} : go (d + 1) 97 3 ls [.int i0, .int i1, .ref r2] h = if isC h r2 8 = true then (go d 70 0 [.ref r2, .int i1, .int i0] [] h).bind (fun q => go (d + 1) 97 6 ls (q.1.toList ++ []) q.2) else none := go_cv1 (as := [.int i1, .int i0]) (rest := []) (L := [.ref r2, .int i1, .int i0]) ke_97_3 rfl rfl rfl
theorem ke_97_6 : alook 97 6 = some (6, .ifCond .ne 5, 3, (11, 0, 0, 0, 0), ⟨"", "", ""⟩, "") := rfl
theorem ee_97_6 {d : Nat} {ls st : List Value} {h : aH} {x : Int32} : go d 97 6 ls (.int x :: st) h = if ¬ x = 0 then go d 97 11 ls st h else go d 97 9 ls st h := go_c1 (go_if1 (tg := 11) (q := 9) (f := fun x => decide (¬ x = 0)) ke_97_6 rfl)
theorem ke_97_9 : alook 97 9 = some (9, .iconst (-1), 1, (0, 0, 0, 0, 0), ⟨"", "", ""⟩, "") := rfl
theorem ee_97_9 {d : Nat} {h : aH} {ls st : List Value} : go d 97 9 ls st h = go d 97 10 ls (.int (-1) :: st) h := go_plain (q := (10, ls, (.int (-1) :: st), h)) ke_97_9 rfl
theorem ke_97_10 : alook 97 10 = some (10, .ireturn, 1, (0, 0, 0, 0, 0), ⟨"", "", ""⟩, "") := rfl
theorem ee_97_10 {d : Nat} {ls : List Value} {h : aH} {v : Int32} : go d 97 10 ls [.int v] h = some (some (.int v), h) := go_iret ke_97_10
theorem ke_97_11 : alook 97 11 = some (11, .iload_n 2, 1, (0, 0, 0, 0, 0), ⟨"", "", ""⟩, "") := rfl
theorem ee_97_11 {d : Nat} {h : aH} {l0 l1 l3 l4 : Value} {x : Int32} {st : List Value} : go d 97 11 [l0, l1, .int x, l3, l4] st h = go d 97 12 [l0, l1, .int x, l3, l4] (.int x :: st) h := go_plain (q := (12, [l0, l1, .int x, l3, l4], (.int x :: st), h)) ke_97_11 rfl
theorem ke_97_12 : alook 97 12 = some (12, .iconst 0, 1, (0, 0, 0, 0, 0), ⟨"", "", ""⟩, "") := rfl
theorem ee_97_12 {d : Nat} {h : aH} {ls st : List Value} : go d 97 12 ls st h = go d 97 13 ls (.int 0 :: st) h := go_plain (q := (13, ls, (.int 0 :: st), h)) ke_97_12 rfl
theorem ke_97_13 : alook 97 13 = some (13, .iconst 1, 1, (0, 0, 0, 0, 0), ⟨"", "", ""⟩, "") := rfl
theorem ee_97_13 {d : Nat} {h : aH} {ls st : List Value} : go d 97 13 ls st h = go d 97 14 ls (.int 1 :: st) h := go_plain (q := (14, ls, (.int 1 :: st), h)) ke_97_13 rfl
theorem ke_97_14 : alook 97 14 = some (14, .invokestatic 36, 3, (3, 0, 65, 0, 0), ⟨"WordHidesModel", "in", "(III)Z"⟩, "") := rfl
theorem ee_97_14 {d : Nat} {ls : List Value} {h : aH} {i0 : Int32} {i1 : Int32} {i2 : Int32} : go (d + 1) 97 14 ls [.int i0, .int i1, .int i2] h = (go d 65 0 [.int i2, .int i1, .int i0] [] h).bind (fun q => go (d + 1) 97 17 ls (q.1.toList ++ []) q.2) := go_cs (as := [.int i2, .int i1, .int i0]) (rest := []) (L := [.int i2, .int i1, .int i0]) ke_97_14 rfl rfl rfl
theorem ke_97_17 : alook 97 17 = some (17, .ifCond .ne 6, 3, (23, 0, 0, 0, 0), ⟨"", "", ""⟩, "") := rfl
theorem ee_97_17 {d : Nat} {ls st : List Value} {h : aH} {x : Int32} : go d 97 17 ls (.int x :: st) h = if ¬ x = 0 then go d 97 23 ls st h else go d 97 20 ls st h := go_c1 (go_if1 (tg := 23) (q := 20) (f := fun x => decide (¬ x = 0)) ke_97_17 rfl)
theorem ke_97_20 : alook 97 20 = some (20, .bipush (-2), 2, (0, 0, 0, 0, 0), ⟨"", "", ""⟩, "") := rfl
theorem ee_97_20 {d : Nat} {h : aH} {ls st : List Value} : go d 97 20 ls st h = go d 97 22 ls (.int (-2) :: st) h := go_plain (q := (22, ls, (.int (-2) :: st), h)) ke_97_20 rfl
theorem ke_97_22 : alook 97 22 = some (22, .ireturn, 1, (0, 0, 0, 0, 0), ⟨"", "", ""⟩, "") := rfl
theorem ee_97_22 {d : Nat} {ls : List Value} {h : aH} {v : Int32} : go d 97 22 ls [.int v] h = some (some (.int v), h) := go_iret ke_97_22
theorem ke_97_23 : alook 97 23 = some (23, .iconst 0, 1, (0, 0, 0, 0, 0), ⟨"", "", ""⟩, "") := rfl
theorem ee_97_23 {d : Nat} {h : aH} {ls st : List Value} : go d 97 23 ls st h = go d 97 24 ls (.int 0 :: st) h := go_plain (q := (24, ls, (.int 0 :: st), h)) ke_97_23 rfl
theorem ke_97_24 : alook 97 24 = some (24, .istore_n 3, 1, (0, 0, 0, 0, 0), ⟨"", "", ""⟩, "") := rfl
theorem ee_97_24 {d : Nat} {h : aH} {l0 l1 l2 l3 l4 : Value} {x : Int32} {st : List Value} : go d 97 24 [l0, l1, l2, l3, l4] (.int x :: st) h = go d 97 25 [l0, l1, l2, .int x, l4] st h := go_plain (q := (25, [l0, l1, l2, .int x, l4], st, h)) ke_97_24 rfl
theorem ke_97_25 : alook 97 25 = some (25, .iconst 0, 1, (0, 0, 0, 0, 0), ⟨"", "", ""⟩, "") := rfl
theorem ee_97_25 {d : Nat} {h : aH} {ls st : List Value} : go d 97 25 ls st h = go d 97 26 ls (.int 0 :: st) h := go_plain (q := (26, ls, (.int 0 :: st), h)) ke_97_25 rfl
theorem ke_97_26 : alook 97 26 = some (26, .istore 4, 2, (0, 0, 0, 0, 0), ⟨"", "", ""⟩, "") := rfl
theorem ee_97_26 {d : Nat} {h : aH} {l0 l1 l2 l3 l4 : Value} {x : Int32} {st : List Value} : go d 97 26 [l0, l1, l2, l3, l4] (.int x :: st) h = go d 97 28 [l0, l1, l2, l3, .int x] st h := go_plain (q := (28, [l0, l1, l2, l3, .int x], st, h)) ke_97_26 rfl
theorem ke_97_28 : alook 97 28 = some (28, .iload 4, 2, (0, 0, 0, 0, 0), ⟨"", "", ""⟩, "") := rfl
theorem ee_97_28 {d : Nat} {h : aH} {l0 l1 l2 l3 : Value} {x : Int32} {st : List Value} : go d 97 28 [l0, l1, l2, l3, .int x] st h = go d 97 30 [l0, l1, l2, l3, .int x] (.int x :: st) h := go_plain (q := (30, [l0, l1, l2, l3, .int x], (.int x :: st), h)) ke_97_28 rfl
theorem ke_97_30 : alook 97 30 = some (30, .bipush 8, 2, (0, 0, 0, 0, 0), ⟨"", "", ""⟩, "") := rfl
theorem ee_97_30 {d : Nat} {h : aH} {ls st : List Value} : go d 97 30 ls st h = go d 97 32 ls (.int 8 :: st) h := go_plain (q := (32, ls, (.int 8 :: st), h)) ke_97_30 rfl
theorem ke_97_32 : alook 97 32 = some (32, .aload_n 0, 1, (0, 0, 0, 0, 0), ⟨"", "", ""⟩, "") := rfl
theorem ee_97_32 {d : Nat} {h : aH} {l1 l2 l3 l4 : Value} {x : Nat} {st : List Value} : go d 97 32 [.ref x, l1, l2, l3, l4] st h = go d 97 33 [.ref x, l1, l2, l3, l4] (.ref x :: st) h := go_plain (q := (33, [.ref x, l1, l2, l3, l4], (.ref x :: st), h)) ke_97_32 rfl
theorem ee_97_32N {d : Nat} {h : aH} {l1 l2 l3 l4 : Value} {st : List Value} : go d 97 32 [.null, l1, l2, l3, l4] st h = go d 97 33 [.null, l1, l2, l3, l4] (.null :: st) h := go_plain (q := (33, [.null, l1, l2, l3, l4], (.null :: st), h)) ke_97_32 rfl
theorem ke_97_33 : alook 97 33 = some (33, .invokevirtual 32, 3, (0, 8, 66, 8, 66), ⟨"WordHidesModel", "cells", "()I"⟩, "") := rfl
theorem ee_97_33 {d : Nat} {ls : List Value} {h : aH} {r0 : Nat} {i1 : Int32} {i2 : Int32} : go (d + 1) 97 33 ls [.ref r0, .int i1, .int i2] h = if isC h r0 8 = true then (go d 66 0 [.ref r0] [] h).bind (fun q => go (d + 1) 97 36 ls (q.1.toList ++ [.int i1, .int i2]) q.2) else none := go_cv1 (as := []) (rest := [.int i1, .int i2]) (L := [.ref r0]) ke_97_33 rfl rfl rfl
theorem ke_97_36 : alook 97 36 = some (36, .imul, 1, (0, 0, 0, 0, 0), ⟨"", "", ""⟩, "") := rfl
theorem ee_97_36 {d : Nat} {h : aH} {ls st : List Value} {x y : Int32} : go d 97 36 ls (.int y :: .int x :: st) h = go d 97 37 ls (.int (x * y) :: st) h := go_plain (q := (37, ls, (.int (x * y) :: st), h)) ke_97_36 rfl
theorem ke_97_37 : alook 97 37 = some (37, .if_icmp .ge 49, 3, (86, 0, 0, 0, 0), ⟨"", "", ""⟩, "") := rfl
theorem ee_97_37 {d : Nat} {ls st : List Value} {h : aH} {x y : Int32} : go d 97 37 ls (.int y :: .int x :: st) h = if y ≤ x then go d 97 86 ls st h else go d 97 40 ls st h := go_ci (go_if2 (tg := 86) (q := 40) (f := fun x y => decide (y ≤ x)) ke_97_37 rfl)
theorem ke_97_40 : alook 97 40 = some (40, .iload_n 3, 1, (0, 0, 0, 0, 0), ⟨"", "", ""⟩, "") := rfl
theorem ee_97_40 {d : Nat} {h : aH} {l0 l1 l2 l4 : Value} {x : Int32} {st : List Value} : go d 97 40 [l0, l1, l2, .int x, l4] st h = go d 97 41 [l0, l1, l2, .int x, l4] (.int x :: st) h := go_plain (q := (41, [l0, l1, l2, .int x, l4], (.int x :: st), h)) ke_97_40 rfl
theorem ke_97_41 : alook 97 41 = some (41, .iload_n 2, 1, (0, 0, 0, 0, 0), ⟨"", "", ""⟩, "") := rfl
theorem ee_97_41 {d : Nat} {h : aH} {l0 l1 l3 l4 : Value} {x : Int32} {st : List Value} : go d 97 41 [l0, l1, .int x, l3, l4] st h = go d 97 42 [l0, l1, .int x, l3, l4] (.int x :: st) h := go_plain (q := (42, [l0, l1, .int x, l3, l4], (.int x :: st), h)) ke_97_41 rfl
theorem ke_97_42 : alook 97 42 = some (42, .ifCond .ne 21, 3, (63, 0, 0, 0, 0), ⟨"", "", ""⟩, "") := rfl
theorem ee_97_42 {d : Nat} {ls st : List Value} {h : aH} {x : Int32} : go d 97 42 ls (.int x :: st) h = if ¬ x = 0 then go d 97 63 ls st h else go d 97 45 ls st h := go_c1 (go_if1 (tg := 63) (q := 45) (f := fun x => decide (¬ x = 0)) ke_97_42 rfl)
theorem ke_97_45 : alook 97 45 = some (45, .aload_n 0, 1, (0, 0, 0, 0, 0), ⟨"", "", ""⟩, "") := rfl
theorem ee_97_45 {d : Nat} {h : aH} {l1 l2 l3 l4 : Value} {x : Nat} {st : List Value} : go d 97 45 [.ref x, l1, l2, l3, l4] st h = go d 97 46 [.ref x, l1, l2, l3, l4] (.ref x :: st) h := go_plain (q := (46, [.ref x, l1, l2, l3, l4], (.ref x :: st), h)) ke_97_45 rfl
theorem ee_97_45N {d : Nat} {h : aH} {l1 l2 l3 l4 : Value} {st : List Value} : go d 97 45 [.null, l1, l2, l3, l4] st h = go d 97 46 [.null, l1, l2, l3, l4] (.null :: st) h := go_plain (q := (46, [.null, l1, l2, l3, l4], (.null :: st), h)) ke_97_45 rfl
theorem ke_97_46 : alook 97 46 = some (46, .iload 4, 2, (0, 0, 0, 0, 0), ⟨"", "", ""⟩, "") := rfl
theorem ee_97_46 {d : Nat} {h : aH} {l0 l1 l2 l3 : Value} {x : Int32} {st : List Value} : go d 97 46 [l0, l1, l2, l3, .int x] st h = go d 97 48 [l0, l1, l2, l3, .int x] (.int x :: st) h := go_plain (q := (48, [l0, l1, l2, l3, .int x], (.int x :: st), h)) ke_97_46 rfl
theorem ke_97_48 : alook 97 48 = some (48, .aload_n 0, 1, (0, 0, 0, 0, 0), ⟨"", "", ""⟩, "") := rfl
theorem ee_97_48 {d : Nat} {h : aH} {l1 l2 l3 l4 : Value} {x : Nat} {st : List Value} : go d 97 48 [.ref x, l1, l2, l3, l4] st h = go d 97 49 [.ref x, l1, l2, l3, l4] (.ref x :: st) h := go_plain (q := (49, [.ref x, l1, l2, l3, l4], (.ref x :: st), h)) ke_97_48 rfl
theorem ee_97_48N {d : Nat} {h : aH} {l1 l2 l3 l4 : Value} {st : List Value} : go d 97 48 [.null, l1, l2, l3, l4] st h = go d 97 49 [.null, l1, l2, l3, l4] (.null :: st) h := go_plain (q := (49, [.null, l1, l2, l3, l4], (.null :: st), h)) ke_97_48 rfl
theorem ke_97_49 : alook 97 49 = some (49, .iconst 0, 1, (0, 0, 0, 0, 0), ⟨"", "", ""⟩, "") := rfl
theorem ee_97_49 {d : Nat} {h : aH} {ls st : List Value} : go d 97 49 ls st h = go d 97 50 ls (.int 0 :: st) h := go_plain (q := (50, ls, (.int 0 :: st), h)) ke_97_49 rfl
theorem ke_97_50 : alook 97 50 = some (50, .iload_n 1, 1, (0, 0, 0, 0, 0), ⟨"", "", ""⟩, "") := rfl
theorem ee_97_50 {d : Nat} {h : aH} {l0 l2 l3 l4 : Value} {x : Int32} {st : List Value} : go d 97 50 [l0, .int x, l2, l3, l4] st h = go d 97 51 [l0, .int x, l2, l3, l4] (.int x :: st) h := go_plain (q := (51, [l0, .int x, l2, l3, l4], (.int x :: st), h)) ke_97_50 rfl
theorem ke_97_51 : alook 97 51 = some (51, .invokevirtual 58, 3, (2, 8, 71, 8, 71), ⟨"WordHidesModel", "longOf", "(II)I"⟩, "") := rfl
theorem ee_97_51 {d : Nat} {ls : List Value} {h : aH} {i0 : Int32} {i1 : Int32} {r2 : Nat} {i3 : Int32} {r4 : Nat} {i5 : Int32} : go (d + 1) 97 51 ls [.int i0, .int i1, .ref r2, .int i3, .ref r4, .int i5] h = if isC h r2 8 = true then (go d 71 0 [.ref r2, .int i1, .int i0] [] h).bind (fun q => go (d + 1) 97 54 ls (q.1.toList ++ [.int i3, .ref r4, .int i5]) q.2) else none := go_cv1 (as := [.int i1, .int i0]) (rest := [.int i3, .ref r4, .int i5]) (L := [.ref r2, .int i1, .int i0]) ke_97_51 rfl rfl rfl
theorem ke_97_54 : alook 97 54 = some (54, .invokevirtual 76, 3, (2, 8, 86, 8, 86), ⟨"WordHidesModel", "canLie", "(II)Z"⟩, "") := rfl
theorem ee_97_54 {d : Nat} {ls : List Value} {h : aH} {i0 : Int32} {i1 : Int32} {r2 : Nat} {i3 : Int32} : go (d + 1) 97 54 ls [.int i0, .int i1, .ref r2, .int i3] h = if isC h r2 8 = true then (go d 86 0 [.ref r2, .int i1, .int i0] [] h).bind (fun q => go (d + 1) 97 57 ls (q.1.toList ++ [.int i3]) q.2) else none := go_cv1 (as := [.int i1, .int i0]) (rest := [.int i3]) (L := [.ref r2, .int i1, .int i0]) ke_97_54 rfl rfl rfl
theorem ke_97_57 : alook 97 57 = some (57, .ifCond .eq 20, 3, (77, 0, 0, 0, 0), ⟨"", "", ""⟩, "") := rfl
theorem ee_97_57 {d : Nat} {ls st : List Value} {h : aH} {x : Int32} : go d 97 57 ls (.int x :: st) h = if x = 0 then go d 97 77 ls st h else go d 97 60 ls st h := go_c1 (go_if1 (tg := 77) (q := 60) (f := fun x => decide (x = 0)) ke_97_57 rfl)
theorem ke_97_60 : alook 97 60 = some (60, .goto 13, 3, (73, 0, 0, 0, 0), ⟨"", "", ""⟩, "") := rfl
theorem ee_97_60 {d : Nat} {h : aH} {ls st : List Value} : go d 97 60 ls st h = go d 97 73 ls st h := go_plain (q := (73, ls, st, h)) ke_97_60 rfl
theorem ke_97_63 : alook 97 63 = some (63, .aload_n 0, 1, (0, 0, 0, 0, 0), ⟨"", "", ""⟩, "") := rfl
theorem ee_97_63 {d : Nat} {h : aH} {l1 l2 l3 l4 : Value} {x : Nat} {st : List Value} : go d 97 63 [.ref x, l1, l2, l3, l4] st h = go d 97 64 [.ref x, l1, l2, l3, l4] (.ref x :: st) h := go_plain (q := (64, [.ref x, l1, l2, l3, l4], (.ref x :: st), h)) ke_97_63 rfl
theorem ee_97_63N {d : Nat} {h : aH} {l1 l2 l3 l4 : Value} {st : List Value} : go d 97 63 [.null, l1, l2, l3, l4] st h = go d 97 64 [.null, l1, l2, l3, l4] (.null :: st) h := go_plain (q := (64, [.null, l1, l2, l3, l4], (.null :: st), h)) ke_97_63 rfl
theorem ke_97_64 : alook 97 64 = some (64, .iload_n 1, 1, (0, 0, 0, 0, 0), ⟨"", "", ""⟩, "") := rfl
theorem ee_97_64 {d : Nat} {h : aH} {l0 l2 l3 l4 : Value} {x : Int32} {st : List Value} : go d 97 64 [l0, .int x, l2, l3, l4] st h = go d 97 65 [l0, .int x, l2, l3, l4] (.int x :: st) h := go_plain (q := (65, [l0, .int x, l2, l3, l4], (.int x :: st), h)) ke_97_64 rfl
theorem ke_97_65 : alook 97 65 = some (65, .iload 4, 2, (0, 0, 0, 0, 0), ⟨"", "", ""⟩, "") := rfl
theorem ee_97_65 {d : Nat} {h : aH} {l0 l1 l2 l3 : Value} {x : Int32} {st : List Value} : go d 97 65 [l0, l1, l2, l3, .int x] st h = go d 97 67 [l0, l1, l2, l3, .int x] (.int x :: st) h := go_plain (q := (67, [l0, l1, l2, l3, .int x], (.int x :: st), h)) ke_97_65 rfl
theorem ke_97_67 : alook 97 67 = some (67, .invokevirtual 96, 3, (2, 8, 95, 8, 95), ⟨"WordHidesModel", "canPut", "(II)Z"⟩, "") := rfl
theorem ee_97_67 {d : Nat} {ls : List Value} {h : aH} {i0 : Int32} {i1 : Int32} {r2 : Nat} {i3 : Int32} : go (d + 1) 97 67 ls [.int i0, .int i1, .ref r2, .int i3] h = if isC h r2 8 = true then (go d 95 0 [.ref r2, .int i1, .int i0, aU, aU, aU] [] h).bind (fun q => go (d + 1) 97 70 ls (q.1.toList ++ [.int i3]) q.2) else none := go_cv1 (as := [.int i1, .int i0]) (rest := [.int i3]) (L := [.ref r2, .int i1, .int i0, aU, aU, aU]) ke_97_67 rfl rfl rfl
theorem ke_97_70 : alook 97 70 = some (70, .ifCond .eq 7, 3, (77, 0, 0, 0, 0), ⟨"", "", ""⟩, "") := rfl
theorem ee_97_70 {d : Nat} {ls st : List Value} {h : aH} {x : Int32} : go d 97 70 ls (.int x :: st) h = if x = 0 then go d 97 77 ls st h else go d 97 73 ls st h := go_c1 (go_if1 (tg := 77) (q := 73) (f := fun x => decide (x = 0)) ke_97_70 rfl)
theorem ke_97_73 : alook 97 73 = some (73, .iconst 1, 1, (0, 0, 0, 0, 0), ⟨"", "", ""⟩, "") := rfl
theorem ee_97_73 {d : Nat} {h : aH} {ls st : List Value} : go d 97 73 ls st h = go d 97 74 ls (.int 1 :: st) h := go_plain (q := (74, ls, (.int 1 :: st), h)) ke_97_73 rfl
theorem ke_97_74 : alook 97 74 = some (74, .goto 4, 3, (78, 0, 0, 0, 0), ⟨"", "", ""⟩, "") := rfl
theorem ee_97_74 {d : Nat} {h : aH} {ls st : List Value} : go d 97 74 ls st h = go d 97 78 ls st h := go_plain (q := (78, ls, st, h)) ke_97_74 rfl
theorem ke_97_77 : alook 97 77 = some (77, .iconst 0, 1, (0, 0, 0, 0, 0), ⟨"", "", ""⟩, "") := rfl
theorem ee_97_77 {d : Nat} {h : aH} {ls st : List Value} : go d 97 77 ls st h = go d 97 78 ls (.int 0 :: st) h := go_plain (q := (78, ls, (.int 0 :: st), h)) ke_97_77 rfl
theorem ke_97_78 : alook 97 78 = some (78, .iadd, 1, (0, 0, 0, 0, 0), ⟨"", "", ""⟩, "") := rfl
theorem ee_97_78 {d : Nat} {h : aH} {ls st : List Value} {x y : Int32} : go d 97 78 ls (.int y :: .int x :: st) h = go d 97 79 ls (.int (x + y) :: st) h := go_plain (q := (79, ls, (.int (x + y) :: st), h)) ke_97_78 rfl
theorem ke_97_79 : alook 97 79 = some (79, .istore_n 3, 1, (0, 0, 0, 0, 0), ⟨"", "", ""⟩, "") := rfl
theorem ee_97_79 {d : Nat} {h : aH} {l0 l1 l2 l3 l4 : Value} {x : Int32} {st : List Value} : go d 97 79 [l0, l1, l2, l3, l4] (.int x :: st) h = go d 97 80 [l0, l1, l2, .int x, l4] st h := go_plain (q := (80, [l0, l1, l2, .int x, l4], st, h)) ke_97_79 rfl
theorem ke_97_80 : alook 97 80 = some (80, .iinc 4 1, 3, (0, 0, 0, 0, 0), ⟨"", "", ""⟩, "") := rfl
theorem ee_97_80 {d : Nat} {h : aH} {l0 l1 l2 l3 : Value} {x : Int32} {st : List Value} : go d 97 80 [l0, l1, l2, l3, .int x] st h = go d 97 83 [l0, l1, l2, l3, .int (x + 1)] st h := go_plain (q := (83, [l0, l1, l2, l3, .int (x + 1)], st, h)) ke_97_80 rfl
theorem ke_97_83 : alook 97 83 = some (83, .goto (-55), 3, (28, 0, 0, 0, 0), ⟨"", "", ""⟩, "") := rfl
theorem ee_97_83 {d : Nat} {h : aH} {ls st : List Value} : go d 97 83 ls st h = go d 97 28 ls st h := go_plain (q := (28, ls, st, h)) ke_97_83 rfl
theorem ke_97_86 : alook 97 86 = some (86, .iload_n 3, 1, (0, 0, 0, 0, 0), ⟨"", "", ""⟩, "") := rfl
theorem ee_97_86 {d : Nat} {h : aH} {l0 l1 l2 l4 : Value} {x : Int32} {st : List Value} : go d 97 86 [l0, l1, l2, .int x, l4] st h = go d 97 87 [l0, l1, l2, .int x, l4] (.int x :: st) h := go_plain (q := (87, [l0, l1, l2, .int x, l4], (.int x :: st), h)) ke_97_86 rfl
theorem ke_97_87 : alook 97 87 = some (87, .ireturn, 1, (0, 0, 0, 0, 0), ⟨"", "", ""⟩, "") := rfl
theorem ee_97_87 {d : Nat} {ls : List Value} {h : aH} {v : Int32} : go d 97 87 ls [.int v] h = some (some (.int v), h) := go_iret ke_97_87
theorem ke_98_0 : alook 98 0 = some (0, .iconst 0, 1, (0, 0, 0, 0, 0), ⟨"", "", ""⟩, "") := rfl
theorem ee_98_0 {d : Nat} {h : aH} {ls st : List Value} : go d 98 0 ls st h = go d 98 1 ls (.int 0 :: st) h := go_plain (q := (1, ls, (.int 0 :: st), h)) ke_98_0 rfl
theorem ke_98_1 : alook 98 1 = some (1, .istore_n 1, 1, (0, 0, 0, 0, 0), ⟨"", "", ""⟩, "") := rfl
theorem ee_98_1 {d : Nat} {h : aH} {l0 l1 l2 : Value} {x : Int32} {st : List Value} : go d 98 1 [l0, l1, l2] (.int x :: st) h = go d 98 2 [l0, .int x, l2] st h := go_plain (q := (2, [l0, .int x, l2], st, h)) ke_98_1 rfl
theorem ke_98_2 : alook 98 2 = some (2, .iconst 0, 1, (0, 0, 0, 0, 0), ⟨"", "", ""⟩, "") := rfl
theorem ee_98_2 {d : Nat} {h : aH} {ls st : List Value} : go d 98 2 ls st h = go d 98 3 ls (.int 0 :: st) h := go_plain (q := (3, ls, (.int 0 :: st), h)) ke_98_2 rfl
theorem ke_98_3 : alook 98 3 = some (3, .istore_n 2, 1, (0, 0, 0, 0, 0), ⟨"", "", ""⟩, "") := rfl
theorem ee_98_3 {d : Nat} {h : aH} {l0 l1 l2 : Value} {x : Int32} {st : List Value} : go d 98 3 [l0, l1, l2] (.int x :: st) h = go d 98 4 [l0, l1, .int x] st h := go_plain (q := (4, [l0, l1, .int x], st, h)) ke_98_3 rfl
theorem ke_98_4 : alook 98 4 = some (4, .iload_n 2, 1, (0, 0, 0, 0, 0), ⟨"", "", ""⟩, "") := rfl
theorem ee_98_4 {d : Nat} {h : aH} {l0 l1 : Value} {x : Int32} {st : List Value} : go d 98 4 [l0, l1, .int x] st h = go d 98 5 [l0, l1, .int x] (.int x :: st) h := go_plain (q := (5, [l0, l1, .int x], (.int x :: st), h)) ke_98_4 rfl
theorem ke_98_5 : alook 98 5 = some (5, .bipush 16, 2, (0, 0, 0, 0, 0), ⟨"", "", ""⟩, "") := rfl
theorem ee_98_5 {d : Nat} {h : aH} {ls st : List Value} : go d 98 5 ls st h = go d 98 7 ls (.int 16 :: st) h := go_plain (q := (7, ls, (.int 16 :: st), h)) ke_98_5 rfl
theorem ke_98_7 : alook 98 7 = some (7, .if_icmp .ge 30, 3, (37, 0, 0, 0, 0), ⟨"", "", ""⟩, "") := rfl
theorem ee_98_7 {d : Nat} {ls st : List Value} {h : aH} {x y : Int32} : go d 98 7 ls (.int y :: .int x :: st) h = if y ≤ x then go d 98 37 ls st h else go d 98 10 ls st h := go_ci (go_if2 (tg := 37) (q := 10) (f := fun x y => decide (y ≤ x)) ke_98_7 rfl)
theorem ke_98_10 : alook 98 10 = some (10, .iload_n 1, 1, (0, 0, 0, 0, 0), ⟨"", "", ""⟩, "") := rfl
theorem ee_98_10 {d : Nat} {h : aH} {l0 l2 : Value} {x : Int32} {st : List Value} : go d 98 10 [l0, .int x, l2] st h = go d 98 11 [l0, .int x, l2] (.int x :: st) h := go_plain (q := (11, [l0, .int x, l2], (.int x :: st), h)) ke_98_10 rfl
theorem ke_98_11 : alook 98 11 = some (11, .aload_n 0, 1, (0, 0, 0, 0, 0), ⟨"", "", ""⟩, "") := rfl
theorem ee_98_11 {d : Nat} {h : aH} {l1 l2 : Value} {x : Nat} {st : List Value} : go d 98 11 [.ref x, l1, l2] st h = go d 98 12 [.ref x, l1, l2] (.ref x :: st) h := go_plain (q := (12, [.ref x, l1, l2], (.ref x :: st), h)) ke_98_11 rfl
theorem ee_98_11N {d : Nat} {h : aH} {l1 l2 : Value} {st : List Value} : go d 98 11 [.null, l1, l2] st h = go d 98 12 [.null, l1, l2] (.null :: st) h := go_plain (q := (12, [.null, l1, l2], (.null :: st), h)) ke_98_11 rfl
theorem ke_98_12 : alook 98 12 = some (12, .getfield 26, 3, (6, 8, 8, 2, 0), ⟨"", "", ""⟩, "WordHidesModel") := rfl
theorem ee_98_12 {d : Nat} {ls st : List Value} {h : aH} {r : Nat} : go d 98 12 ls (.ref r :: st) h = (gf h r 6 8 8).bind fun z => go d 98 15 ls (z :: st) h := go_getf ke_98_12
theorem ke_98_15 : alook 98 15 = some (15, .bipush 48, 2, (0, 0, 0, 0, 0), ⟨"", "", ""⟩, "") := rfl
theorem ee_98_15 {d : Nat} {h : aH} {ls st : List Value} : go d 98 15 ls st h = go d 98 17 ls (.int 48 :: st) h := go_plain (q := (17, ls, (.int 48 :: st), h)) ke_98_15 rfl
theorem ke_98_17 : alook 98 17 = some (17, .iload_n 2, 1, (0, 0, 0, 0, 0), ⟨"", "", ""⟩, "") := rfl
theorem ee_98_17 {d : Nat} {h : aH} {l0 l1 : Value} {x : Int32} {st : List Value} : go d 98 17 [l0, l1, .int x] st h = go d 98 18 [l0, l1, .int x] (.int x :: st) h := go_plain (q := (18, [l0, l1, .int x], (.int x :: st), h)) ke_98_17 rfl
theorem ke_98_18 : alook 98 18 = some (18, .iadd, 1, (0, 0, 0, 0, 0), ⟨"", "", ""⟩, "") := rfl
theorem ee_98_18 {d : Nat} {h : aH} {ls st : List Value} {x y : Int32} : go d 98 18 ls (.int y :: .int x :: st) h = go d 98 19 ls (.int (x + y) :: st) h := go_plain (q := (19, ls, (.int (x + y) :: st), h)) ke_98_18 rfl
theorem ke_98_19 : alook 98 19 = some (19, .iaload, 1, (0, 0, 0, 0, 0), ⟨"", "", ""⟩, "") := rfl
theorem ee_98_19 {d : Nat} {ls st : List Value} {h : aH} {r : Nat} {i : Int32} : go d 98 19 ls (.int i :: .ref r :: st) h = (ia h r i).bind fun z => go d 98 20 ls (.int z :: st) h := go_iald ke_98_19
theorem ke_98_20 : alook 98 20 = some (20, .iconst 1, 1, (0, 0, 0, 0, 0), ⟨"", "", ""⟩, "") := rfl
theorem ee_98_20 {d : Nat} {h : aH} {ls st : List Value} : go d 98 20 ls st h = go d 98 21 ls (.int 1 :: st) h := go_plain (q := (21, ls, (.int 1 :: st), h)) ke_98_20 rfl
theorem ke_98_21 : alook 98 21 = some (21, .if_icmp .le 7, 3, (28, 0, 0, 0, 0), ⟨"", "", ""⟩, "") := rfl
theorem ee_98_21 {d : Nat} {ls st : List Value} {h : aH} {x y : Int32} : go d 98 21 ls (.int y :: .int x :: st) h = if x ≤ y then go d 98 28 ls st h else go d 98 24 ls st h := go_ci (go_if2 (tg := 28) (q := 24) (f := fun x y => decide (x ≤ y)) ke_98_21 rfl)
theorem ke_98_24 : alook 98 24 = some (24, .iconst 1, 1, (0, 0, 0, 0, 0), ⟨"", "", ""⟩, "") := rfl
theorem ee_98_24 {d : Nat} {h : aH} {ls st : List Value} : go d 98 24 ls st h = go d 98 25 ls (.int 1 :: st) h := go_plain (q := (25, ls, (.int 1 :: st), h)) ke_98_24 rfl
theorem ke_98_25 : alook 98 25 = some (25, .goto 4, 3, (29, 0, 0, 0, 0), ⟨"", "", ""⟩, "") := rfl
theorem ee_98_25 {d : Nat} {h : aH} {ls st : List Value} : go d 98 25 ls st h = go d 98 29 ls st h := go_plain (q := (29, ls, st, h)) ke_98_25 rfl
theorem ke_98_28 : alook 98 28 = some (28, .iconst 0, 1, (0, 0, 0, 0, 0), ⟨"", "", ""⟩, "") := rfl
theorem ee_98_28 {d : Nat} {h : aH} {ls st : List Value} : go d 98 28 ls st h = go d 98 29 ls (.int 0 :: st) h := go_plain (q := (29, ls, (.int 0 :: st), h)) ke_98_28 rfl
theorem ke_98_29 : alook 98 29 = some (29, .iadd, 1, (0, 0, 0, 0, 0), ⟨"", "", ""⟩, "") := rfl
theorem ee_98_29 {d : Nat} {h : aH} {ls st : List Value} {x y : Int32} : go d 98 29 ls (.int y :: .int x :: st) h = go d 98 30 ls (.int (x + y) :: st) h := go_plain (q := (30, ls, (.int (x + y) :: st), h)) ke_98_29 rfl
theorem ke_98_30 : alook 98 30 = some (30, .istore_n 1, 1, (0, 0, 0, 0, 0), ⟨"", "", ""⟩, "") := rfl
theorem ee_98_30 {d : Nat} {h : aH} {l0 l1 l2 : Value} {x : Int32} {st : List Value} : go d 98 30 [l0, l1, l2] (.int x :: st) h = go d 98 31 [l0, .int x, l2] st h := go_plain (q := (31, [l0, .int x, l2], st, h)) ke_98_30 rfl
theorem ke_98_31 : alook 98 31 = some (31, .iinc 2 1, 3, (0, 0, 0, 0, 0), ⟨"", "", ""⟩, "") := rfl
theorem ee_98_31 {d : Nat} {h : aH} {l0 l1 : Value} {x : Int32} {st : List Value} : go d 98 31 [l0, l1, .int x] st h = go d 98 34 [l0, l1, .int (x + 1)] st h := go_plain (q := (34, [l0, l1, .int (x + 1)], st, h)) ke_98_31 rfl
theorem ke_98_34 : alook 98 34 = some (34, .goto (-30), 3, (4, 0, 0, 0, 0), ⟨"", "", ""⟩, "") := rfl
theorem ee_98_34 {d : Nat} {h : aH} {ls st : List Value} : go d 98 34 ls st h = go d 98 4 ls st h := go_plain (q := (4, ls, st, h)) ke_98_34 rfl
theorem ke_98_37 : alook 98 37 = some (37, .iload_n 1, 1, (0, 0, 0, 0, 0), ⟨"", "", ""⟩, "") := rfl
theorem ee_98_37 {d : Nat} {h : aH} {l0 l2 : Value} {x : Int32} {st : List Value} : go d 98 37 [l0, .int x, l2] st h = go d 98 38 [l0, .int x, l2] (.int x :: st) h := go_plain (q := (38, [l0, .int x, l2], (.int x :: st), h)) ke_98_37 rfl
theorem ke_98_38 : alook 98 38 = some (38, .ireturn, 1, (0, 0, 0, 0, 0), ⟨"", "", ""⟩, "") := rfl
theorem ee_98_38 {d : Nat} {ls : List Value} {h : aH} {v : Int32} : go d 98 38 ls [.int v] h = some (some (.int v), h) := go_iret ke_98_38
theorem ke_99_0 : alook 99 0 = some (0, .iconst 0, 1, (0, 0, 0, 0, 0), ⟨"", "", ""⟩, "") := rfl
theorem ee_99_0 {d : Nat} {h : aH} {ls st : List Value} : go d 99 0 ls st h = go d 99 1 ls (.int 0 :: st) h := go_plain (q := (1, ls, (.int 0 :: st), h)) ke_99_0 rfl
theorem ke_99_1 : alook 99 1 = some (1, .istore_n 1, 1, (0, 0, 0, 0, 0), ⟨"", "", ""⟩, "") := rfl
theorem ee_99_1 {d : Nat} {h : aH} {l0 l1 l2 : Value} {x : Int32} {st : List Value} : go d 99 1 [l0, l1, l2] (.int x :: st) h = go d 99 2 [l0, .int x, l2] st h := go_plain (q := (2, [l0, .int x, l2], st, h)) ke_99_1 rfl
theorem ke_99_2 : alook 99 2 = some (2, .iconst 0, 1, (0, 0, 0, 0, 0), ⟨"", "", ""⟩, "") := rfl
theorem ee_99_2 {d : Nat} {h : aH} {ls st : List Value} : go d 99 2 ls st h = go d 99 3 ls (.int 0 :: st) h := go_plain (q := (3, ls, (.int 0 :: st), h)) ke_99_2 rfl
theorem ke_99_3 : alook 99 3 = some (3, .istore_n 2, 1, (0, 0, 0, 0, 0), ⟨"", "", ""⟩, "") := rfl
theorem ee_99_3 {d : Nat} {h : aH} {l0 l1 l2 : Value} {x : Int32} {st : List Value} : go d 99 3 [l0, l1, l2] (.int x :: st) h = go d 99 4 [l0, l1, .int x] st h := go_plain (q := (4, [l0, l1, .int x], st, h)) ke_99_3 rfl
theorem ke_99_4 : alook 99 4 = some (4, .iload_n 2, 1, (0, 0, 0, 0, 0), ⟨"", "", ""⟩, "") := rfl
theorem ee_99_4 {d : Nat} {h : aH} {l0 l1 : Value} {x : Int32} {st : List Value} : go d 99 4 [l0, l1, .int x] st h = go d 99 5 [l0, l1, .int x] (.int x :: st) h := go_plain (q := (5, [l0, l1, .int x], (.int x :: st), h)) ke_99_4 rfl
theorem ke_99_5 : alook 99 5 = some (5, .bipush 16, 2, (0, 0, 0, 0, 0), ⟨"", "", ""⟩, "") := rfl
theorem ee_99_5 {d : Nat} {h : aH} {ls st : List Value} : go d 99 5 ls st h = go d 99 7 ls (.int 16 :: st) h := go_plain (q := (7, ls, (.int 16 :: st), h)) ke_99_5 rfl
theorem ke_99_7 : alook 99 7 = some (7, .if_icmp .ge 29, 3, (36, 0, 0, 0, 0), ⟨"", "", ""⟩, "") := rfl
theorem ee_99_7 {d : Nat} {ls st : List Value} {h : aH} {x y : Int32} : go d 99 7 ls (.int y :: .int x :: st) h = if y ≤ x then go d 99 36 ls st h else go d 99 10 ls st h := go_ci (go_if2 (tg := 36) (q := 10) (f := fun x y => decide (y ≤ x)) ke_99_7 rfl)
theorem ke_99_10 : alook 99 10 = some (10, .iload_n 1, 1, (0, 0, 0, 0, 0), ⟨"", "", ""⟩, "") := rfl
theorem ee_99_10 {d : Nat} {h : aH} {l0 l2 : Value} {x : Int32} {st : List Value} : go d 99 10 [l0, .int x, l2] st h = go d 99 11 [l0, .int x, l2] (.int x :: st) h := go_plain (q := (11, [l0, .int x, l2], (.int x :: st), h)) ke_99_10 rfl
theorem ke_99_11 : alook 99 11 = some (11, .aload_n 0, 1, (0, 0, 0, 0, 0), ⟨"", "", ""⟩, "") := rfl
theorem ee_99_11 {d : Nat} {h : aH} {l1 l2 : Value} {x : Nat} {st : List Value} : go d 99 11 [.ref x, l1, l2] st h = go d 99 12 [.ref x, l1, l2] (.ref x :: st) h := go_plain (q := (12, [.ref x, l1, l2], (.ref x :: st), h)) ke_99_11 rfl
theorem ee_99_11N {d : Nat} {h : aH} {l1 l2 : Value} {st : List Value} : go d 99 11 [.null, l1, l2] st h = go d 99 12 [.null, l1, l2] (.null :: st) h := go_plain (q := (12, [.null, l1, l2], (.null :: st), h)) ke_99_11 rfl
theorem ke_99_12 : alook 99 12 = some (12, .getfield 26, 3, (6, 8, 8, 2, 0), ⟨"", "", ""⟩, "WordHidesModel") := rfl
theorem ee_99_12 {d : Nat} {ls st : List Value} {h : aH} {r : Nat} : go d 99 12 ls (.ref r :: st) h = (gf h r 6 8 8).bind fun z => go d 99 15 ls (z :: st) h := go_getf ke_99_12
theorem ke_99_15 : alook 99 15 = some (15, .bipush 48, 2, (0, 0, 0, 0, 0), ⟨"", "", ""⟩, "") := rfl
theorem ee_99_15 {d : Nat} {h : aH} {ls st : List Value} : go d 99 15 ls st h = go d 99 17 ls (.int 48 :: st) h := go_plain (q := (17, ls, (.int 48 :: st), h)) ke_99_15 rfl
theorem ke_99_17 : alook 99 17 = some (17, .iload_n 2, 1, (0, 0, 0, 0, 0), ⟨"", "", ""⟩, "") := rfl
theorem ee_99_17 {d : Nat} {h : aH} {l0 l1 : Value} {x : Int32} {st : List Value} : go d 99 17 [l0, l1, .int x] st h = go d 99 18 [l0, l1, .int x] (.int x :: st) h := go_plain (q := (18, [l0, l1, .int x], (.int x :: st), h)) ke_99_17 rfl
theorem ke_99_18 : alook 99 18 = some (18, .iadd, 1, (0, 0, 0, 0, 0), ⟨"", "", ""⟩, "") := rfl
theorem ee_99_18 {d : Nat} {h : aH} {ls st : List Value} {x y : Int32} : go d 99 18 ls (.int y :: .int x :: st) h = go d 99 19 ls (.int (x + y) :: st) h := go_plain (q := (19, ls, (.int (x + y) :: st), h)) ke_99_18 rfl
theorem ke_99_19 : alook 99 19 = some (19, .iaload, 1, (0, 0, 0, 0, 0), ⟨"", "", ""⟩, "") := rfl
theorem ee_99_19 {d : Nat} {ls st : List Value} {h : aH} {r : Nat} {i : Int32} : go d 99 19 ls (.int i :: .ref r :: st) h = (ia h r i).bind fun z => go d 99 20 ls (.int z :: st) h := go_iald ke_99_19
theorem ke_99_20 : alook 99 20 = some (20, .ifCond .le 7, 3, (27, 0, 0, 0, 0), ⟨"", "", ""⟩, "") := rfl
theorem ee_99_20 {d : Nat} {ls st : List Value} {h : aH} {x : Int32} : go d 99 20 ls (.int x :: st) h = if x ≤ 0 then go d 99 27 ls st h else go d 99 23 ls st h := go_c1 (go_if1 (tg := 27) (q := 23) (f := fun x => decide (x ≤ 0)) ke_99_20 rfl)
theorem ke_99_23 : alook 99 23 = some (23, .iconst 1, 1, (0, 0, 0, 0, 0), ⟨"", "", ""⟩, "") := rfl
theorem ee_99_23 {d : Nat} {h : aH} {ls st : List Value} : go d 99 23 ls st h = go d 99 24 ls (.int 1 :: st) h := go_plain (q := (24, ls, (.int 1 :: st), h)) ke_99_23 rfl
theorem ke_99_24 : alook 99 24 = some (24, .goto 4, 3, (28, 0, 0, 0, 0), ⟨"", "", ""⟩, "") := rfl
theorem ee_99_24 {d : Nat} {h : aH} {ls st : List Value} : go d 99 24 ls st h = go d 99 28 ls st h := go_plain (q := (28, ls, st, h)) ke_99_24 rfl
theorem ke_99_27 : alook 99 27 = some (27, .iconst 0, 1, (0, 0, 0, 0, 0), ⟨"", "", ""⟩, "") := rfl
theorem ee_99_27 {d : Nat} {h : aH} {ls st : List Value} : go d 99 27 ls st h = go d 99 28 ls (.int 0 :: st) h := go_plain (q := (28, ls, (.int 0 :: st), h)) ke_99_27 rfl
theorem ke_99_28 : alook 99 28 = some (28, .iadd, 1, (0, 0, 0, 0, 0), ⟨"", "", ""⟩, "") := rfl
theorem ee_99_28 {d : Nat} {h : aH} {ls st : List Value} {x y : Int32} : go d 99 28 ls (.int y :: .int x :: st) h = go d 99 29 ls (.int (x + y) :: st) h := go_plain (q := (29, ls, (.int (x + y) :: st), h)) ke_99_28 rfl
theorem ke_99_29 : alook 99 29 = some (29, .istore_n 1, 1, (0, 0, 0, 0, 0), ⟨"", "", ""⟩, "") := rfl
theorem ee_99_29 {d : Nat} {h : aH} {l0 l1 l2 : Value} {x : Int32} {st : List Value} : go d 99 29 [l0, l1, l2] (.int x :: st) h = go d 99 30 [l0, .int x, l2] st h := go_plain (q := (30, [l0, .int x, l2], st, h)) ke_99_29 rfl
theorem ke_99_30 : alook 99 30 = some (30, .iinc 2 1, 3, (0, 0, 0, 0, 0), ⟨"", "", ""⟩, "") := rfl
theorem ee_99_30 {d : Nat} {h : aH} {l0 l1 : Value} {x : Int32} {st : List Value} : go d 99 30 [l0, l1, .int x] st h = go d 99 33 [l0, l1, .int (x + 1)] st h := go_plain (q := (33, [l0, l1, .int (x + 1)], st, h)) ke_99_30 rfl
theorem ke_99_33 : alook 99 33 = some (33, .goto (-29), 3, (4, 0, 0, 0, 0), ⟨"", "", ""⟩, "") := rfl
theorem ee_99_33 {d : Nat} {h : aH} {ls st : List Value} : go d 99 33 ls st h = go d 99 4 ls st h := go_plain (q := (4, ls, st, h)) ke_99_33 rfl
theorem ke_99_36 : alook 99 36 = some (36, .iload_n 1, 1, (0, 0, 0, 0, 0), ⟨"", "", ""⟩, "") := rfl
theorem ee_99_36 {d : Nat} {h : aH} {l0 l2 : Value} {x : Int32} {st : List Value} : go d 99 36 [l0, .int x, l2] st h = go d 99 37 [l0, .int x, l2] (.int x :: st) h := go_plain (q := (37, [l0, .int x, l2], (.int x :: st), h)) ke_99_36 rfl
theorem ke_99_37 : alook 99 37 = some (37, .ireturn, 1, (0, 0, 0, 0, 0), ⟨"", "", ""⟩, "") := rfl
theorem ee_99_37 {d : Nat} {ls : List Value} {h : aH} {v : Int32} : go d 99 37 ls [.int v] h = some (some (.int v), h) := go_iret ke_99_37
theorem ke_100_0 : alook 100 0 = some (0, .aload_n 0, 1, (0, 0, 0, 0, 0), ⟨"", "", ""⟩, "") := rfl
theorem ee_100_0 {d : Nat} {h : aH} {l1 l2 l3 : Value} {x : Nat} {st : List Value} : go d 100 0 [.ref x, l1, l2, l3] st h = go d 100 1 [.ref x, l1, l2, l3] (.ref x :: st) h := go_plain (q := (1, [.ref x, l1, l2, l3], (.ref x :: st), h)) ke_100_0 rfl
theorem ee_100_0N {d : Nat} {h : aH} {l1 l2 l3 : Value} {st : List Value} : go d 100 0 [.null, l1, l2, l3] st h = go d 100 1 [.null, l1, l2, l3] (.null :: st) h := go_plain (q := (1, [.null, l1, l2, l3], (.null :: st), h)) ke_100_0 rfl
theorem ke_100_1 : alook 100 1 = some (1, .getfield 29, 3, (11, 8, 8, 2, 0), ⟨"", "", ""⟩, "WordHidesModel") := rfl
theorem ee_100_1 {d : Nat} {ls st : List Value} {h : aH} {r : Nat} : go d 100 1 ls (.ref r :: st) h = (gf h r 11 8 8).bind fun z => go d 100 4 ls (z :: st) h := go_getf ke_100_1
theorem ke_100_4 : alook 100 4 = some (4, .iconst 0, 1, (0, 0, 0, 0, 0), ⟨"", "", ""⟩, "") := rfl
theorem ee_100_4 {d : Nat} {h : aH} {ls st : List Value} : go d 100 4 ls st h = go d 100 5 ls (.int 0 :: st) h := go_plain (q := (5, ls, (.int 0 :: st), h)) ke_100_4 rfl
theorem ke_100_5 : alook 100 5 = some (5, .iload_n 1, 1, (0, 0, 0, 0, 0), ⟨"", "", ""⟩, "") := rfl
theorem ee_100_5 {d : Nat} {h : aH} {l0 l2 l3 : Value} {x : Int32} {st : List Value} : go d 100 5 [l0, .int x, l2, l3] st h = go d 100 6 [l0, .int x, l2, l3] (.int x :: st) h := go_plain (q := (6, [l0, .int x, l2, l3], (.int x :: st), h)) ke_100_5 rfl
theorem ke_100_6 : alook 100 6 = some (6, .iastore, 1, (0, 0, 0, 0, 0), ⟨"", "", ""⟩, "") := rfl
theorem ee_100_6 {d : Nat} {ls st : List Value} {h : aH} {r : Nat} {i x : Int32} : go d 100 6 ls (.int x :: .int i :: .ref r :: st) h = (is_ h r i x).bind fun h' => go d 100 7 ls st h' := go_iast ke_100_6
theorem ke_100_7 : alook 100 7 = some (7, .aload_n 0, 1, (0, 0, 0, 0, 0), ⟨"", "", ""⟩, "") := rfl
theorem ee_100_7 {d : Nat} {h : aH} {l1 l2 l3 : Value} {x : Nat} {st : List Value} : go d 100 7 [.ref x, l1, l2, l3] st h = go d 100 8 [.ref x, l1, l2, l3] (.ref x :: st) h := go_plain (q := (8, [.ref x, l1, l2, l3], (.ref x :: st), h)) ke_100_7 rfl
theorem ee_100_7N {d : Nat} {h : aH} {l1 l2 l3 : Value} {st : List Value} : go d 100 7 [.null, l1, l2, l3] st h = go d 100 8 [.null, l1, l2, l3] (.null :: st) h := go_plain (q := (8, [.null, l1, l2, l3], (.null :: st), h)) ke_100_7 rfl
theorem ke_100_8 : alook 100 8 = some (8, .getfield 29, 3, (11, 8, 8, 2, 0), ⟨"", "", ""⟩, "WordHidesModel") := rfl
theorem ee_100_8 {d : Nat} {ls st : List Value} {h : aH} {r : Nat} : go d 100 8 ls (.ref r :: st) h = (gf h r 11 8 8).bind fun z => go d 100 11 ls (z :: st) h := go_getf ke_100_8
theorem ke_100_11 : alook 100 11 = some (11, .iconst 1, 1, (0, 0, 0, 0, 0), ⟨"", "", ""⟩, "") := rfl
theorem ee_100_11 {d : Nat} {h : aH} {ls st : List Value} : go d 100 11 ls st h = go d 100 12 ls (.int 1 :: st) h := go_plain (q := (12, ls, (.int 1 :: st), h)) ke_100_11 rfl
theorem ke_100_12 : alook 100 12 = some (12, .iload_n 2, 1, (0, 0, 0, 0, 0), ⟨"", "", ""⟩, "") := rfl
theorem ee_100_12 {d : Nat} {h : aH} {l0 l1 l3 : Value} {x : Int32} {st : List Value} : go d 100 12 [l0, l1, .int x, l3] st h = go d 100 13 [l0, l1, .int x, l3] (.int x :: st) h := go_plain (q := (13, [l0, l1, .int x, l3], (.int x :: st), h)) ke_100_12 rfl
theorem ke_100_13 : alook 100 13 = some (13, .iastore, 1, (0, 0, 0, 0, 0), ⟨"", "", ""⟩, "") := rfl
theorem ee_100_13 {d : Nat} {ls st : List Value} {h : aH} {r : Nat} {i x : Int32} : go d 100 13 ls (.int x :: .int i :: .ref r :: st) h = (is_ h r i x).bind fun h' => go d 100 14 ls st h' := go_iast ke_100_13
theorem ke_100_14 : alook 100 14 = some (14, .aload_n 0, 1, (0, 0, 0, 0, 0), ⟨"", "", ""⟩, "") := rfl
theorem ee_100_14 {d : Nat} {h : aH} {l1 l2 l3 : Value} {x : Nat} {st : List Value} : go d 100 14 [.ref x, l1, l2, l3] st h = go d 100 15 [.ref x, l1, l2, l3] (.ref x :: st) h := go_plain (q := (15, [.ref x, l1, l2, l3], (.ref x :: st), h)) ke_100_14 rfl
theorem ee_100_14N {d : Nat} {h : aH} {l1 l2 l3 : Value} {st : List Value} : go d 100 14 [.null, l1, l2, l3] st h = go d 100 15 [.null, l1, l2, l3] (.null :: st) h := go_plain (q := (15, [.null, l1, l2, l3], (.null :: st), h)) ke_100_14 rfl
theorem ke_100_15 : alook 100 15 = some (15, .getfield 29, 3, (11, 8, 8, 2, 0), ⟨"", "", ""⟩, "WordHidesModel") := rfl
theorem ee_100_15 {d : Nat} {ls st : List Value} {h : aH} {r : Nat} : go d 100 15 ls (.ref r :: st) h = (gf h r 11 8 8).bind fun z => go d 100 18 ls (z :: st) h := go_getf ke_100_15
theorem ke_100_18 : alook 100 18 = some (18, .iconst 2, 1, (0, 0, 0, 0, 0), ⟨"", "", ""⟩, "") := rfl
theorem ee_100_18 {d : Nat} {h : aH} {ls st : List Value} : go d 100 18 ls st h = go d 100 19 ls (.int 2 :: st) h := go_plain (q := (19, ls, (.int 2 :: st), h)) ke_100_18 rfl
theorem ke_100_19 : alook 100 19 = some (19, .iload_n 3, 1, (0, 0, 0, 0, 0), ⟨"", "", ""⟩, "") := rfl
theorem ee_100_19 {d : Nat} {h : aH} {l0 l1 l2 : Value} {x : Int32} {st : List Value} : go d 100 19 [l0, l1, l2, .int x] st h = go d 100 20 [l0, l1, l2, .int x] (.int x :: st) h := go_plain (q := (20, [l0, l1, l2, .int x], (.int x :: st), h)) ke_100_19 rfl
theorem ke_100_20 : alook 100 20 = some (20, .iastore, 1, (0, 0, 0, 0, 0), ⟨"", "", ""⟩, "") := rfl
theorem ee_100_20 {d : Nat} {ls st : List Value} {h : aH} {r : Nat} {i x : Int32} : go d 100 20 ls (.int x :: .int i :: .ref r :: st) h = (is_ h r i x).bind fun h' => go d 100 21 ls st h' := go_iast ke_100_20
theorem ke_100_21 : alook 100 21 = some (21, .return_, 1, (0, 0, 0, 0, 0), ⟨"", "", ""⟩, "") := rfl
theorem ee_100_21 {d : Nat} {ls : List Value} {h : aH} : go d 100 21 ls [] h = some (none, h) := go_ret ke_100_21 rfl rfl rfl
theorem ke_101_0 : alook 101 0 = some (0, .aload_n 0, 1, (0, 0, 0, 0, 0), ⟨"", "", ""⟩, "") := rfl
theorem ee_101_0 {d : Nat} {h : aH} {l1 l2 l3 l4 : Value} {x : Nat} {st : List Value} : go d 101 0 [.ref x, l1, l2, l3, l4] st h = go d 101 1 [.ref x, l1, l2, l3, l4] (.ref x :: st) h := go_plain (q := (1, [.ref x, l1, l2, l3, l4], (.ref x :: st), h)) ke_101_0 rfl
theorem ee_101_0N {d : Nat} {h : aH} {l1 l2 l3 l4 : Value} {st : List Value} : go d 101 0 [.null, l1, l2, l3, l4] st h = go d 101 1 [.null, l1, l2, l3, l4] (.null :: st) h := go_plain (q := (1, [.null, l1, l2, l3, l4], (.null :: st), h)) ke_101_0 rfl
theorem ke_101_1 : alook 101 1 = some (1, .getfield 99, 3, (12, 8, 8, 1, 0), ⟨"", "", ""⟩, "WordHidesModel") := rfl
theorem ee_101_1 {d : Nat} {ls st : List Value} {h : aH} {r : Nat} : go d 101 1 ls (.ref r :: st) h = (gf h r 12 8 8).bind fun z => go d 101 4 ls (z :: st) h := go_getf ke_101_1
theorem ke_101_4 : alook 101 4 = some (4, .ifCond .eq 35, 3, (39, 0, 0, 0, 0), ⟨"", "", ""⟩, "") := rfl
theorem ee_101_4 {d : Nat} {ls st : List Value} {h : aH} {x : Int32} : go d 101 4 ls (.int x :: st) h = if x = 0 then go d 101 39 ls st h else go d 101 7 ls st h := go_c1 (go_if1 (tg := 39) (q := 7) (f := fun x => decide (x = 0)) ke_101_4 rfl)
theorem ke_101_7 : alook 101 7 = some (7, .aload_n 0, 1, (0, 0, 0, 0, 0), ⟨"", "", ""⟩, "") := rfl
theorem ee_101_7 {d : Nat} {h : aH} {l1 l2 l3 l4 : Value} {x : Nat} {st : List Value} : go d 101 7 [.ref x, l1, l2, l3, l4] st h = go d 101 8 [.ref x, l1, l2, l3, l4] (.ref x :: st) h := go_plain (q := (8, [.ref x, l1, l2, l3, l4], (.ref x :: st), h)) ke_101_7 rfl
theorem ee_101_7N {d : Nat} {h : aH} {l1 l2 l3 l4 : Value} {st : List Value} : go d 101 7 [.null, l1, l2, l3, l4] st h = go d 101 8 [.null, l1, l2, l3, l4] (.null :: st) h := go_plain (q := (8, [.null, l1, l2, l3, l4], (.null :: st), h)) ke_101_7 rfl
theorem ke_101_8 : alook 101 8 = some (8, .invokevirtual 103, 3, (0, 8, 110, 8, 110), ⟨"WordHidesModel", "isGood", "()Z"⟩, "") := rfl
theorem ee_101_8 {d : Nat} {ls : List Value} {h : aH} {r0 : Nat} : go (d + 1) 101 8 ls [.ref r0] h = if isC h r0 8 = true then (go d 110 0 [.ref r0, aU] [] h).bind (fun q => go (d + 1) 101 11 ls (q.1.toList ++ []) q.2) else none := go_cv1 (as := []) (rest := []) (L := [.ref r0, aU]) ke_101_8 rfl rfl rfl
theorem ke_101_11 : alook 101 11 = some (11, .ifCond .eq 27, 3, (38, 0, 0, 0, 0), ⟨"", "", ""⟩, "") := rfl
theorem ee_101_11 {d : Nat} {ls st : List Value} {h : aH} {x : Int32} : go d 101 11 ls (.int x :: st) h = if x = 0 then go d 101 38 ls st h else go d 101 14 ls st h := go_c1 (go_if1 (tg := 38) (q := 14) (f := fun x => decide (x = 0)) ke_101_11 rfl)
theorem ke_101_14 : alook 101 14 = some (14, .aload_n 0, 1, (0, 0, 0, 0, 0), ⟨"", "", ""⟩, "") := rfl
theorem ee_101_14 {d : Nat} {h : aH} {l1 l2 l3 l4 : Value} {x : Nat} {st : List Value} : go d 101 14 [.ref x, l1, l2, l3, l4] st h = go d 101 15 [.ref x, l1, l2, l3, l4] (.ref x :: st) h := go_plain (q := (15, [.ref x, l1, l2, l3, l4], (.ref x :: st), h)) ke_101_14 rfl
theorem ee_101_14N {d : Nat} {h : aH} {l1 l2 l3 l4 : Value} {st : List Value} : go d 101 14 [.null, l1, l2, l3, l4] st h = go d 101 15 [.null, l1, l2, l3, l4] (.null :: st) h := go_plain (q := (15, [.null, l1, l2, l3, l4], (.null :: st), h)) ke_101_14 rfl
theorem ke_101_15 : alook 101 15 = some (15, .getfield 107, 3, (10, 8, 8, 0, 0), ⟨"", "", ""⟩, "WordHidesModel") := rfl
theorem ee_101_15 {d : Nat} {ls st : List Value} {h : aH} {r : Nat} : go d 101 15 ls (.ref r :: st) h = (gf h r 10 8 8).bind fun z => go d 101 18 ls (z :: st) h := go_getf ke_101_15
theorem ke_101_18 : alook 101 18 = some (18, .ifCond .ne 10, 3, (28, 0, 0, 0, 0), ⟨"", "", ""⟩, "") := rfl
theorem ee_101_18 {d : Nat} {ls st : List Value} {h : aH} {x : Int32} : go d 101 18 ls (.int x :: st) h = if ¬ x = 0 then go d 101 28 ls st h else go d 101 21 ls st h := go_c1 (go_if1 (tg := 28) (q := 21) (f := fun x => decide (¬ x = 0)) ke_101_18 rfl)
theorem ke_101_21 : alook 101 21 = some (21, .aload_n 0, 1, (0, 0, 0, 0, 0), ⟨"", "", ""⟩, "") := rfl
theorem ee_101_21 {d : Nat} {h : aH} {l1 l2 l3 l4 : Value} {x : Nat} {st : List Value} : go d 101 21 [.ref x, l1, l2, l3, l4] st h = go d 101 22 [.ref x, l1, l2, l3, l4] (.ref x :: st) h := go_plain (q := (22, [.ref x, l1, l2, l3, l4], (.ref x :: st), h)) ke_101_21 rfl
theorem ee_101_21N {d : Nat} {h : aH} {l1 l2 l3 l4 : Value} {st : List Value} : go d 101 21 [.null, l1, l2, l3, l4] st h = go d 101 22 [.null, l1, l2, l3, l4] (.null :: st) h := go_plain (q := (22, [.null, l1, l2, l3, l4], (.null :: st), h)) ke_101_21 rfl
theorem ke_101_22 : alook 101 22 = some (22, .iload_n 1, 1, (0, 0, 0, 0, 0), ⟨"", "", ""⟩, "") := rfl
theorem ee_101_22 {d : Nat} {h : aH} {l0 l2 l3 l4 : Value} {x : Int32} {st : List Value} : go d 101 22 [l0, .int x, l2, l3, l4] st h = go d 101 23 [l0, .int x, l2, l3, l4] (.int x :: st) h := go_plain (q := (23, [l0, .int x, l2, l3, l4], (.int x :: st), h)) ke_101_22 rfl
theorem ke_101_23 : alook 101 23 = some (23, .iload_n 2, 1, (0, 0, 0, 0, 0), ⟨"", "", ""⟩, "") := rfl
theorem ee_101_23 {d : Nat} {h : aH} {l0 l1 l3 l4 : Value} {x : Int32} {st : List Value} : go d 101 23 [l0, l1, .int x, l3, l4] st h = go d 101 24 [l0, l1, .int x, l3, l4] (.int x :: st) h := go_plain (q := (24, [l0, l1, .int x, l3, l4], (.int x :: st), h)) ke_101_23 rfl
theorem ke_101_24 : alook 101 24 = some (24, .iload_n 3, 1, (0, 0, 0, 0, 0), ⟨"", "", ""⟩, "") := rfl
theorem ee_101_24 {d : Nat} {h : aH} {l0 l1 l2 l4 : Value} {x : Int32} {st : List Value} : go d 101 24 [l0, l1, l2, .int x, l4] st h = go d 101 25 [l0, l1, l2, .int x, l4] (.int x :: st) h := go_plain (q := (25, [l0, l1, l2, .int x, l4], (.int x :: st), h)) ke_101_24 rfl
theorem ke_101_25 : alook 101 25 = some (25, .invokevirtual 110, 3, (3, 8, 100, 8, 100), ⟨"WordHidesModel", "keep", "(III)V"⟩, "") := rfl
theorem ee_101_25 {d : Nat} {ls : List Value} {h : aH} {i0 : Int32} {i1 : Int32} {i2 : Int32} {r3 : Nat} : go (d + 1) 101 25 ls [.int i0, .int i1, .int i2, .ref r3] h = if isC h r3 8 = true then (go d 100 0 [.ref r3, .int i2, .int i1, .int i0] [] h).bind (fun q => go (d + 1) 101 28 ls (q.1.toList ++ []) q.2) else none := go_cv1 (as := [.int i2, .int i1, .int i0]) (rest := []) (L := [.ref r3, .int i2, .int i1, .int i0]) ke_101_25 rfl rfl rfl
theorem ke_101_28 : alook 101 28 = some (28, .aload_n 0, 1, (0, 0, 0, 0, 0), ⟨"", "", ""⟩, "") := rfl
theorem ee_101_28 {d : Nat} {h : aH} {l1 l2 l3 l4 : Value} {x : Nat} {st : List Value} : go d 101 28 [.ref x, l1, l2, l3, l4] st h = go d 101 29 [.ref x, l1, l2, l3, l4] (.ref x :: st) h := go_plain (q := (29, [.ref x, l1, l2, l3, l4], (.ref x :: st), h)) ke_101_28 rfl
theorem ee_101_28N {d : Nat} {h : aH} {l1 l2 l3 l4 : Value} {st : List Value} : go d 101 28 [.null, l1, l2, l3, l4] st h = go d 101 29 [.null, l1, l2, l3, l4] (.null :: st) h := go_plain (q := (29, [.null, l1, l2, l3, l4], (.null :: st), h)) ke_101_28 rfl
theorem ke_101_29 : alook 101 29 = some (29, .dup, 1, (0, 0, 0, 0, 0), ⟨"", "", ""⟩, "") := rfl
theorem ee_101_29 {d : Nat} {h : aH} {ls st : List Value} {x : Nat} : go d 101 29 ls (.ref x :: st) h = go d 101 30 ls (.ref x :: .ref x :: st) h := go_plain (q := (30, ls, (.ref x :: .ref x :: st), h)) ke_101_29 rfl
theorem ke_101_30 : alook 101 30 = some (30, .getfield 107, 3, (10, 8, 8, 0, 0), ⟨"", "", ""⟩, "WordHidesModel") := rfl
theorem ee_101_30 {d : Nat} {ls st : List Value} {h : aH} {r : Nat} : go d 101 30 ls (.ref r :: st) h = (gf h r 10 8 8).bind fun z => go d 101 33 ls (z :: st) h := go_getf ke_101_30
theorem ke_101_33 : alook 101 33 = some (33, .iconst 1, 1, (0, 0, 0, 0, 0), ⟨"", "", ""⟩, "") := rfl
theorem ee_101_33 {d : Nat} {h : aH} {ls st : List Value} : go d 101 33 ls st h = go d 101 34 ls (.int 1 :: st) h := go_plain (q := (34, ls, (.int 1 :: st), h)) ke_101_33 rfl
theorem ke_101_34 : alook 101 34 = some (34, .iadd, 1, (0, 0, 0, 0, 0), ⟨"", "", ""⟩, "") := rfl
theorem ee_101_34 {d : Nat} {h : aH} {ls st : List Value} {x y : Int32} : go d 101 34 ls (.int y :: .int x :: st) h = go d 101 35 ls (.int (x + y) :: st) h := go_plain (q := (35, ls, (.int (x + y) :: st), h)) ke_101_34 rfl
theorem ke_101_35 : alook 101 35 = some (35, .putfield 107, 3, (10, 8, 8, 0, 0), ⟨"", "", ""⟩, "WordHidesModel") := rfl
theorem ee_101_35 {d : Nat} {ls st : List Value} {h : aH} {r : Nat} {w : Value} : go d 101 35 ls (w :: .ref r :: st) h = (pf h r 10 8 8 0 w).bind fun h' => go d 101 38 ls st h' := go_putf ke_101_35
theorem ke_101_38 : alook 101 38 = some (38, .return_, 1, (0, 0, 0, 0, 0), ⟨"", "", ""⟩, "") := rfl
theorem ee_101_38 {d : Nat} {ls : List Value} {h : aH} : go d 101 38 ls [] h = some (none, h) := go_ret ke_101_38 rfl rfl rfl
theorem ke_101_39 : alook 101 39 = some (39, .aload_n 0, 1, (0, 0, 0, 0, 0), ⟨"", "", ""⟩, "") := rfl
theorem ee_101_39 {d : Nat} {h : aH} {l1 l2 l3 l4 : Value} {x : Nat} {st : List Value} : go d 101 39 [.ref x, l1, l2, l3, l4] st h = go d 101 40 [.ref x, l1, l2, l3, l4] (.ref x :: st) h := go_plain (q := (40, [.ref x, l1, l2, l3, l4], (.ref x :: st), h)) ke_101_39 rfl
theorem ee_101_39N {d : Nat} {h : aH} {l1 l2 l3 l4 : Value} {st : List Value} : go d 101 39 [.null, l1, l2, l3, l4] st h = go d 101 40 [.null, l1, l2, l3, l4] (.null :: st) h := go_plain (q := (40, [.null, l1, l2, l3, l4], (.null :: st), h)) ke_101_39 rfl
theorem ke_101_40 : alook 101 40 = some (40, .invokevirtual 114, 3, (0, 8, 98, 8, 98), ⟨"WordHidesModel", "crossed", "()I"⟩, "") := rfl
theorem ee_101_40 {d : Nat} {ls : List Value} {h : aH} {r0 : Nat} : go (d + 1) 101 40 ls [.ref r0] h = if isC h r0 8 = true then (go d 98 0 [.ref r0, aU, aU] [] h).bind (fun q => go (d + 1) 101 43 ls (q.1.toList ++ []) q.2) else none := go_cv1 (as := []) (rest := []) (L := [.ref r0, aU, aU]) ke_101_40 rfl rfl rfl
theorem ke_101_43 : alook 101 43 = some (43, .istore 4, 2, (0, 0, 0, 0, 0), ⟨"", "", ""⟩, "") := rfl
theorem ee_101_43 {d : Nat} {h : aH} {l0 l1 l2 l3 l4 : Value} {x : Int32} {st : List Value} : go d 101 43 [l0, l1, l2, l3, l4] (.int x :: st) h = go d 101 45 [l0, l1, l2, l3, .int x] st h := go_plain (q := (45, [l0, l1, l2, l3, .int x], st, h)) ke_101_43 rfl
theorem ke_101_45 : alook 101 45 = some (45, .aload_n 0, 1, (0, 0, 0, 0, 0), ⟨"", "", ""⟩, "") := rfl
theorem ee_101_45 {d : Nat} {h : aH} {l1 l2 l3 l4 : Value} {x : Nat} {st : List Value} : go d 101 45 [.ref x, l1, l2, l3, l4] st h = go d 101 46 [.ref x, l1, l2, l3, l4] (.ref x :: st) h := go_plain (q := (46, [.ref x, l1, l2, l3, l4], (.ref x :: st), h)) ke_101_45 rfl
theorem ee_101_45N {d : Nat} {h : aH} {l1 l2 l3 l4 : Value} {st : List Value} : go d 101 45 [.null, l1, l2, l3, l4] st h = go d 101 46 [.null, l1, l2, l3, l4] (.null :: st) h := go_plain (q := (46, [.null, l1, l2, l3, l4], (.null :: st), h)) ke_101_45 rfl
theorem ke_101_46 : alook 101 46 = some (46, .getfield 117, 3, (7, 8, 8, 0, 0), ⟨"", "", ""⟩, "WordHidesModel") := rfl
theorem ee_101_46 {d : Nat} {ls st : List Value} {h : aH} {r : Nat} : go d 101 46 ls (.ref r :: st) h = (gf h r 7 8 8).bind fun z => go d 101 49 ls (z :: st) h := go_getf ke_101_46
theorem ke_101_49 : alook 101 49 = some (49, .ifCond .eq 12, 3, (61, 0, 0, 0, 0), ⟨"", "", ""⟩, "") := rfl
theorem ee_101_49 {d : Nat} {ls st : List Value} {h : aH} {x : Int32} : go d 101 49 ls (.int x :: st) h = if x = 0 then go d 101 61 ls st h else go d 101 52 ls st h := go_c1 (go_if1 (tg := 61) (q := 52) (f := fun x => decide (x = 0)) ke_101_49 rfl)
theorem ke_101_52 : alook 101 52 = some (52, .iload 4, 2, (0, 0, 0, 0, 0), ⟨"", "", ""⟩, "") := rfl
theorem ee_101_52 {d : Nat} {h : aH} {l0 l1 l2 l3 : Value} {x : Int32} {st : List Value} : go d 101 52 [l0, l1, l2, l3, .int x] st h = go d 101 54 [l0, l1, l2, l3, .int x] (.int x :: st) h := go_plain (q := (54, [l0, l1, l2, l3, .int x], (.int x :: st), h)) ke_101_52 rfl
theorem ke_101_54 : alook 101 54 = some (54, .aload_n 0, 1, (0, 0, 0, 0, 0), ⟨"", "", ""⟩, "") := rfl
theorem ee_101_54 {d : Nat} {h : aH} {l1 l2 l3 l4 : Value} {x : Nat} {st : List Value} : go d 101 54 [.ref x, l1, l2, l3, l4] st h = go d 101 55 [.ref x, l1, l2, l3, l4] (.ref x :: st) h := go_plain (q := (55, [.ref x, l1, l2, l3, l4], (.ref x :: st), h)) ke_101_54 rfl
theorem ee_101_54N {d : Nat} {h : aH} {l1 l2 l3 l4 : Value} {st : List Value} : go d 101 54 [.null, l1, l2, l3, l4] st h = go d 101 55 [.null, l1, l2, l3, l4] (.null :: st) h := go_plain (q := (55, [.null, l1, l2, l3, l4], (.null :: st), h)) ke_101_54 rfl
theorem ke_101_55 : alook 101 55 = some (55, .getfield 120, 3, (8, 8, 8, 0, 0), ⟨"", "", ""⟩, "WordHidesModel") := rfl
theorem ee_101_55 {d : Nat} {ls st : List Value} {h : aH} {r : Nat} : go d 101 55 ls (.ref r :: st) h = (gf h r 8 8 8).bind fun z => go d 101 58 ls (z :: st) h := go_getf ke_101_55
theorem ke_101_58 : alook 101 58 = some (58, .if_icmp .le 21, 3, (79, 0, 0, 0, 0), ⟨"", "", ""⟩, "") := rfl
theorem ee_101_58 {d : Nat} {ls st : List Value} {h : aH} {x y : Int32} : go d 101 58 ls (.int y :: .int x :: st) h = if x ≤ y then go d 101 79 ls st h else go d 101 61 ls st h := go_ci (go_if2 (tg := 79) (q := 61) (f := fun x y => decide (x ≤ y)) ke_101_58 rfl)
theorem ke_101_61 : alook 101 61 = some (61, .aload_n 0, 1, (0, 0, 0, 0, 0), ⟨"", "", ""⟩, "") := rfl
theorem ee_101_61 {d : Nat} {h : aH} {l1 l2 l3 l4 : Value} {x : Nat} {st : List Value} : go d 101 61 [.ref x, l1, l2, l3, l4] st h = go d 101 62 [.ref x, l1, l2, l3, l4] (.ref x :: st) h := go_plain (q := (62, [.ref x, l1, l2, l3, l4], (.ref x :: st), h)) ke_101_61 rfl
theorem ee_101_61N {d : Nat} {h : aH} {l1 l2 l3 l4 : Value} {st : List Value} : go d 101 61 [.null, l1, l2, l3, l4] st h = go d 101 62 [.null, l1, l2, l3, l4] (.null :: st) h := go_plain (q := (62, [.null, l1, l2, l3, l4], (.null :: st), h)) ke_101_61 rfl
theorem ke_101_62 : alook 101 62 = some (62, .iload 4, 2, (0, 0, 0, 0, 0), ⟨"", "", ""⟩, "") := rfl
theorem ee_101_62 {d : Nat} {h : aH} {l0 l1 l2 l3 : Value} {x : Int32} {st : List Value} : go d 101 62 [l0, l1, l2, l3, .int x] st h = go d 101 64 [l0, l1, l2, l3, .int x] (.int x :: st) h := go_plain (q := (64, [l0, l1, l2, l3, .int x], (.int x :: st), h)) ke_101_62 rfl
theorem ke_101_64 : alook 101 64 = some (64, .putfield 120, 3, (8, 8, 8, 0, 0), ⟨"", "", ""⟩, "WordHidesModel") := rfl
theorem ee_101_64 {d : Nat} {ls st : List Value} {h : aH} {r : Nat} {w : Value} : go d 101 64 ls (w :: .ref r :: st) h = (pf h r 8 8 8 0 w).bind fun h' => go d 101 67 ls st h' := go_putf ke_101_64
theorem ke_101_67 : alook 101 67 = some (67, .aload_n 0, 1, (0, 0, 0, 0, 0), ⟨"", "", ""⟩, "") := rfl
theorem ee_101_67 {d : Nat} {h : aH} {l1 l2 l3 l4 : Value} {x : Nat} {st : List Value} : go d 101 67 [.ref x, l1, l2, l3, l4] st h = go d 101 68 [.ref x, l1, l2, l3, l4] (.ref x :: st) h := go_plain (q := (68, [.ref x, l1, l2, l3, l4], (.ref x :: st), h)) ke_101_67 rfl
theorem ee_101_67N {d : Nat} {h : aH} {l1 l2 l3 l4 : Value} {st : List Value} : go d 101 67 [.null, l1, l2, l3, l4] st h = go d 101 68 [.null, l1, l2, l3, l4] (.null :: st) h := go_plain (q := (68, [.null, l1, l2, l3, l4], (.null :: st), h)) ke_101_67 rfl
theorem ke_101_68 : alook 101 68 = some (68, .iconst 0, 1, (0, 0, 0, 0, 0), ⟨"", "", ""⟩, "") := rfl
theorem ee_101_68 {d : Nat} {h : aH} {ls st : List Value} : go d 101 68 ls st h = go d 101 69 ls (.int 0 :: st) h := go_plain (q := (69, ls, (.int 0 :: st), h)) ke_101_68 rfl
theorem ke_101_69 : alook 101 69 = some (69, .putfield 123, 3, (9, 8, 8, 0, 0), ⟨"", "", ""⟩, "WordHidesModel") := rfl
theorem ee_101_69 {d : Nat} {ls st : List Value} {h : aH} {r : Nat} {w : Value} : go d 101 69 ls (w :: .ref r :: st) h = (pf h r 9 8 8 0 w).bind fun h' => go d 101 72 ls st h' := go_putf ke_101_69
theorem ke_101_72 : alook 101 72 = some (72, .aload_n 0, 1, (0, 0, 0, 0, 0), ⟨"", "", ""⟩, "") := rfl
theorem ee_101_72 {d : Nat} {h : aH} {l1 l2 l3 l4 : Value} {x : Nat} {st : List Value} : go d 101 72 [.ref x, l1, l2, l3, l4] st h = go d 101 73 [.ref x, l1, l2, l3, l4] (.ref x :: st) h := go_plain (q := (73, [.ref x, l1, l2, l3, l4], (.ref x :: st), h)) ke_101_72 rfl
theorem ee_101_72N {d : Nat} {h : aH} {l1 l2 l3 l4 : Value} {st : List Value} : go d 101 72 [.null, l1, l2, l3, l4] st h = go d 101 73 [.null, l1, l2, l3, l4] (.null :: st) h := go_plain (q := (73, [.null, l1, l2, l3, l4], (.null :: st), h)) ke_101_72 rfl
theorem ke_101_73 : alook 101 73 = some (73, .iload_n 1, 1, (0, 0, 0, 0, 0), ⟨"", "", ""⟩, "") := rfl
theorem ee_101_73 {d : Nat} {h : aH} {l0 l2 l3 l4 : Value} {x : Int32} {st : List Value} : go d 101 73 [l0, .int x, l2, l3, l4] st h = go d 101 74 [l0, .int x, l2, l3, l4] (.int x :: st) h := go_plain (q := (74, [l0, .int x, l2, l3, l4], (.int x :: st), h)) ke_101_73 rfl
theorem ke_101_74 : alook 101 74 = some (74, .iload_n 2, 1, (0, 0, 0, 0, 0), ⟨"", "", ""⟩, "") := rfl
theorem ee_101_74 {d : Nat} {h : aH} {l0 l1 l3 l4 : Value} {x : Int32} {st : List Value} : go d 101 74 [l0, l1, .int x, l3, l4] st h = go d 101 75 [l0, l1, .int x, l3, l4] (.int x :: st) h := go_plain (q := (75, [l0, l1, .int x, l3, l4], (.int x :: st), h)) ke_101_74 rfl
theorem ke_101_75 : alook 101 75 = some (75, .iload_n 3, 1, (0, 0, 0, 0, 0), ⟨"", "", ""⟩, "") := rfl
theorem ee_101_75 {d : Nat} {h : aH} {l0 l1 l2 l4 : Value} {x : Int32} {st : List Value} : go d 101 75 [l0, l1, l2, .int x, l4] st h = go d 101 76 [l0, l1, l2, .int x, l4] (.int x :: st) h := go_plain (q := (76, [l0, l1, l2, .int x, l4], (.int x :: st), h)) ke_101_75 rfl
theorem ke_101_76 : alook 101 76 = some (76, .invokevirtual 110, 3, (3, 8, 100, 8, 100), ⟨"WordHidesModel", "keep", "(III)V"⟩, "") := rfl
theorem ee_101_76 {d : Nat} {ls : List Value} {h : aH} {i0 : Int32} {i1 : Int32} {i2 : Int32} {r3 : Nat} : go (d + 1) 101 76 ls [.int i0, .int i1, .int i2, .ref r3] h = if isC h r3 8 = true then (go d 100 0 [.ref r3, .int i2, .int i1, .int i0] [] h).bind (fun q => go (d + 1) 101 79 ls (q.1.toList ++ []) q.2) else none := go_cv1 (as := [.int i2, .int i1, .int i0]) (rest := []) (L := [.ref r3, .int i2, .int i1, .int i0]) ke_101_76 rfl rfl rfl
theorem ke_101_79 : alook 101 79 = some (79, .aload_n 0, 1, (0, 0, 0, 0, 0), ⟨"", "", ""⟩, "") := rfl
theorem ee_101_79 {d : Nat} {h : aH} {l1 l2 l3 l4 : Value} {x : Nat} {st : List Value} : go d 101 79 [.ref x, l1, l2, l3, l4] st h = go d 101 80 [.ref x, l1, l2, l3, l4] (.ref x :: st) h := go_plain (q := (80, [.ref x, l1, l2, l3, l4], (.ref x :: st), h)) ke_101_79 rfl
theorem ee_101_79N {d : Nat} {h : aH} {l1 l2 l3 l4 : Value} {st : List Value} : go d 101 79 [.null, l1, l2, l3, l4] st h = go d 101 80 [.null, l1, l2, l3, l4] (.null :: st) h := go_plain (q := (80, [.null, l1, l2, l3, l4], (.null :: st), h)) ke_101_79 rfl
theorem ke_101_80 : alook 101 80 = some (80, .dup, 1, (0, 0, 0, 0, 0), ⟨"", "", ""⟩, "") := rfl
theorem ee_101_80 {d : Nat} {h : aH} {ls st : List Value} {x : Nat} : go d 101 80 ls (.ref x :: st) h = go d 101 81 ls (.ref x :: .ref x :: st) h := go_plain (q := (81, ls, (.ref x :: .ref x :: st), h)) ke_101_80 rfl
theorem ke_101_81 : alook 101 81 = some (81, .getfield 123, 3, (9, 8, 8, 0, 0), ⟨"", "", ""⟩, "WordHidesModel") := rfl
theorem ee_101_81 {d : Nat} {ls st : List Value} {h : aH} {r : Nat} : go d 101 81 ls (.ref r :: st) h = (gf h r 9 8 8).bind fun z => go d 101 84 ls (z :: st) h := go_getf ke_101_81
theorem ke_101_84 : alook 101 84 = some (84, .iload 4, 2, (0, 0, 0, 0, 0), ⟨"", "", ""⟩, "") := rfl
theorem ee_101_84 {d : Nat} {h : aH} {l0 l1 l2 l3 : Value} {x : Int32} {st : List Value} : go d 101 84 [l0, l1, l2, l3, .int x] st h = go d 101 86 [l0, l1, l2, l3, .int x] (.int x :: st) h := go_plain (q := (86, [l0, l1, l2, l3, .int x], (.int x :: st), h)) ke_101_84 rfl
theorem ke_101_86 : alook 101 86 = some (86, .aload_n 0, 1, (0, 0, 0, 0, 0), ⟨"", "", ""⟩, "") := rfl
theorem ee_101_86 {d : Nat} {h : aH} {l1 l2 l3 l4 : Value} {x : Nat} {st : List Value} : go d 101 86 [.ref x, l1, l2, l3, l4] st h = go d 101 87 [.ref x, l1, l2, l3, l4] (.ref x :: st) h := go_plain (q := (87, [.ref x, l1, l2, l3, l4], (.ref x :: st), h)) ke_101_86 rfl
theorem ee_101_86N {d : Nat} {h : aH} {l1 l2 l3 l4 : Value} {st : List Value} : go d 101 86 [.null, l1, l2, l3, l4] st h = go d 101 87 [.null, l1, l2, l3, l4] (.null :: st) h := go_plain (q := (87, [.null, l1, l2, l3, l4], (.null :: st), h)) ke_101_86 rfl
theorem ke_101_87 : alook 101 87 = some (87, .getfield 120, 3, (8, 8, 8, 0, 0), ⟨"", "", ""⟩, "WordHidesModel") := rfl
theorem ee_101_87 {d : Nat} {ls st : List Value} {h : aH} {r : Nat} : go d 101 87 ls (.ref r :: st) h = (gf h r 8 8 8).bind fun z => go d 101 90 ls (z :: st) h := go_getf ke_101_87
theorem ke_101_90 : alook 101 90 = some (90, .if_icmp .ne 7, 3, (97, 0, 0, 0, 0), ⟨"", "", ""⟩, "") := rfl
theorem ee_101_90 {d : Nat} {ls st : List Value} {h : aH} {x y : Int32} : go d 101 90 ls (.int y :: .int x :: st) h = if ¬ x = y then go d 101 97 ls st h else go d 101 93 ls st h := go_ci (go_if2 (tg := 97) (q := 93) (f := fun x y => decide (¬ x = y)) ke_101_90 rfl)
theorem ke_101_93 : alook 101 93 = some (93, .iconst 1, 1, (0, 0, 0, 0, 0), ⟨"", "", ""⟩, "") := rfl
theorem ee_101_93 {d : Nat} {h : aH} {ls st : List Value} : go d 101 93 ls st h = go d 101 94 ls (.int 1 :: st) h := go_plain (q := (94, ls, (.int 1 :: st), h)) ke_101_93 rfl
theorem ke_101_94 : alook 101 94 = some (94, .goto 4, 3, (98, 0, 0, 0, 0), ⟨"", "", ""⟩, "") := rfl
theorem ee_101_94 {d : Nat} {h : aH} {ls st : List Value} : go d 101 94 ls st h = go d 101 98 ls st h := go_plain (q := (98, ls, st, h)) ke_101_94 rfl
theorem ke_101_97 : alook 101 97 = some (97, .iconst 0, 1, (0, 0, 0, 0, 0), ⟨"", "", ""⟩, "") := rfl
theorem ee_101_97 {d : Nat} {h : aH} {ls st : List Value} : go d 101 97 ls st h = go d 101 98 ls (.int 0 :: st) h := go_plain (q := (98, ls, (.int 0 :: st), h)) ke_101_97 rfl
theorem ke_101_98 : alook 101 98 = some (98, .iadd, 1, (0, 0, 0, 0, 0), ⟨"", "", ""⟩, "") := rfl
theorem ee_101_98 {d : Nat} {h : aH} {ls st : List Value} {x y : Int32} : go d 101 98 ls (.int y :: .int x :: st) h = go d 101 99 ls (.int (x + y) :: st) h := go_plain (q := (99, ls, (.int (x + y) :: st), h)) ke_101_98 rfl
theorem ke_101_99 : alook 101 99 = some (99, .putfield 123, 3, (9, 8, 8, 0, 0), ⟨"", "", ""⟩, "WordHidesModel") := rfl
theorem ee_101_99 {d : Nat} {ls st : List Value} {h : aH} {r : Nat} {w : Value} : go d 101 99 ls (w :: .ref r :: st) h = (pf h r 9 8 8 0 w).bind fun h' => go d 101 102 ls st h' := go_putf ke_101_99
theorem ke_101_102 : alook 101 102 = some (102, .aload_n 0, 1, (0, 0, 0, 0, 0), ⟨"", "", ""⟩, "") := rfl
theorem ee_101_102 {d : Nat} {h : aH} {l1 l2 l3 l4 : Value} {x : Nat} {st : List Value} : go d 101 102 [.ref x, l1, l2, l3, l4] st h = go d 101 103 [.ref x, l1, l2, l3, l4] (.ref x :: st) h := go_plain (q := (103, [.ref x, l1, l2, l3, l4], (.ref x :: st), h)) ke_101_102 rfl
theorem ee_101_102N {d : Nat} {h : aH} {l1 l2 l3 l4 : Value} {st : List Value} : go d 101 102 [.null, l1, l2, l3, l4] st h = go d 101 103 [.null, l1, l2, l3, l4] (.null :: st) h := go_plain (q := (103, [.null, l1, l2, l3, l4], (.null :: st), h)) ke_101_102 rfl
theorem ke_101_103 : alook 101 103 = some (103, .dup, 1, (0, 0, 0, 0, 0), ⟨"", "", ""⟩, "") := rfl
theorem ee_101_103 {d : Nat} {h : aH} {ls st : List Value} {x : Nat} : go d 101 103 ls (.ref x :: st) h = go d 101 104 ls (.ref x :: .ref x :: st) h := go_plain (q := (104, ls, (.ref x :: .ref x :: st), h)) ke_101_103 rfl
theorem ke_101_104 : alook 101 104 = some (104, .getfield 117, 3, (7, 8, 8, 0, 0), ⟨"", "", ""⟩, "WordHidesModel") := rfl
theorem ee_101_104 {d : Nat} {ls st : List Value} {h : aH} {r : Nat} : go d 101 104 ls (.ref r :: st) h = (gf h r 7 8 8).bind fun z => go d 101 107 ls (z :: st) h := go_getf ke_101_104
theorem ke_101_107 : alook 101 107 = some (107, .iconst 1, 1, (0, 0, 0, 0, 0), ⟨"", "", ""⟩, "") := rfl
theorem ee_101_107 {d : Nat} {h : aH} {ls st : List Value} : go d 101 107 ls st h = go d 101 108 ls (.int 1 :: st) h := go_plain (q := (108, ls, (.int 1 :: st), h)) ke_101_107 rfl
theorem ke_101_108 : alook 101 108 = some (108, .iadd, 1, (0, 0, 0, 0, 0), ⟨"", "", ""⟩, "") := rfl
theorem ee_101_108 {d : Nat} {h : aH} {ls st : List Value} {x y : Int32} : go d 101 108 ls (.int y :: .int x :: st) h = go d 101 109 ls (.int (x + y) :: st) h := go_plain (q := (109, ls, (.int (x + y) :: st), h)) ke_101_108 rfl
theorem ke_101_109 : alook 101 109 = some (109, .putfield 117, 3, (7, 8, 8, 0, 0), ⟨"", "", ""⟩, "WordHidesModel") := rfl
theorem ee_101_109 {d : Nat} {ls st : List Value} {h : aH} {r : Nat} {w : Value} : go d 101 109 ls (w :: .ref r :: st) h = (pf h r 7 8 8 0 w).bind fun h' => go d 101 112 ls st h' := go_putf ke_101_109
theorem ke_101_112 : alook 101 112 = some (112, .return_, 1, (0, 0, 0, 0, 0), ⟨"", "", ""⟩, "") := rfl
theorem ee_101_112 {d : Nat} {ls : List Value} {h : aH} : go d 101 112 ls [] h = some (none, h) := go_ret ke_101_112 rfl rfl rfl
theorem ke_102_0 : alook 102 0 = some (0, .aload_n 0, 1, (0, 0, 0, 0, 0), ⟨"", "", ""⟩, "") := rfl
theorem ee_102_0 {d : Nat} {h : aH} {l1 l2 l3 : Value} {x : Nat} {st : List Value} : go d 102 0 [.ref x, l1, l2, l3] st h = go d 102 1 [.ref x, l1, l2, l3] (.ref x :: st) h := go_plain (q := (1, [.ref x, l1, l2, l3], (.ref x :: st), h)) ke_102_0 rfl
theorem ee_102_0N {d : Nat} {h : aH} {l1 l2 l3 : Value} {st : List Value} : go d 102 0 [.null, l1, l2, l3] st h = go d 102 1 [.null, l1, l2, l3] (.null :: st) h := go_plain (q := (1, [.null, l1, l2, l3], (.null :: st), h)) ke_102_0 rfl
theorem ke_102_1 : alook 102 1 = some (1, .iload_n 1, 1, (0, 0, 0, 0, 0), ⟨"", "", ""⟩, "") := rfl
theorem ee_102_1 {d : Nat} {h : aH} {l0 l2 l3 : Value} {x : Int32} {st : List Value} : go d 102 1 [l0, .int x, l2, l3] st h = go d 102 2 [l0, .int x, l2, l3] (.int x :: st) h := go_plain (q := (2, [l0, .int x, l2, l3], (.int x :: st), h)) ke_102_1 rfl
theorem ke_102_2 : alook 102 2 = some (2, .putfield 99, 3, (12, 8, 8, 1, 0), ⟨"", "", ""⟩, "WordHidesModel") := rfl
theorem ee_102_2 {d : Nat} {ls st : List Value} {h : aH} {r : Nat} {w : Value} : go d 102 2 ls (w :: .ref r :: st) h = (pf h r 12 8 8 1 w).bind fun h' => go d 102 5 ls st h' := go_putf ke_102_2
theorem ke_102_5 : alook 102 5 = some (5, .aload_n 0, 1, (0, 0, 0, 0, 0), ⟨"", "", ""⟩, "") := rfl
theorem ee_102_5 {d : Nat} {h : aH} {l1 l2 l3 : Value} {x : Nat} {st : List Value} : go d 102 5 [.ref x, l1, l2, l3] st h = go d 102 6 [.ref x, l1, l2, l3] (.ref x :: st) h := go_plain (q := (6, [.ref x, l1, l2, l3], (.ref x :: st), h)) ke_102_5 rfl
theorem ee_102_5N {d : Nat} {h : aH} {l1 l2 l3 : Value} {st : List Value} : go d 102 5 [.null, l1, l2, l3] st h = go d 102 6 [.null, l1, l2, l3] (.null :: st) h := go_plain (q := (6, [.null, l1, l2, l3], (.null :: st), h)) ke_102_5 rfl
theorem ke_102_6 : alook 102 6 = some (6, .iconst 0, 1, (0, 0, 0, 0, 0), ⟨"", "", ""⟩, "") := rfl
theorem ee_102_6 {d : Nat} {h : aH} {ls st : List Value} : go d 102 6 ls st h = go d 102 7 ls (.int 0 :: st) h := go_plain (q := (7, ls, (.int 0 :: st), h)) ke_102_6 rfl
theorem ke_102_7 : alook 102 7 = some (7, .putfield 117, 3, (7, 8, 8, 0, 0), ⟨"", "", ""⟩, "WordHidesModel") := rfl
theorem ee_102_7 {d : Nat} {ls st : List Value} {h : aH} {r : Nat} {w : Value} : go d 102 7 ls (w :: .ref r :: st) h = (pf h r 7 8 8 0 w).bind fun h' => go d 102 10 ls st h' := go_putf ke_102_7
theorem ke_102_10 : alook 102 10 = some (10, .aload_n 0, 1, (0, 0, 0, 0, 0), ⟨"", "", ""⟩, "") := rfl
theorem ee_102_10 {d : Nat} {h : aH} {l1 l2 l3 : Value} {x : Nat} {st : List Value} : go d 102 10 [.ref x, l1, l2, l3] st h = go d 102 11 [.ref x, l1, l2, l3] (.ref x :: st) h := go_plain (q := (11, [.ref x, l1, l2, l3], (.ref x :: st), h)) ke_102_10 rfl
theorem ee_102_10N {d : Nat} {h : aH} {l1 l2 l3 : Value} {st : List Value} : go d 102 10 [.null, l1, l2, l3] st h = go d 102 11 [.null, l1, l2, l3] (.null :: st) h := go_plain (q := (11, [.null, l1, l2, l3], (.null :: st), h)) ke_102_10 rfl
theorem ke_102_11 : alook 102 11 = some (11, .bipush (-6), 2, (0, 0, 0, 0, 0), ⟨"", "", ""⟩, "") := rfl
theorem ee_102_11 {d : Nat} {h : aH} {ls st : List Value} : go d 102 11 ls st h = go d 102 13 ls (.int (-6) :: st) h := go_plain (q := (13, ls, (.int (-6) :: st), h)) ke_102_11 rfl
theorem ke_102_13 : alook 102 13 = some (13, .putfield 120, 3, (8, 8, 8, 0, 0), ⟨"", "", ""⟩, "WordHidesModel") := rfl
theorem ee_102_13 {d : Nat} {ls st : List Value} {h : aH} {r : Nat} {w : Value} : go d 102 13 ls (w :: .ref r :: st) h = (pf h r 8 8 8 0 w).bind fun h' => go d 102 16 ls st h' := go_putf ke_102_13
theorem ke_102_16 : alook 102 16 = some (16, .aload_n 0, 1, (0, 0, 0, 0, 0), ⟨"", "", ""⟩, "") := rfl
theorem ee_102_16 {d : Nat} {h : aH} {l1 l2 l3 : Value} {x : Nat} {st : List Value} : go d 102 16 [.ref x, l1, l2, l3] st h = go d 102 17 [.ref x, l1, l2, l3] (.ref x :: st) h := go_plain (q := (17, [.ref x, l1, l2, l3], (.ref x :: st), h)) ke_102_16 rfl
theorem ee_102_16N {d : Nat} {h : aH} {l1 l2 l3 : Value} {st : List Value} : go d 102 16 [.null, l1, l2, l3] st h = go d 102 17 [.null, l1, l2, l3] (.null :: st) h := go_plain (q := (17, [.null, l1, l2, l3], (.null :: st), h)) ke_102_16 rfl
theorem ke_102_17 : alook 102 17 = some (17, .bipush (-6), 2, (0, 0, 0, 0, 0), ⟨"", "", ""⟩, "") := rfl
theorem ee_102_17 {d : Nat} {h : aH} {ls st : List Value} : go d 102 17 ls st h = go d 102 19 ls (.int (-6) :: st) h := go_plain (q := (19, ls, (.int (-6) :: st), h)) ke_102_17 rfl
theorem ke_102_19 : alook 102 19 = some (19, .putfield 123, 3, (9, 8, 8, 0, 0), ⟨"", "", ""⟩, "WordHidesModel") := rfl
theorem ee_102_19 {d : Nat} {ls st : List Value} {h : aH} {r : Nat} {w : Value} : go d 102 19 ls (w :: .ref r :: st) h = (pf h r 9 8 8 0 w).bind fun h' => go d 102 22 ls st h' := go_putf ke_102_19
theorem ke_102_22 : alook 102 22 = some (22, .aload_n 0, 1, (0, 0, 0, 0, 0), ⟨"", "", ""⟩, "") := rfl
theorem ee_102_22 {d : Nat} {h : aH} {l1 l2 l3 : Value} {x : Nat} {st : List Value} : go d 102 22 [.ref x, l1, l2, l3] st h = go d 102 23 [.ref x, l1, l2, l3] (.ref x :: st) h := go_plain (q := (23, [.ref x, l1, l2, l3], (.ref x :: st), h)) ke_102_22 rfl
theorem ee_102_22N {d : Nat} {h : aH} {l1 l2 l3 : Value} {st : List Value} : go d 102 22 [.null, l1, l2, l3] st h = go d 102 23 [.null, l1, l2, l3] (.null :: st) h := go_plain (q := (23, [.null, l1, l2, l3], (.null :: st), h)) ke_102_22 rfl
theorem ke_102_23 : alook 102 23 = some (23, .iconst 0, 1, (0, 0, 0, 0, 0), ⟨"", "", ""⟩, "") := rfl
theorem ee_102_23 {d : Nat} {h : aH} {ls st : List Value} : go d 102 23 ls st h = go d 102 24 ls (.int 0 :: st) h := go_plain (q := (24, ls, (.int 0 :: st), h)) ke_102_23 rfl
theorem ke_102_24 : alook 102 24 = some (24, .putfield 107, 3, (10, 8, 8, 0, 0), ⟨"", "", ""⟩, "WordHidesModel") := rfl
theorem ee_102_24 {d : Nat} {ls st : List Value} {h : aH} {r : Nat} {w : Value} : go d 102 24 ls (w :: .ref r :: st) h = (pf h r 10 8 8 0 w).bind fun h' => go d 102 27 ls st h' := go_putf ke_102_24
theorem ke_102_27 : alook 102 27 = some (27, .aload_n 0, 1, (0, 0, 0, 0, 0), ⟨"", "", ""⟩, "") := rfl
theorem ee_102_27 {d : Nat} {h : aH} {l1 l2 l3 : Value} {x : Nat} {st : List Value} : go d 102 27 [.ref x, l1, l2, l3] st h = go d 102 28 [.ref x, l1, l2, l3] (.ref x :: st) h := go_plain (q := (28, [.ref x, l1, l2, l3], (.ref x :: st), h)) ke_102_27 rfl
theorem ee_102_27N {d : Nat} {h : aH} {l1 l2 l3 : Value} {st : List Value} : go d 102 27 [.null, l1, l2, l3] st h = go d 102 28 [.null, l1, l2, l3] (.null :: st) h := go_plain (q := (28, [.null, l1, l2, l3], (.null :: st), h)) ke_102_27 rfl
theorem ke_102_28 : alook 102 28 = some (28, .invokevirtual 90, 3, (0, 8, 87, 8, 87), ⟨"WordHidesModel", "begin", "()V"⟩, "") := rfl
theorem ee_102_28 {d : Nat} {ls : List Value} {h : aH} {r0 : Nat} : go (d + 1) 102 28 ls [.ref r0] h = if isC h r0 8 = true then (go d 87 0 [.ref r0, aU] [] h).bind (fun q => go (d + 1) 102 31 ls (q.1.toList ++ []) q.2) else none := go_cv1 (as := []) (rest := []) (L := [.ref r0, aU]) ke_102_28 rfl rfl rfl
theorem ke_102_31 : alook 102 31 = some (31, .iconst 0, 1, (0, 0, 0, 0, 0), ⟨"", "", ""⟩, "") := rfl
theorem ee_102_31 {d : Nat} {h : aH} {ls st : List Value} : go d 102 31 ls st h = go d 102 32 ls (.int 0 :: st) h := go_plain (q := (32, ls, (.int 0 :: st), h)) ke_102_31 rfl
theorem ke_102_32 : alook 102 32 = some (32, .istore_n 2, 1, (0, 0, 0, 0, 0), ⟨"", "", ""⟩, "") := rfl
theorem ee_102_32 {d : Nat} {h : aH} {l0 l1 l2 l3 : Value} {x : Int32} {st : List Value} : go d 102 32 [l0, l1, l2, l3] (.int x :: st) h = go d 102 33 [l0, l1, .int x, l3] st h := go_plain (q := (33, [l0, l1, .int x, l3], st, h)) ke_102_32 rfl
theorem ke_102_33 : alook 102 33 = some (33, .iload_n 2, 1, (0, 0, 0, 0, 0), ⟨"", "", ""⟩, "") := rfl
theorem ee_102_33 {d : Nat} {h : aH} {l0 l1 l3 : Value} {x : Int32} {st : List Value} : go d 102 33 [l0, l1, .int x, l3] st h = go d 102 34 [l0, l1, .int x, l3] (.int x :: st) h := go_plain (q := (34, [l0, l1, .int x, l3], (.int x :: st), h)) ke_102_33 rfl
theorem ke_102_34 : alook 102 34 = some (34, .aload_n 0, 1, (0, 0, 0, 0, 0), ⟨"", "", ""⟩, "") := rfl
theorem ee_102_34 {d : Nat} {h : aH} {l1 l2 l3 : Value} {x : Nat} {st : List Value} : go d 102 34 [.ref x, l1, l2, l3] st h = go d 102 35 [.ref x, l1, l2, l3] (.ref x :: st) h := go_plain (q := (35, [.ref x, l1, l2, l3], (.ref x :: st), h)) ke_102_34 rfl
theorem ee_102_34N {d : Nat} {h : aH} {l1 l2 l3 : Value} {st : List Value} : go d 102 34 [.null, l1, l2, l3] st h = go d 102 35 [.null, l1, l2, l3] (.null :: st) h := go_plain (q := (35, [.null, l1, l2, l3], (.null :: st), h)) ke_102_34 rfl
theorem ke_102_35 : alook 102 35 = some (35, .iconst 0, 1, (0, 0, 0, 0, 0), ⟨"", "", ""⟩, "") := rfl
theorem ee_102_35 {d : Nat} {h : aH} {ls st : List Value} : go d 102 35 ls st h = go d 102 36 ls (.int 0 :: st) h := go_plain (q := (36, ls, (.int 0 :: st), h)) ke_102_35 rfl
theorem ke_102_36 : alook 102 36 = some (36, .invokevirtual 126, 3, (1, 8, 90, 8, 90), ⟨"WordHidesModel", "placesOf", "(I)I"⟩, "") := rfl
theorem ee_102_36 {d : Nat} {ls : List Value} {h : aH} {i0 : Int32} {r1 : Nat} {i2 : Int32} : go (d + 1) 102 36 ls [.int i0, .ref r1, .int i2] h = if isC h r1 8 = true then (go d 90 0 [.ref r1, .int i0] [] h).bind (fun q => go (d + 1) 102 39 ls (q.1.toList ++ [.int i2]) q.2) else none := go_cv1 (as := [.int i0]) (rest := [.int i2]) (L := [.ref r1, .int i0]) ke_102_36 rfl rfl rfl
theorem ke_102_39 : alook 102 39 = some (39, .if_icmp .ge 50, 3, (89, 0, 0, 0, 0), ⟨"", "", ""⟩, "") := rfl
theorem ee_102_39 {d : Nat} {ls st : List Value} {h : aH} {x y : Int32} : go d 102 39 ls (.int y :: .int x :: st) h = if y ≤ x then go d 102 89 ls st h else go d 102 42 ls st h := go_ci (go_if2 (tg := 89) (q := 42) (f := fun x y => decide (y ≤ x)) ke_102_39 rfl)
theorem ke_102_42 : alook 102 42 = some (42, .aload_n 0, 1, (0, 0, 0, 0, 0), ⟨"", "", ""⟩, "") := rfl
theorem ee_102_42 {d : Nat} {h : aH} {l1 l2 l3 : Value} {x : Nat} {st : List Value} : go d 102 42 [.ref x, l1, l2, l3] st h = go d 102 43 [.ref x, l1, l2, l3] (.ref x :: st) h := go_plain (q := (43, [.ref x, l1, l2, l3], (.ref x :: st), h)) ke_102_42 rfl
theorem ee_102_42N {d : Nat} {h : aH} {l1 l2 l3 : Value} {st : List Value} : go d 102 42 [.null, l1, l2, l3] st h = go d 102 43 [.null, l1, l2, l3] (.null :: st) h := go_plain (q := (43, [.null, l1, l2, l3], (.null :: st), h)) ke_102_42 rfl
theorem ke_102_43 : alook 102 43 = some (43, .iconst 0, 1, (0, 0, 0, 0, 0), ⟨"", "", ""⟩, "") := rfl
theorem ee_102_43 {d : Nat} {h : aH} {ls st : List Value} : go d 102 43 ls st h = go d 102 44 ls (.int 0 :: st) h := go_plain (q := (44, ls, (.int 0 :: st), h)) ke_102_43 rfl
theorem ke_102_44 : alook 102 44 = some (44, .iload_n 2, 1, (0, 0, 0, 0, 0), ⟨"", "", ""⟩, "") := rfl
theorem ee_102_44 {d : Nat} {h : aH} {l0 l1 l3 : Value} {x : Int32} {st : List Value} : go d 102 44 [l0, l1, .int x, l3] st h = go d 102 45 [l0, l1, .int x, l3] (.int x :: st) h := go_plain (q := (45, [l0, l1, .int x, l3], (.int x :: st), h)) ke_102_44 rfl
theorem ke_102_45 : alook 102 45 = some (45, .invokevirtual 129, 3, (2, 8, 91, 8, 91), ⟨"WordHidesModel", "layStep", "(II)Z"⟩, "") := rfl
theorem ee_102_45 {d : Nat} {ls : List Value} {h : aH} {i0 : Int32} {i1 : Int32} {r2 : Nat} : go (d + 1) 102 45 ls [.int i0, .int i1, .ref r2] h = if isC h r2 8 = true then (go d 91 0 [.ref r2, .int i1, .int i0] [] h).bind (fun q => go (d + 1) 102 48 ls (q.1.toList ++ []) q.2) else none := go_cv1 (as := [.int i1, .int i0]) (rest := []) (L := [.ref r2, .int i1, .int i0]) ke_102_45 rfl rfl rfl
theorem ke_102_48 : alook 102 48 = some (48, .ifCond .eq 35, 3, (83, 0, 0, 0, 0), ⟨"", "", ""⟩, "") := rfl
theorem ee_102_48 {d : Nat} {ls st : List Value} {h : aH} {x : Int32} : go d 102 48 ls (.int x :: st) h = if x = 0 then go d 102 83 ls st h else go d 102 51 ls st h := go_c1 (go_if1 (tg := 83) (q := 51) (f := fun x => decide (x = 0)) ke_102_48 rfl)
theorem ke_102_51 : alook 102 51 = some (51, .iconst 0, 1, (0, 0, 0, 0, 0), ⟨"", "", ""⟩, "") := rfl
theorem ee_102_51 {d : Nat} {h : aH} {ls st : List Value} : go d 102 51 ls st h = go d 102 52 ls (.int 0 :: st) h := go_plain (q := (52, ls, (.int 0 :: st), h)) ke_102_51 rfl
theorem ke_102_52 : alook 102 52 = some (52, .istore_n 3, 1, (0, 0, 0, 0, 0), ⟨"", "", ""⟩, "") := rfl
theorem ee_102_52 {d : Nat} {h : aH} {l0 l1 l2 l3 : Value} {x : Int32} {st : List Value} : go d 102 52 [l0, l1, l2, l3] (.int x :: st) h = go d 102 53 [l0, l1, l2, .int x] st h := go_plain (q := (53, [l0, l1, l2, .int x], st, h)) ke_102_52 rfl
theorem ke_102_53 : alook 102 53 = some (53, .iload_n 3, 1, (0, 0, 0, 0, 0), ⟨"", "", ""⟩, "") := rfl
theorem ee_102_53 {d : Nat} {h : aH} {l0 l1 l2 : Value} {x : Int32} {st : List Value} : go d 102 53 [l0, l1, l2, .int x] st h = go d 102 54 [l0, l1, l2, .int x] (.int x :: st) h := go_plain (q := (54, [l0, l1, l2, .int x], (.int x :: st), h)) ke_102_53 rfl
theorem ke_102_54 : alook 102 54 = some (54, .aload_n 0, 1, (0, 0, 0, 0, 0), ⟨"", "", ""⟩, "") := rfl
theorem ee_102_54 {d : Nat} {h : aH} {l1 l2 l3 : Value} {x : Nat} {st : List Value} : go d 102 54 [.ref x, l1, l2, l3] st h = go d 102 55 [.ref x, l1, l2, l3] (.ref x :: st) h := go_plain (q := (55, [.ref x, l1, l2, l3], (.ref x :: st), h)) ke_102_54 rfl
theorem ee_102_54N {d : Nat} {h : aH} {l1 l2 l3 : Value} {st : List Value} : go d 102 54 [.null, l1, l2, l3] st h = go d 102 55 [.null, l1, l2, l3] (.null :: st) h := go_plain (q := (55, [.null, l1, l2, l3], (.null :: st), h)) ke_102_54 rfl
theorem ke_102_55 : alook 102 55 = some (55, .iconst 1, 1, (0, 0, 0, 0, 0), ⟨"", "", ""⟩, "") := rfl
theorem ee_102_55 {d : Nat} {h : aH} {ls st : List Value} : go d 102 55 ls st h = go d 102 56 ls (.int 1 :: st) h := go_plain (q := (56, ls, (.int 1 :: st), h)) ke_102_55 rfl
theorem ke_102_56 : alook 102 56 = some (56, .invokevirtual 126, 3, (1, 8, 90, 8, 90), ⟨"WordHidesModel", "placesOf", "(I)I"⟩, "") := rfl
theorem ee_102_56 {d : Nat} {ls : List Value} {h : aH} {i0 : Int32} {r1 : Nat} {i2 : Int32} : go (d + 1) 102 56 ls [.int i0, .ref r1, .int i2] h = if isC h r1 8 = true then (go d 90 0 [.ref r1, .int i0] [] h).bind (fun q => go (d + 1) 102 59 ls (q.1.toList ++ [.int i2]) q.2) else none := go_cv1 (as := [.int i0]) (rest := [.int i2]) (L := [.ref r1, .int i0]) ke_102_56 rfl rfl rfl
theorem ke_102_59 : alook 102 59 = some (59, .if_icmp .ge 24, 3, (83, 0, 0, 0, 0), ⟨"", "", ""⟩, "") := rfl
theorem ee_102_59 {d : Nat} {ls st : List Value} {h : aH} {x y : Int32} : go d 102 59 ls (.int y :: .int x :: st) h = if y ≤ x then go d 102 83 ls st h else go d 102 62 ls st h := go_ci (go_if2 (tg := 83) (q := 62) (f := fun x y => decide (y ≤ x)) ke_102_59 rfl)
theorem ke_102_62 : alook 102 62 = some (62, .aload_n 0, 1, (0, 0, 0, 0, 0), ⟨"", "", ""⟩, "") := rfl
theorem ee_102_62 {d : Nat} {h : aH} {l1 l2 l3 : Value} {x : Nat} {st : List Value} : go d 102 62 [.ref x, l1, l2, l3] st h = go d 102 63 [.ref x, l1, l2, l3] (.ref x :: st) h := go_plain (q := (63, [.ref x, l1, l2, l3], (.ref x :: st), h)) ke_102_62 rfl
theorem ee_102_62N {d : Nat} {h : aH} {l1 l2 l3 : Value} {st : List Value} : go d 102 62 [.null, l1, l2, l3] st h = go d 102 63 [.null, l1, l2, l3] (.null :: st) h := go_plain (q := (63, [.null, l1, l2, l3], (.null :: st), h)) ke_102_62 rfl
theorem ke_102_63 : alook 102 63 = some (63, .iconst 1, 1, (0, 0, 0, 0, 0), ⟨"", "", ""⟩, "") := rfl
theorem ee_102_63 {d : Nat} {h : aH} {ls st : List Value} : go d 102 63 ls st h = go d 102 64 ls (.int 1 :: st) h := go_plain (q := (64, ls, (.int 1 :: st), h)) ke_102_63 rfl
theorem ke_102_64 : alook 102 64 = some (64, .iload_n 3, 1, (0, 0, 0, 0, 0), ⟨"", "", ""⟩, "") := rfl
theorem ee_102_64 {d : Nat} {h : aH} {l0 l1 l2 : Value} {x : Int32} {st : List Value} : go d 102 64 [l0, l1, l2, .int x] st h = go d 102 65 [l0, l1, l2, .int x] (.int x :: st) h := go_plain (q := (65, [l0, l1, l2, .int x], (.int x :: st), h)) ke_102_64 rfl
theorem ke_102_65 : alook 102 65 = some (65, .invokevirtual 129, 3, (2, 8, 91, 8, 91), ⟨"WordHidesModel", "layStep", "(II)Z"⟩, "") := rfl
theorem ee_102_65 {d : Nat} {ls : List Value} {h : aH} {i0 : Int32} {i1 : Int32} {r2 : Nat} : go (d + 1) 102 65 ls [.int i0, .int i1, .ref r2] h = if isC h r2 8 = true then (go d 91 0 [.ref r2, .int i1, .int i0] [] h).bind (fun q => go (d + 1) 102 68 ls (q.1.toList ++ []) q.2) else none := go_cv1 (as := [.int i1, .int i0]) (rest := []) (L := [.ref r2, .int i1, .int i0]) ke_102_65 rfl rfl rfl
theorem ke_102_68 : alook 102 68 = some (68, .ifCond .eq 9, 3, (77, 0, 0, 0, 0), ⟨"", "", ""⟩, "") := rfl
theorem ee_102_68 {d : Nat} {ls st : List Value} {h : aH} {x : Int32} : go d 102 68 ls (.int x :: st) h = if x = 0 then go d 102 77 ls st h else go d 102 71 ls st h := go_c1 (go_if1 (tg := 77) (q := 71) (f := fun x => decide (x = 0)) ke_102_68 rfl)
theorem ke_102_71 : alook 102 71 = some (71, .aload_n 0, 1, (0, 0, 0, 0, 0), ⟨"", "", ""⟩, "") := rfl
theorem ee_102_71 {d : Nat} {h : aH} {l1 l2 l3 : Value} {x : Nat} {st : List Value} : go d 102 71 [.ref x, l1, l2, l3] st h = go d 102 72 [.ref x, l1, l2, l3] (.ref x :: st) h := go_plain (q := (72, [.ref x, l1, l2, l3], (.ref x :: st), h)) ke_102_71 rfl
theorem ee_102_71N {d : Nat} {h : aH} {l1 l2 l3 : Value} {st : List Value} : go d 102 71 [.null, l1, l2, l3] st h = go d 102 72 [.null, l1, l2, l3] (.null :: st) h := go_plain (q := (72, [.null, l1, l2, l3], (.null :: st), h)) ke_102_71 rfl
theorem ke_102_72 : alook 102 72 = some (72, .iload_n 2, 1, (0, 0, 0, 0, 0), ⟨"", "", ""⟩, "") := rfl
theorem ee_102_72 {d : Nat} {h : aH} {l0 l1 l3 : Value} {x : Int32} {st : List Value} : go d 102 72 [l0, l1, .int x, l3] st h = go d 102 73 [l0, l1, .int x, l3] (.int x :: st) h := go_plain (q := (73, [l0, l1, .int x, l3], (.int x :: st), h)) ke_102_72 rfl
theorem ke_102_73 : alook 102 73 = some (73, .iload_n 3, 1, (0, 0, 0, 0, 0), ⟨"", "", ""⟩, "") := rfl
theorem ee_102_73 {d : Nat} {h : aH} {l0 l1 l2 : Value} {x : Int32} {st : List Value} : go d 102 73 [l0, l1, l2, .int x] st h = go d 102 74 [l0, l1, l2, .int x] (.int x :: st) h := go_plain (q := (74, [l0, l1, l2, .int x], (.int x :: st), h)) ke_102_73 rfl
theorem ke_102_74 : alook 102 74 = some (74, .invokevirtual 132, 3, (2, 8, 103, 8, 103), ⟨"WordHidesModel", "goLast", "(II)V"⟩, "") := rfl
theorem ee_102_74 {d : Nat} {ls : List Value} {h : aH} {i0 : Int32} {i1 : Int32} {r2 : Nat} : go (d + 1) 102 74 ls [.int i0, .int i1, .ref r2] h = if isC h r2 8 = true then (go d 103 0 [.ref r2, .int i1, .int i0, aU] [] h).bind (fun q => go (d + 1) 102 77 ls (q.1.toList ++ []) q.2) else none := go_cv1 (as := [.int i1, .int i0]) (rest := []) (L := [.ref r2, .int i1, .int i0, aU]) ke_102_74 rfl rfl rfl
theorem ke_102_77 : alook 102 77 = some (77, .iinc 3 1, 3, (0, 0, 0, 0, 0), ⟨"", "", ""⟩, "") := rfl
theorem ee_102_77 {d : Nat} {h : aH} {l0 l1 l2 : Value} {x : Int32} {st : List Value} : go d 102 77 [l0, l1, l2, .int x] st h = go d 102 80 [l0, l1, l2, .int (x + 1)] st h := go_plain (q := (80, [l0, l1, l2, .int (x + 1)], st, h)) ke_102_77 rfl
theorem ke_102_80 : alook 102 80 = some (80, .goto (-27), 3, (53, 0, 0, 0, 0), ⟨"", "", ""⟩, "") := rfl
theorem ee_102_80 {d : Nat} {h : aH} {ls st : List Value} : go d 102 80 ls st h = go d 102 53 ls st h := go_plain (q := (53, ls, st, h)) ke_102_80 rfl
theorem ke_102_83 : alook 102 83 = some (83, .iinc 2 1, 3, (0, 0, 0, 0, 0), ⟨"", "", ""⟩, "") := rfl
theorem ee_102_83 {d : Nat} {h : aH} {l0 l1 l3 : Value} {x : Int32} {st : List Value} : go d 102 83 [l0, l1, .int x, l3] st h = go d 102 86 [l0, l1, .int (x + 1), l3] st h := go_plain (q := (86, [l0, l1, .int (x + 1), l3], st, h)) ke_102_83 rfl
theorem ke_102_86 : alook 102 86 = some (86, .goto (-53), 3, (33, 0, 0, 0, 0), ⟨"", "", ""⟩, "") := rfl
theorem ee_102_86 {d : Nat} {h : aH} {ls st : List Value} : go d 102 86 ls st h = go d 102 33 ls st h := go_plain (q := (33, ls, st, h)) ke_102_86 rfl
theorem ke_102_89 : alook 102 89 = some (89, .return_, 1, (0, 0, 0, 0, 0), ⟨"", "", ""⟩, "") := rfl
theorem ee_102_89 {d : Nat} {ls : List Value} {h : aH} : go d 102 89 ls [] h = some (none, h) := go_ret ke_102_89 rfl rfl rfl
theorem ke_103_0 : alook 103 0 = some (0, .iconst 0, 1, (0, 0, 0, 0, 0), ⟨"", "", ""⟩, "") := rfl
theorem ee_103_0 {d : Nat} {h : aH} {ls st : List Value} : go d 103 0 ls st h = go d 103 1 ls (.int 0 :: st) h := go_plain (q := (1, ls, (.int 0 :: st), h)) ke_103_0 rfl
theorem ke_103_1 : alook 103 1 = some (1, .istore_n 3, 1, (0, 0, 0, 0, 0), ⟨"", "", ""⟩, "") := rfl
theorem ee_103_1 {d : Nat} {h : aH} {l0 l1 l2 l3 : Value} {x : Int32} {st : List Value} : go d 103 1 [l0, l1, l2, l3] (.int x :: st) h = go d 103 2 [l0, l1, l2, .int x] st h := go_plain (q := (2, [l0, l1, l2, .int x], st, h)) ke_103_1 rfl
theorem ke_103_2 : alook 103 2 = some (2, .iload_n 3, 1, (0, 0, 0, 0, 0), ⟨"", "", ""⟩, "") := rfl
theorem ee_103_2 {d : Nat} {h : aH} {l0 l1 l2 : Value} {x : Int32} {st : List Value} : go d 103 2 [l0, l1, l2, .int x] st h = go d 103 3 [l0, l1, l2, .int x] (.int x :: st) h := go_plain (q := (3, [l0, l1, l2, .int x], (.int x :: st), h)) ke_103_2 rfl
theorem ke_103_3 : alook 103 3 = some (3, .aload_n 0, 1, (0, 0, 0, 0, 0), ⟨"", "", ""⟩, "") := rfl
theorem ee_103_3 {d : Nat} {h : aH} {l1 l2 l3 : Value} {x : Nat} {st : List Value} : go d 103 3 [.ref x, l1, l2, l3] st h = go d 103 4 [.ref x, l1, l2, l3] (.ref x :: st) h := go_plain (q := (4, [.ref x, l1, l2, l3], (.ref x :: st), h)) ke_103_3 rfl
theorem ee_103_3N {d : Nat} {h : aH} {l1 l2 l3 : Value} {st : List Value} : go d 103 3 [.null, l1, l2, l3] st h = go d 103 4 [.null, l1, l2, l3] (.null :: st) h := go_plain (q := (4, [.null, l1, l2, l3], (.null :: st), h)) ke_103_3 rfl
theorem ke_103_4 : alook 103 4 = some (4, .iconst 2, 1, (0, 0, 0, 0, 0), ⟨"", "", ""⟩, "") := rfl
theorem ee_103_4 {d : Nat} {h : aH} {ls st : List Value} : go d 103 4 ls st h = go d 103 5 ls (.int 2 :: st) h := go_plain (q := (5, ls, (.int 2 :: st), h)) ke_103_4 rfl
theorem ke_103_5 : alook 103 5 = some (5, .invokevirtual 126, 3, (1, 8, 90, 8, 90), ⟨"WordHidesModel", "placesOf", "(I)I"⟩, "") := rfl
theorem ee_103_5 {d : Nat} {ls : List Value} {h : aH} {i0 : Int32} {r1 : Nat} {i2 : Int32} : go (d + 1) 103 5 ls [.int i0, .ref r1, .int i2] h = if isC h r1 8 = true then (go d 90 0 [.ref r1, .int i0] [] h).bind (fun q => go (d + 1) 103 8 ls (q.1.toList ++ [.int i2]) q.2) else none := go_cv1 (as := [.int i0]) (rest := [.int i2]) (L := [.ref r1, .int i0]) ke_103_5 rfl rfl rfl
theorem ke_103_8 : alook 103 8 = some (8, .if_icmp .ge 25, 3, (33, 0, 0, 0, 0), ⟨"", "", ""⟩, "") := rfl
theorem ee_103_8 {d : Nat} {ls st : List Value} {h : aH} {x y : Int32} : go d 103 8 ls (.int y :: .int x :: st) h = if y ≤ x then go d 103 33 ls st h else go d 103 11 ls st h := go_ci (go_if2 (tg := 33) (q := 11) (f := fun x y => decide (y ≤ x)) ke_103_8 rfl)
theorem ke_103_11 : alook 103 11 = some (11, .aload_n 0, 1, (0, 0, 0, 0, 0), ⟨"", "", ""⟩, "") := rfl
theorem ee_103_11 {d : Nat} {h : aH} {l1 l2 l3 : Value} {x : Nat} {st : List Value} : go d 103 11 [.ref x, l1, l2, l3] st h = go d 103 12 [.ref x, l1, l2, l3] (.ref x :: st) h := go_plain (q := (12, [.ref x, l1, l2, l3], (.ref x :: st), h)) ke_103_11 rfl
theorem ee_103_11N {d : Nat} {h : aH} {l1 l2 l3 : Value} {st : List Value} : go d 103 11 [.null, l1, l2, l3] st h = go d 103 12 [.null, l1, l2, l3] (.null :: st) h := go_plain (q := (12, [.null, l1, l2, l3], (.null :: st), h)) ke_103_11 rfl
theorem ke_103_12 : alook 103 12 = some (12, .iconst 2, 1, (0, 0, 0, 0, 0), ⟨"", "", ""⟩, "") := rfl
theorem ee_103_12 {d : Nat} {h : aH} {ls st : List Value} : go d 103 12 ls st h = go d 103 13 ls (.int 2 :: st) h := go_plain (q := (13, ls, (.int 2 :: st), h)) ke_103_12 rfl
theorem ke_103_13 : alook 103 13 = some (13, .iload_n 3, 1, (0, 0, 0, 0, 0), ⟨"", "", ""⟩, "") := rfl
theorem ee_103_13 {d : Nat} {h : aH} {l0 l1 l2 : Value} {x : Int32} {st : List Value} : go d 103 13 [l0, l1, l2, .int x] st h = go d 103 14 [l0, l1, l2, .int x] (.int x :: st) h := go_plain (q := (14, [l0, l1, l2, .int x], (.int x :: st), h)) ke_103_13 rfl
theorem ke_103_14 : alook 103 14 = some (14, .invokevirtual 129, 3, (2, 8, 91, 8, 91), ⟨"WordHidesModel", "layStep", "(II)Z"⟩, "") := rfl
theorem ee_103_14 {d : Nat} {ls : List Value} {h : aH} {i0 : Int32} {i1 : Int32} {r2 : Nat} : go (d + 1) 103 14 ls [.int i0, .int i1, .ref r2] h = if isC h r2 8 = true then (go d 91 0 [.ref r2, .int i1, .int i0] [] h).bind (fun q => go (d + 1) 103 17 ls (q.1.toList ++ []) q.2) else none := go_cv1 (as := [.int i1, .int i0]) (rest := []) (L := [.ref r2, .int i1, .int i0]) ke_103_14 rfl rfl rfl
theorem ke_103_17 : alook 103 17 = some (17, .ifCond .eq 10, 3, (27, 0, 0, 0, 0), ⟨"", "", ""⟩, "") := rfl
theorem ee_103_17 {d : Nat} {ls st : List Value} {h : aH} {x : Int32} : go d 103 17 ls (.int x :: st) h = if x = 0 then go d 103 27 ls st h else go d 103 20 ls st h := go_c1 (go_if1 (tg := 27) (q := 20) (f := fun x => decide (x = 0)) ke_103_17 rfl)
theorem ke_103_20 : alook 103 20 = some (20, .aload_n 0, 1, (0, 0, 0, 0, 0), ⟨"", "", ""⟩, "") := rfl
theorem ee_103_20 {d : Nat} {h : aH} {l1 l2 l3 : Value} {x : Nat} {st : List Value} : go d 103 20 [.ref x, l1, l2, l3] st h = go d 103 21 [.ref x, l1, l2, l3] (.ref x :: st) h := go_plain (q := (21, [.ref x, l1, l2, l3], (.ref x :: st), h)) ke_103_20 rfl
theorem ee_103_20N {d : Nat} {h : aH} {l1 l2 l3 : Value} {st : List Value} : go d 103 20 [.null, l1, l2, l3] st h = go d 103 21 [.null, l1, l2, l3] (.null :: st) h := go_plain (q := (21, [.null, l1, l2, l3], (.null :: st), h)) ke_103_20 rfl
theorem ke_103_21 : alook 103 21 = some (21, .iload_n 1, 1, (0, 0, 0, 0, 0), ⟨"", "", ""⟩, "") := rfl
theorem ee_103_21 {d : Nat} {h : aH} {l0 l2 l3 : Value} {x : Int32} {st : List Value} : go d 103 21 [l0, .int x, l2, l3] st h = go d 103 22 [l0, .int x, l2, l3] (.int x :: st) h := go_plain (q := (22, [l0, .int x, l2, l3], (.int x :: st), h)) ke_103_21 rfl
theorem ke_103_22 : alook 103 22 = some (22, .iload_n 2, 1, (0, 0, 0, 0, 0), ⟨"", "", ""⟩, "") := rfl
theorem ee_103_22 {d : Nat} {h : aH} {l0 l1 l3 : Value} {x : Int32} {st : List Value} : go d 103 22 [l0, l1, .int x, l3] st h = go d 103 23 [l0, l1, .int x, l3] (.int x :: st) h := go_plain (q := (23, [l0, l1, .int x, l3], (.int x :: st), h)) ke_103_22 rfl
theorem ke_103_23 : alook 103 23 = some (23, .iload_n 3, 1, (0, 0, 0, 0, 0), ⟨"", "", ""⟩, "") := rfl
theorem ee_103_23 {d : Nat} {h : aH} {l0 l1 l2 : Value} {x : Int32} {st : List Value} : go d 103 23 [l0, l1, l2, .int x] st h = go d 103 24 [l0, l1, l2, .int x] (.int x :: st) h := go_plain (q := (24, [l0, l1, l2, .int x], (.int x :: st), h)) ke_103_23 rfl
theorem ke_103_24 : alook 103 24 = some (24, .invokevirtual 136, 3, (3, 8, 101, 8, 101), ⟨"WordHidesModel", "see", "(III)V"⟩, "") := rfl
theorem ee_103_24 {d : Nat} {ls : List Value} {h : aH} {i0 : Int32} {i1 : Int32} {i2 : Int32} {r3 : Nat} : go (d + 1) 103 24 ls [.int i0, .int i1, .int i2, .ref r3] h = if isC h r3 8 = true then (go d 101 0 [.ref r3, .int i2, .int i1, .int i0, aU] [] h).bind (fun q => go (d + 1) 103 27 ls (q.1.toList ++ []) q.2) else none := go_cv1 (as := [.int i2, .int i1, .int i0]) (rest := []) (L := [.ref r3, .int i2, .int i1, .int i0, aU]) ke_103_24 rfl rfl rfl
theorem ke_103_27 : alook 103 27 = some (27, .iinc 3 1, 3, (0, 0, 0, 0, 0), ⟨"", "", ""⟩, "") := rfl
theorem ee_103_27 {d : Nat} {h : aH} {l0 l1 l2 : Value} {x : Int32} {st : List Value} : go d 103 27 [l0, l1, l2, .int x] st h = go d 103 30 [l0, l1, l2, .int (x + 1)] st h := go_plain (q := (30, [l0, l1, l2, .int (x + 1)], st, h)) ke_103_27 rfl
theorem ke_103_30 : alook 103 30 = some (30, .goto (-28), 3, (2, 0, 0, 0, 0), ⟨"", "", ""⟩, "") := rfl
theorem ee_103_30 {d : Nat} {h : aH} {ls st : List Value} : go d 103 30 ls st h = go d 103 2 ls st h := go_plain (q := (2, ls, st, h)) ke_103_30 rfl
theorem ke_103_33 : alook 103 33 = some (33, .return_, 1, (0, 0, 0, 0, 0), ⟨"", "", ""⟩, "") := rfl
theorem ee_103_33 {d : Nat} {ls : List Value} {h : aH} : go d 103 33 ls [] h = some (none, h) := go_ret ke_103_33 rfl rfl rfl
theorem ke_104_0 : alook 104 0 = some (0, .iload_n 2, 1, (0, 0, 0, 0, 0), ⟨"", "", ""⟩, "") := rfl
theorem ee_104_0 {d : Nat} {h : aH} {l0 l1 : Value} {x : Int32} {st : List Value} : go d 104 0 [l0, l1, .int x] st h = go d 104 1 [l0, l1, .int x] (.int x :: st) h := go_plain (q := (1, [l0, l1, .int x], (.int x :: st), h)) ke_104_0 rfl
theorem ke_104_1 : alook 104 1 = some (1, .ifCond .eq 23, 3, (24, 0, 0, 0, 0), ⟨"", "", ""⟩, "") := rfl
theorem ee_104_1 {d : Nat} {ls st : List Value} {h : aH} {x : Int32} : go d 104 1 ls (.int x :: st) h = if x = 0 then go d 104 24 ls st h else go d 104 4 ls st h := go_c1 (go_if1 (tg := 24) (q := 4) (f := fun x => decide (x = 0)) ke_104_1 rfl)
theorem ke_104_4 : alook 104 4 = some (4, .iload_n 1, 1, (0, 0, 0, 0, 0), ⟨"", "", ""⟩, "") := rfl
theorem ee_104_4 {d : Nat} {h : aH} {l0 l2 : Value} {x : Int32} {st : List Value} : go d 104 4 [l0, .int x, l2] st h = go d 104 5 [l0, .int x, l2] (.int x :: st) h := go_plain (q := (5, [l0, .int x, l2], (.int x :: st), h)) ke_104_4 rfl
theorem ke_104_5 : alook 104 5 = some (5, .aload_n 0, 1, (0, 0, 0, 0, 0), ⟨"", "", ""⟩, "") := rfl
theorem ee_104_5 {d : Nat} {h : aH} {l1 l2 : Value} {x : Nat} {st : List Value} : go d 104 5 [.ref x, l1, l2] st h = go d 104 6 [.ref x, l1, l2] (.ref x :: st) h := go_plain (q := (6, [.ref x, l1, l2], (.ref x :: st), h)) ke_104_5 rfl
theorem ee_104_5N {d : Nat} {h : aH} {l1 l2 : Value} {st : List Value} : go d 104 5 [.null, l1, l2] st h = go d 104 6 [.null, l1, l2] (.null :: st) h := go_plain (q := (6, [.null, l1, l2], (.null :: st), h)) ke_104_5 rfl
theorem ke_104_6 : alook 104 6 = some (6, .getfield 7, 3, (0, 8, 8, 2, 0), ⟨"", "", ""⟩, "WordHidesModel") := rfl
theorem ee_104_6 {d : Nat} {ls st : List Value} {h : aH} {r : Nat} : go d 104 6 ls (.ref r :: st) h = (gf h r 0 8 8).bind fun z => go d 104 9 ls (z :: st) h := go_getf ke_104_6
theorem ke_104_9 : alook 104 9 = some (9, .bipush 27, 2, (0, 0, 0, 0, 0), ⟨"", "", ""⟩, "") := rfl
theorem ee_104_9 {d : Nat} {h : aH} {ls st : List Value} : go d 104 9 ls st h = go d 104 11 ls (.int 27 :: st) h := go_plain (q := (11, ls, (.int 27 :: st), h)) ke_104_9 rfl
theorem ke_104_11 : alook 104 11 = some (11, .iaload, 1, (0, 0, 0, 0, 0), ⟨"", "", ""⟩, "") := rfl
theorem ee_104_11 {d : Nat} {ls st : List Value} {h : aH} {r : Nat} {i : Int32} : go d 104 11 ls (.int i :: .ref r :: st) h = (ia h r i).bind fun z => go d 104 12 ls (.int z :: st) h := go_iald ke_104_11
theorem ke_104_12 : alook 104 12 = some (12, .if_icmp .ge 12, 3, (24, 0, 0, 0, 0), ⟨"", "", ""⟩, "") := rfl
theorem ee_104_12 {d : Nat} {ls st : List Value} {h : aH} {x y : Int32} : go d 104 12 ls (.int y :: .int x :: st) h = if y ≤ x then go d 104 24 ls st h else go d 104 15 ls st h := go_ci (go_if2 (tg := 24) (q := 15) (f := fun x y => decide (y ≤ x)) ke_104_12 rfl)
theorem ke_104_15 : alook 104 15 = some (15, .aload_n 0, 1, (0, 0, 0, 0, 0), ⟨"", "", ""⟩, "") := rfl
theorem ee_104_15 {d : Nat} {h : aH} {l1 l2 : Value} {x : Nat} {st : List Value} : go d 104 15 [.ref x, l1, l2] st h = go d 104 16 [.ref x, l1, l2] (.ref x :: st) h := go_plain (q := (16, [.ref x, l1, l2], (.ref x :: st), h)) ke_104_15 rfl
theorem ee_104_15N {d : Nat} {h : aH} {l1 l2 : Value} {st : List Value} : go d 104 15 [.null, l1, l2] st h = go d 104 16 [.null, l1, l2] (.null :: st) h := go_plain (q := (16, [.null, l1, l2], (.null :: st), h)) ke_104_15 rfl
theorem ke_104_16 : alook 104 16 = some (16, .getfield 29, 3, (11, 8, 8, 2, 0), ⟨"", "", ""⟩, "WordHidesModel") := rfl
theorem ee_104_16 {d : Nat} {ls st : List Value} {h : aH} {r : Nat} : go d 104 16 ls (.ref r :: st) h = (gf h r 11 8 8).bind fun z => go d 104 19 ls (z :: st) h := go_getf ke_104_16
theorem ke_104_19 : alook 104 19 = some (19, .iload_n 1, 1, (0, 0, 0, 0, 0), ⟨"", "", ""⟩, "") := rfl
theorem ee_104_19 {d : Nat} {h : aH} {l0 l2 : Value} {x : Int32} {st : List Value} : go d 104 19 [l0, .int x, l2] st h = go d 104 20 [l0, .int x, l2] (.int x :: st) h := go_plain (q := (20, [l0, .int x, l2], (.int x :: st), h)) ke_104_19 rfl
theorem ke_104_20 : alook 104 20 = some (20, .iaload, 1, (0, 0, 0, 0, 0), ⟨"", "", ""⟩, "") := rfl
theorem ee_104_20 {d : Nat} {ls st : List Value} {h : aH} {r : Nat} {i : Int32} : go d 104 20 ls (.int i :: .ref r :: st) h = (ia h r i).bind fun z => go d 104 21 ls (.int z :: st) h := go_iald ke_104_20
theorem ke_104_21 : alook 104 21 = some (21, .goto 5, 3, (26, 0, 0, 0, 0), ⟨"", "", ""⟩, "") := rfl
theorem ee_104_21 {d : Nat} {h : aH} {ls st : List Value} : go d 104 21 ls st h = go d 104 26 ls st h := go_plain (q := (26, ls, st, h)) ke_104_21 rfl
theorem ke_104_24 : alook 104 24 = some (24, .bipush (-6), 2, (0, 0, 0, 0, 0), ⟨"", "", ""⟩, "") := rfl
theorem ee_104_24 {d : Nat} {h : aH} {ls st : List Value} : go d 104 24 ls st h = go d 104 26 ls (.int (-6) :: st) h := go_plain (q := (26, ls, (.int (-6) :: st), h)) ke_104_24 rfl
theorem ke_104_26 : alook 104 26 = some (26, .ireturn, 1, (0, 0, 0, 0, 0), ⟨"", "", ""⟩, "") := rfl
theorem ee_104_26 {d : Nat} {ls : List Value} {h : aH} {v : Int32} : go d 104 26 ls [.int v] h = some (some (.int v), h) := go_iret ke_104_26
theorem ke_105_0 : alook 105 0 = some (0, .iload_n 1, 1, (0, 0, 0, 0, 0), ⟨"", "", ""⟩, "") := rfl
theorem ee_105_0 {d : Nat} {h : aH} {l0 : Value} {x : Int32} {st : List Value} : go d 105 0 [l0, .int x] st h = go d 105 1 [l0, .int x] (.int x :: st) h := go_plain (q := (1, [l0, .int x], (.int x :: st), h)) ke_105_0 rfl
theorem ke_105_1 : alook 105 1 = some (1, .iconst 0, 1, (0, 0, 0, 0, 0), ⟨"", "", ""⟩, "") := rfl
theorem ee_105_1 {d : Nat} {h : aH} {ls st : List Value} : go d 105 1 ls st h = go d 105 2 ls (.int 0 :: st) h := go_plain (q := (2, ls, (.int 0 :: st), h)) ke_105_1 rfl
theorem ke_105_2 : alook 105 2 = some (2, .iconst 2, 1, (0, 0, 0, 0, 0), ⟨"", "", ""⟩, "") := rfl
theorem ee_105_2 {d : Nat} {h : aH} {ls st : List Value} : go d 105 2 ls st h = go d 105 3 ls (.int 2 :: st) h := go_plain (q := (3, ls, (.int 2 :: st), h)) ke_105_2 rfl
theorem ke_105_3 : alook 105 3 = some (3, .invokestatic 36, 3, (3, 0, 65, 0, 0), ⟨"WordHidesModel", "in", "(III)Z"⟩, "") := rfl
theorem ee_105_3 {d : Nat} {ls : List Value} {h : aH} {i0 : Int32} {i1 : Int32} {i2 : Int32} : go (d + 1) 105 3 ls [.int i0, .int i1, .int i2] h = (go d 65 0 [.int i2, .int i1, .int i0] [] h).bind (fun q => go (d + 1) 105 6 ls (q.1.toList ++ []) q.2) := go_cs (as := [.int i2, .int i1, .int i0]) (rest := []) (L := [.int i2, .int i1, .int i0]) ke_105_3 rfl rfl rfl
theorem ke_105_6 : alook 105 6 = some (6, .ifCond .ne 17, 3, (23, 0, 0, 0, 0), ⟨"", "", ""⟩, "") := rfl
theorem ee_105_6 {d : Nat} {ls st : List Value} {h : aH} {x : Int32} : go d 105 6 ls (.int x :: st) h = if ¬ x = 0 then go d 105 23 ls st h else go d 105 9 ls st h := go_c1 (go_if1 (tg := 23) (q := 9) (f := fun x => decide (¬ x = 0)) ke_105_6 rfl)
theorem ke_105_9 : alook 105 9 = some (9, .iload_n 1, 1, (0, 0, 0, 0, 0), ⟨"", "", ""⟩, "") := rfl
theorem ee_105_9 {d : Nat} {h : aH} {l0 : Value} {x : Int32} {st : List Value} : go d 105 9 [l0, .int x] st h = go d 105 10 [l0, .int x] (.int x :: st) h := go_plain (q := (10, [l0, .int x], (.int x :: st), h)) ke_105_9 rfl
theorem ke_105_10 : alook 105 10 = some (10, .bipush 10, 2, (0, 0, 0, 0, 0), ⟨"", "", ""⟩, "") := rfl
theorem ee_105_10 {d : Nat} {h : aH} {ls st : List Value} : go d 105 10 ls st h = go d 105 12 ls (.int 10 :: st) h := go_plain (q := (12, ls, (.int 10 :: st), h)) ke_105_10 rfl
theorem ke_105_12 : alook 105 12 = some (12, .bipush 12, 2, (0, 0, 0, 0, 0), ⟨"", "", ""⟩, "") := rfl
theorem ee_105_12 {d : Nat} {h : aH} {ls st : List Value} : go d 105 12 ls st h = go d 105 14 ls (.int 12 :: st) h := go_plain (q := (14, ls, (.int 12 :: st), h)) ke_105_12 rfl
theorem ke_105_14 : alook 105 14 = some (14, .invokestatic 36, 3, (3, 0, 65, 0, 0), ⟨"WordHidesModel", "in", "(III)Z"⟩, "") := rfl
theorem ee_105_14 {d : Nat} {ls : List Value} {h : aH} {i0 : Int32} {i1 : Int32} {i2 : Int32} : go (d + 1) 105 14 ls [.int i0, .int i1, .int i2] h = (go d 65 0 [.int i2, .int i1, .int i0] [] h).bind (fun q => go (d + 1) 105 17 ls (q.1.toList ++ []) q.2) := go_cs (as := [.int i2, .int i1, .int i0]) (rest := []) (L := [.int i2, .int i1, .int i0]) ke_105_14 rfl rfl rfl
theorem ke_105_17 : alook 105 17 = some (17, .ifCond .ne 6, 3, (23, 0, 0, 0, 0), ⟨"", "", ""⟩, "") := rfl
theorem ee_105_17 {d : Nat} {ls st : List Value} {h : aH} {x : Int32} : go d 105 17 ls (.int x :: st) h = if ¬ x = 0 then go d 105 23 ls st h else go d 105 20 ls st h := go_c1 (go_if1 (tg := 23) (q := 20) (f := fun x => decide (¬ x = 0)) ke_105_17 rfl)
theorem ke_105_20 : alook 105 20 = some (20, .bipush (-2), 2, (0, 0, 0, 0, 0), ⟨"", "", ""⟩, "") := rfl
theorem ee_105_20 {d : Nat} {h : aH} {ls st : List Value} : go d 105 20 ls st h = go d 105 22 ls (.int (-2) :: st) h := go_plain (q := (22, ls, (.int (-2) :: st), h)) ke_105_20 rfl
theorem ke_105_22 : alook 105 22 = some (22, .ireturn, 1, (0, 0, 0, 0, 0), ⟨"", "", ""⟩, "") := rfl
theorem ee_105_22 {d : Nat} {ls : List Value} {h : aH} {v : Int32} : go d 105 22 ls [.int v] h = some (some (.int v), h) := go_iret ke_105_22
theorem ke_105_23 : alook 105 23 = some (23, .aload_n 0, 1, (0, 0, 0, 0, 0), ⟨"", "", ""⟩, "") := rfl
theorem ee_105_23 {d : Nat} {h : aH} {l1 : Value} {x : Nat} {st : List Value} : go d 105 23 [.ref x, l1] st h = go d 105 24 [.ref x, l1] (.ref x :: st) h := go_plain (q := (24, [.ref x, l1], (.ref x :: st), h)) ke_105_23 rfl
theorem ee_105_23N {d : Nat} {h : aH} {l1 : Value} {st : List Value} : go d 105 23 [.null, l1] st h = go d 105 24 [.null, l1] (.null :: st) h := go_plain (q := (24, [.null, l1], (.null :: st), h)) ke_105_23 rfl
theorem ke_105_24 : alook 105 24 = some (24, .iconst 0, 1, (0, 0, 0, 0, 0), ⟨"", "", ""⟩, "") := rfl
theorem ee_105_24 {d : Nat} {h : aH} {ls st : List Value} : go d 105 24 ls st h = go d 105 25 ls (.int 0 :: st) h := go_plain (q := (25, ls, (.int 0 :: st), h)) ke_105_24 rfl
theorem ke_105_25 : alook 105 25 = some (25, .invokevirtual 139, 3, (1, 8, 102, 8, 102), ⟨"WordHidesModel", "goThrough", "(Z)V"⟩, "") := rfl
theorem ee_105_25 {d : Nat} {ls : List Value} {h : aH} {i0 : Int32} {r1 : Nat} : go (d + 1) 105 25 ls [.int i0, .ref r1] h = if isC h r1 8 = true then (go d 102 0 [.ref r1, .int i0, aU, aU] [] h).bind (fun q => go (d + 1) 105 28 ls (q.1.toList ++ []) q.2) else none := go_cv1 (as := [.int i0]) (rest := []) (L := [.ref r1, .int i0, aU, aU]) ke_105_25 rfl rfl rfl
theorem ke_105_28 : alook 105 28 = some (28, .iload_n 1, 1, (0, 0, 0, 0, 0), ⟨"", "", ""⟩, "") := rfl
theorem ee_105_28 {d : Nat} {h : aH} {l0 : Value} {x : Int32} {st : List Value} : go d 105 28 [l0, .int x] st h = go d 105 29 [l0, .int x] (.int x :: st) h := go_plain (q := (29, [l0, .int x], (.int x :: st), h)) ke_105_28 rfl
theorem ke_105_29 : alook 105 29 = some (29, .tableswitch 42 0 2 #[27, 32, 37], 27, (0, 0, 0, 0, 0), ⟨"", "", ""⟩, "") := rfl
theorem ee_105_29_0 {d : Nat} {h : aH} {ls st : List Value} : go d 105 29 ls (.int 0 :: st) h = go d 105 56 ls st h := go_plain (q := (56, ls, st, h)) ke_105_29 rfl
theorem ee_105_29_1 {d : Nat} {h : aH} {ls st : List Value} : go d 105 29 ls (.int 1 :: st) h = go d 105 61 ls st h := go_plain (q := (61, ls, st, h)) ke_105_29 rfl
theorem ee_105_29_2 {d : Nat} {h : aH} {ls st : List Value} : go d 105 29 ls (.int 2 :: st) h = go d 105 66 ls st h := go_plain (q := (66, ls, st, h)) ke_105_29 rfl
theorem ee_105_29_d {d : Nat} {ls st : List Value} {h : aH} {x : Int32} (hx : x.toInt < 0 ∨ 2 < x.toInt) : go d 105 29 ls (.int x :: st) h = go d 105 71 ls st h := go_plain (q := (71, ls, st, h)) ke_105_29 ((if_pos hx).trans rfl)
theorem ke_105_56 : alook 105 56 = some (56, .aload_n 0, 1, (0, 0, 0, 0, 0), ⟨"", "", ""⟩, "") := rfl
theorem ee_105_56 {d : Nat} {h : aH} {l1 : Value} {x : Nat} {st : List Value} : go d 105 56 [.ref x, l1] st h = go d 105 57 [.ref x, l1] (.ref x :: st) h := go_plain (q := (57, [.ref x, l1], (.ref x :: st), h)) ke_105_56 rfl
theorem ee_105_56N {d : Nat} {h : aH} {l1 : Value} {st : List Value} : go d 105 56 [.null, l1] st h = go d 105 57 [.null, l1] (.null :: st) h := go_plain (q := (57, [.null, l1], (.null :: st), h)) ke_105_56 rfl
theorem ke_105_57 : alook 105 57 = some (57, .getfield 117, 3, (7, 8, 8, 0, 0), ⟨"", "", ""⟩, "WordHidesModel") := rfl
theorem ee_105_57 {d : Nat} {ls st : List Value} {h : aH} {r : Nat} : go d 105 57 ls (.ref r :: st) h = (gf h r 7 8 8).bind fun z => go d 105 60 ls (z :: st) h := go_getf ke_105_57
theorem ke_105_60 : alook 105 60 = some (60, .ireturn, 1, (0, 0, 0, 0, 0), ⟨"", "", ""⟩, "") := rfl
theorem ee_105_60 {d : Nat} {ls : List Value} {h : aH} {v : Int32} : go d 105 60 ls [.int v] h = some (some (.int v), h) := go_iret ke_105_60
theorem ke_105_61 : alook 105 61 = some (61, .aload_n 0, 1, (0, 0, 0, 0, 0), ⟨"", "", ""⟩, "") := rfl
theorem ee_105_61 {d : Nat} {h : aH} {l1 : Value} {x : Nat} {st : List Value} : go d 105 61 [.ref x, l1] st h = go d 105 62 [.ref x, l1] (.ref x :: st) h := go_plain (q := (62, [.ref x, l1], (.ref x :: st), h)) ke_105_61 rfl
theorem ee_105_61N {d : Nat} {h : aH} {l1 : Value} {st : List Value} : go d 105 61 [.null, l1] st h = go d 105 62 [.null, l1] (.null :: st) h := go_plain (q := (62, [.null, l1], (.null :: st), h)) ke_105_61 rfl
theorem ke_105_62 : alook 105 62 = some (62, .getfield 120, 3, (8, 8, 8, 0, 0), ⟨"", "", ""⟩, "WordHidesModel") := rfl
theorem ee_105_62 {d : Nat} {ls st : List Value} {h : aH} {r : Nat} : go d 105 62 ls (.ref r :: st) h = (gf h r 8 8 8).bind fun z => go d 105 65 ls (z :: st) h := go_getf ke_105_62
theorem ke_105_65 : alook 105 65 = some (65, .ireturn, 1, (0, 0, 0, 0, 0), ⟨"", "", ""⟩, "") := rfl
theorem ee_105_65 {d : Nat} {ls : List Value} {h : aH} {v : Int32} : go d 105 65 ls [.int v] h = some (some (.int v), h) := go_iret ke_105_65
theorem ke_105_66 : alook 105 66 = some (66, .aload_n 0, 1, (0, 0, 0, 0, 0), ⟨"", "", ""⟩, "") := rfl
theorem ee_105_66 {d : Nat} {h : aH} {l1 : Value} {x : Nat} {st : List Value} : go d 105 66 [.ref x, l1] st h = go d 105 67 [.ref x, l1] (.ref x :: st) h := go_plain (q := (67, [.ref x, l1], (.ref x :: st), h)) ke_105_66 rfl
theorem ee_105_66N {d : Nat} {h : aH} {l1 : Value} {st : List Value} : go d 105 66 [.null, l1] st h = go d 105 67 [.null, l1] (.null :: st) h := go_plain (q := (67, [.null, l1], (.null :: st), h)) ke_105_66 rfl
theorem ke_105_67 : alook 105 67 = some (67, .getfield 123, 3, (9, 8, 8, 0, 0), ⟨"", "", ""⟩, "WordHidesModel") := rfl
theorem ee_105_67 {d : Nat} {ls st : List Value} {h : aH} {r : Nat} : go d 105 67 ls (.ref r :: st) h = (gf h r 9 8 8).bind fun z => go d 105 70 ls (z :: st) h := go_getf ke_105_67
theorem ke_105_70 : alook 105 70 = some (70, .ireturn, 1, (0, 0, 0, 0, 0), ⟨"", "", ""⟩, "") := rfl
theorem ee_105_70 {d : Nat} {ls : List Value} {h : aH} {v : Int32} : go d 105 70 ls [.int v] h = some (some (.int v), h) := go_iret ke_105_70
theorem ke_105_71 : alook 105 71 = some (71, .aload_n 0, 1, (0, 0, 0, 0, 0), ⟨"", "", ""⟩, "") := rfl
theorem ee_105_71 {d : Nat} {h : aH} {l1 : Value} {x : Nat} {st : List Value} : go d 105 71 [.ref x, l1] st h = go d 105 72 [.ref x, l1] (.ref x :: st) h := go_plain (q := (72, [.ref x, l1], (.ref x :: st), h)) ke_105_71 rfl
theorem ee_105_71N {d : Nat} {h : aH} {l1 : Value} {st : List Value} : go d 105 71 [.null, l1] st h = go d 105 72 [.null, l1] (.null :: st) h := go_plain (q := (72, [.null, l1], (.null :: st), h)) ke_105_71 rfl
theorem ke_105_72 : alook 105 72 = some (72, .iload_n 1, 1, (0, 0, 0, 0, 0), ⟨"", "", ""⟩, "") := rfl
theorem ee_105_72 {d : Nat} {h : aH} {l0 : Value} {x : Int32} {st : List Value} : go d 105 72 [l0, .int x] st h = go d 105 73 [l0, .int x] (.int x :: st) h := go_plain (q := (73, [l0, .int x], (.int x :: st), h)) ke_105_72 rfl
theorem ke_105_73 : alook 105 73 = some (73, .bipush 10, 2, (0, 0, 0, 0, 0), ⟨"", "", ""⟩, "") := rfl
theorem ee_105_73 {d : Nat} {h : aH} {ls st : List Value} : go d 105 73 ls st h = go d 105 75 ls (.int 10 :: st) h := go_plain (q := (75, ls, (.int 10 :: st), h)) ke_105_73 rfl
theorem ke_105_75 : alook 105 75 = some (75, .isub, 1, (0, 0, 0, 0, 0), ⟨"", "", ""⟩, "") := rfl
theorem ee_105_75 {d : Nat} {h : aH} {ls st : List Value} {x y : Int32} : go d 105 75 ls (.int y :: .int x :: st) h = go d 105 76 ls (.int (x - y) :: st) h := go_plain (q := (76, ls, (.int (x - y) :: st), h)) ke_105_75 rfl
theorem ke_105_76 : alook 105 76 = some (76, .aload_n 0, 1, (0, 0, 0, 0, 0), ⟨"", "", ""⟩, "") := rfl
theorem ee_105_76 {d : Nat} {h : aH} {l1 : Value} {x : Nat} {st : List Value} : go d 105 76 [.ref x, l1] st h = go d 105 77 [.ref x, l1] (.ref x :: st) h := go_plain (q := (77, [.ref x, l1], (.ref x :: st), h)) ke_105_76 rfl
theorem ee_105_76N {d : Nat} {h : aH} {l1 : Value} {st : List Value} : go d 105 76 [.null, l1] st h = go d 105 77 [.null, l1] (.null :: st) h := go_plain (q := (77, [.null, l1], (.null :: st), h)) ke_105_76 rfl
theorem ke_105_77 : alook 105 77 = some (77, .getfield 117, 3, (7, 8, 8, 0, 0), ⟨"", "", ""⟩, "WordHidesModel") := rfl
theorem ee_105_77 {d : Nat} {ls st : List Value} {h : aH} {r : Nat} : go d 105 77 ls (.ref r :: st) h = (gf h r 7 8 8).bind fun z => go d 105 80 ls (z :: st) h := go_getf ke_105_77
theorem ke_105_80 : alook 105 80 = some (80, .ifCond .le 7, 3, (87, 0, 0, 0, 0), ⟨"", "", ""⟩, "") := rfl
theorem ee_105_80 {d : Nat} {ls st : List Value} {h : aH} {x : Int32} : go d 105 80 ls (.int x :: st) h = if x ≤ 0 then go d 105 87 ls st h else go d 105 83 ls st h := go_c1 (go_if1 (tg := 87) (q := 83) (f := fun x => decide (x ≤ 0)) ke_105_80 rfl)
theorem ke_105_83 : alook 105 83 = some (83, .iconst 1, 1, (0, 0, 0, 0, 0), ⟨"", "", ""⟩, "") := rfl
theorem ee_105_83 {d : Nat} {h : aH} {ls st : List Value} : go d 105 83 ls st h = go d 105 84 ls (.int 1 :: st) h := go_plain (q := (84, ls, (.int 1 :: st), h)) ke_105_83 rfl
theorem ke_105_84 : alook 105 84 = some (84, .goto 4, 3, (88, 0, 0, 0, 0), ⟨"", "", ""⟩, "") := rfl
theorem ee_105_84 {d : Nat} {h : aH} {ls st : List Value} : go d 105 84 ls st h = go d 105 88 ls st h := go_plain (q := (88, ls, st, h)) ke_105_84 rfl
theorem ke_105_87 : alook 105 87 = some (87, .iconst 0, 1, (0, 0, 0, 0, 0), ⟨"", "", ""⟩, "") := rfl
theorem ee_105_87 {d : Nat} {h : aH} {ls st : List Value} : go d 105 87 ls st h = go d 105 88 ls (.int 0 :: st) h := go_plain (q := (88, ls, (.int 0 :: st), h)) ke_105_87 rfl
theorem ke_105_88 : alook 105 88 = some (88, .invokevirtual 143, 3, (2, 8, 104, 8, 104), ⟨"WordHidesModel", "placeTold", "(IZ)I"⟩, "") := rfl
theorem ee_105_88 {d : Nat} {ls : List Value} {h : aH} {i0 : Int32} {i1 : Int32} {r2 : Nat} : go (d + 1) 105 88 ls [.int i0, .int i1, .ref r2] h = if isC h r2 8 = true then (go d 104 0 [.ref r2, .int i1, .int i0] [] h).bind (fun q => go (d + 1) 105 91 ls (q.1.toList ++ []) q.2) else none := go_cv1 (as := [.int i1, .int i0]) (rest := []) (L := [.ref r2, .int i1, .int i0]) ke_105_88 rfl rfl rfl
theorem ke_105_91 : alook 105 91 = some (91, .ireturn, 1, (0, 0, 0, 0, 0), ⟨"", "", ""⟩, "") := rfl
theorem ee_105_91 {d : Nat} {ls : List Value} {h : aH} {v : Int32} : go d 105 91 ls [.int v] h = some (some (.int v), h) := go_iret ke_105_91
theorem ke_106_0 : alook 106 0 = some (0, .aload_n 0, 1, (0, 0, 0, 0, 0), ⟨"", "", ""⟩, "") := rfl
theorem ee_106_0 {d : Nat} {h : aH} {l1 l2 l3 : Value} {x : Nat} {st : List Value} : go d 106 0 [.ref x, l1, l2, l3] st h = go d 106 1 [.ref x, l1, l2, l3] (.ref x :: st) h := go_plain (q := (1, [.ref x, l1, l2, l3], (.ref x :: st), h)) ke_106_0 rfl
theorem ee_106_0N {d : Nat} {h : aH} {l1 l2 l3 : Value} {st : List Value} : go d 106 0 [.null, l1, l2, l3] st h = go d 106 1 [.null, l1, l2, l3] (.null :: st) h := go_plain (q := (1, [.null, l1, l2, l3], (.null :: st), h)) ke_106_0 rfl
theorem ke_106_1 : alook 106 1 = some (1, .getfield 7, 3, (0, 8, 8, 2, 0), ⟨"", "", ""⟩, "WordHidesModel") := rfl
theorem ee_106_1 {d : Nat} {ls st : List Value} {h : aH} {r : Nat} : go d 106 1 ls (.ref r :: st) h = (gf h r 0 8 8).bind fun z => go d 106 4 ls (z :: st) h := go_getf ke_106_1
theorem ke_106_4 : alook 106 4 = some (4, .bipush 27, 2, (0, 0, 0, 0, 0), ⟨"", "", ""⟩, "") := rfl
theorem ee_106_4 {d : Nat} {h : aH} {ls st : List Value} : go d 106 4 ls st h = go d 106 6 ls (.int 27 :: st) h := go_plain (q := (6, ls, (.int 27 :: st), h)) ke_106_4 rfl
theorem ke_106_6 : alook 106 6 = some (6, .iaload, 1, (0, 0, 0, 0, 0), ⟨"", "", ""⟩, "") := rfl
theorem ee_106_6 {d : Nat} {ls st : List Value} {h : aH} {r : Nat} {i : Int32} : go d 106 6 ls (.int i :: .ref r :: st) h = (ia h r i).bind fun z => go d 106 7 ls (.int z :: st) h := go_iald ke_106_6
theorem ke_106_7 : alook 106 7 = some (7, .ifCond .le 11, 3, (18, 0, 0, 0, 0), ⟨"", "", ""⟩, "") := rfl
theorem ee_106_7 {d : Nat} {ls st : List Value} {h : aH} {x : Int32} : go d 106 7 ls (.int x :: st) h = if x ≤ 0 then go d 106 18 ls st h else go d 106 10 ls st h := go_c1 (go_if1 (tg := 18) (q := 10) (f := fun x => decide (x ≤ 0)) ke_106_7 rfl)
theorem ke_106_10 : alook 106 10 = some (10, .aload_n 0, 1, (0, 0, 0, 0, 0), ⟨"", "", ""⟩, "") := rfl
theorem ee_106_10 {d : Nat} {h : aH} {l1 l2 l3 : Value} {x : Nat} {st : List Value} : go d 106 10 [.ref x, l1, l2, l3] st h = go d 106 11 [.ref x, l1, l2, l3] (.ref x :: st) h := go_plain (q := (11, [.ref x, l1, l2, l3], (.ref x :: st), h)) ke_106_10 rfl
theorem ee_106_10N {d : Nat} {h : aH} {l1 l2 l3 : Value} {st : List Value} : go d 106 10 [.null, l1, l2, l3] st h = go d 106 11 [.null, l1, l2, l3] (.null :: st) h := go_plain (q := (11, [.null, l1, l2, l3], (.null :: st), h)) ke_106_10 rfl
theorem ke_106_11 : alook 106 11 = some (11, .iload_n 1, 1, (0, 0, 0, 0, 0), ⟨"", "", ""⟩, "") := rfl
theorem ee_106_11 {d : Nat} {h : aH} {l0 l2 l3 : Value} {x : Int32} {st : List Value} : go d 106 11 [l0, .int x, l2, l3] st h = go d 106 12 [l0, .int x, l2, l3] (.int x :: st) h := go_plain (q := (12, [l0, .int x, l2, l3], (.int x :: st), h)) ke_106_11 rfl
theorem ke_106_12 : alook 106 12 = some (12, .invokevirtual 93, 3, (1, 8, 69, 8, 69), ⟨"WordHidesModel", "isPlace", "(I)Z"⟩, "") := rfl
theorem ee_106_12 {d : Nat} {ls : List Value} {h : aH} {i0 : Int32} {r1 : Nat} : go (d + 1) 106 12 ls [.int i0, .ref r1] h = if isC h r1 8 = true then (go d 69 0 [.ref r1, .int i0] [] h).bind (fun q => go (d + 1) 106 15 ls (q.1.toList ++ []) q.2) else none := go_cv1 (as := [.int i0]) (rest := []) (L := [.ref r1, .int i0]) ke_106_12 rfl rfl rfl
theorem ke_106_15 : alook 106 15 = some (15, .ifCond .eq 41, 3, (56, 0, 0, 0, 0), ⟨"", "", ""⟩, "") := rfl
theorem ee_106_15 {d : Nat} {ls st : List Value} {h : aH} {x : Int32} : go d 106 15 ls (.int x :: st) h = if x = 0 then go d 106 56 ls st h else go d 106 18 ls st h := go_c1 (go_if1 (tg := 56) (q := 18) (f := fun x => decide (x = 0)) ke_106_15 rfl)
theorem ke_106_18 : alook 106 18 = some (18, .aload_n 0, 1, (0, 0, 0, 0, 0), ⟨"", "", ""⟩, "") := rfl
theorem ee_106_18 {d : Nat} {h : aH} {l1 l2 l3 : Value} {x : Nat} {st : List Value} : go d 106 18 [.ref x, l1, l2, l3] st h = go d 106 19 [.ref x, l1, l2, l3] (.ref x :: st) h := go_plain (q := (19, [.ref x, l1, l2, l3], (.ref x :: st), h)) ke_106_18 rfl
theorem ee_106_18N {d : Nat} {h : aH} {l1 l2 l3 : Value} {st : List Value} : go d 106 18 [.null, l1, l2, l3] st h = go d 106 19 [.null, l1, l2, l3] (.null :: st) h := go_plain (q := (19, [.null, l1, l2, l3], (.null :: st), h)) ke_106_18 rfl
theorem ke_106_19 : alook 106 19 = some (19, .getfield 7, 3, (0, 8, 8, 2, 0), ⟨"", "", ""⟩, "WordHidesModel") := rfl
theorem ee_106_19 {d : Nat} {ls st : List Value} {h : aH} {r : Nat} : go d 106 19 ls (.ref r :: st) h = (gf h r 0 8 8).bind fun z => go d 106 22 ls (z :: st) h := go_getf ke_106_19
theorem ke_106_22 : alook 106 22 = some (22, .bipush 27, 2, (0, 0, 0, 0, 0), ⟨"", "", ""⟩, "") := rfl
theorem ee_106_22 {d : Nat} {h : aH} {ls st : List Value} : go d 106 22 ls st h = go d 106 24 ls (.int 27 :: st) h := go_plain (q := (24, ls, (.int 27 :: st), h)) ke_106_22 rfl
theorem ke_106_24 : alook 106 24 = some (24, .iaload, 1, (0, 0, 0, 0, 0), ⟨"", "", ""⟩, "") := rfl
theorem ee_106_24 {d : Nat} {ls st : List Value} {h : aH} {r : Nat} {i : Int32} : go d 106 24 ls (.int i :: .ref r :: st) h = (ia h r i).bind fun z => go d 106 25 ls (.int z :: st) h := go_iald ke_106_24
theorem ke_106_25 : alook 106 25 = some (25, .iconst 1, 1, (0, 0, 0, 0, 0), ⟨"", "", ""⟩, "") := rfl
theorem ee_106_25 {d : Nat} {h : aH} {ls st : List Value} : go d 106 25 ls st h = go d 106 26 ls (.int 1 :: st) h := go_plain (q := (26, ls, (.int 1 :: st), h)) ke_106_25 rfl
theorem ke_106_26 : alook 106 26 = some (26, .if_icmp .le 11, 3, (37, 0, 0, 0, 0), ⟨"", "", ""⟩, "") := rfl
theorem ee_106_26 {d : Nat} {ls st : List Value} {h : aH} {x y : Int32} : go d 106 26 ls (.int y :: .int x :: st) h = if x ≤ y then go d 106 37 ls st h else go d 106 29 ls st h := go_ci (go_if2 (tg := 37) (q := 29) (f := fun x y => decide (x ≤ y)) ke_106_26 rfl)
theorem ke_106_29 : alook 106 29 = some (29, .aload_n 0, 1, (0, 0, 0, 0, 0), ⟨"", "", ""⟩, "") := rfl
theorem ee_106_29 {d : Nat} {h : aH} {l1 l2 l3 : Value} {x : Nat} {st : List Value} : go d 106 29 [.ref x, l1, l2, l3] st h = go d 106 30 [.ref x, l1, l2, l3] (.ref x :: st) h := go_plain (q := (30, [.ref x, l1, l2, l3], (.ref x :: st), h)) ke_106_29 rfl
theorem ee_106_29N {d : Nat} {h : aH} {l1 l2 l3 : Value} {st : List Value} : go d 106 29 [.null, l1, l2, l3] st h = go d 106 30 [.null, l1, l2, l3] (.null :: st) h := go_plain (q := (30, [.null, l1, l2, l3], (.null :: st), h)) ke_106_29 rfl
theorem ke_106_30 : alook 106 30 = some (30, .iload_n 2, 1, (0, 0, 0, 0, 0), ⟨"", "", ""⟩, "") := rfl
theorem ee_106_30 {d : Nat} {h : aH} {l0 l1 l3 : Value} {x : Int32} {st : List Value} : go d 106 30 [l0, l1, .int x, l3] st h = go d 106 31 [l0, l1, .int x, l3] (.int x :: st) h := go_plain (q := (31, [l0, l1, .int x, l3], (.int x :: st), h)) ke_106_30 rfl
theorem ke_106_31 : alook 106 31 = some (31, .invokevirtual 93, 3, (1, 8, 69, 8, 69), ⟨"WordHidesModel", "isPlace", "(I)Z"⟩, "") := rfl
theorem ee_106_31 {d : Nat} {ls : List Value} {h : aH} {i0 : Int32} {r1 : Nat} : go (d + 1) 106 31 ls [.int i0, .ref r1] h = if isC h r1 8 = true then (go d 69 0 [.ref r1, .int i0] [] h).bind (fun q => go (d + 1) 106 34 ls (q.1.toList ++ []) q.2) else none := go_cv1 (as := [.int i0]) (rest := []) (L := [.ref r1, .int i0]) ke_106_31 rfl rfl rfl
theorem ke_106_34 : alook 106 34 = some (34, .ifCond .eq 22, 3, (56, 0, 0, 0, 0), ⟨"", "", ""⟩, "") := rfl
theorem ee_106_34 {d : Nat} {ls st : List Value} {h : aH} {x : Int32} : go d 106 34 ls (.int x :: st) h = if x = 0 then go d 106 56 ls st h else go d 106 37 ls st h := go_c1 (go_if1 (tg := 56) (q := 37) (f := fun x => decide (x = 0)) ke_106_34 rfl)
theorem ke_106_37 : alook 106 37 = some (37, .aload_n 0, 1, (0, 0, 0, 0, 0), ⟨"", "", ""⟩, "") := rfl
theorem ee_106_37 {d : Nat} {h : aH} {l1 l2 l3 : Value} {x : Nat} {st : List Value} : go d 106 37 [.ref x, l1, l2, l3] st h = go d 106 38 [.ref x, l1, l2, l3] (.ref x :: st) h := go_plain (q := (38, [.ref x, l1, l2, l3], (.ref x :: st), h)) ke_106_37 rfl
theorem ee_106_37N {d : Nat} {h : aH} {l1 l2 l3 : Value} {st : List Value} : go d 106 37 [.null, l1, l2, l3] st h = go d 106 38 [.null, l1, l2, l3] (.null :: st) h := go_plain (q := (38, [.null, l1, l2, l3], (.null :: st), h)) ke_106_37 rfl
theorem ke_106_38 : alook 106 38 = some (38, .getfield 7, 3, (0, 8, 8, 2, 0), ⟨"", "", ""⟩, "WordHidesModel") := rfl
theorem ee_106_38 {d : Nat} {ls st : List Value} {h : aH} {r : Nat} : go d 106 38 ls (.ref r :: st) h = (gf h r 0 8 8).bind fun z => go d 106 41 ls (z :: st) h := go_getf ke_106_38
theorem ke_106_41 : alook 106 41 = some (41, .bipush 27, 2, (0, 0, 0, 0, 0), ⟨"", "", ""⟩, "") := rfl
theorem ee_106_41 {d : Nat} {h : aH} {ls st : List Value} : go d 106 41 ls st h = go d 106 43 ls (.int 27 :: st) h := go_plain (q := (43, ls, (.int 27 :: st), h)) ke_106_41 rfl
theorem ke_106_43 : alook 106 43 = some (43, .iaload, 1, (0, 0, 0, 0, 0), ⟨"", "", ""⟩, "") := rfl
theorem ee_106_43 {d : Nat} {ls st : List Value} {h : aH} {r : Nat} {i : Int32} : go d 106 43 ls (.int i :: .ref r :: st) h = (ia h r i).bind fun z => go d 106 44 ls (.int z :: st) h := go_iald ke_106_43
theorem ke_106_44 : alook 106 44 = some (44, .iconst 2, 1, (0, 0, 0, 0, 0), ⟨"", "", ""⟩, "") := rfl
theorem ee_106_44 {d : Nat} {h : aH} {ls st : List Value} : go d 106 44 ls st h = go d 106 45 ls (.int 2 :: st) h := go_plain (q := (45, ls, (.int 2 :: st), h)) ke_106_44 rfl
theorem ke_106_45 : alook 106 45 = some (45, .if_icmp .le 15, 3, (60, 0, 0, 0, 0), ⟨"", "", ""⟩, "") := rfl
theorem ee_106_45 {d : Nat} {ls st : List Value} {h : aH} {x y : Int32} : go d 106 45 ls (.int y :: .int x :: st) h = if x ≤ y then go d 106 60 ls st h else go d 106 48 ls st h := go_ci (go_if2 (tg := 60) (q := 48) (f := fun x y => decide (x ≤ y)) ke_106_45 rfl)
theorem ke_106_48 : alook 106 48 = some (48, .aload_n 0, 1, (0, 0, 0, 0, 0), ⟨"", "", ""⟩, "") := rfl
theorem ee_106_48 {d : Nat} {h : aH} {l1 l2 l3 : Value} {x : Nat} {st : List Value} : go d 106 48 [.ref x, l1, l2, l3] st h = go d 106 49 [.ref x, l1, l2, l3] (.ref x :: st) h := go_plain (q := (49, [.ref x, l1, l2, l3], (.ref x :: st), h)) ke_106_48 rfl
theorem ee_106_48N {d : Nat} {h : aH} {l1 l2 l3 : Value} {st : List Value} : go d 106 48 [.null, l1, l2, l3] st h = go d 106 49 [.null, l1, l2, l3] (.null :: st) h := go_plain (q := (49, [.null, l1, l2, l3], (.null :: st), h)) ke_106_48 rfl
theorem ke_106_49 : alook 106 49 = some (49, .iload_n 3, 1, (0, 0, 0, 0, 0), ⟨"", "", ""⟩, "") := rfl
theorem ee_106_49 {d : Nat} {h : aH} {l0 l1 l2 : Value} {x : Int32} {st : List Value} : go d 106 49 [l0, l1, l2, .int x] st h = go d 106 50 [l0, l1, l2, .int x] (.int x :: st) h := go_plain (q := (50, [l0, l1, l2, .int x], (.int x :: st), h)) ke_106_49 rfl
theorem ke_106_50 : alook 106 50 = some (50, .invokevirtual 93, 3, (1, 8, 69, 8, 69), ⟨"WordHidesModel", "isPlace", "(I)Z"⟩, "") := rfl
theorem ee_106_50 {d : Nat} {ls : List Value} {h : aH} {i0 : Int32} {r1 : Nat} : go (d + 1) 106 50 ls [.int i0, .ref r1] h = if isC h r1 8 = true then (go d 69 0 [.ref r1, .int i0] [] h).bind (fun q => go (d + 1) 106 53 ls (q.1.toList ++ []) q.2) else none := go_cv1 (as := [.int i0]) (rest := []) (L := [.ref r1, .int i0]) ke_106_50 rfl rfl rfl
theorem ke_106_53 : alook 106 53 = some (53, .ifCond .ne 7, 3, (60, 0, 0, 0, 0), ⟨"", "", ""⟩, "") := rfl
theorem ee_106_53 {d : Nat} {ls st : List Value} {h : aH} {x : Int32} : go d 106 53 ls (.int x :: st) h = if ¬ x = 0 then go d 106 60 ls st h else go d 106 56 ls st h := go_c1 (go_if1 (tg := 60) (q := 56) (f := fun x => decide (¬ x = 0)) ke_106_53 rfl)
theorem ke_106_56 : alook 106 56 = some (56, .iconst 1, 1, (0, 0, 0, 0, 0), ⟨"", "", ""⟩, "") := rfl
theorem ee_106_56 {d : Nat} {h : aH} {ls st : List Value} : go d 106 56 ls st h = go d 106 57 ls (.int 1 :: st) h := go_plain (q := (57, ls, (.int 1 :: st), h)) ke_106_56 rfl
theorem ke_106_57 : alook 106 57 = some (57, .goto 4, 3, (61, 0, 0, 0, 0), ⟨"", "", ""⟩, "") := rfl
theorem ee_106_57 {d : Nat} {h : aH} {ls st : List Value} : go d 106 57 ls st h = go d 106 61 ls st h := go_plain (q := (61, ls, st, h)) ke_106_57 rfl
theorem ke_106_60 : alook 106 60 = some (60, .iconst 0, 1, (0, 0, 0, 0, 0), ⟨"", "", ""⟩, "") := rfl
theorem ee_106_60 {d : Nat} {h : aH} {ls st : List Value} : go d 106 60 ls st h = go d 106 61 ls (.int 0 :: st) h := go_plain (q := (61, ls, (.int 0 :: st), h)) ke_106_60 rfl
theorem ke_106_61 : alook 106 61 = some (61, .ireturn, 1, (1, 0, 0, 0, 0), ⟨"", "", ""⟩, "") := rfl
theorem ee_106_61 {d : Nat} {ls : List Value} {h : aH} : go d 106 61 ls [.int 0] h = some (some (.int 0), h) := go_zret0 ke_106_61
theorem ee_106_61T {d : Nat} {ls : List Value} {h : aH} : go d 106 61 ls [.int 1] h = some (some (.int 1), h) := go_zret1 ke_106_61
theorem ke_107_0 : alook 107 0 = some (0, .aload_n 0, 1, (0, 0, 0, 0, 0), ⟨"", "", ""⟩, "") := rfl
theorem ee_107_0 {d : Nat} {h : aH} {l1 l2 l3 : Value} {x : Nat} {st : List Value} : go d 107 0 [.ref x, l1, l2, l3] st h = go d 107 1 [.ref x, l1, l2, l3] (.ref x :: st) h := go_plain (q := (1, [.ref x, l1, l2, l3], (.ref x :: st), h)) ke_107_0 rfl
theorem ee_107_0N {d : Nat} {h : aH} {l1 l2 l3 : Value} {st : List Value} : go d 107 0 [.null, l1, l2, l3] st h = go d 107 1 [.null, l1, l2, l3] (.null :: st) h := go_plain (q := (1, [.null, l1, l2, l3], (.null :: st), h)) ke_107_0 rfl
theorem ke_107_1 : alook 107 1 = some (1, .iload_n 1, 1, (0, 0, 0, 0, 0), ⟨"", "", ""⟩, "") := rfl
theorem ee_107_1 {d : Nat} {h : aH} {l0 l2 l3 : Value} {x : Int32} {st : List Value} : go d 107 1 [l0, .int x, l2, l3] st h = go d 107 2 [l0, .int x, l2, l3] (.int x :: st) h := go_plain (q := (2, [l0, .int x, l2, l3], (.int x :: st), h)) ke_107_1 rfl
theorem ke_107_2 : alook 107 2 = some (2, .iload_n 2, 1, (0, 0, 0, 0, 0), ⟨"", "", ""⟩, "") := rfl
theorem ee_107_2 {d : Nat} {h : aH} {l0 l1 l3 : Value} {x : Int32} {st : List Value} : go d 107 2 [l0, l1, .int x, l3] st h = go d 107 3 [l0, l1, .int x, l3] (.int x :: st) h := go_plain (q := (3, [l0, l1, .int x, l3], (.int x :: st), h)) ke_107_2 rfl
theorem ke_107_3 : alook 107 3 = some (3, .iload_n 3, 1, (0, 0, 0, 0, 0), ⟨"", "", ""⟩, "") := rfl
theorem ee_107_3 {d : Nat} {h : aH} {l0 l1 l2 : Value} {x : Int32} {st : List Value} : go d 107 3 [l0, l1, l2, .int x] st h = go d 107 4 [l0, l1, l2, .int x] (.int x :: st) h := go_plain (q := (4, [l0, l1, l2, .int x], (.int x :: st), h)) ke_107_3 rfl
theorem ke_107_4 : alook 107 4 = some (4, .invokevirtual 147, 3, (3, 8, 106, 8, 106), ⟨"WordHidesModel", "areNone", "(III)Z"⟩, "") := rfl
theorem ee_107_4 {d : Nat} {ls : List Value} {h : aH} {i0 : Int32} {i1 : Int32} {i2 : Int32} {r3 : Nat} : go (d + 1) 107 4 ls [.int i0, .int i1, .int i2, .ref r3] h = if isC h r3 8 = true then (go d 106 0 [.ref r3, .int i2, .int i1, .int i0] [] h).bind (fun q => go (d + 1) 107 7 ls (q.1.toList ++ []) q.2) else none := go_cv1 (as := [.int i2, .int i1, .int i0]) (rest := []) (L := [.ref r3, .int i2, .int i1, .int i0]) ke_107_4 rfl rfl rfl
theorem ke_107_7 : alook 107 7 = some (7, .ifCond .eq 6, 3, (13, 0, 0, 0, 0), ⟨"", "", ""⟩, "") := rfl
theorem ee_107_7 {d : Nat} {ls st : List Value} {h : aH} {x : Int32} : go d 107 7 ls (.int x :: st) h = if x = 0 then go d 107 13 ls st h else go d 107 10 ls st h := go_c1 (go_if1 (tg := 13) (q := 10) (f := fun x => decide (x = 0)) ke_107_7 rfl)
theorem ke_107_10 : alook 107 10 = some (10, .bipush (-2), 2, (0, 0, 0, 0, 0), ⟨"", "", ""⟩, "") := rfl
theorem ee_107_10 {d : Nat} {h : aH} {ls st : List Value} : go d 107 10 ls st h = go d 107 12 ls (.int (-2) :: st) h := go_plain (q := (12, ls, (.int (-2) :: st), h)) ke_107_10 rfl
theorem ke_107_12 : alook 107 12 = some (12, .ireturn, 1, (0, 0, 0, 0, 0), ⟨"", "", ""⟩, "") := rfl
theorem ee_107_12 {d : Nat} {ls : List Value} {h : aH} {v : Int32} : go d 107 12 ls [.int v] h = some (some (.int v), h) := go_iret ke_107_12
theorem ke_107_13 : alook 107 13 = some (13, .aload_n 0, 1, (0, 0, 0, 0, 0), ⟨"", "", ""⟩, "") := rfl
theorem ee_107_13 {d : Nat} {h : aH} {l1 l2 l3 : Value} {x : Nat} {st : List Value} : go d 107 13 [.ref x, l1, l2, l3] st h = go d 107 14 [.ref x, l1, l2, l3] (.ref x :: st) h := go_plain (q := (14, [.ref x, l1, l2, l3], (.ref x :: st), h)) ke_107_13 rfl
theorem ee_107_13N {d : Nat} {h : aH} {l1 l2 l3 : Value} {st : List Value} : go d 107 13 [.null, l1, l2, l3] st h = go d 107 14 [.null, l1, l2, l3] (.null :: st) h := go_plain (q := (14, [.null, l1, l2, l3], (.null :: st), h)) ke_107_13 rfl
theorem ke_107_14 : alook 107 14 = some (14, .invokevirtual 90, 3, (0, 8, 87, 8, 87), ⟨"WordHidesModel", "begin", "()V"⟩, "") := rfl
theorem ee_107_14 {d : Nat} {ls : List Value} {h : aH} {r0 : Nat} : go (d + 1) 107 14 ls [.ref r0] h = if isC h r0 8 = true then (go d 87 0 [.ref r0, aU] [] h).bind (fun q => go (d + 1) 107 17 ls (q.1.toList ++ []) q.2) else none := go_cv1 (as := []) (rest := []) (L := [.ref r0, aU]) ke_107_14 rfl rfl rfl
theorem ke_107_17 : alook 107 17 = some (17, .aload_n 0, 1, (0, 0, 0, 0, 0), ⟨"", "", ""⟩, "") := rfl
theorem ee_107_17 {d : Nat} {h : aH} {l1 l2 l3 : Value} {x : Nat} {st : List Value} : go d 107 17 [.ref x, l1, l2, l3] st h = go d 107 18 [.ref x, l1, l2, l3] (.ref x :: st) h := go_plain (q := (18, [.ref x, l1, l2, l3], (.ref x :: st), h)) ke_107_17 rfl
theorem ee_107_17N {d : Nat} {h : aH} {l1 l2 l3 : Value} {st : List Value} : go d 107 17 [.null, l1, l2, l3] st h = go d 107 18 [.null, l1, l2, l3] (.null :: st) h := go_plain (q := (18, [.null, l1, l2, l3], (.null :: st), h)) ke_107_17 rfl
theorem ke_107_18 : alook 107 18 = some (18, .iconst 0, 1, (0, 0, 0, 0, 0), ⟨"", "", ""⟩, "") := rfl
theorem ee_107_18 {d : Nat} {h : aH} {ls st : List Value} : go d 107 18 ls st h = go d 107 19 ls (.int 0 :: st) h := go_plain (q := (19, ls, (.int 0 :: st), h)) ke_107_18 rfl
theorem ke_107_19 : alook 107 19 = some (19, .iload_n 1, 1, (0, 0, 0, 0, 0), ⟨"", "", ""⟩, "") := rfl
theorem ee_107_19 {d : Nat} {h : aH} {l0 l2 l3 : Value} {x : Int32} {st : List Value} : go d 107 19 [l0, .int x, l2, l3] st h = go d 107 20 [l0, .int x, l2, l3] (.int x :: st) h := go_plain (q := (20, [l0, .int x, l2, l3], (.int x :: st), h)) ke_107_19 rfl
theorem ke_107_20 : alook 107 20 = some (20, .invokevirtual 129, 3, (2, 8, 91, 8, 91), ⟨"WordHidesModel", "layStep", "(II)Z"⟩, "") := rfl
theorem ee_107_20 {d : Nat} {ls : List Value} {h : aH} {i0 : Int32} {i1 : Int32} {r2 : Nat} : go (d + 1) 107 20 ls [.int i0, .int i1, .ref r2] h = if isC h r2 8 = true then (go d 91 0 [.ref r2, .int i1, .int i0] [] h).bind (fun q => go (d + 1) 107 23 ls (q.1.toList ++ []) q.2) else none := go_cv1 (as := [.int i1, .int i0]) (rest := []) (L := [.ref r2, .int i1, .int i0]) ke_107_20 rfl rfl rfl
theorem ke_107_23 : alook 107 23 = some (23, .ifCond .eq 28, 3, (51, 0, 0, 0, 0), ⟨"", "", ""⟩, "") := rfl
theorem ee_107_23 {d : Nat} {ls st : List Value} {h : aH} {x : Int32} : go d 107 23 ls (.int x :: st) h = if x = 0 then go d 107 51 ls st h else go d 107 26 ls st h := go_c1 (go_if1 (tg := 51) (q := 26) (f := fun x => decide (x = 0)) ke_107_23 rfl)
theorem ke_107_26 : alook 107 26 = some (26, .aload_n 0, 1, (0, 0, 0, 0, 0), ⟨"", "", ""⟩, "") := rfl
theorem ee_107_26 {d : Nat} {h : aH} {l1 l2 l3 : Value} {x : Nat} {st : List Value} : go d 107 26 [.ref x, l1, l2, l3] st h = go d 107 27 [.ref x, l1, l2, l3] (.ref x :: st) h := go_plain (q := (27, [.ref x, l1, l2, l3], (.ref x :: st), h)) ke_107_26 rfl
theorem ee_107_26N {d : Nat} {h : aH} {l1 l2 l3 : Value} {st : List Value} : go d 107 26 [.null, l1, l2, l3] st h = go d 107 27 [.null, l1, l2, l3] (.null :: st) h := go_plain (q := (27, [.null, l1, l2, l3], (.null :: st), h)) ke_107_26 rfl
theorem ke_107_27 : alook 107 27 = some (27, .iconst 1, 1, (0, 0, 0, 0, 0), ⟨"", "", ""⟩, "") := rfl
theorem ee_107_27 {d : Nat} {h : aH} {ls st : List Value} : go d 107 27 ls st h = go d 107 28 ls (.int 1 :: st) h := go_plain (q := (28, ls, (.int 1 :: st), h)) ke_107_27 rfl
theorem ke_107_28 : alook 107 28 = some (28, .iload_n 2, 1, (0, 0, 0, 0, 0), ⟨"", "", ""⟩, "") := rfl
theorem ee_107_28 {d : Nat} {h : aH} {l0 l1 l3 : Value} {x : Int32} {st : List Value} : go d 107 28 [l0, l1, .int x, l3] st h = go d 107 29 [l0, l1, .int x, l3] (.int x :: st) h := go_plain (q := (29, [l0, l1, .int x, l3], (.int x :: st), h)) ke_107_28 rfl
theorem ke_107_29 : alook 107 29 = some (29, .invokevirtual 129, 3, (2, 8, 91, 8, 91), ⟨"WordHidesModel", "layStep", "(II)Z"⟩, "") := rfl
theorem ee_107_29 {d : Nat} {ls : List Value} {h : aH} {i0 : Int32} {i1 : Int32} {r2 : Nat} : go (d + 1) 107 29 ls [.int i0, .int i1, .ref r2] h = if isC h r2 8 = true then (go d 91 0 [.ref r2, .int i1, .int i0] [] h).bind (fun q => go (d + 1) 107 32 ls (q.1.toList ++ []) q.2) else none := go_cv1 (as := [.int i1, .int i0]) (rest := []) (L := [.ref r2, .int i1, .int i0]) ke_107_29 rfl rfl rfl
theorem ke_107_32 : alook 107 32 = some (32, .ifCond .eq 19, 3, (51, 0, 0, 0, 0), ⟨"", "", ""⟩, "") := rfl
theorem ee_107_32 {d : Nat} {ls st : List Value} {h : aH} {x : Int32} : go d 107 32 ls (.int x :: st) h = if x = 0 then go d 107 51 ls st h else go d 107 35 ls st h := go_c1 (go_if1 (tg := 51) (q := 35) (f := fun x => decide (x = 0)) ke_107_32 rfl)
theorem ke_107_35 : alook 107 35 = some (35, .aload_n 0, 1, (0, 0, 0, 0, 0), ⟨"", "", ""⟩, "") := rfl
theorem ee_107_35 {d : Nat} {h : aH} {l1 l2 l3 : Value} {x : Nat} {st : List Value} : go d 107 35 [.ref x, l1, l2, l3] st h = go d 107 36 [.ref x, l1, l2, l3] (.ref x :: st) h := go_plain (q := (36, [.ref x, l1, l2, l3], (.ref x :: st), h)) ke_107_35 rfl
theorem ee_107_35N {d : Nat} {h : aH} {l1 l2 l3 : Value} {st : List Value} : go d 107 35 [.null, l1, l2, l3] st h = go d 107 36 [.null, l1, l2, l3] (.null :: st) h := go_plain (q := (36, [.null, l1, l2, l3], (.null :: st), h)) ke_107_35 rfl
theorem ke_107_36 : alook 107 36 = some (36, .iconst 2, 1, (0, 0, 0, 0, 0), ⟨"", "", ""⟩, "") := rfl
theorem ee_107_36 {d : Nat} {h : aH} {ls st : List Value} : go d 107 36 ls st h = go d 107 37 ls (.int 2 :: st) h := go_plain (q := (37, ls, (.int 2 :: st), h)) ke_107_36 rfl
theorem ke_107_37 : alook 107 37 = some (37, .iload_n 3, 1, (0, 0, 0, 0, 0), ⟨"", "", ""⟩, "") := rfl
theorem ee_107_37 {d : Nat} {h : aH} {l0 l1 l2 : Value} {x : Int32} {st : List Value} : go d 107 37 [l0, l1, l2, .int x] st h = go d 107 38 [l0, l1, l2, .int x] (.int x :: st) h := go_plain (q := (38, [l0, l1, l2, .int x], (.int x :: st), h)) ke_107_37 rfl
theorem ke_107_38 : alook 107 38 = some (38, .invokevirtual 129, 3, (2, 8, 91, 8, 91), ⟨"WordHidesModel", "layStep", "(II)Z"⟩, "") := rfl
theorem ee_107_38 {d : Nat} {ls : List Value} {h : aH} {i0 : Int32} {i1 : Int32} {r2 : Nat} : go (d + 1) 107 38 ls [.int i0, .int i1, .ref r2] h = if isC h r2 8 = true then (go d 91 0 [.ref r2, .int i1, .int i0] [] h).bind (fun q => go (d + 1) 107 41 ls (q.1.toList ++ []) q.2) else none := go_cv1 (as := [.int i1, .int i0]) (rest := []) (L := [.ref r2, .int i1, .int i0]) ke_107_38 rfl rfl rfl
theorem ke_107_41 : alook 107 41 = some (41, .ifCond .eq 10, 3, (51, 0, 0, 0, 0), ⟨"", "", ""⟩, "") := rfl
theorem ee_107_41 {d : Nat} {ls st : List Value} {h : aH} {x : Int32} : go d 107 41 ls (.int x :: st) h = if x = 0 then go d 107 51 ls st h else go d 107 44 ls st h := go_c1 (go_if1 (tg := 51) (q := 44) (f := fun x => decide (x = 0)) ke_107_41 rfl)
theorem ke_107_44 : alook 107 44 = some (44, .aload_n 0, 1, (0, 0, 0, 0, 0), ⟨"", "", ""⟩, "") := rfl
theorem ee_107_44 {d : Nat} {h : aH} {l1 l2 l3 : Value} {x : Nat} {st : List Value} : go d 107 44 [.ref x, l1, l2, l3] st h = go d 107 45 [.ref x, l1, l2, l3] (.ref x :: st) h := go_plain (q := (45, [.ref x, l1, l2, l3], (.ref x :: st), h)) ke_107_44 rfl
theorem ee_107_44N {d : Nat} {h : aH} {l1 l2 l3 : Value} {st : List Value} : go d 107 44 [.null, l1, l2, l3] st h = go d 107 45 [.null, l1, l2, l3] (.null :: st) h := go_plain (q := (45, [.null, l1, l2, l3], (.null :: st), h)) ke_107_44 rfl
theorem ke_107_45 : alook 107 45 = some (45, .invokevirtual 150, 3, (0, 8, 99, 8, 99), ⟨"WordHidesModel", "covered", "()I"⟩, "") := rfl
theorem ee_107_45 {d : Nat} {ls : List Value} {h : aH} {r0 : Nat} : go (d + 1) 107 45 ls [.ref r0] h = if isC h r0 8 = true then (go d 99 0 [.ref r0, aU, aU] [] h).bind (fun q => go (d + 1) 107 48 ls (q.1.toList ++ []) q.2) else none := go_cv1 (as := []) (rest := []) (L := [.ref r0, aU, aU]) ke_107_45 rfl rfl rfl
theorem ke_107_48 : alook 107 48 = some (48, .goto 5, 3, (53, 0, 0, 0, 0), ⟨"", "", ""⟩, "") := rfl
theorem ee_107_48 {d : Nat} {h : aH} {ls st : List Value} : go d 107 48 ls st h = go d 107 53 ls st h := go_plain (q := (53, ls, st, h)) ke_107_48 rfl
theorem ke_107_51 : alook 107 51 = some (51, .bipush (-5), 2, (0, 0, 0, 0, 0), ⟨"", "", ""⟩, "") := rfl
theorem ee_107_51 {d : Nat} {h : aH} {ls st : List Value} : go d 107 51 ls st h = go d 107 53 ls (.int (-5) :: st) h := go_plain (q := (53, ls, (.int (-5) :: st), h)) ke_107_51 rfl
theorem ke_107_53 : alook 107 53 = some (53, .ireturn, 1, (0, 0, 0, 0, 0), ⟨"", "", ""⟩, "") := rfl
theorem ee_107_53 {d : Nat} {ls : List Value} {h : aH} {v : Int32} : go d 107 53 ls [.int v] h = some (some (.int v), h) := go_iret ke_107_53
theorem ke_108_0 : alook 108 0 = some (0, .iconst 0, 1, (0, 0, 0, 0, 0), ⟨"", "", ""⟩, "") := rfl
theorem ee_108_0 {d : Nat} {h : aH} {ls st : List Value} : go d 108 0 ls st h = go d 108 1 ls (.int 0 :: st) h := go_plain (q := (1, ls, (.int 0 :: st), h)) ke_108_0 rfl
theorem ke_108_1 : alook 108 1 = some (1, .istore_n 1, 1, (0, 0, 0, 0, 0), ⟨"", "", ""⟩, "") := rfl
theorem ee_108_1 {d : Nat} {h : aH} {l0 l1 l2 l3 : Value} {x : Int32} {st : List Value} : go d 108 1 [l0, l1, l2, l3] (.int x :: st) h = go d 108 2 [l0, .int x, l2, l3] st h := go_plain (q := (2, [l0, .int x, l2, l3], st, h)) ke_108_1 rfl
theorem ke_108_2 : alook 108 2 = some (2, .iconst 0, 1, (0, 0, 0, 0, 0), ⟨"", "", ""⟩, "") := rfl
theorem ee_108_2 {d : Nat} {h : aH} {ls st : List Value} : go d 108 2 ls st h = go d 108 3 ls (.int 0 :: st) h := go_plain (q := (3, ls, (.int 0 :: st), h)) ke_108_2 rfl
theorem ke_108_3 : alook 108 3 = some (3, .istore_n 2, 1, (0, 0, 0, 0, 0), ⟨"", "", ""⟩, "") := rfl
theorem ee_108_3 {d : Nat} {h : aH} {l0 l1 l2 l3 : Value} {x : Int32} {st : List Value} : go d 108 3 [l0, l1, l2, l3] (.int x :: st) h = go d 108 4 [l0, l1, .int x, l3] st h := go_plain (q := (4, [l0, l1, .int x, l3], st, h)) ke_108_3 rfl
theorem ke_108_4 : alook 108 4 = some (4, .iload_n 2, 1, (0, 0, 0, 0, 0), ⟨"", "", ""⟩, "") := rfl
theorem ee_108_4 {d : Nat} {h : aH} {l0 l1 l3 : Value} {x : Int32} {st : List Value} : go d 108 4 [l0, l1, .int x, l3] st h = go d 108 5 [l0, l1, .int x, l3] (.int x :: st) h := go_plain (q := (5, [l0, l1, .int x, l3], (.int x :: st), h)) ke_108_4 rfl
theorem ke_108_5 : alook 108 5 = some (5, .aload_n 0, 1, (0, 0, 0, 0, 0), ⟨"", "", ""⟩, "") := rfl
theorem ee_108_5 {d : Nat} {h : aH} {l1 l2 l3 : Value} {x : Nat} {st : List Value} : go d 108 5 [.ref x, l1, l2, l3] st h = go d 108 6 [.ref x, l1, l2, l3] (.ref x :: st) h := go_plain (q := (6, [.ref x, l1, l2, l3], (.ref x :: st), h)) ke_108_5 rfl
theorem ee_108_5N {d : Nat} {h : aH} {l1 l2 l3 : Value} {st : List Value} : go d 108 5 [.null, l1, l2, l3] st h = go d 108 6 [.null, l1, l2, l3] (.null :: st) h := go_plain (q := (6, [.null, l1, l2, l3], (.null :: st), h)) ke_108_5 rfl
theorem ke_108_6 : alook 108 6 = some (6, .invokevirtual 32, 3, (0, 8, 66, 8, 66), ⟨"WordHidesModel", "cells", "()I"⟩, "") := rfl
theorem ee_108_6 {d : Nat} {ls : List Value} {h : aH} {r0 : Nat} {i1 : Int32} : go (d + 1) 108 6 ls [.ref r0, .int i1] h = if isC h r0 8 = true then (go d 66 0 [.ref r0] [] h).bind (fun q => go (d + 1) 108 9 ls (q.1.toList ++ [.int i1]) q.2) else none := go_cv1 (as := []) (rest := [.int i1]) (L := [.ref r0]) ke_108_6 rfl rfl rfl
theorem ke_108_9 : alook 108 9 = some (9, .if_icmp .ge 54, 3, (63, 0, 0, 0, 0), ⟨"", "", ""⟩, "") := rfl
theorem ee_108_9 {d : Nat} {ls st : List Value} {h : aH} {x y : Int32} : go d 108 9 ls (.int y :: .int x :: st) h = if y ≤ x then go d 108 63 ls st h else go d 108 12 ls st h := go_ci (go_if2 (tg := 63) (q := 12) (f := fun x y => decide (y ≤ x)) ke_108_9 rfl)
theorem ke_108_12 : alook 108 12 = some (12, .aload_n 0, 1, (0, 0, 0, 0, 0), ⟨"", "", ""⟩, "") := rfl
theorem ee_108_12 {d : Nat} {h : aH} {l1 l2 l3 : Value} {x : Nat} {st : List Value} : go d 108 12 [.ref x, l1, l2, l3] st h = go d 108 13 [.ref x, l1, l2, l3] (.ref x :: st) h := go_plain (q := (13, [.ref x, l1, l2, l3], (.ref x :: st), h)) ke_108_12 rfl
theorem ee_108_12N {d : Nat} {h : aH} {l1 l2 l3 : Value} {st : List Value} : go d 108 12 [.null, l1, l2, l3] st h = go d 108 13 [.null, l1, l2, l3] (.null :: st) h := go_plain (q := (13, [.null, l1, l2, l3], (.null :: st), h)) ke_108_12 rfl
theorem ke_108_13 : alook 108 13 = some (13, .getfield 23, 3, (5, 8, 8, 2, 0), ⟨"", "", ""⟩, "WordHidesModel") := rfl
theorem ee_108_13 {d : Nat} {ls st : List Value} {h : aH} {r : Nat} : go d 108 13 ls (.ref r :: st) h = (gf h r 5 8 8).bind fun z => go d 108 16 ls (z :: st) h := go_getf ke_108_13
theorem ke_108_16 : alook 108 16 = some (16, .bipush 48, 2, (0, 0, 0, 0, 0), ⟨"", "", ""⟩, "") := rfl
theorem ee_108_16 {d : Nat} {h : aH} {ls st : List Value} : go d 108 16 ls st h = go d 108 18 ls (.int 48 :: st) h := go_plain (q := (18, ls, (.int 48 :: st), h)) ke_108_16 rfl
theorem ke_108_18 : alook 108 18 = some (18, .iload_n 2, 1, (0, 0, 0, 0, 0), ⟨"", "", ""⟩, "") := rfl
theorem ee_108_18 {d : Nat} {h : aH} {l0 l1 l3 : Value} {x : Int32} {st : List Value} : go d 108 18 [l0, l1, .int x, l3] st h = go d 108 19 [l0, l1, .int x, l3] (.int x :: st) h := go_plain (q := (19, [l0, l1, .int x, l3], (.int x :: st), h)) ke_108_18 rfl
theorem ke_108_19 : alook 108 19 = some (19, .iadd, 1, (0, 0, 0, 0, 0), ⟨"", "", ""⟩, "") := rfl
theorem ee_108_19 {d : Nat} {h : aH} {ls st : List Value} {x y : Int32} : go d 108 19 ls (.int y :: .int x :: st) h = go d 108 20 ls (.int (x + y) :: st) h := go_plain (q := (20, ls, (.int (x + y) :: st), h)) ke_108_19 rfl
theorem ke_108_20 : alook 108 20 = some (20, .iaload, 1, (0, 0, 0, 0, 0), ⟨"", "", ""⟩, "") := rfl
theorem ee_108_20 {d : Nat} {ls st : List Value} {h : aH} {r : Nat} {i : Int32} : go d 108 20 ls (.int i :: .ref r :: st) h = (ia h r i).bind fun z => go d 108 21 ls (.int z :: st) h := go_iald ke_108_20
theorem ke_108_21 : alook 108 21 = some (21, .istore_n 3, 1, (0, 0, 0, 0, 0), ⟨"", "", ""⟩, "") := rfl
theorem ee_108_21 {d : Nat} {h : aH} {l0 l1 l2 l3 : Value} {x : Int32} {st : List Value} : go d 108 21 [l0, l1, l2, l3] (.int x :: st) h = go d 108 22 [l0, l1, l2, .int x] st h := go_plain (q := (22, [l0, l1, l2, .int x], st, h)) ke_108_21 rfl
theorem ke_108_22 : alook 108 22 = some (22, .iload_n 3, 1, (0, 0, 0, 0, 0), ⟨"", "", ""⟩, "") := rfl
theorem ee_108_22 {d : Nat} {h : aH} {l0 l1 l2 : Value} {x : Int32} {st : List Value} : go d 108 22 [l0, l1, l2, .int x] st h = go d 108 23 [l0, l1, l2, .int x] (.int x :: st) h := go_plain (q := (23, [l0, l1, l2, .int x], (.int x :: st), h)) ke_108_22 rfl
theorem ke_108_23 : alook 108 23 = some (23, .ifCond .ne 24, 3, (47, 0, 0, 0, 0), ⟨"", "", ""⟩, "") := rfl
theorem ee_108_23 {d : Nat} {ls st : List Value} {h : aH} {x : Int32} : go d 108 23 ls (.int x :: st) h = if ¬ x = 0 then go d 108 47 ls st h else go d 108 26 ls st h := go_c1 (go_if1 (tg := 47) (q := 26) (f := fun x => decide (¬ x = 0)) ke_108_23 rfl)
theorem ke_108_26 : alook 108 26 = some (26, .aload_n 0, 1, (0, 0, 0, 0, 0), ⟨"", "", ""⟩, "") := rfl
theorem ee_108_26 {d : Nat} {h : aH} {l1 l2 l3 : Value} {x : Nat} {st : List Value} : go d 108 26 [.ref x, l1, l2, l3] st h = go d 108 27 [.ref x, l1, l2, l3] (.ref x :: st) h := go_plain (q := (27, [.ref x, l1, l2, l3], (.ref x :: st), h)) ke_108_26 rfl
theorem ee_108_26N {d : Nat} {h : aH} {l1 l2 l3 : Value} {st : List Value} : go d 108 26 [.null, l1, l2, l3] st h = go d 108 27 [.null, l1, l2, l3] (.null :: st) h := go_plain (q := (27, [.null, l1, l2, l3], (.null :: st), h)) ke_108_26 rfl
theorem ke_108_27 : alook 108 27 = some (27, .getfield 7, 3, (0, 8, 8, 2, 0), ⟨"", "", ""⟩, "WordHidesModel") := rfl
theorem ee_108_27 {d : Nat} {ls st : List Value} {h : aH} {r : Nat} : go d 108 27 ls (.ref r :: st) h = (gf h r 0 8 8).bind fun z => go d 108 30 ls (z :: st) h := go_getf ke_108_27
theorem ke_108_30 : alook 108 30 = some (30, .bipush 17, 2, (0, 0, 0, 0, 0), ⟨"", "", ""⟩, "") := rfl
theorem ee_108_30 {d : Nat} {h : aH} {ls st : List Value} : go d 108 30 ls st h = go d 108 32 ls (.int 17 :: st) h := go_plain (q := (32, ls, (.int 17 :: st), h)) ke_108_30 rfl
theorem ke_108_32 : alook 108 32 = some (32, .iload_n 1, 1, (0, 0, 0, 0, 0), ⟨"", "", ""⟩, "") := rfl
theorem ee_108_32 {d : Nat} {h : aH} {l0 l2 l3 : Value} {x : Int32} {st : List Value} : go d 108 32 [l0, .int x, l2, l3] st h = go d 108 33 [l0, .int x, l2, l3] (.int x :: st) h := go_plain (q := (33, [l0, .int x, l2, l3], (.int x :: st), h)) ke_108_32 rfl
theorem ke_108_33 : alook 108 33 = some (33, .aload_n 0, 1, (0, 0, 0, 0, 0), ⟨"", "", ""⟩, "") := rfl
theorem ee_108_33 {d : Nat} {h : aH} {l1 l2 l3 : Value} {x : Nat} {st : List Value} : go d 108 33 [.ref x, l1, l2, l3] st h = go d 108 34 [.ref x, l1, l2, l3] (.ref x :: st) h := go_plain (q := (34, [.ref x, l1, l2, l3], (.ref x :: st), h)) ke_108_33 rfl
theorem ee_108_33N {d : Nat} {h : aH} {l1 l2 l3 : Value} {st : List Value} : go d 108 33 [.null, l1, l2, l3] st h = go d 108 34 [.null, l1, l2, l3] (.null :: st) h := go_plain (q := (34, [.null, l1, l2, l3], (.null :: st), h)) ke_108_33 rfl
theorem ke_108_34 : alook 108 34 = some (34, .getfield 7, 3, (0, 8, 8, 2, 0), ⟨"", "", ""⟩, "WordHidesModel") := rfl
theorem ee_108_34 {d : Nat} {ls st : List Value} {h : aH} {r : Nat} : go d 108 34 ls (.ref r :: st) h = (gf h r 0 8 8).bind fun z => go d 108 37 ls (z :: st) h := go_getf ke_108_34
theorem ke_108_37 : alook 108 37 = some (37, .bipush 26, 2, (0, 0, 0, 0, 0), ⟨"", "", ""⟩, "") := rfl
theorem ee_108_37 {d : Nat} {h : aH} {ls st : List Value} : go d 108 37 ls st h = go d 108 39 ls (.int 26 :: st) h := go_plain (q := (39, ls, (.int 26 :: st), h)) ke_108_37 rfl
theorem ke_108_39 : alook 108 39 = some (39, .iaload, 1, (0, 0, 0, 0, 0), ⟨"", "", ""⟩, "") := rfl
theorem ee_108_39 {d : Nat} {ls st : List Value} {h : aH} {r : Nat} {i : Int32} : go d 108 39 ls (.int i :: .ref r :: st) h = (ia h r i).bind fun z => go d 108 40 ls (.int z :: st) h := go_iald ke_108_39
theorem ke_108_40 : alook 108 40 = some (40, .irem, 1, (0, 0, 0, 0, 0), ⟨"", "", ""⟩, "") := rfl
theorem ee_108_40 {d : Nat} {ls st : List Value} {h : aH} {x y : Int32} : go d 108 40 ls (.int y :: .int x :: st) h = if y = 0 then none else go d 108 41 ls (.int (x - x / y * y) :: st) h := go_div (f := fun x y => x - x / y * y) (q := 41) ke_108_40 rfl rfl rfl
theorem ke_108_41 : alook 108 41 = some (41, .iadd, 1, (0, 0, 0, 0, 0), ⟨"", "", ""⟩, "") := rfl
theorem ee_108_41 {d : Nat} {h : aH} {ls st : List Value} {x y : Int32} : go d 108 41 ls (.int y :: .int x :: st) h = go d 108 42 ls (.int (x + y) :: st) h := go_plain (q := (42, ls, (.int (x + y) :: st), h)) ke_108_41 rfl
theorem ke_108_42 : alook 108 42 = some (42, .iaload, 1, (0, 0, 0, 0, 0), ⟨"", "", ""⟩, "") := rfl
theorem ee_108_42 {d : Nat} {ls st : List Value} {h : aH} {r : Nat} {i : Int32} : go d 108 42 ls (.int i :: .ref r :: st) h = (ia h r i).bind fun z => go d 108 43 ls (.int z :: st) h := go_iald ke_108_42
theorem ke_108_43 : alook 108 43 = some (43, .istore_n 3, 1, (0, 0, 0, 0, 0), ⟨"", "", ""⟩, "") := rfl
theorem ee_108_43 {d : Nat} {h : aH} {l0 l1 l2 l3 : Value} {x : Int32} {st : List Value} : go d 108 43 [l0, l1, l2, l3] (.int x :: st) h = go d 108 44 [l0, l1, l2, .int x] st h := go_plain (q := (44, [l0, l1, l2, .int x], st, h)) ke_108_43 rfl
theorem ke_108_44 : alook 108 44 = some (44, .iinc 1 1, 3, (0, 0, 0, 0, 0), ⟨"", "", ""⟩, "") := rfl
theorem ee_108_44 {d : Nat} {h : aH} {l0 l2 l3 : Value} {x : Int32} {st : List Value} : go d 108 44 [l0, .int x, l2, l3] st h = go d 108 47 [l0, .int (x + 1), l2, l3] st h := go_plain (q := (47, [l0, .int (x + 1), l2, l3], st, h)) ke_108_44 rfl
theorem ke_108_47 : alook 108 47 = some (47, .aload_n 0, 1, (0, 0, 0, 0, 0), ⟨"", "", ""⟩, "") := rfl
theorem ee_108_47 {d : Nat} {h : aH} {l1 l2 l3 : Value} {x : Nat} {st : List Value} : go d 108 47 [.ref x, l1, l2, l3] st h = go d 108 48 [.ref x, l1, l2, l3] (.ref x :: st) h := go_plain (q := (48, [.ref x, l1, l2, l3], (.ref x :: st), h)) ke_108_47 rfl
theorem ee_108_47N {d : Nat} {h : aH} {l1 l2 l3 : Value} {st : List Value} : go d 108 47 [.null, l1, l2, l3] st h = go d 108 48 [.null, l1, l2, l3] (.null :: st) h := go_plain (q := (48, [.null, l1, l2, l3], (.null :: st), h)) ke_108_47 rfl
theorem ke_108_48 : alook 108 48 = some (48, .getfield 23, 3, (5, 8, 8, 2, 0), ⟨"", "", ""⟩, "WordHidesModel") := rfl
theorem ee_108_48 {d : Nat} {ls st : List Value} {h : aH} {r : Nat} : go d 108 48 ls (.ref r :: st) h = (gf h r 5 8 8).bind fun z => go d 108 51 ls (z :: st) h := go_getf ke_108_48
theorem ke_108_51 : alook 108 51 = some (51, .bipush 64, 2, (0, 0, 0, 0, 0), ⟨"", "", ""⟩, "") := rfl
theorem ee_108_51 {d : Nat} {h : aH} {ls st : List Value} : go d 108 51 ls st h = go d 108 53 ls (.int 64 :: st) h := go_plain (q := (53, ls, (.int 64 :: st), h)) ke_108_51 rfl
theorem ke_108_53 : alook 108 53 = some (53, .iload_n 2, 1, (0, 0, 0, 0, 0), ⟨"", "", ""⟩, "") := rfl
theorem ee_108_53 {d : Nat} {h : aH} {l0 l1 l3 : Value} {x : Int32} {st : List Value} : go d 108 53 [l0, l1, .int x, l3] st h = go d 108 54 [l0, l1, .int x, l3] (.int x :: st) h := go_plain (q := (54, [l0, l1, .int x, l3], (.int x :: st), h)) ke_108_53 rfl
theorem ke_108_54 : alook 108 54 = some (54, .iadd, 1, (0, 0, 0, 0, 0), ⟨"", "", ""⟩, "") := rfl
theorem ee_108_54 {d : Nat} {h : aH} {ls st : List Value} {x y : Int32} : go d 108 54 ls (.int y :: .int x :: st) h = go d 108 55 ls (.int (x + y) :: st) h := go_plain (q := (55, ls, (.int (x + y) :: st), h)) ke_108_54 rfl
theorem ke_108_55 : alook 108 55 = some (55, .iload_n 3, 1, (0, 0, 0, 0, 0), ⟨"", "", ""⟩, "") := rfl
theorem ee_108_55 {d : Nat} {h : aH} {l0 l1 l2 : Value} {x : Int32} {st : List Value} : go d 108 55 [l0, l1, l2, .int x] st h = go d 108 56 [l0, l1, l2, .int x] (.int x :: st) h := go_plain (q := (56, [l0, l1, l2, .int x], (.int x :: st), h)) ke_108_55 rfl
theorem ke_108_56 : alook 108 56 = some (56, .iastore, 1, (0, 0, 0, 0, 0), ⟨"", "", ""⟩, "") := rfl
theorem ee_108_56 {d : Nat} {ls st : List Value} {h : aH} {r : Nat} {i x : Int32} : go d 108 56 ls (.int x :: .int i :: .ref r :: st) h = (is_ h r i x).bind fun h' => go d 108 57 ls st h' := go_iast ke_108_56
theorem ke_108_57 : alook 108 57 = some (57, .iinc 2 1, 3, (0, 0, 0, 0, 0), ⟨"", "", ""⟩, "") := rfl
theorem ee_108_57 {d : Nat} {h : aH} {l0 l1 l3 : Value} {x : Int32} {st : List Value} : go d 108 57 [l0, l1, .int x, l3] st h = go d 108 60 [l0, l1, .int (x + 1), l3] st h := go_plain (q := (60, [l0, l1, .int (x + 1), l3], st, h)) ke_108_57 rfl
theorem ke_108_60 : alook 108 60 = some (60, .goto (-56), 3, (4, 0, 0, 0, 0), ⟨"", "", ""⟩, "") := rfl
theorem ee_108_60 {d : Nat} {h : aH} {ls st : List Value} : go d 108 60 ls st h = go d 108 4 ls st h := go_plain (q := (4, ls, st, h)) ke_108_60 rfl
theorem ke_108_63 : alook 108 63 = some (63, .iload_n 1, 1, (0, 0, 0, 0, 0), ⟨"", "", ""⟩, "") := rfl
theorem ee_108_63 {d : Nat} {h : aH} {l0 l2 l3 : Value} {x : Int32} {st : List Value} : go d 108 63 [l0, .int x, l2, l3] st h = go d 108 64 [l0, .int x, l2, l3] (.int x :: st) h := go_plain (q := (64, [l0, .int x, l2, l3], (.int x :: st), h)) ke_108_63 rfl
theorem ke_108_64 : alook 108 64 = some (64, .ireturn, 1, (0, 0, 0, 0, 0), ⟨"", "", ""⟩, "") := rfl
theorem ee_108_64 {d : Nat} {ls : List Value} {h : aH} {v : Int32} : go d 108 64 ls [.int v] h = some (some (.int v), h) := go_iret ke_108_64
theorem ke_109_0 : alook 109 0 = some (0, .aload_n 0, 1, (0, 0, 0, 0, 0), ⟨"", "", ""⟩, "") := rfl
theorem ee_109_0 {d : Nat} {h : aH} {l1 l2 l3 l4 : Value} {x : Nat} {st : List Value} : go d 109 0 [.ref x, l1, l2, l3, l4] st h = go d 109 1 [.ref x, l1, l2, l3, l4] (.ref x :: st) h := go_plain (q := (1, [.ref x, l1, l2, l3, l4], (.ref x :: st), h)) ke_109_0 rfl
theorem ee_109_0N {d : Nat} {h : aH} {l1 l2 l3 l4 : Value} {st : List Value} : go d 109 0 [.null, l1, l2, l3, l4] st h = go d 109 1 [.null, l1, l2, l3, l4] (.null :: st) h := go_plain (q := (1, [.null, l1, l2, l3, l4], (.null :: st), h)) ke_109_0 rfl
theorem ke_109_1 : alook 109 1 = some (1, .iconst 0, 1, (0, 0, 0, 0, 0), ⟨"", "", ""⟩, "") := rfl
theorem ee_109_1 {d : Nat} {h : aH} {ls st : List Value} : go d 109 1 ls st h = go d 109 2 ls (.int 0 :: st) h := go_plain (q := (2, ls, (.int 0 :: st), h)) ke_109_1 rfl
theorem ke_109_2 : alook 109 2 = some (2, .iload_n 1, 1, (0, 0, 0, 0, 0), ⟨"", "", ""⟩, "") := rfl
theorem ee_109_2 {d : Nat} {h : aH} {l0 l2 l3 l4 : Value} {x : Int32} {st : List Value} : go d 109 2 [l0, .int x, l2, l3, l4] st h = go d 109 3 [l0, .int x, l2, l3, l4] (.int x :: st) h := go_plain (q := (3, [l0, .int x, l2, l3, l4], (.int x :: st), h)) ke_109_2 rfl
theorem ke_109_3 : alook 109 3 = some (3, .invokevirtual 58, 3, (2, 8, 71, 8, 71), ⟨"WordHidesModel", "longOf", "(II)I"⟩, "") := rfl
theorem ee_109_3 {d : Nat} {ls : List Value} {h : aH} {i0 : Int32} {i1 : Int32} {r2 : Nat} : go (d + 1) 109 3 ls [.int i0, .int i1, .ref r2] h = if isC h r2 8 = true then (go d 71 0 [.ref r2, .int i1, .int i0] [] h).bind (fun q => go (d + 1) 109 6 ls (q.1.toList ++ []) q.2) else none := go_cv1 (as := [.int i1, .int i0]) (rest := []) (L := [.ref r2, .int i1, .int i0]) ke_109_3 rfl rfl rfl
theorem ke_109_6 : alook 109 6 = some (6, .istore_n 2, 1, (0, 0, 0, 0, 0), ⟨"", "", ""⟩, "") := rfl
theorem ee_109_6 {d : Nat} {h : aH} {l0 l1 l2 l3 l4 : Value} {x : Int32} {st : List Value} : go d 109 6 [l0, l1, l2, l3, l4] (.int x :: st) h = go d 109 7 [l0, l1, .int x, l3, l4] st h := go_plain (q := (7, [l0, l1, .int x, l3, l4], st, h)) ke_109_6 rfl
theorem ke_109_7 : alook 109 7 = some (7, .iconst 1, 1, (0, 0, 0, 0, 0), ⟨"", "", ""⟩, "") := rfl
theorem ee_109_7 {d : Nat} {h : aH} {ls st : List Value} : go d 109 7 ls st h = go d 109 8 ls (.int 1 :: st) h := go_plain (q := (8, ls, (.int 1 :: st), h)) ke_109_7 rfl
theorem ke_109_8 : alook 109 8 = some (8, .istore_n 3, 1, (0, 0, 0, 0, 0), ⟨"", "", ""⟩, "") := rfl
theorem ee_109_8 {d : Nat} {h : aH} {l0 l1 l2 l3 l4 : Value} {x : Int32} {st : List Value} : go d 109 8 [l0, l1, l2, l3, l4] (.int x :: st) h = go d 109 9 [l0, l1, l2, .int x, l4] st h := go_plain (q := (9, [l0, l1, l2, .int x, l4], st, h)) ke_109_8 rfl
theorem ke_109_9 : alook 109 9 = some (9, .iconst 0, 1, (0, 0, 0, 0, 0), ⟨"", "", ""⟩, "") := rfl
theorem ee_109_9 {d : Nat} {h : aH} {ls st : List Value} : go d 109 9 ls st h = go d 109 10 ls (.int 0 :: st) h := go_plain (q := (10, ls, (.int 0 :: st), h)) ke_109_9 rfl
theorem ke_109_10 : alook 109 10 = some (10, .istore 4, 2, (0, 0, 0, 0, 0), ⟨"", "", ""⟩, "") := rfl
theorem ee_109_10 {d : Nat} {h : aH} {l0 l1 l2 l3 l4 : Value} {x : Int32} {st : List Value} : go d 109 10 [l0, l1, l2, l3, l4] (.int x :: st) h = go d 109 12 [l0, l1, l2, l3, .int x] st h := go_plain (q := (12, [l0, l1, l2, l3, .int x], st, h)) ke_109_10 rfl
theorem ke_109_12 : alook 109 12 = some (12, .iload 4, 2, (0, 0, 0, 0, 0), ⟨"", "", ""⟩, "") := rfl
theorem ee_109_12 {d : Nat} {h : aH} {l0 l1 l2 l3 : Value} {x : Int32} {st : List Value} : go d 109 12 [l0, l1, l2, l3, .int x] st h = go d 109 14 [l0, l1, l2, l3, .int x] (.int x :: st) h := go_plain (q := (14, [l0, l1, l2, l3, .int x], (.int x :: st), h)) ke_109_12 rfl
theorem ke_109_14 : alook 109 14 = some (14, .iload_n 2, 1, (0, 0, 0, 0, 0), ⟨"", "", ""⟩, "") := rfl
theorem ee_109_14 {d : Nat} {h : aH} {l0 l1 l3 l4 : Value} {x : Int32} {st : List Value} : go d 109 14 [l0, l1, .int x, l3, l4] st h = go d 109 15 [l0, l1, .int x, l3, l4] (.int x :: st) h := go_plain (q := (15, [l0, l1, .int x, l3, l4], (.int x :: st), h)) ke_109_14 rfl
theorem ke_109_15 : alook 109 15 = some (15, .if_icmp .ge 42, 3, (57, 0, 0, 0, 0), ⟨"", "", ""⟩, "") := rfl
theorem ee_109_15 {d : Nat} {ls st : List Value} {h : aH} {x y : Int32} : go d 109 15 ls (.int y :: .int x :: st) h = if y ≤ x then go d 109 57 ls st h else go d 109 18 ls st h := go_ci (go_if2 (tg := 57) (q := 18) (f := fun x y => decide (y ≤ x)) ke_109_15 rfl)
theorem ke_109_18 : alook 109 18 = some (18, .iload_n 3, 1, (0, 0, 0, 0, 0), ⟨"", "", ""⟩, "") := rfl
theorem ee_109_18 {d : Nat} {h : aH} {l0 l1 l2 l4 : Value} {x : Int32} {st : List Value} : go d 109 18 [l0, l1, l2, .int x, l4] st h = go d 109 19 [l0, l1, l2, .int x, l4] (.int x :: st) h := go_plain (q := (19, [l0, l1, l2, .int x, l4], (.int x :: st), h)) ke_109_18 rfl
theorem ke_109_19 : alook 109 19 = some (19, .ifCond .eq 30, 3, (49, 0, 0, 0, 0), ⟨"", "", ""⟩, "") := rfl
theorem ee_109_19 {d : Nat} {ls st : List Value} {h : aH} {x : Int32} : go d 109 19 ls (.int x :: st) h = if x = 0 then go d 109 49 ls st h else go d 109 22 ls st h := go_c1 (go_if1 (tg := 49) (q := 22) (f := fun x => decide (x = 0)) ke_109_19 rfl)
theorem ke_109_22 : alook 109 22 = some (22, .aload_n 0, 1, (0, 0, 0, 0, 0), ⟨"", "", ""⟩, "") := rfl
theorem ee_109_22 {d : Nat} {h : aH} {l1 l2 l3 l4 : Value} {x : Nat} {st : List Value} : go d 109 22 [.ref x, l1, l2, l3, l4] st h = go d 109 23 [.ref x, l1, l2, l3, l4] (.ref x :: st) h := go_plain (q := (23, [.ref x, l1, l2, l3, l4], (.ref x :: st), h)) ke_109_22 rfl
theorem ee_109_22N {d : Nat} {h : aH} {l1 l2 l3 l4 : Value} {st : List Value} : go d 109 22 [.null, l1, l2, l3, l4] st h = go d 109 23 [.null, l1, l2, l3, l4] (.null :: st) h := go_plain (q := (23, [.null, l1, l2, l3, l4], (.null :: st), h)) ke_109_22 rfl
theorem ke_109_23 : alook 109 23 = some (23, .iconst 0, 1, (0, 0, 0, 0, 0), ⟨"", "", ""⟩, "") := rfl
theorem ee_109_23 {d : Nat} {h : aH} {ls st : List Value} : go d 109 23 ls st h = go d 109 24 ls (.int 0 :: st) h := go_plain (q := (24, ls, (.int 0 :: st), h)) ke_109_23 rfl
theorem ke_109_24 : alook 109 24 = some (24, .iload_n 1, 1, (0, 0, 0, 0, 0), ⟨"", "", ""⟩, "") := rfl
theorem ee_109_24 {d : Nat} {h : aH} {l0 l2 l3 l4 : Value} {x : Int32} {st : List Value} : go d 109 24 [l0, .int x, l2, l3, l4] st h = go d 109 25 [l0, .int x, l2, l3, l4] (.int x :: st) h := go_plain (q := (25, [l0, .int x, l2, l3, l4], (.int x :: st), h)) ke_109_24 rfl
theorem ke_109_25 : alook 109 25 = some (25, .iload 4, 2, (0, 0, 0, 0, 0), ⟨"", "", ""⟩, "") := rfl
theorem ee_109_25 {d : Nat} {h : aH} {l0 l1 l2 l3 : Value} {x : Int32} {st : List Value} : go d 109 25 [l0, l1, l2, l3, .int x] st h = go d 109 27 [l0, l1, l2, l3, .int x] (.int x :: st) h := go_plain (q := (27, [l0, l1, l2, l3, .int x], (.int x :: st), h)) ke_109_25 rfl
theorem ke_109_27 : alook 109 27 = some (27, .invokevirtual 62, 3, (3, 8, 72, 8, 72), ⟨"WordHidesModel", "letterOf", "(III)I"⟩, "") := rfl
theorem ee_109_27 {d : Nat} {ls : List Value} {h : aH} {i0 : Int32} {i1 : Int32} {i2 : Int32} {r3 : Nat} : go (d + 1) 109 27 ls [.int i0, .int i1, .int i2, .ref r3] h = if isC h r3 8 = true then (go d 72 0 [.ref r3, .int i2, .int i1, .int i0] [] h).bind (fun q => go (d + 1) 109 30 ls (q.1.toList ++ []) q.2) else none := go_cv1 (as := [.int i2, .int i1, .int i0]) (rest := []) (L := [.ref r3, .int i2, .int i1, .int i0]) ke_109_27 rfl rfl rfl
theorem ke_109_30 : alook 109 30 = some (30, .aload_n 0, 1, (0, 0, 0, 0, 0), ⟨"", "", ""⟩, "") := rfl
theorem ee_109_30 {d : Nat} {h : aH} {l1 l2 l3 l4 : Value} {x : Nat} {st : List Value} : go d 109 30 [.ref x, l1, l2, l3, l4] st h = go d 109 31 [.ref x, l1, l2, l3, l4] (.ref x :: st) h := go_plain (q := (31, [.ref x, l1, l2, l3, l4], (.ref x :: st), h)) ke_109_30 rfl
theorem ee_109_30N {d : Nat} {h : aH} {l1 l2 l3 l4 : Value} {st : List Value} : go d 109 30 [.null, l1, l2, l3, l4] st h = go d 109 31 [.null, l1, l2, l3, l4] (.null :: st) h := go_plain (q := (31, [.null, l1, l2, l3, l4], (.null :: st), h)) ke_109_30 rfl
theorem ke_109_31 : alook 109 31 = some (31, .iconst 0, 1, (0, 0, 0, 0, 0), ⟨"", "", ""⟩, "") := rfl
theorem ee_109_31 {d : Nat} {h : aH} {ls st : List Value} : go d 109 31 ls st h = go d 109 32 ls (.int 0 :: st) h := go_plain (q := (32, ls, (.int 0 :: st), h)) ke_109_31 rfl
theorem ke_109_32 : alook 109 32 = some (32, .iload_n 1, 1, (0, 0, 0, 0, 0), ⟨"", "", ""⟩, "") := rfl
theorem ee_109_32 {d : Nat} {h : aH} {l0 l2 l3 l4 : Value} {x : Int32} {st : List Value} : go d 109 32 [l0, .int x, l2, l3, l4] st h = go d 109 33 [l0, .int x, l2, l3, l4] (.int x :: st) h := go_plain (q := (33, [l0, .int x, l2, l3, l4], (.int x :: st), h)) ke_109_32 rfl
theorem ke_109_33 : alook 109 33 = some (33, .iload_n 2, 1, (0, 0, 0, 0, 0), ⟨"", "", ""⟩, "") := rfl
theorem ee_109_33 {d : Nat} {h : aH} {l0 l1 l3 l4 : Value} {x : Int32} {st : List Value} : go d 109 33 [l0, l1, .int x, l3, l4] st h = go d 109 34 [l0, l1, .int x, l3, l4] (.int x :: st) h := go_plain (q := (34, [l0, l1, .int x, l3, l4], (.int x :: st), h)) ke_109_33 rfl
theorem ke_109_34 : alook 109 34 = some (34, .iconst 1, 1, (0, 0, 0, 0, 0), ⟨"", "", ""⟩, "") := rfl
theorem ee_109_34 {d : Nat} {h : aH} {ls st : List Value} : go d 109 34 ls st h = go d 109 35 ls (.int 1 :: st) h := go_plain (q := (35, ls, (.int 1 :: st), h)) ke_109_34 rfl
theorem ke_109_35 : alook 109 35 = some (35, .isub, 1, (0, 0, 0, 0, 0), ⟨"", "", ""⟩, "") := rfl
theorem ee_109_35 {d : Nat} {h : aH} {ls st : List Value} {x y : Int32} : go d 109 35 ls (.int y :: .int x :: st) h = go d 109 36 ls (.int (x - y) :: st) h := go_plain (q := (36, ls, (.int (x - y) :: st), h)) ke_109_35 rfl
theorem ke_109_36 : alook 109 36 = some (36, .iload 4, 2, (0, 0, 0, 0, 0), ⟨"", "", ""⟩, "") := rfl
theorem ee_109_36 {d : Nat} {h : aH} {l0 l1 l2 l3 : Value} {x : Int32} {st : List Value} : go d 109 36 [l0, l1, l2, l3, .int x] st h = go d 109 38 [l0, l1, l2, l3, .int x] (.int x :: st) h := go_plain (q := (38, [l0, l1, l2, l3, .int x], (.int x :: st), h)) ke_109_36 rfl
theorem ke_109_38 : alook 109 38 = some (38, .isub, 1, (0, 0, 0, 0, 0), ⟨"", "", ""⟩, "") := rfl
theorem ee_109_38 {d : Nat} {h : aH} {ls st : List Value} {x y : Int32} : go d 109 38 ls (.int y :: .int x :: st) h = go d 109 39 ls (.int (x - y) :: st) h := go_plain (q := (39, ls, (.int (x - y) :: st), h)) ke_109_38 rfl
theorem ke_109_39 : alook 109 39 = some (39, .invokevirtual 62, 3, (3, 8, 72, 8, 72), ⟨"WordHidesModel", "letterOf", "(III)I"⟩, "") := rfl
theorem ee_109_39 {d : Nat} {ls : List Value} {h : aH} {i0 : Int32} {i1 : Int32} {i2 : Int32} {r3 : Nat} {i4 : Int32} : go (d + 1) 109 39 ls [.int i0, .int i1, .int i2, .ref r3, .int i4] h = if isC h r3 8 = true then (go d 72 0 [.ref r3, .int i2, .int i1, .int i0] [] h).bind (fun q => go (d + 1) 109 42 ls (q.1.toList ++ [.int i4]) q.2) else none := go_cv1 (as := [.int i2, .int i1, .int i0]) (rest := [.int i4]) (L := [.ref r3, .int i2, .int i1, .int i0]) ke_109_39 rfl rfl rfl
theorem ke_109_42 : alook 109 42 = some (42, .if_icmp .ne 7, 3, (49, 0, 0, 0, 0), ⟨"", "", ""⟩, "") := rfl
theorem ee_109_42 {d : Nat} {ls st : List Value} {h : aH} {x y : Int32} : go d 109 42 ls (.int y :: .int x :: st) h = if ¬ x = y then go d 109 49 ls st h else go d 109 45 ls st h := go_ci (go_if2 (tg := 49) (q := 45) (f := fun x y => decide (¬ x = y)) ke_109_42 rfl)
theorem ke_109_45 : alook 109 45 = some (45, .iconst 1, 1, (0, 0, 0, 0, 0), ⟨"", "", ""⟩, "") := rfl
theorem ee_109_45 {d : Nat} {h : aH} {ls st : List Value} : go d 109 45 ls st h = go d 109 46 ls (.int 1 :: st) h := go_plain (q := (46, ls, (.int 1 :: st), h)) ke_109_45 rfl
theorem ke_109_46 : alook 109 46 = some (46, .goto 4, 3, (50, 0, 0, 0, 0), ⟨"", "", ""⟩, "") := rfl
theorem ee_109_46 {d : Nat} {h : aH} {ls st : List Value} : go d 109 46 ls st h = go d 109 50 ls st h := go_plain (q := (50, ls, st, h)) ke_109_46 rfl
theorem ke_109_49 : alook 109 49 = some (49, .iconst 0, 1, (0, 0, 0, 0, 0), ⟨"", "", ""⟩, "") := rfl
theorem ee_109_49 {d : Nat} {h : aH} {ls st : List Value} : go d 109 49 ls st h = go d 109 50 ls (.int 0 :: st) h := go_plain (q := (50, ls, (.int 0 :: st), h)) ke_109_49 rfl
theorem ke_109_50 : alook 109 50 = some (50, .istore_n 3, 1, (0, 0, 0, 0, 0), ⟨"", "", ""⟩, "") := rfl
theorem ee_109_50 {d : Nat} {h : aH} {l0 l1 l2 l3 l4 : Value} {x : Int32} {st : List Value} : go d 109 50 [l0, l1, l2, l3, l4] (.int x :: st) h = go d 109 51 [l0, l1, l2, .int x, l4] st h := go_plain (q := (51, [l0, l1, l2, .int x, l4], st, h)) ke_109_50 rfl
theorem ke_109_51 : alook 109 51 = some (51, .iinc 4 1, 3, (0, 0, 0, 0, 0), ⟨"", "", ""⟩, "") := rfl
theorem ee_109_51 {d : Nat} {h : aH} {l0 l1 l2 l3 : Value} {x : Int32} {st : List Value} : go d 109 51 [l0, l1, l2, l3, .int x] st h = go d 109 54 [l0, l1, l2, l3, .int (x + 1)] st h := go_plain (q := (54, [l0, l1, l2, l3, .int (x + 1)], st, h)) ke_109_51 rfl
theorem ke_109_54 : alook 109 54 = some (54, .goto (-42), 3, (12, 0, 0, 0, 0), ⟨"", "", ""⟩, "") := rfl
theorem ee_109_54 {d : Nat} {h : aH} {ls st : List Value} : go d 109 54 ls st h = go d 109 12 ls st h := go_plain (q := (12, ls, st, h)) ke_109_54 rfl
theorem ke_109_57 : alook 109 57 = some (57, .iload_n 3, 1, (0, 0, 0, 0, 0), ⟨"", "", ""⟩, "") := rfl
theorem ee_109_57 {d : Nat} {h : aH} {l0 l1 l2 l4 : Value} {x : Int32} {st : List Value} : go d 109 57 [l0, l1, l2, .int x, l4] st h = go d 109 58 [l0, l1, l2, .int x, l4] (.int x :: st) h := go_plain (q := (58, [l0, l1, l2, .int x, l4], (.int x :: st), h)) ke_109_57 rfl
theorem ke_109_58 : alook 109 58 = some (58, .ireturn, 1, (1, 0, 0, 0, 0), ⟨"", "", ""⟩, "") := rfl
theorem ee_109_58 {d : Nat} {ls : List Value} {h : aH} : go d 109 58 ls [.int 0] h = some (some (.int 0), h) := go_zret0 ke_109_58
theorem ee_109_58T {d : Nat} {ls : List Value} {h : aH} : go d 109 58 ls [.int 1] h = some (some (.int 1), h) := go_zret1 ke_109_58
theorem ke_110_0 : alook 110 0 = some (0, .aload_n 0, 1, (0, 0, 0, 0, 0), ⟨"", "", ""⟩, "") := rfl
theorem ee_110_0 {d : Nat} {h : aH} {l1 : Value} {x : Nat} {st : List Value} : go d 110 0 [.ref x, l1] st h = go d 110 1 [.ref x, l1] (.ref x :: st) h := go_plain (q := (1, [.ref x, l1], (.ref x :: st), h)) ke_110_0 rfl
theorem ee_110_0N {d : Nat} {h : aH} {l1 : Value} {st : List Value} : go d 110 0 [.null, l1] st h = go d 110 1 [.null, l1] (.null :: st) h := go_plain (q := (1, [.null, l1], (.null :: st), h)) ke_110_0 rfl
theorem ke_110_1 : alook 110 1 = some (1, .invokevirtual 153, 3, (0, 8, 108, 8, 108), ⟨"WordHidesModel", "fillRest", "()I"⟩, "") := rfl
theorem ee_110_1 {d : Nat} {ls : List Value} {h : aH} {r0 : Nat} : go (d + 1) 110 1 ls [.ref r0] h = if isC h r0 8 = true then (go d 108 0 [.ref r0, aU, aU, aU] [] h).bind (fun q => go (d + 1) 110 4 ls (q.1.toList ++ []) q.2) else none := go_cv1 (as := []) (rest := []) (L := [.ref r0, aU, aU, aU]) ke_110_1 rfl rfl rfl
theorem ke_110_4 : alook 110 4 = some (4, .pop, 1, (0, 0, 0, 0, 0), ⟨"", "", ""⟩, "") := rfl
theorem ee_110_4 {d : Nat} {h : aH} {ls st : List Value} {x : Int32} : go d 110 4 ls (.int x :: st) h = go d 110 5 ls st h := go_plain (q := (5, ls, st, h)) ke_110_4 rfl
theorem ke_110_5 : alook 110 5 = some (5, .iconst 0, 1, (0, 0, 0, 0, 0), ⟨"", "", ""⟩, "") := rfl
theorem ee_110_5 {d : Nat} {h : aH} {ls st : List Value} : go d 110 5 ls st h = go d 110 6 ls (.int 0 :: st) h := go_plain (q := (6, ls, (.int 0 :: st), h)) ke_110_5 rfl
theorem ke_110_6 : alook 110 6 = some (6, .istore_n 1, 1, (0, 0, 0, 0, 0), ⟨"", "", ""⟩, "") := rfl
theorem ee_110_6 {d : Nat} {h : aH} {l0 l1 : Value} {x : Int32} {st : List Value} : go d 110 6 [l0, l1] (.int x :: st) h = go d 110 7 [l0, .int x] st h := go_plain (q := (7, [l0, .int x], st, h)) ke_110_6 rfl
theorem ke_110_7 : alook 110 7 = some (7, .iload_n 1, 1, (0, 0, 0, 0, 0), ⟨"", "", ""⟩, "") := rfl
theorem ee_110_7 {d : Nat} {h : aH} {l0 : Value} {x : Int32} {st : List Value} : go d 110 7 [l0, .int x] st h = go d 110 8 [l0, .int x] (.int x :: st) h := go_plain (q := (8, [l0, .int x], (.int x :: st), h)) ke_110_7 rfl
theorem ke_110_8 : alook 110 8 = some (8, .aload_n 0, 1, (0, 0, 0, 0, 0), ⟨"", "", ""⟩, "") := rfl
theorem ee_110_8 {d : Nat} {h : aH} {l1 : Value} {x : Nat} {st : List Value} : go d 110 8 [.ref x, l1] st h = go d 110 9 [.ref x, l1] (.ref x :: st) h := go_plain (q := (9, [.ref x, l1], (.ref x :: st), h)) ke_110_8 rfl
theorem ee_110_8N {d : Nat} {h : aH} {l1 : Value} {st : List Value} : go d 110 8 [.null, l1] st h = go d 110 9 [.null, l1] (.null :: st) h := go_plain (q := (9, [.null, l1], (.null :: st), h)) ke_110_8 rfl
theorem ke_110_9 : alook 110 9 = some (9, .getfield 7, 3, (0, 8, 8, 2, 0), ⟨"", "", ""⟩, "WordHidesModel") := rfl
theorem ee_110_9 {d : Nat} {ls st : List Value} {h : aH} {r : Nat} : go d 110 9 ls (.ref r :: st) h = (gf h r 0 8 8).bind fun z => go d 110 12 ls (z :: st) h := go_getf ke_110_9
theorem ke_110_12 : alook 110 12 = some (12, .bipush 28, 2, (0, 0, 0, 0, 0), ⟨"", "", ""⟩, "") := rfl
theorem ee_110_12 {d : Nat} {h : aH} {ls st : List Value} : go d 110 12 ls st h = go d 110 14 ls (.int 28 :: st) h := go_plain (q := (14, ls, (.int 28 :: st), h)) ke_110_12 rfl
theorem ke_110_14 : alook 110 14 = some (14, .iaload, 1, (0, 0, 0, 0, 0), ⟨"", "", ""⟩, "") := rfl
theorem ee_110_14 {d : Nat} {ls st : List Value} {h : aH} {r : Nat} {i : Int32} : go d 110 14 ls (.int i :: .ref r :: st) h = (ia h r i).bind fun z => go d 110 15 ls (.int z :: st) h := go_iald ke_110_14
theorem ke_110_15 : alook 110 15 = some (15, .if_icmp .ge 22, 3, (37, 0, 0, 0, 0), ⟨"", "", ""⟩, "") := rfl
theorem ee_110_15 {d : Nat} {ls st : List Value} {h : aH} {x y : Int32} : go d 110 15 ls (.int y :: .int x :: st) h = if y ≤ x then go d 110 37 ls st h else go d 110 18 ls st h := go_ci (go_if2 (tg := 37) (q := 18) (f := fun x y => decide (y ≤ x)) ke_110_15 rfl)
theorem ke_110_18 : alook 110 18 = some (18, .aload_n 0, 1, (0, 0, 0, 0, 0), ⟨"", "", ""⟩, "") := rfl
theorem ee_110_18 {d : Nat} {h : aH} {l1 : Value} {x : Nat} {st : List Value} : go d 110 18 [.ref x, l1] st h = go d 110 19 [.ref x, l1] (.ref x :: st) h := go_plain (q := (19, [.ref x, l1], (.ref x :: st), h)) ke_110_18 rfl
theorem ee_110_18N {d : Nat} {h : aH} {l1 : Value} {st : List Value} : go d 110 18 [.null, l1] st h = go d 110 19 [.null, l1] (.null :: st) h := go_plain (q := (19, [.null, l1], (.null :: st), h)) ke_110_18 rfl
theorem ke_110_19 : alook 110 19 = some (19, .bipush 64, 2, (0, 0, 0, 0, 0), ⟨"", "", ""⟩, "") := rfl
theorem ee_110_19 {d : Nat} {h : aH} {ls st : List Value} : go d 110 19 ls st h = go d 110 21 ls (.int 64 :: st) h := go_plain (q := (21, ls, (.int 64 :: st), h)) ke_110_19 rfl
theorem ke_110_21 : alook 110 21 = some (21, .iconst 1, 1, (0, 0, 0, 0, 0), ⟨"", "", ""⟩, "") := rfl
theorem ee_110_21 {d : Nat} {h : aH} {ls st : List Value} : go d 110 21 ls st h = go d 110 22 ls (.int 1 :: st) h := go_plain (q := (22, ls, (.int 1 :: st), h)) ke_110_21 rfl
theorem ke_110_22 : alook 110 22 = some (22, .iload_n 1, 1, (0, 0, 0, 0, 0), ⟨"", "", ""⟩, "") := rfl
theorem ee_110_22 {d : Nat} {h : aH} {l0 : Value} {x : Int32} {st : List Value} : go d 110 22 [l0, .int x] st h = go d 110 23 [l0, .int x] (.int x :: st) h := go_plain (q := (23, [l0, .int x], (.int x :: st), h)) ke_110_22 rfl
theorem ke_110_23 : alook 110 23 = some (23, .invokevirtual 156, 3, (3, 8, 93, 8, 93), ⟨"WordHidesModel", "timesIn", "(III)I"⟩, "") := rfl
theorem ee_110_23 {d : Nat} {ls : List Value} {h : aH} {i0 : Int32} {i1 : Int32} {i2 : Int32} {r3 : Nat} : go (d + 1) 110 23 ls [.int i0, .int i1, .int i2, .ref r3] h = if isC h r3 8 = true then (go d 93 0 [.ref r3, .int i2, .int i1, .int i0, aU, aU] [] h).bind (fun q => go (d + 1) 110 26 ls (q.1.toList ++ []) q.2) else none := go_cv1 (as := [.int i2, .int i1, .int i0]) (rest := []) (L := [.ref r3, .int i2, .int i1, .int i0, aU, aU]) ke_110_23 rfl rfl rfl
theorem ke_110_26 : alook 110 26 = some (26, .ifCond .le 5, 3, (31, 0, 0, 0, 0), ⟨"", "", ""⟩, "") := rfl
theorem ee_110_26 {d : Nat} {ls st : List Value} {h : aH} {x : Int32} : go d 110 26 ls (.int x :: st) h = if x ≤ 0 then go d 110 31 ls st h else go d 110 29 ls st h := go_c1 (go_if1 (tg := 31) (q := 29) (f := fun x => decide (x ≤ 0)) ke_110_26 rfl)
theorem ke_110_29 : alook 110 29 = some (29, .iconst 0, 1, (0, 0, 0, 0, 0), ⟨"", "", ""⟩, "") := rfl
theorem ee_110_29 {d : Nat} {h : aH} {ls st : List Value} : go d 110 29 ls st h = go d 110 30 ls (.int 0 :: st) h := go_plain (q := (30, ls, (.int 0 :: st), h)) ke_110_29 rfl
theorem ke_110_30 : alook 110 30 = some (30, .ireturn, 1, (1, 0, 0, 0, 0), ⟨"", "", ""⟩, "") := rfl
theorem ee_110_30 {d : Nat} {ls : List Value} {h : aH} : go d 110 30 ls [.int 0] h = some (some (.int 0), h) := go_zret0 ke_110_30
theorem ee_110_30T {d : Nat} {ls : List Value} {h : aH} : go d 110 30 ls [.int 1] h = some (some (.int 1), h) := go_zret1 ke_110_30
theorem ke_110_31 : alook 110 31 = some (31, .iinc 1 1, 3, (0, 0, 0, 0, 0), ⟨"", "", ""⟩, "") := rfl
theorem ee_110_31 {d : Nat} {h : aH} {l0 : Value} {x : Int32} {st : List Value} : go d 110 31 [l0, .int x] st h = go d 110 34 [l0, .int (x + 1)] st h := go_plain (q := (34, [l0, .int (x + 1)], st, h)) ke_110_31 rfl
theorem ke_110_34 : alook 110 34 = some (34, .goto (-27), 3, (7, 0, 0, 0, 0), ⟨"", "", ""⟩, "") := rfl
theorem ee_110_34 {d : Nat} {h : aH} {ls st : List Value} : go d 110 34 ls st h = go d 110 7 ls st h := go_plain (q := (7, ls, st, h)) ke_110_34 rfl
theorem ke_110_37 : alook 110 37 = some (37, .iconst 0, 1, (0, 0, 0, 0, 0), ⟨"", "", ""⟩, "") := rfl
theorem ee_110_37 {d : Nat} {h : aH} {ls st : List Value} : go d 110 37 ls st h = go d 110 38 ls (.int 0 :: st) h := go_plain (q := (38, ls, (.int 0 :: st), h)) ke_110_37 rfl
theorem ke_110_38 : alook 110 38 = some (38, .istore_n 1, 1, (0, 0, 0, 0, 0), ⟨"", "", ""⟩, "") := rfl
theorem ee_110_38 {d : Nat} {h : aH} {l0 l1 : Value} {x : Int32} {st : List Value} : go d 110 38 [l0, l1] (.int x :: st) h = go d 110 39 [l0, .int x] st h := go_plain (q := (39, [l0, .int x], st, h)) ke_110_38 rfl
theorem ke_110_39 : alook 110 39 = some (39, .iload_n 1, 1, (0, 0, 0, 0, 0), ⟨"", "", ""⟩, "") := rfl
theorem ee_110_39 {d : Nat} {h : aH} {l0 : Value} {x : Int32} {st : List Value} : go d 110 39 [l0, .int x] st h = go d 110 40 [l0, .int x] (.int x :: st) h := go_plain (q := (40, [l0, .int x], (.int x :: st), h)) ke_110_39 rfl
theorem ke_110_40 : alook 110 40 = some (40, .aload_n 0, 1, (0, 0, 0, 0, 0), ⟨"", "", ""⟩, "") := rfl
theorem ee_110_40 {d : Nat} {h : aH} {l1 : Value} {x : Nat} {st : List Value} : go d 110 40 [.ref x, l1] st h = go d 110 41 [.ref x, l1] (.ref x :: st) h := go_plain (q := (41, [.ref x, l1], (.ref x :: st), h)) ke_110_40 rfl
theorem ee_110_40N {d : Nat} {h : aH} {l1 : Value} {st : List Value} : go d 110 40 [.null, l1] st h = go d 110 41 [.null, l1] (.null :: st) h := go_plain (q := (41, [.null, l1], (.null :: st), h)) ke_110_40 rfl
theorem ke_110_41 : alook 110 41 = some (41, .getfield 7, 3, (0, 8, 8, 2, 0), ⟨"", "", ""⟩, "WordHidesModel") := rfl
theorem ee_110_41 {d : Nat} {ls st : List Value} {h : aH} {r : Nat} : go d 110 41 ls (.ref r :: st) h = (gf h r 0 8 8).bind fun z => go d 110 44 ls (z :: st) h := go_getf ke_110_41
theorem ke_110_44 : alook 110 44 = some (44, .bipush 27, 2, (0, 0, 0, 0, 0), ⟨"", "", ""⟩, "") := rfl
theorem ee_110_44 {d : Nat} {h : aH} {ls st : List Value} : go d 110 44 ls st h = go d 110 46 ls (.int 27 :: st) h := go_plain (q := (46, ls, (.int 27 :: st), h)) ke_110_44 rfl
theorem ke_110_46 : alook 110 46 = some (46, .iaload, 1, (0, 0, 0, 0, 0), ⟨"", "", ""⟩, "") := rfl
theorem ee_110_46 {d : Nat} {ls st : List Value} {h : aH} {r : Nat} {i : Int32} : go d 110 46 ls (.int i :: .ref r :: st) h = (ia h r i).bind fun z => go d 110 47 ls (.int z :: st) h := go_iald ke_110_46
theorem ke_110_47 : alook 110 47 = some (47, .if_icmp .ge 35, 3, (82, 0, 0, 0, 0), ⟨"", "", ""⟩, "") := rfl
theorem ee_110_47 {d : Nat} {ls st : List Value} {h : aH} {x y : Int32} : go d 110 47 ls (.int y :: .int x :: st) h = if y ≤ x then go d 110 82 ls st h else go d 110 50 ls st h := go_ci (go_if2 (tg := 82) (q := 50) (f := fun x y => decide (y ≤ x)) ke_110_47 rfl)
theorem ke_110_50 : alook 110 50 = some (50, .aload_n 0, 1, (0, 0, 0, 0, 0), ⟨"", "", ""⟩, "") := rfl
theorem ee_110_50 {d : Nat} {h : aH} {l1 : Value} {x : Nat} {st : List Value} : go d 110 50 [.ref x, l1] st h = go d 110 51 [.ref x, l1] (.ref x :: st) h := go_plain (q := (51, [.ref x, l1], (.ref x :: st), h)) ke_110_50 rfl
theorem ee_110_50N {d : Nat} {h : aH} {l1 : Value} {st : List Value} : go d 110 50 [.null, l1] st h = go d 110 51 [.null, l1] (.null :: st) h := go_plain (q := (51, [.null, l1], (.null :: st), h)) ke_110_50 rfl
theorem ke_110_51 : alook 110 51 = some (51, .bipush 64, 2, (0, 0, 0, 0, 0), ⟨"", "", ""⟩, "") := rfl
theorem ee_110_51 {d : Nat} {h : aH} {ls st : List Value} : go d 110 51 ls st h = go d 110 53 ls (.int 64 :: st) h := go_plain (q := (53, ls, (.int 64 :: st), h)) ke_110_51 rfl
theorem ke_110_53 : alook 110 53 = some (53, .iconst 0, 1, (0, 0, 0, 0, 0), ⟨"", "", ""⟩, "") := rfl
theorem ee_110_53 {d : Nat} {h : aH} {ls st : List Value} : go d 110 53 ls st h = go d 110 54 ls (.int 0 :: st) h := go_plain (q := (54, ls, (.int 0 :: st), h)) ke_110_53 rfl
theorem ke_110_54 : alook 110 54 = some (54, .iload_n 1, 1, (0, 0, 0, 0, 0), ⟨"", "", ""⟩, "") := rfl
theorem ee_110_54 {d : Nat} {h : aH} {l0 : Value} {x : Int32} {st : List Value} : go d 110 54 [l0, .int x] st h = go d 110 55 [l0, .int x] (.int x :: st) h := go_plain (q := (55, [l0, .int x], (.int x :: st), h)) ke_110_54 rfl
theorem ke_110_55 : alook 110 55 = some (55, .invokevirtual 156, 3, (3, 8, 93, 8, 93), ⟨"WordHidesModel", "timesIn", "(III)I"⟩, "") := rfl
theorem ee_110_55 {d : Nat} {ls : List Value} {h : aH} {i0 : Int32} {i1 : Int32} {i2 : Int32} {r3 : Nat} : go (d + 1) 110 55 ls [.int i0, .int i1, .int i2, .ref r3] h = if isC h r3 8 = true then (go d 93 0 [.ref r3, .int i2, .int i1, .int i0, aU, aU] [] h).bind (fun q => go (d + 1) 110 58 ls (q.1.toList ++ []) q.2) else none := go_cv1 (as := [.int i2, .int i1, .int i0]) (rest := []) (L := [.ref r3, .int i2, .int i1, .int i0, aU, aU]) ke_110_55 rfl rfl rfl
theorem ke_110_58 : alook 110 58 = some (58, .aload_n 0, 1, (0, 0, 0, 0, 0), ⟨"", "", ""⟩, "") := rfl
theorem ee_110_58 {d : Nat} {h : aH} {l1 : Value} {x : Nat} {st : List Value} : go d 110 58 [.ref x, l1] st h = go d 110 59 [.ref x, l1] (.ref x :: st) h := go_plain (q := (59, [.ref x, l1], (.ref x :: st), h)) ke_110_58 rfl
theorem ee_110_58N {d : Nat} {h : aH} {l1 : Value} {st : List Value} : go d 110 58 [.null, l1] st h = go d 110 59 [.null, l1] (.null :: st) h := go_plain (q := (59, [.null, l1], (.null :: st), h)) ke_110_58 rfl
theorem ke_110_59 : alook 110 59 = some (59, .iload_n 1, 1, (0, 0, 0, 0, 0), ⟨"", "", ""⟩, "") := rfl
theorem ee_110_59 {d : Nat} {h : aH} {l0 : Value} {x : Int32} {st : List Value} : go d 110 59 [l0, .int x] st h = go d 110 60 [l0, .int x] (.int x :: st) h := go_plain (q := (60, [l0, .int x], (.int x :: st), h)) ke_110_59 rfl
theorem ke_110_60 : alook 110 60 = some (60, .invokevirtual 159, 3, (1, 8, 109, 8, 109), ⟨"WordHidesModel", "isSame", "(I)Z"⟩, "") := rfl
theorem ee_110_60 {d : Nat} {ls : List Value} {h : aH} {i0 : Int32} {r1 : Nat} {i2 : Int32} : go (d + 1) 110 60 ls [.int i0, .ref r1, .int i2] h = if isC h r1 8 = true then (go d 109 0 [.ref r1, .int i0, aU, aU, aU] [] h).bind (fun q => go (d + 1) 110 63 ls (q.1.toList ++ [.int i2]) q.2) else none := go_cv1 (as := [.int i0]) (rest := [.int i2]) (L := [.ref r1, .int i0, aU, aU, aU]) ke_110_60 rfl rfl rfl
theorem ke_110_63 : alook 110 63 = some (63, .ifCond .eq 7, 3, (70, 0, 0, 0, 0), ⟨"", "", ""⟩, "") := rfl
theorem ee_110_63 {d : Nat} {ls st : List Value} {h : aH} {x : Int32} : go d 110 63 ls (.int x :: st) h = if x = 0 then go d 110 70 ls st h else go d 110 66 ls st h := go_c1 (go_if1 (tg := 70) (q := 66) (f := fun x => decide (x = 0)) ke_110_63 rfl)
theorem ke_110_66 : alook 110 66 = some (66, .iconst 2, 1, (0, 0, 0, 0, 0), ⟨"", "", ""⟩, "") := rfl
theorem ee_110_66 {d : Nat} {h : aH} {ls st : List Value} : go d 110 66 ls st h = go d 110 67 ls (.int 2 :: st) h := go_plain (q := (67, ls, (.int 2 :: st), h)) ke_110_66 rfl
theorem ke_110_67 : alook 110 67 = some (67, .goto 4, 3, (71, 0, 0, 0, 0), ⟨"", "", ""⟩, "") := rfl
theorem ee_110_67 {d : Nat} {h : aH} {ls st : List Value} : go d 110 67 ls st h = go d 110 71 ls st h := go_plain (q := (71, ls, st, h)) ke_110_67 rfl
theorem ke_110_70 : alook 110 70 = some (70, .iconst 1, 1, (0, 0, 0, 0, 0), ⟨"", "", ""⟩, "") := rfl
theorem ee_110_70 {d : Nat} {h : aH} {ls st : List Value} : go d 110 70 ls st h = go d 110 71 ls (.int 1 :: st) h := go_plain (q := (71, ls, (.int 1 :: st), h)) ke_110_70 rfl
theorem ke_110_71 : alook 110 71 = some (71, .if_icmp .eq 5, 3, (76, 0, 0, 0, 0), ⟨"", "", ""⟩, "") := rfl
theorem ee_110_71 {d : Nat} {ls st : List Value} {h : aH} {x y : Int32} : go d 110 71 ls (.int y :: .int x :: st) h = if x = y then go d 110 76 ls st h else go d 110 74 ls st h := go_ci (go_if2 (tg := 76) (q := 74) (f := fun x y => decide (x = y)) ke_110_71 rfl)
theorem ke_110_74 : alook 110 74 = some (74, .iconst 0, 1, (0, 0, 0, 0, 0), ⟨"", "", ""⟩, "") := rfl
theorem ee_110_74 {d : Nat} {h : aH} {ls st : List Value} : go d 110 74 ls st h = go d 110 75 ls (.int 0 :: st) h := go_plain (q := (75, ls, (.int 0 :: st), h)) ke_110_74 rfl
theorem ke_110_75 : alook 110 75 = some (75, .ireturn, 1, (1, 0, 0, 0, 0), ⟨"", "", ""⟩, "") := rfl
theorem ee_110_75 {d : Nat} {ls : List Value} {h : aH} : go d 110 75 ls [.int 0] h = some (some (.int 0), h) := go_zret0 ke_110_75
theorem ee_110_75T {d : Nat} {ls : List Value} {h : aH} : go d 110 75 ls [.int 1] h = some (some (.int 1), h) := go_zret1 ke_110_75
theorem ke_110_76 : alook 110 76 = some (76, .iinc 1 1, 3, (0, 0, 0, 0, 0), ⟨"", "", ""⟩, "") := rfl
theorem ee_110_76 {d : Nat} {h : aH} {l0 : Value} {x : Int32} {st : List Value} : go d 110 76 [l0, .int x] st h = go d 110 79 [l0, .int (x + 1)] st h := go_plain (q := (79, [l0, .int (x + 1)], st, h)) ke_110_76 rfl
theorem ke_110_79 : alook 110 79 = some (79, .goto (-40), 3, (39, 0, 0, 0, 0), ⟨"", "", ""⟩, "") := rfl
theorem ee_110_79 {d : Nat} {h : aH} {ls st : List Value} : go d 110 79 ls st h = go d 110 39 ls st h := go_plain (q := (39, ls, st, h)) ke_110_79 rfl
theorem ke_110_82 : alook 110 82 = some (82, .iconst 1, 1, (0, 0, 0, 0, 0), ⟨"", "", ""⟩, "") := rfl
theorem ee_110_82 {d : Nat} {h : aH} {ls st : List Value} : go d 110 82 ls st h = go d 110 83 ls (.int 1 :: st) h := go_plain (q := (83, ls, (.int 1 :: st), h)) ke_110_82 rfl
theorem ke_110_83 : alook 110 83 = some (83, .ireturn, 1, (1, 0, 0, 0, 0), ⟨"", "", ""⟩, "") := rfl
theorem ee_110_83 {d : Nat} {ls : List Value} {h : aH} : go d 110 83 ls [.int 0] h = some (some (.int 0), h) := go_zret0 ke_110_83
theorem ee_110_83T {d : Nat} {ls : List Value} {h : aH} : go d 110 83 ls [.int 1] h = some (some (.int 1), h) := go_zret1 ke_110_83
theorem ke_111_0 : alook 111 0 = some (0, .aload_n 0, 1, (0, 0, 0, 0, 0), ⟨"", "", ""⟩, "") := rfl
theorem ee_111_0 {d : Nat} {h : aH} {l1 : Value} {x : Nat} {st : List Value} : go d 111 0 [.ref x, l1] st h = go d 111 1 [.ref x, l1] (.ref x :: st) h := go_plain (q := (1, [.ref x, l1], (.ref x :: st), h)) ke_111_0 rfl
theorem ee_111_0N {d : Nat} {h : aH} {l1 : Value} {st : List Value} : go d 111 0 [.null, l1] st h = go d 111 1 [.null, l1] (.null :: st) h := go_plain (q := (1, [.null, l1], (.null :: st), h)) ke_111_0 rfl
theorem ke_111_1 : alook 111 1 = some (1, .invokevirtual 90, 3, (0, 8, 87, 8, 87), ⟨"WordHidesModel", "begin", "()V"⟩, "") := rfl
theorem ee_111_1 {d : Nat} {ls : List Value} {h : aH} {r0 : Nat} : go (d + 1) 111 1 ls [.ref r0] h = if isC h r0 8 = true then (go d 87 0 [.ref r0, aU] [] h).bind (fun q => go (d + 1) 111 4 ls (q.1.toList ++ []) q.2) else none := go_cv1 (as := []) (rest := []) (L := [.ref r0, aU]) ke_111_1 rfl rfl rfl
theorem ke_111_4 : alook 111 4 = some (4, .iconst 0, 1, (0, 0, 0, 0, 0), ⟨"", "", ""⟩, "") := rfl
theorem ee_111_4 {d : Nat} {h : aH} {ls st : List Value} : go d 111 4 ls st h = go d 111 5 ls (.int 0 :: st) h := go_plain (q := (5, ls, (.int 0 :: st), h)) ke_111_4 rfl
theorem ke_111_5 : alook 111 5 = some (5, .istore_n 1, 1, (0, 0, 0, 0, 0), ⟨"", "", ""⟩, "") := rfl
theorem ee_111_5 {d : Nat} {h : aH} {l0 l1 : Value} {x : Int32} {st : List Value} : go d 111 5 [l0, l1] (.int x :: st) h = go d 111 6 [l0, .int x] st h := go_plain (q := (6, [l0, .int x], st, h)) ke_111_5 rfl
theorem ke_111_6 : alook 111 6 = some (6, .iload_n 1, 1, (0, 0, 0, 0, 0), ⟨"", "", ""⟩, "") := rfl
theorem ee_111_6 {d : Nat} {h : aH} {l0 : Value} {x : Int32} {st : List Value} : go d 111 6 [l0, .int x] st h = go d 111 7 [l0, .int x] (.int x :: st) h := go_plain (q := (7, [l0, .int x], (.int x :: st), h)) ke_111_6 rfl
theorem ke_111_7 : alook 111 7 = some (7, .iconst 3, 1, (0, 0, 0, 0, 0), ⟨"", "", ""⟩, "") := rfl
theorem ee_111_7 {d : Nat} {h : aH} {ls st : List Value} : go d 111 7 ls st h = go d 111 8 ls (.int 3 :: st) h := go_plain (q := (8, ls, (.int 3 :: st), h)) ke_111_7 rfl
theorem ke_111_8 : alook 111 8 = some (8, .if_icmp .ge 21, 3, (29, 0, 0, 0, 0), ⟨"", "", ""⟩, "") := rfl
theorem ee_111_8 {d : Nat} {ls st : List Value} {h : aH} {x y : Int32} : go d 111 8 ls (.int y :: .int x :: st) h = if y ≤ x then go d 111 29 ls st h else go d 111 11 ls st h := go_ci (go_if2 (tg := 29) (q := 11) (f := fun x y => decide (y ≤ x)) ke_111_8 rfl)
theorem ke_111_11 : alook 111 11 = some (11, .aload_n 0, 1, (0, 0, 0, 0, 0), ⟨"", "", ""⟩, "") := rfl
theorem ee_111_11 {d : Nat} {h : aH} {l1 : Value} {x : Nat} {st : List Value} : go d 111 11 [.ref x, l1] st h = go d 111 12 [.ref x, l1] (.ref x :: st) h := go_plain (q := (12, [.ref x, l1], (.ref x :: st), h)) ke_111_11 rfl
theorem ee_111_11N {d : Nat} {h : aH} {l1 : Value} {st : List Value} : go d 111 11 [.null, l1] st h = go d 111 12 [.null, l1] (.null :: st) h := go_plain (q := (12, [.null, l1], (.null :: st), h)) ke_111_11 rfl
theorem ke_111_12 : alook 111 12 = some (12, .iload_n 1, 1, (0, 0, 0, 0, 0), ⟨"", "", ""⟩, "") := rfl
theorem ee_111_12 {d : Nat} {h : aH} {l0 : Value} {x : Int32} {st : List Value} : go d 111 12 [l0, .int x] st h = go d 111 13 [l0, .int x] (.int x :: st) h := go_plain (q := (13, [l0, .int x], (.int x :: st), h)) ke_111_12 rfl
theorem ke_111_13 : alook 111 13 = some (13, .aload_n 0, 1, (0, 0, 0, 0, 0), ⟨"", "", ""⟩, "") := rfl
theorem ee_111_13 {d : Nat} {h : aH} {l1 : Value} {x : Nat} {st : List Value} : go d 111 13 [.ref x, l1] st h = go d 111 14 [.ref x, l1] (.ref x :: st) h := go_plain (q := (14, [.ref x, l1], (.ref x :: st), h)) ke_111_13 rfl
theorem ee_111_13N {d : Nat} {h : aH} {l1 : Value} {st : List Value} : go d 111 13 [.null, l1] st h = go d 111 14 [.null, l1] (.null :: st) h := go_plain (q := (14, [.null, l1], (.null :: st), h)) ke_111_13 rfl
theorem ke_111_14 : alook 111 14 = some (14, .getfield 29, 3, (11, 8, 8, 2, 0), ⟨"", "", ""⟩, "WordHidesModel") := rfl
theorem ee_111_14 {d : Nat} {ls st : List Value} {h : aH} {r : Nat} : go d 111 14 ls (.ref r :: st) h = (gf h r 11 8 8).bind fun z => go d 111 17 ls (z :: st) h := go_getf ke_111_14
theorem ke_111_17 : alook 111 17 = some (17, .iload_n 1, 1, (0, 0, 0, 0, 0), ⟨"", "", ""⟩, "") := rfl
theorem ee_111_17 {d : Nat} {h : aH} {l0 : Value} {x : Int32} {st : List Value} : go d 111 17 [l0, .int x] st h = go d 111 18 [l0, .int x] (.int x :: st) h := go_plain (q := (18, [l0, .int x], (.int x :: st), h)) ke_111_17 rfl
theorem ke_111_18 : alook 111 18 = some (18, .iaload, 1, (0, 0, 0, 0, 0), ⟨"", "", ""⟩, "") := rfl
theorem ee_111_18 {d : Nat} {ls st : List Value} {h : aH} {r : Nat} {i : Int32} : go d 111 18 ls (.int i :: .ref r :: st) h = (ia h r i).bind fun z => go d 111 19 ls (.int z :: st) h := go_iald ke_111_18
theorem ke_111_19 : alook 111 19 = some (19, .invokevirtual 129, 3, (2, 8, 91, 8, 91), ⟨"WordHidesModel", "layStep", "(II)Z"⟩, "") := rfl
theorem ee_111_19 {d : Nat} {ls : List Value} {h : aH} {i0 : Int32} {i1 : Int32} {r2 : Nat} : go (d + 1) 111 19 ls [.int i0, .int i1, .ref r2] h = if isC h r2 8 = true then (go d 91 0 [.ref r2, .int i1, .int i0] [] h).bind (fun q => go (d + 1) 111 22 ls (q.1.toList ++ []) q.2) else none := go_cv1 (as := [.int i1, .int i0]) (rest := []) (L := [.ref r2, .int i1, .int i0]) ke_111_19 rfl rfl rfl
theorem ke_111_22 : alook 111 22 = some (22, .pop, 1, (0, 0, 0, 0, 0), ⟨"", "", ""⟩, "") := rfl
theorem ee_111_22 {d : Nat} {h : aH} {ls st : List Value} {x : Int32} : go d 111 22 ls (.int x :: st) h = go d 111 23 ls st h := go_plain (q := (23, ls, st, h)) ke_111_22 rfl
theorem ke_111_23 : alook 111 23 = some (23, .iinc 1 1, 3, (0, 0, 0, 0, 0), ⟨"", "", ""⟩, "") := rfl
theorem ee_111_23 {d : Nat} {h : aH} {l0 : Value} {x : Int32} {st : List Value} : go d 111 23 [l0, .int x] st h = go d 111 26 [l0, .int (x + 1)] st h := go_plain (q := (26, [l0, .int (x + 1)], st, h)) ke_111_23 rfl
theorem ke_111_26 : alook 111 26 = some (26, .goto (-20), 3, (6, 0, 0, 0, 0), ⟨"", "", ""⟩, "") := rfl
theorem ee_111_26 {d : Nat} {h : aH} {ls st : List Value} : go d 111 26 ls st h = go d 111 6 ls st h := go_plain (q := (6, ls, st, h)) ke_111_26 rfl
theorem ke_111_29 : alook 111 29 = some (29, .aload_n 0, 1, (0, 0, 0, 0, 0), ⟨"", "", ""⟩, "") := rfl
theorem ee_111_29 {d : Nat} {h : aH} {l1 : Value} {x : Nat} {st : List Value} : go d 111 29 [.ref x, l1] st h = go d 111 30 [.ref x, l1] (.ref x :: st) h := go_plain (q := (30, [.ref x, l1], (.ref x :: st), h)) ke_111_29 rfl
theorem ee_111_29N {d : Nat} {h : aH} {l1 : Value} {st : List Value} : go d 111 29 [.null, l1] st h = go d 111 30 [.null, l1] (.null :: st) h := go_plain (q := (30, [.null, l1], (.null :: st), h)) ke_111_29 rfl
theorem ke_111_30 : alook 111 30 = some (30, .invokevirtual 153, 3, (0, 8, 108, 8, 108), ⟨"WordHidesModel", "fillRest", "()I"⟩, "") := rfl
theorem ee_111_30 {d : Nat} {ls : List Value} {h : aH} {r0 : Nat} : go (d + 1) 111 30 ls [.ref r0] h = if isC h r0 8 = true then (go d 108 0 [.ref r0, aU, aU, aU] [] h).bind (fun q => go (d + 1) 111 33 ls (q.1.toList ++ []) q.2) else none := go_cv1 (as := []) (rest := []) (L := [.ref r0, aU, aU, aU]) ke_111_30 rfl rfl rfl
theorem ke_111_33 : alook 111 33 = some (33, .ireturn, 1, (0, 0, 0, 0, 0), ⟨"", "", ""⟩, "") := rfl
theorem ee_111_33 {d : Nat} {ls : List Value} {h : aH} {v : Int32} : go d 111 33 ls [.int v] h = some (some (.int v), h) := go_iret ke_111_33
theorem ke_112_0 : alook 112 0 = some (0, .iload_n 1, 1, (0, 0, 0, 0, 0), ⟨"", "", ""⟩, "") := rfl
theorem ee_112_0 {d : Nat} {h : aH} {l0 : Value} {x : Int32} {st : List Value} : go d 112 0 [l0, .int x] st h = go d 112 1 [l0, .int x] (.int x :: st) h := go_plain (q := (1, [l0, .int x], (.int x :: st), h)) ke_112_0 rfl
theorem ke_112_1 : alook 112 1 = some (1, .ifCond .eq 28, 3, (29, 0, 0, 0, 0), ⟨"", "", ""⟩, "") := rfl
theorem ee_112_1 {d : Nat} {ls st : List Value} {h : aH} {x : Int32} : go d 112 1 ls (.int x :: st) h = if x = 0 then go d 112 29 ls st h else go d 112 4 ls st h := go_c1 (go_if1 (tg := 29) (q := 4) (f := fun x => decide (x = 0)) ke_112_1 rfl)
theorem ke_112_4 : alook 112 4 = some (4, .iload_n 1, 1, (0, 0, 0, 0, 0), ⟨"", "", ""⟩, "") := rfl
theorem ee_112_4 {d : Nat} {h : aH} {l0 : Value} {x : Int32} {st : List Value} : go d 112 4 [l0, .int x] st h = go d 112 5 [l0, .int x] (.int x :: st) h := go_plain (q := (5, [l0, .int x], (.int x :: st), h)) ke_112_4 rfl
theorem ke_112_5 : alook 112 5 = some (5, .bipush 10, 2, (0, 0, 0, 0, 0), ⟨"", "", ""⟩, "") := rfl
theorem ee_112_5 {d : Nat} {h : aH} {ls st : List Value} : go d 112 5 ls st h = go d 112 7 ls (.int 10 :: st) h := go_plain (q := (7, ls, (.int 10 :: st), h)) ke_112_5 rfl
theorem ke_112_7 : alook 112 7 = some (7, .bipush 12, 2, (0, 0, 0, 0, 0), ⟨"", "", ""⟩, "") := rfl
theorem ee_112_7 {d : Nat} {h : aH} {ls st : List Value} : go d 112 7 ls st h = go d 112 9 ls (.int 12 :: st) h := go_plain (q := (9, ls, (.int 12 :: st), h)) ke_112_7 rfl
theorem ke_112_9 : alook 112 9 = some (9, .invokestatic 36, 3, (3, 0, 65, 0, 0), ⟨"WordHidesModel", "in", "(III)Z"⟩, "") := rfl
theorem ee_112_9 {d : Nat} {ls : List Value} {h : aH} {i0 : Int32} {i1 : Int32} {i2 : Int32} : go (d + 1) 112 9 ls [.int i0, .int i1, .int i2] h = (go d 65 0 [.int i2, .int i1, .int i0] [] h).bind (fun q => go (d + 1) 112 12 ls (q.1.toList ++ []) q.2) := go_cs (as := [.int i2, .int i1, .int i0]) (rest := []) (L := [.int i2, .int i1, .int i0]) ke_112_9 rfl rfl rfl
theorem ke_112_12 : alook 112 12 = some (12, .ifCond .ne 17, 3, (29, 0, 0, 0, 0), ⟨"", "", ""⟩, "") := rfl
theorem ee_112_12 {d : Nat} {ls st : List Value} {h : aH} {x : Int32} : go d 112 12 ls (.int x :: st) h = if ¬ x = 0 then go d 112 29 ls st h else go d 112 15 ls st h := go_c1 (go_if1 (tg := 29) (q := 15) (f := fun x => decide (¬ x = 0)) ke_112_12 rfl)
theorem ke_112_15 : alook 112 15 = some (15, .iload_n 1, 1, (0, 0, 0, 0, 0), ⟨"", "", ""⟩, "") := rfl
theorem ee_112_15 {d : Nat} {h : aH} {l0 : Value} {x : Int32} {st : List Value} : go d 112 15 [l0, .int x] st h = go d 112 16 [l0, .int x] (.int x :: st) h := go_plain (q := (16, [l0, .int x], (.int x :: st), h)) ke_112_15 rfl
theorem ke_112_16 : alook 112 16 = some (16, .bipush 100, 2, (0, 0, 0, 0, 0), ⟨"", "", ""⟩, "") := rfl
theorem ee_112_16 {d : Nat} {h : aH} {ls st : List Value} : go d 112 16 ls st h = go d 112 18 ls (.int 100 :: st) h := go_plain (q := (18, ls, (.int 100 :: st), h)) ke_112_16 rfl
theorem ke_112_18 : alook 112 18 = some (18, .bipush 115, 2, (0, 0, 0, 0, 0), ⟨"", "", ""⟩, "") := rfl
theorem ee_112_18 {d : Nat} {h : aH} {ls st : List Value} : go d 112 18 ls st h = go d 112 20 ls (.int 115 :: st) h := go_plain (q := (20, ls, (.int 115 :: st), h)) ke_112_18 rfl
theorem ke_112_20 : alook 112 20 = some (20, .invokestatic 36, 3, (3, 0, 65, 0, 0), ⟨"WordHidesModel", "in", "(III)Z"⟩, "") := rfl
theorem ee_112_20 {d : Nat} {ls : List Value} {h : aH} {i0 : Int32} {i1 : Int32} {i2 : Int32} : go (d + 1) 112 20 ls [.int i0, .int i1, .int i2] h = (go d 65 0 [.int i2, .int i1, .int i0] [] h).bind (fun q => go (d + 1) 112 23 ls (q.1.toList ++ []) q.2) := go_cs (as := [.int i2, .int i1, .int i0]) (rest := []) (L := [.int i2, .int i1, .int i0]) ke_112_20 rfl rfl rfl
theorem ke_112_23 : alook 112 23 = some (23, .ifCond .ne 6, 3, (29, 0, 0, 0, 0), ⟨"", "", ""⟩, "") := rfl
theorem ee_112_23 {d : Nat} {ls st : List Value} {h : aH} {x : Int32} : go d 112 23 ls (.int x :: st) h = if ¬ x = 0 then go d 112 29 ls st h else go d 112 26 ls st h := go_c1 (go_if1 (tg := 29) (q := 26) (f := fun x => decide (¬ x = 0)) ke_112_23 rfl)
theorem ke_112_26 : alook 112 26 = some (26, .bipush (-2), 2, (0, 0, 0, 0, 0), ⟨"", "", ""⟩, "") := rfl
theorem ee_112_26 {d : Nat} {h : aH} {ls st : List Value} : go d 112 26 ls st h = go d 112 28 ls (.int (-2) :: st) h := go_plain (q := (28, ls, (.int (-2) :: st), h)) ke_112_26 rfl
theorem ke_112_28 : alook 112 28 = some (28, .ireturn, 1, (0, 0, 0, 0, 0), ⟨"", "", ""⟩, "") := rfl
theorem ee_112_28 {d : Nat} {ls : List Value} {h : aH} {v : Int32} : go d 112 28 ls [.int v] h = some (some (.int v), h) := go_iret ke_112_28
theorem ke_112_29 : alook 112 29 = some (29, .aload_n 0, 1, (0, 0, 0, 0, 0), ⟨"", "", ""⟩, "") := rfl
theorem ee_112_29 {d : Nat} {h : aH} {l1 : Value} {x : Nat} {st : List Value} : go d 112 29 [.ref x, l1] st h = go d 112 30 [.ref x, l1] (.ref x :: st) h := go_plain (q := (30, [.ref x, l1], (.ref x :: st), h)) ke_112_29 rfl
theorem ee_112_29N {d : Nat} {h : aH} {l1 : Value} {st : List Value} : go d 112 29 [.null, l1] st h = go d 112 30 [.null, l1] (.null :: st) h := go_plain (q := (30, [.null, l1], (.null :: st), h)) ke_112_29 rfl
theorem ke_112_30 : alook 112 30 = some (30, .iconst 1, 1, (0, 0, 0, 0, 0), ⟨"", "", ""⟩, "") := rfl
theorem ee_112_30 {d : Nat} {h : aH} {ls st : List Value} : go d 112 30 ls st h = go d 112 31 ls (.int 1 :: st) h := go_plain (q := (31, ls, (.int 1 :: st), h)) ke_112_30 rfl
theorem ke_112_31 : alook 112 31 = some (31, .invokevirtual 139, 3, (1, 8, 102, 8, 102), ⟨"WordHidesModel", "goThrough", "(Z)V"⟩, "") := rfl
theorem ee_112_31 {d : Nat} {ls : List Value} {h : aH} {i0 : Int32} {r1 : Nat} : go (d + 1) 112 31 ls [.int i0, .ref r1] h = if isC h r1 8 = true then (go d 102 0 [.ref r1, .int i0, aU, aU] [] h).bind (fun q => go (d + 1) 112 34 ls (q.1.toList ++ []) q.2) else none := go_cv1 (as := [.int i0]) (rest := []) (L := [.ref r1, .int i0, aU, aU]) ke_112_31 rfl rfl rfl
theorem ke_112_34 : alook 112 34 = some (34, .iload_n 1, 1, (0, 0, 0, 0, 0), ⟨"", "", ""⟩, "") := rfl
theorem ee_112_34 {d : Nat} {h : aH} {l0 : Value} {x : Int32} {st : List Value} : go d 112 34 [l0, .int x] st h = go d 112 35 [l0, .int x] (.int x :: st) h := go_plain (q := (35, [l0, .int x], (.int x :: st), h)) ke_112_34 rfl
theorem ke_112_35 : alook 112 35 = some (35, .ifCond .ne 8, 3, (43, 0, 0, 0, 0), ⟨"", "", ""⟩, "") := rfl
theorem ee_112_35 {d : Nat} {ls st : List Value} {h : aH} {x : Int32} : go d 112 35 ls (.int x :: st) h = if ¬ x = 0 then go d 112 43 ls st h else go d 112 38 ls st h := go_c1 (go_if1 (tg := 43) (q := 38) (f := fun x => decide (¬ x = 0)) ke_112_35 rfl)
theorem ke_112_38 : alook 112 38 = some (38, .aload_n 0, 1, (0, 0, 0, 0, 0), ⟨"", "", ""⟩, "") := rfl
theorem ee_112_38 {d : Nat} {h : aH} {l1 : Value} {x : Nat} {st : List Value} : go d 112 38 [.ref x, l1] st h = go d 112 39 [.ref x, l1] (.ref x :: st) h := go_plain (q := (39, [.ref x, l1], (.ref x :: st), h)) ke_112_38 rfl
theorem ee_112_38N {d : Nat} {h : aH} {l1 : Value} {st : List Value} : go d 112 38 [.null, l1] st h = go d 112 39 [.null, l1] (.null :: st) h := go_plain (q := (39, [.null, l1], (.null :: st), h)) ke_112_38 rfl
theorem ke_112_39 : alook 112 39 = some (39, .getfield 107, 3, (10, 8, 8, 0, 0), ⟨"", "", ""⟩, "WordHidesModel") := rfl
theorem ee_112_39 {d : Nat} {ls st : List Value} {h : aH} {r : Nat} : go d 112 39 ls (.ref r :: st) h = (gf h r 10 8 8).bind fun z => go d 112 42 ls (z :: st) h := go_getf ke_112_39
theorem ke_112_42 : alook 112 42 = some (42, .ireturn, 1, (0, 0, 0, 0, 0), ⟨"", "", ""⟩, "") := rfl
theorem ee_112_42 {d : Nat} {ls : List Value} {h : aH} {v : Int32} : go d 112 42 ls [.int v] h = some (some (.int v), h) := go_iret ke_112_42
theorem ke_112_43 : alook 112 43 = some (43, .iload_n 1, 1, (0, 0, 0, 0, 0), ⟨"", "", ""⟩, "") := rfl
theorem ee_112_43 {d : Nat} {h : aH} {l0 : Value} {x : Int32} {st : List Value} : go d 112 43 [l0, .int x] st h = go d 112 44 [l0, .int x] (.int x :: st) h := go_plain (q := (44, [l0, .int x], (.int x :: st), h)) ke_112_43 rfl
theorem ke_112_44 : alook 112 44 = some (44, .bipush 100, 2, (0, 0, 0, 0, 0), ⟨"", "", ""⟩, "") := rfl
theorem ee_112_44 {d : Nat} {h : aH} {ls st : List Value} : go d 112 44 ls st h = go d 112 46 ls (.int 100 :: st) h := go_plain (q := (46, ls, (.int 100 :: st), h)) ke_112_44 rfl
theorem ke_112_46 : alook 112 46 = some (46, .if_icmp .lt 10, 3, (56, 0, 0, 0, 0), ⟨"", "", ""⟩, "") := rfl
theorem ee_112_46 {d : Nat} {ls st : List Value} {h : aH} {x y : Int32} : go d 112 46 ls (.int y :: .int x :: st) h = if x < y then go d 112 56 ls st h else go d 112 49 ls st h := go_ci (go_if2 (tg := 56) (q := 49) (f := fun x y => decide (x < y)) ke_112_46 rfl)
theorem ke_112_49 : alook 112 49 = some (49, .aload_n 0, 1, (0, 0, 0, 0, 0), ⟨"", "", ""⟩, "") := rfl
theorem ee_112_49 {d : Nat} {h : aH} {l1 : Value} {x : Nat} {st : List Value} : go d 112 49 [.ref x, l1] st h = go d 112 50 [.ref x, l1] (.ref x :: st) h := go_plain (q := (50, [.ref x, l1], (.ref x :: st), h)) ke_112_49 rfl
theorem ee_112_49N {d : Nat} {h : aH} {l1 : Value} {st : List Value} : go d 112 49 [.null, l1] st h = go d 112 50 [.null, l1] (.null :: st) h := go_plain (q := (50, [.null, l1], (.null :: st), h)) ke_112_49 rfl
theorem ke_112_50 : alook 112 50 = some (50, .getfield 107, 3, (10, 8, 8, 0, 0), ⟨"", "", ""⟩, "WordHidesModel") := rfl
theorem ee_112_50 {d : Nat} {ls st : List Value} {h : aH} {r : Nat} : go d 112 50 ls (.ref r :: st) h = (gf h r 10 8 8).bind fun z => go d 112 53 ls (z :: st) h := go_getf ke_112_50
theorem ke_112_53 : alook 112 53 = some (53, .ifCond .ne 35, 3, (88, 0, 0, 0, 0), ⟨"", "", ""⟩, "") := rfl
theorem ee_112_53 {d : Nat} {ls st : List Value} {h : aH} {x : Int32} : go d 112 53 ls (.int x :: st) h = if ¬ x = 0 then go d 112 88 ls st h else go d 112 56 ls st h := go_c1 (go_if1 (tg := 88) (q := 56) (f := fun x => decide (¬ x = 0)) ke_112_53 rfl)
theorem ke_112_56 : alook 112 56 = some (56, .iload_n 1, 1, (0, 0, 0, 0, 0), ⟨"", "", ""⟩, "") := rfl
theorem ee_112_56 {d : Nat} {h : aH} {l0 : Value} {x : Int32} {st : List Value} : go d 112 56 [l0, .int x] st h = go d 112 57 [l0, .int x] (.int x :: st) h := go_plain (q := (57, [l0, .int x], (.int x :: st), h)) ke_112_56 rfl
theorem ke_112_57 : alook 112 57 = some (57, .bipush 100, 2, (0, 0, 0, 0, 0), ⟨"", "", ""⟩, "") := rfl
theorem ee_112_57 {d : Nat} {h : aH} {ls st : List Value} : go d 112 57 ls st h = go d 112 59 ls (.int 100 :: st) h := go_plain (q := (59, ls, (.int 100 :: st), h)) ke_112_57 rfl
theorem ke_112_59 : alook 112 59 = some (59, .if_icmp .ge 26, 3, (85, 0, 0, 0, 0), ⟨"", "", ""⟩, "") := rfl
theorem ee_112_59 {d : Nat} {ls st : List Value} {h : aH} {x y : Int32} : go d 112 59 ls (.int y :: .int x :: st) h = if y ≤ x then go d 112 85 ls st h else go d 112 62 ls st h := go_ci (go_if2 (tg := 85) (q := 62) (f := fun x y => decide (y ≤ x)) ke_112_59 rfl)
theorem ke_112_62 : alook 112 62 = some (62, .aload_n 0, 1, (0, 0, 0, 0, 0), ⟨"", "", ""⟩, "") := rfl
theorem ee_112_62 {d : Nat} {h : aH} {l1 : Value} {x : Nat} {st : List Value} : go d 112 62 [.ref x, l1] st h = go d 112 63 [.ref x, l1] (.ref x :: st) h := go_plain (q := (63, [.ref x, l1], (.ref x :: st), h)) ke_112_62 rfl
theorem ee_112_62N {d : Nat} {h : aH} {l1 : Value} {st : List Value} : go d 112 62 [.null, l1] st h = go d 112 63 [.null, l1] (.null :: st) h := go_plain (q := (63, [.null, l1], (.null :: st), h)) ke_112_62 rfl
theorem ke_112_63 : alook 112 63 = some (63, .iload_n 1, 1, (0, 0, 0, 0, 0), ⟨"", "", ""⟩, "") := rfl
theorem ee_112_63 {d : Nat} {h : aH} {l0 : Value} {x : Int32} {st : List Value} : go d 112 63 [l0, .int x] st h = go d 112 64 [l0, .int x] (.int x :: st) h := go_plain (q := (64, [l0, .int x], (.int x :: st), h)) ke_112_63 rfl
theorem ke_112_64 : alook 112 64 = some (64, .bipush 10, 2, (0, 0, 0, 0, 0), ⟨"", "", ""⟩, "") := rfl
theorem ee_112_64 {d : Nat} {h : aH} {ls st : List Value} : go d 112 64 ls st h = go d 112 66 ls (.int 10 :: st) h := go_plain (q := (66, ls, (.int 10 :: st), h)) ke_112_64 rfl
theorem ke_112_66 : alook 112 66 = some (66, .isub, 1, (0, 0, 0, 0, 0), ⟨"", "", ""⟩, "") := rfl
theorem ee_112_66 {d : Nat} {h : aH} {ls st : List Value} {x y : Int32} : go d 112 66 ls (.int y :: .int x :: st) h = go d 112 67 ls (.int (x - y) :: st) h := go_plain (q := (67, ls, (.int (x - y) :: st), h)) ke_112_66 rfl
theorem ke_112_67 : alook 112 67 = some (67, .aload_n 0, 1, (0, 0, 0, 0, 0), ⟨"", "", ""⟩, "") := rfl
theorem ee_112_67 {d : Nat} {h : aH} {l1 : Value} {x : Nat} {st : List Value} : go d 112 67 [.ref x, l1] st h = go d 112 68 [.ref x, l1] (.ref x :: st) h := go_plain (q := (68, [.ref x, l1], (.ref x :: st), h)) ke_112_67 rfl
theorem ee_112_67N {d : Nat} {h : aH} {l1 : Value} {st : List Value} : go d 112 67 [.null, l1] st h = go d 112 68 [.null, l1] (.null :: st) h := go_plain (q := (68, [.null, l1], (.null :: st), h)) ke_112_67 rfl
theorem ke_112_68 : alook 112 68 = some (68, .getfield 107, 3, (10, 8, 8, 0, 0), ⟨"", "", ""⟩, "WordHidesModel") := rfl
theorem ee_112_68 {d : Nat} {ls st : List Value} {h : aH} {r : Nat} : go d 112 68 ls (.ref r :: st) h = (gf h r 10 8 8).bind fun z => go d 112 71 ls (z :: st) h := go_getf ke_112_68
theorem ke_112_71 : alook 112 71 = some (71, .ifCond .le 7, 3, (78, 0, 0, 0, 0), ⟨"", "", ""⟩, "") := rfl
theorem ee_112_71 {d : Nat} {ls st : List Value} {h : aH} {x : Int32} : go d 112 71 ls (.int x :: st) h = if x ≤ 0 then go d 112 78 ls st h else go d 112 74 ls st h := go_c1 (go_if1 (tg := 78) (q := 74) (f := fun x => decide (x ≤ 0)) ke_112_71 rfl)
theorem ke_112_74 : alook 112 74 = some (74, .iconst 1, 1, (0, 0, 0, 0, 0), ⟨"", "", ""⟩, "") := rfl
theorem ee_112_74 {d : Nat} {h : aH} {ls st : List Value} : go d 112 74 ls st h = go d 112 75 ls (.int 1 :: st) h := go_plain (q := (75, ls, (.int 1 :: st), h)) ke_112_74 rfl
theorem ke_112_75 : alook 112 75 = some (75, .goto 4, 3, (79, 0, 0, 0, 0), ⟨"", "", ""⟩, "") := rfl
theorem ee_112_75 {d : Nat} {h : aH} {ls st : List Value} : go d 112 75 ls st h = go d 112 79 ls st h := go_plain (q := (79, ls, st, h)) ke_112_75 rfl
theorem ke_112_78 : alook 112 78 = some (78, .iconst 0, 1, (0, 0, 0, 0, 0), ⟨"", "", ""⟩, "") := rfl
theorem ee_112_78 {d : Nat} {h : aH} {ls st : List Value} : go d 112 78 ls st h = go d 112 79 ls (.int 0 :: st) h := go_plain (q := (79, ls, (.int 0 :: st), h)) ke_112_78 rfl
theorem ke_112_79 : alook 112 79 = some (79, .invokevirtual 143, 3, (2, 8, 104, 8, 104), ⟨"WordHidesModel", "placeTold", "(IZ)I"⟩, "") := rfl
theorem ee_112_79 {d : Nat} {ls : List Value} {h : aH} {i0 : Int32} {i1 : Int32} {r2 : Nat} : go (d + 1) 112 79 ls [.int i0, .int i1, .ref r2] h = if isC h r2 8 = true then (go d 104 0 [.ref r2, .int i1, .int i0] [] h).bind (fun q => go (d + 1) 112 82 ls (q.1.toList ++ []) q.2) else none := go_cv1 (as := [.int i1, .int i0]) (rest := []) (L := [.ref r2, .int i1, .int i0]) ke_112_79 rfl rfl rfl
theorem ke_112_82 : alook 112 82 = some (82, .goto 5, 3, (87, 0, 0, 0, 0), ⟨"", "", ""⟩, "") := rfl
theorem ee_112_82 {d : Nat} {h : aH} {ls st : List Value} : go d 112 82 ls st h = go d 112 87 ls st h := go_plain (q := (87, ls, st, h)) ke_112_82 rfl
theorem ke_112_85 : alook 112 85 = some (85, .bipush (-6), 2, (0, 0, 0, 0, 0), ⟨"", "", ""⟩, "") := rfl
theorem ee_112_85 {d : Nat} {h : aH} {ls st : List Value} : go d 112 85 ls st h = go d 112 87 ls (.int (-6) :: st) h := go_plain (q := (87, ls, (.int (-6) :: st), h)) ke_112_85 rfl
theorem ke_112_87 : alook 112 87 = some (87, .ireturn, 1, (0, 0, 0, 0, 0), ⟨"", "", ""⟩, "") := rfl
theorem ee_112_87 {d : Nat} {ls : List Value} {h : aH} {v : Int32} : go d 112 87 ls [.int v] h = some (some (.int v), h) := go_iret ke_112_87
theorem ke_112_88 : alook 112 88 = some (88, .aload_n 0, 1, (0, 0, 0, 0, 0), ⟨"", "", ""⟩, "") := rfl
theorem ee_112_88 {d : Nat} {h : aH} {l1 : Value} {x : Nat} {st : List Value} : go d 112 88 [.ref x, l1] st h = go d 112 89 [.ref x, l1] (.ref x :: st) h := go_plain (q := (89, [.ref x, l1], (.ref x :: st), h)) ke_112_88 rfl
theorem ee_112_88N {d : Nat} {h : aH} {l1 : Value} {st : List Value} : go d 112 88 [.null, l1] st h = go d 112 89 [.null, l1] (.null :: st) h := go_plain (q := (89, [.null, l1], (.null :: st), h)) ke_112_88 rfl
theorem ke_112_89 : alook 112 89 = some (89, .invokevirtual 162, 3, (0, 8, 111, 8, 111), ⟨"WordHidesModel", "fillFirst", "()I"⟩, "") := rfl
theorem ee_112_89 {d : Nat} {ls : List Value} {h : aH} {r0 : Nat} : go (d + 1) 112 89 ls [.ref r0] h = if isC h r0 8 = true then (go d 111 0 [.ref r0, aU] [] h).bind (fun q => go (d + 1) 112 92 ls (q.1.toList ++ []) q.2) else none := go_cv1 (as := []) (rest := []) (L := [.ref r0, aU]) ke_112_89 rfl rfl rfl
theorem ke_112_92 : alook 112 92 = some (92, .pop, 1, (0, 0, 0, 0, 0), ⟨"", "", ""⟩, "") := rfl
theorem ee_112_92 {d : Nat} {h : aH} {ls st : List Value} {x : Int32} : go d 112 92 ls (.int x :: st) h = go d 112 93 ls st h := go_plain (q := (93, ls, st, h)) ke_112_92 rfl
theorem ke_112_93 : alook 112 93 = some (93, .aload_n 0, 1, (0, 0, 0, 0, 0), ⟨"", "", ""⟩, "") := rfl
theorem ee_112_93 {d : Nat} {h : aH} {l1 : Value} {x : Nat} {st : List Value} : go d 112 93 [.ref x, l1] st h = go d 112 94 [.ref x, l1] (.ref x :: st) h := go_plain (q := (94, [.ref x, l1], (.ref x :: st), h)) ke_112_93 rfl
theorem ee_112_93N {d : Nat} {h : aH} {l1 : Value} {st : List Value} : go d 112 93 [.null, l1] st h = go d 112 94 [.null, l1] (.null :: st) h := go_plain (q := (94, [.null, l1], (.null :: st), h)) ke_112_93 rfl
theorem ke_112_94 : alook 112 94 = some (94, .iload_n 1, 1, (0, 0, 0, 0, 0), ⟨"", "", ""⟩, "") := rfl
theorem ee_112_94 {d : Nat} {h : aH} {l0 : Value} {x : Int32} {st : List Value} : go d 112 94 [l0, .int x] st h = go d 112 95 [l0, .int x] (.int x :: st) h := go_plain (q := (95, [l0, .int x], (.int x :: st), h)) ke_112_94 rfl
theorem ke_112_95 : alook 112 95 = some (95, .bipush 100, 2, (0, 0, 0, 0, 0), ⟨"", "", ""⟩, "") := rfl
theorem ee_112_95 {d : Nat} {h : aH} {ls st : List Value} : go d 112 95 ls st h = go d 112 97 ls (.int 100 :: st) h := go_plain (q := (97, ls, (.int 100 :: st), h)) ke_112_95 rfl
theorem ke_112_97 : alook 112 97 = some (97, .isub, 1, (0, 0, 0, 0, 0), ⟨"", "", ""⟩, "") := rfl
theorem ee_112_97 {d : Nat} {h : aH} {ls st : List Value} {x y : Int32} : go d 112 97 ls (.int y :: .int x :: st) h = go d 112 98 ls (.int (x - y) :: st) h := go_plain (q := (98, ls, (.int (x - y) :: st), h)) ke_112_97 rfl
theorem ke_112_98 : alook 112 98 = some (98, .invokevirtual 40, 3, (1, 8, 67, 8, 67), ⟨"WordHidesModel", "isCell", "(I)Z"⟩, "") := rfl
theorem ee_112_98 {d : Nat} {ls : List Value} {h : aH} {i0 : Int32} {r1 : Nat} : go (d + 1) 112 98 ls [.int i0, .ref r1] h = if isC h r1 8 = true then (go d 67 0 [.ref r1, .int i0] [] h).bind (fun q => go (d + 1) 112 101 ls (q.1.toList ++ []) q.2) else none := go_cv1 (as := [.int i0]) (rest := []) (L := [.ref r1, .int i0]) ke_112_98 rfl rfl rfl
theorem ke_112_101 : alook 112 101 = some (101, .ifCond .eq 18, 3, (119, 0, 0, 0, 0), ⟨"", "", ""⟩, "") := rfl
theorem ee_112_101 {d : Nat} {ls st : List Value} {h : aH} {x : Int32} : go d 112 101 ls (.int x :: st) h = if x = 0 then go d 112 119 ls st h else go d 112 104 ls st h := go_c1 (go_if1 (tg := 119) (q := 104) (f := fun x => decide (x = 0)) ke_112_101 rfl)
theorem ke_112_104 : alook 112 104 = some (104, .aload_n 0, 1, (0, 0, 0, 0, 0), ⟨"", "", ""⟩, "") := rfl
theorem ee_112_104 {d : Nat} {h : aH} {l1 : Value} {x : Nat} {st : List Value} : go d 112 104 [.ref x, l1] st h = go d 112 105 [.ref x, l1] (.ref x :: st) h := go_plain (q := (105, [.ref x, l1], (.ref x :: st), h)) ke_112_104 rfl
theorem ee_112_104N {d : Nat} {h : aH} {l1 : Value} {st : List Value} : go d 112 104 [.null, l1] st h = go d 112 105 [.null, l1] (.null :: st) h := go_plain (q := (105, [.null, l1], (.null :: st), h)) ke_112_104 rfl
theorem ke_112_105 : alook 112 105 = some (105, .getfield 23, 3, (5, 8, 8, 2, 0), ⟨"", "", ""⟩, "WordHidesModel") := rfl
theorem ee_112_105 {d : Nat} {ls st : List Value} {h : aH} {r : Nat} : go d 112 105 ls (.ref r :: st) h = (gf h r 5 8 8).bind fun z => go d 112 108 ls (z :: st) h := go_getf ke_112_105
theorem ke_112_108 : alook 112 108 = some (108, .bipush 64, 2, (0, 0, 0, 0, 0), ⟨"", "", ""⟩, "") := rfl
theorem ee_112_108 {d : Nat} {h : aH} {ls st : List Value} : go d 112 108 ls st h = go d 112 110 ls (.int 64 :: st) h := go_plain (q := (110, ls, (.int 64 :: st), h)) ke_112_108 rfl
theorem ke_112_110 : alook 112 110 = some (110, .iload_n 1, 1, (0, 0, 0, 0, 0), ⟨"", "", ""⟩, "") := rfl
theorem ee_112_110 {d : Nat} {h : aH} {l0 : Value} {x : Int32} {st : List Value} : go d 112 110 [l0, .int x] st h = go d 112 111 [l0, .int x] (.int x :: st) h := go_plain (q := (111, [l0, .int x], (.int x :: st), h)) ke_112_110 rfl
theorem ke_112_111 : alook 112 111 = some (111, .iadd, 1, (0, 0, 0, 0, 0), ⟨"", "", ""⟩, "") := rfl
theorem ee_112_111 {d : Nat} {h : aH} {ls st : List Value} {x y : Int32} : go d 112 111 ls (.int y :: .int x :: st) h = go d 112 112 ls (.int (x + y) :: st) h := go_plain (q := (112, ls, (.int (x + y) :: st), h)) ke_112_111 rfl
theorem ke_112_112 : alook 112 112 = some (112, .bipush 100, 2, (0, 0, 0, 0, 0), ⟨"", "", ""⟩, "") := rfl
theorem ee_112_112 {d : Nat} {h : aH} {ls st : List Value} : go d 112 112 ls st h = go d 112 114 ls (.int 100 :: st) h := go_plain (q := (114, ls, (.int 100 :: st), h)) ke_112_112 rfl
theorem ke_112_114 : alook 112 114 = some (114, .isub, 1, (0, 0, 0, 0, 0), ⟨"", "", ""⟩, "") := rfl
theorem ee_112_114 {d : Nat} {h : aH} {ls st : List Value} {x y : Int32} : go d 112 114 ls (.int y :: .int x :: st) h = go d 112 115 ls (.int (x - y) :: st) h := go_plain (q := (115, ls, (.int (x - y) :: st), h)) ke_112_114 rfl
theorem ke_112_115 : alook 112 115 = some (115, .iaload, 1, (0, 0, 0, 0, 0), ⟨"", "", ""⟩, "") := rfl
theorem ee_112_115 {d : Nat} {ls st : List Value} {h : aH} {r : Nat} {i : Int32} : go d 112 115 ls (.int i :: .ref r :: st) h = (ia h r i).bind fun z => go d 112 116 ls (.int z :: st) h := go_iald ke_112_115
theorem ke_112_116 : alook 112 116 = some (116, .goto 5, 3, (121, 0, 0, 0, 0), ⟨"", "", ""⟩, "") := rfl
theorem ee_112_116 {d : Nat} {h : aH} {ls st : List Value} : go d 112 116 ls st h = go d 112 121 ls st h := go_plain (q := (121, ls, st, h)) ke_112_116 rfl
theorem ke_112_119 : alook 112 119 = some (119, .bipush (-6), 2, (0, 0, 0, 0, 0), ⟨"", "", ""⟩, "") := rfl
theorem ee_112_119 {d : Nat} {h : aH} {ls st : List Value} : go d 112 119 ls st h = go d 112 121 ls (.int (-6) :: st) h := go_plain (q := (121, ls, (.int (-6) :: st), h)) ke_112_119 rfl
theorem ke_112_121 : alook 112 121 = some (121, .ireturn, 1, (0, 0, 0, 0, 0), ⟨"", "", ""⟩, "") := rfl
theorem ee_112_121 {d : Nat} {ls : List Value} {h : aH} {v : Int32} : go d 112 121 ls [.int v] h = some (some (.int v), h) := go_iret ke_112_121
theorem ke_113_0 : alook 113 0 = some (0, .aload_n 0, 1, (0, 0, 0, 0, 0), ⟨"", "", ""⟩, "") := rfl
theorem ee_113_0 {d : Nat} {h : aH} {l1 l2 : Value} {x : Nat} {st : List Value} : go d 113 0 [.ref x, l1, l2] st h = go d 113 1 [.ref x, l1, l2] (.ref x :: st) h := go_plain (q := (1, [.ref x, l1, l2], (.ref x :: st), h)) ke_113_0 rfl
theorem ee_113_0N {d : Nat} {h : aH} {l1 l2 : Value} {st : List Value} : go d 113 0 [.null, l1, l2] st h = go d 113 1 [.null, l1, l2] (.null :: st) h := go_plain (q := (1, [.null, l1, l2], (.null :: st), h)) ke_113_0 rfl
theorem ke_113_1 : alook 113 1 = some (1, .iconst 1, 1, (0, 0, 0, 0, 0), ⟨"", "", ""⟩, "") := rfl
theorem ee_113_1 {d : Nat} {h : aH} {ls st : List Value} : go d 113 1 ls st h = go d 113 2 ls (.int 1 :: st) h := go_plain (q := (2, ls, (.int 1 :: st), h)) ke_113_1 rfl
theorem ke_113_2 : alook 113 2 = some (2, .invokevirtual 139, 3, (1, 8, 102, 8, 102), ⟨"WordHidesModel", "goThrough", "(Z)V"⟩, "") := rfl
theorem ee_113_2 {d : Nat} {ls : List Value} {h : aH} {i0 : Int32} {r1 : Nat} : go (d + 1) 113 2 ls [.int i0, .ref r1] h = if isC h r1 8 = true then (go d 102 0 [.ref r1, .int i0, aU, aU] [] h).bind (fun q => go (d + 1) 113 5 ls (q.1.toList ++ []) q.2) else none := go_cv1 (as := [.int i0]) (rest := []) (L := [.ref r1, .int i0, aU, aU]) ke_113_2 rfl rfl rfl
theorem ke_113_5 : alook 113 5 = some (5, .aload_n 0, 1, (0, 0, 0, 0, 0), ⟨"", "", ""⟩, "") := rfl
theorem ee_113_5 {d : Nat} {h : aH} {l1 l2 : Value} {x : Nat} {st : List Value} : go d 113 5 [.ref x, l1, l2] st h = go d 113 6 [.ref x, l1, l2] (.ref x :: st) h := go_plain (q := (6, [.ref x, l1, l2], (.ref x :: st), h)) ke_113_5 rfl
theorem ee_113_5N {d : Nat} {h : aH} {l1 l2 : Value} {st : List Value} : go d 113 5 [.null, l1, l2] st h = go d 113 6 [.null, l1, l2] (.null :: st) h := go_plain (q := (6, [.null, l1, l2], (.null :: st), h)) ke_113_5 rfl
theorem ke_113_6 : alook 113 6 = some (6, .getfield 107, 3, (10, 8, 8, 0, 0), ⟨"", "", ""⟩, "WordHidesModel") := rfl
theorem ee_113_6 {d : Nat} {ls st : List Value} {h : aH} {r : Nat} : go d 113 6 ls (.ref r :: st) h = (gf h r 10 8 8).bind fun z => go d 113 9 ls (z :: st) h := go_getf ke_113_6
theorem ke_113_9 : alook 113 9 = some (9, .ifCond .ne 6, 3, (15, 0, 0, 0, 0), ⟨"", "", ""⟩, "") := rfl
theorem ee_113_9 {d : Nat} {ls st : List Value} {h : aH} {x : Int32} : go d 113 9 ls (.int x :: st) h = if ¬ x = 0 then go d 113 15 ls st h else go d 113 12 ls st h := go_c1 (go_if1 (tg := 15) (q := 12) (f := fun x => decide (¬ x = 0)) ke_113_9 rfl)
theorem ke_113_12 : alook 113 12 = some (12, .bipush (-5), 2, (0, 0, 0, 0, 0), ⟨"", "", ""⟩, "") := rfl
theorem ee_113_12 {d : Nat} {h : aH} {ls st : List Value} : go d 113 12 ls st h = go d 113 14 ls (.int (-5) :: st) h := go_plain (q := (14, ls, (.int (-5) :: st), h)) ke_113_12 rfl
theorem ke_113_14 : alook 113 14 = some (14, .ireturn, 1, (0, 0, 0, 0, 0), ⟨"", "", ""⟩, "") := rfl
theorem ee_113_14 {d : Nat} {ls : List Value} {h : aH} {v : Int32} : go d 113 14 ls [.int v] h = some (some (.int v), h) := go_iret ke_113_14
theorem ke_113_15 : alook 113 15 = some (15, .aload_n 0, 1, (0, 0, 0, 0, 0), ⟨"", "", ""⟩, "") := rfl
theorem ee_113_15 {d : Nat} {h : aH} {l1 l2 : Value} {x : Nat} {st : List Value} : go d 113 15 [.ref x, l1, l2] st h = go d 113 16 [.ref x, l1, l2] (.ref x :: st) h := go_plain (q := (16, [.ref x, l1, l2], (.ref x :: st), h)) ke_113_15 rfl
theorem ee_113_15N {d : Nat} {h : aH} {l1 l2 : Value} {st : List Value} : go d 113 15 [.null, l1, l2] st h = go d 113 16 [.null, l1, l2] (.null :: st) h := go_plain (q := (16, [.null, l1, l2], (.null :: st), h)) ke_113_15 rfl
theorem ke_113_16 : alook 113 16 = some (16, .invokevirtual 162, 3, (0, 8, 111, 8, 111), ⟨"WordHidesModel", "fillFirst", "()I"⟩, "") := rfl
theorem ee_113_16 {d : Nat} {ls : List Value} {h : aH} {r0 : Nat} : go (d + 1) 113 16 ls [.ref r0] h = if isC h r0 8 = true then (go d 111 0 [.ref r0, aU] [] h).bind (fun q => go (d + 1) 113 19 ls (q.1.toList ++ []) q.2) else none := go_cv1 (as := []) (rest := []) (L := [.ref r0, aU]) ke_113_16 rfl rfl rfl
theorem ke_113_19 : alook 113 19 = some (19, .istore_n 1, 1, (0, 0, 0, 0, 0), ⟨"", "", ""⟩, "") := rfl
theorem ee_113_19 {d : Nat} {h : aH} {l0 l1 l2 : Value} {x : Int32} {st : List Value} : go d 113 19 [l0, l1, l2] (.int x :: st) h = go d 113 20 [l0, .int x, l2] st h := go_plain (q := (20, [l0, .int x, l2], st, h)) ke_113_19 rfl
theorem ke_113_20 : alook 113 20 = some (20, .iconst 0, 1, (0, 0, 0, 0, 0), ⟨"", "", ""⟩, "") := rfl
theorem ee_113_20 {d : Nat} {h : aH} {ls st : List Value} : go d 113 20 ls st h = go d 113 21 ls (.int 0 :: st) h := go_plain (q := (21, ls, (.int 0 :: st), h)) ke_113_20 rfl
theorem ke_113_21 : alook 113 21 = some (21, .istore_n 2, 1, (0, 0, 0, 0, 0), ⟨"", "", ""⟩, "") := rfl
theorem ee_113_21 {d : Nat} {h : aH} {l0 l1 l2 : Value} {x : Int32} {st : List Value} : go d 113 21 [l0, l1, l2] (.int x :: st) h = go d 113 22 [l0, l1, .int x] st h := go_plain (q := (22, [l0, l1, .int x], st, h)) ke_113_21 rfl
theorem ke_113_22 : alook 113 22 = some (22, .iload_n 2, 1, (0, 0, 0, 0, 0), ⟨"", "", ""⟩, "") := rfl
theorem ee_113_22 {d : Nat} {h : aH} {l0 l1 : Value} {x : Int32} {st : List Value} : go d 113 22 [l0, l1, .int x] st h = go d 113 23 [l0, l1, .int x] (.int x :: st) h := go_plain (q := (23, [l0, l1, .int x], (.int x :: st), h)) ke_113_22 rfl
theorem ke_113_23 : alook 113 23 = some (23, .aload_n 0, 1, (0, 0, 0, 0, 0), ⟨"", "", ""⟩, "") := rfl
theorem ee_113_23 {d : Nat} {h : aH} {l1 l2 : Value} {x : Nat} {st : List Value} : go d 113 23 [.ref x, l1, l2] st h = go d 113 24 [.ref x, l1, l2] (.ref x :: st) h := go_plain (q := (24, [.ref x, l1, l2], (.ref x :: st), h)) ke_113_23 rfl
theorem ee_113_23N {d : Nat} {h : aH} {l1 l2 : Value} {st : List Value} : go d 113 23 [.null, l1, l2] st h = go d 113 24 [.null, l1, l2] (.null :: st) h := go_plain (q := (24, [.null, l1, l2], (.null :: st), h)) ke_113_23 rfl
theorem ke_113_24 : alook 113 24 = some (24, .invokevirtual 32, 3, (0, 8, 66, 8, 66), ⟨"WordHidesModel", "cells", "()I"⟩, "") := rfl
theorem ee_113_24 {d : Nat} {ls : List Value} {h : aH} {r0 : Nat} {i1 : Int32} : go (d + 1) 113 24 ls [.ref r0, .int i1] h = if isC h r0 8 = true then (go d 66 0 [.ref r0] [] h).bind (fun q => go (d + 1) 113 27 ls (q.1.toList ++ [.int i1]) q.2) else none := go_cv1 (as := []) (rest := [.int i1]) (L := [.ref r0]) ke_113_24 rfl rfl rfl
theorem ke_113_27 : alook 113 27 = some (27, .if_icmp .ge 26, 3, (53, 0, 0, 0, 0), ⟨"", "", ""⟩, "") := rfl
theorem ee_113_27 {d : Nat} {ls st : List Value} {h : aH} {x y : Int32} : go d 113 27 ls (.int y :: .int x :: st) h = if y ≤ x then go d 113 53 ls st h else go d 113 30 ls st h := go_ci (go_if2 (tg := 53) (q := 30) (f := fun x y => decide (y ≤ x)) ke_113_27 rfl)
theorem ke_113_30 : alook 113 30 = some (30, .aload_n 0, 1, (0, 0, 0, 0, 0), ⟨"", "", ""⟩, "") := rfl
theorem ee_113_30 {d : Nat} {h : aH} {l1 l2 : Value} {x : Nat} {st : List Value} : go d 113 30 [.ref x, l1, l2] st h = go d 113 31 [.ref x, l1, l2] (.ref x :: st) h := go_plain (q := (31, [.ref x, l1, l2], (.ref x :: st), h)) ke_113_30 rfl
theorem ee_113_30N {d : Nat} {h : aH} {l1 l2 : Value} {st : List Value} : go d 113 30 [.null, l1, l2] st h = go d 113 31 [.null, l1, l2] (.null :: st) h := go_plain (q := (31, [.null, l1, l2], (.null :: st), h)) ke_113_30 rfl
theorem ke_113_31 : alook 113 31 = some (31, .getfield 7, 3, (0, 8, 8, 2, 0), ⟨"", "", ""⟩, "WordHidesModel") := rfl
theorem ee_113_31 {d : Nat} {ls st : List Value} {h : aH} {r : Nat} : go d 113 31 ls (.ref r :: st) h = (gf h r 0 8 8).bind fun z => go d 113 34 ls (z :: st) h := go_getf ke_113_31
theorem ke_113_34 : alook 113 34 = some (34, .iconst 1, 1, (0, 0, 0, 0, 0), ⟨"", "", ""⟩, "") := rfl
theorem ee_113_34 {d : Nat} {h : aH} {ls st : List Value} : go d 113 34 ls st h = go d 113 35 ls (.int 1 :: st) h := go_plain (q := (35, ls, (.int 1 :: st), h)) ke_113_34 rfl
theorem ke_113_35 : alook 113 35 = some (35, .iload_n 2, 1, (0, 0, 0, 0, 0), ⟨"", "", ""⟩, "") := rfl
theorem ee_113_35 {d : Nat} {h : aH} {l0 l1 : Value} {x : Int32} {st : List Value} : go d 113 35 [l0, l1, .int x] st h = go d 113 36 [l0, l1, .int x] (.int x :: st) h := go_plain (q := (36, [l0, l1, .int x], (.int x :: st), h)) ke_113_35 rfl
theorem ke_113_36 : alook 113 36 = some (36, .iadd, 1, (0, 0, 0, 0, 0), ⟨"", "", ""⟩, "") := rfl
theorem ee_113_36 {d : Nat} {h : aH} {ls st : List Value} {x y : Int32} : go d 113 36 ls (.int y :: .int x :: st) h = go d 113 37 ls (.int (x + y) :: st) h := go_plain (q := (37, ls, (.int (x + y) :: st), h)) ke_113_36 rfl
theorem ke_113_37 : alook 113 37 = some (37, .aload_n 0, 1, (0, 0, 0, 0, 0), ⟨"", "", ""⟩, "") := rfl
theorem ee_113_37 {d : Nat} {h : aH} {l1 l2 : Value} {x : Nat} {st : List Value} : go d 113 37 [.ref x, l1, l2] st h = go d 113 38 [.ref x, l1, l2] (.ref x :: st) h := go_plain (q := (38, [.ref x, l1, l2], (.ref x :: st), h)) ke_113_37 rfl
theorem ee_113_37N {d : Nat} {h : aH} {l1 l2 : Value} {st : List Value} : go d 113 37 [.null, l1, l2] st h = go d 113 38 [.null, l1, l2] (.null :: st) h := go_plain (q := (38, [.null, l1, l2], (.null :: st), h)) ke_113_37 rfl
theorem ke_113_38 : alook 113 38 = some (38, .getfield 23, 3, (5, 8, 8, 2, 0), ⟨"", "", ""⟩, "WordHidesModel") := rfl
theorem ee_113_38 {d : Nat} {ls st : List Value} {h : aH} {r : Nat} : go d 113 38 ls (.ref r :: st) h = (gf h r 5 8 8).bind fun z => go d 113 41 ls (z :: st) h := go_getf ke_113_38
theorem ke_113_41 : alook 113 41 = some (41, .bipush 64, 2, (0, 0, 0, 0, 0), ⟨"", "", ""⟩, "") := rfl
theorem ee_113_41 {d : Nat} {h : aH} {ls st : List Value} : go d 113 41 ls st h = go d 113 43 ls (.int 64 :: st) h := go_plain (q := (43, ls, (.int 64 :: st), h)) ke_113_41 rfl
theorem ke_113_43 : alook 113 43 = some (43, .iload_n 2, 1, (0, 0, 0, 0, 0), ⟨"", "", ""⟩, "") := rfl
theorem ee_113_43 {d : Nat} {h : aH} {l0 l1 : Value} {x : Int32} {st : List Value} : go d 113 43 [l0, l1, .int x] st h = go d 113 44 [l0, l1, .int x] (.int x :: st) h := go_plain (q := (44, [l0, l1, .int x], (.int x :: st), h)) ke_113_43 rfl
theorem ke_113_44 : alook 113 44 = some (44, .iadd, 1, (0, 0, 0, 0, 0), ⟨"", "", ""⟩, "") := rfl
theorem ee_113_44 {d : Nat} {h : aH} {ls st : List Value} {x y : Int32} : go d 113 44 ls (.int y :: .int x :: st) h = go d 113 45 ls (.int (x + y) :: st) h := go_plain (q := (45, ls, (.int (x + y) :: st), h)) ke_113_44 rfl
theorem ke_113_45 : alook 113 45 = some (45, .iaload, 1, (0, 0, 0, 0, 0), ⟨"", "", ""⟩, "") := rfl
theorem ee_113_45 {d : Nat} {ls st : List Value} {h : aH} {r : Nat} {i : Int32} : go d 113 45 ls (.int i :: .ref r :: st) h = (ia h r i).bind fun z => go d 113 46 ls (.int z :: st) h := go_iald ke_113_45
theorem ke_113_46 : alook 113 46 = some (46, .iastore, 1, (0, 0, 0, 0, 0), ⟨"", "", ""⟩, "") := rfl
theorem ee_113_46 {d : Nat} {ls st : List Value} {h : aH} {r : Nat} {i x : Int32} : go d 113 46 ls (.int x :: .int i :: .ref r :: st) h = (is_ h r i x).bind fun h' => go d 113 47 ls st h' := go_iast ke_113_46
theorem ke_113_47 : alook 113 47 = some (47, .iinc 2 1, 3, (0, 0, 0, 0, 0), ⟨"", "", ""⟩, "") := rfl
theorem ee_113_47 {d : Nat} {h : aH} {l0 l1 : Value} {x : Int32} {st : List Value} : go d 113 47 [l0, l1, .int x] st h = go d 113 50 [l0, l1, .int (x + 1)] st h := go_plain (q := (50, [l0, l1, .int (x + 1)], st, h)) ke_113_47 rfl
theorem ke_113_50 : alook 113 50 = some (50, .goto (-28), 3, (22, 0, 0, 0, 0), ⟨"", "", ""⟩, "") := rfl
theorem ee_113_50 {d : Nat} {h : aH} {ls st : List Value} : go d 113 50 ls st h = go d 113 22 ls st h := go_plain (q := (22, ls, st, h)) ke_113_50 rfl
theorem ke_113_53 : alook 113 53 = some (53, .iload_n 1, 1, (0, 0, 0, 0, 0), ⟨"", "", ""⟩, "") := rfl
theorem ee_113_53 {d : Nat} {h : aH} {l0 l2 : Value} {x : Int32} {st : List Value} : go d 113 53 [l0, .int x, l2] st h = go d 113 54 [l0, .int x, l2] (.int x :: st) h := go_plain (q := (54, [l0, .int x, l2], (.int x :: st), h)) ke_113_53 rfl
theorem ke_113_54 : alook 113 54 = some (54, .ireturn, 1, (0, 0, 0, 0, 0), ⟨"", "", ""⟩, "") := rfl
theorem ee_113_54 {d : Nat} {ls : List Value} {h : aH} {v : Int32} : go d 113 54 ls [.int v] h = some (some (.int v), h) := go_iret ke_113_54
theorem ke_114_0 : alook 114 0 = some (0, .iload_n 1, 1, (0, 0, 0, 0, 0), ⟨"", "", ""⟩, "") := rfl
theorem ee_114_0 {d : Nat} {h : aH} {l0 l2 : Value} {x : Int32} {st : List Value} : go d 114 0 [l0, .int x, l2] st h = go d 114 1 [l0, .int x, l2] (.int x :: st) h := go_plain (q := (1, [l0, .int x, l2], (.int x :: st), h)) ke_114_0 rfl
theorem ke_114_1 : alook 114 1 = some (1, .iconst 0, 1, (0, 0, 0, 0, 0), ⟨"", "", ""⟩, "") := rfl
theorem ee_114_1 {d : Nat} {h : aH} {ls st : List Value} : go d 114 1 ls st h = go d 114 2 ls (.int 0 :: st) h := go_plain (q := (2, ls, (.int 0 :: st), h)) ke_114_1 rfl
theorem ke_114_2 : alook 114 2 = some (2, .iconst 1, 1, (0, 0, 0, 0, 0), ⟨"", "", ""⟩, "") := rfl
theorem ee_114_2 {d : Nat} {h : aH} {ls st : List Value} : go d 114 2 ls st h = go d 114 3 ls (.int 1 :: st) h := go_plain (q := (3, ls, (.int 1 :: st), h)) ke_114_2 rfl
theorem ke_114_3 : alook 114 3 = some (3, .invokestatic 36, 3, (3, 0, 65, 0, 0), ⟨"WordHidesModel", "in", "(III)Z"⟩, "") := rfl
theorem ee_114_3 {d : Nat} {ls : List Value} {h : aH} {i0 : Int32} {i1 : Int32} {i2 : Int32} : go (d + 1) 114 3 ls [.int i0, .int i1, .int i2] h = (go d 65 0 [.int i2, .int i1, .int i0] [] h).bind (fun q => go (d + 1) 114 6 ls (q.1.toList ++ []) q.2) := go_cs (as := [.int i2, .int i1, .int i0]) (rest := []) (L := [.int i2, .int i1, .int i0]) ke_114_3 rfl rfl rfl
theorem ke_114_6 : alook 114 6 = some (6, .ifCond .ne 6, 3, (12, 0, 0, 0, 0), ⟨"", "", ""⟩, "") := rfl
theorem ee_114_6 {d : Nat} {ls st : List Value} {h : aH} {x : Int32} : go d 114 6 ls (.int x :: st) h = if ¬ x = 0 then go d 114 12 ls st h else go d 114 9 ls st h := go_c1 (go_if1 (tg := 12) (q := 9) (f := fun x => decide (¬ x = 0)) ke_114_6 rfl)
theorem ke_114_9 : alook 114 9 = some (9, .bipush (-2), 2, (0, 0, 0, 0, 0), ⟨"", "", ""⟩, "") := rfl
theorem ee_114_9 {d : Nat} {h : aH} {ls st : List Value} : go d 114 9 ls st h = go d 114 11 ls (.int (-2) :: st) h := go_plain (q := (11, ls, (.int (-2) :: st), h)) ke_114_9 rfl
theorem ke_114_11 : alook 114 11 = some (11, .ireturn, 1, (0, 0, 0, 0, 0), ⟨"", "", ""⟩, "") := rfl
theorem ee_114_11 {d : Nat} {ls : List Value} {h : aH} {v : Int32} : go d 114 11 ls [.int v] h = some (some (.int v), h) := go_iret ke_114_11
theorem ke_114_12 : alook 114 12 = some (12, .iconst 0, 1, (0, 0, 0, 0, 0), ⟨"", "", ""⟩, "") := rfl
theorem ee_114_12 {d : Nat} {h : aH} {ls st : List Value} : go d 114 12 ls st h = go d 114 13 ls (.int 0 :: st) h := go_plain (q := (13, ls, (.int 0 :: st), h)) ke_114_12 rfl
theorem ke_114_13 : alook 114 13 = some (13, .istore_n 2, 1, (0, 0, 0, 0, 0), ⟨"", "", ""⟩, "") := rfl
theorem ee_114_13 {d : Nat} {h : aH} {l0 l1 l2 : Value} {x : Int32} {st : List Value} : go d 114 13 [l0, l1, l2] (.int x :: st) h = go d 114 14 [l0, l1, .int x] st h := go_plain (q := (14, [l0, l1, .int x], st, h)) ke_114_13 rfl
theorem ke_114_14 : alook 114 14 = some (14, .iload_n 2, 1, (0, 0, 0, 0, 0), ⟨"", "", ""⟩, "") := rfl
theorem ee_114_14 {d : Nat} {h : aH} {l0 l1 : Value} {x : Int32} {st : List Value} : go d 114 14 [l0, l1, .int x] st h = go d 114 15 [l0, l1, .int x] (.int x :: st) h := go_plain (q := (15, [l0, l1, .int x], (.int x :: st), h)) ke_114_14 rfl
theorem ke_114_15 : alook 114 15 = some (15, .bipush 59, 2, (0, 0, 0, 0, 0), ⟨"", "", ""⟩, "") := rfl
theorem ee_114_15 {d : Nat} {h : aH} {ls st : List Value} : go d 114 15 ls st h = go d 114 17 ls (.int 59 :: st) h := go_plain (q := (17, ls, (.int 59 :: st), h)) ke_114_15 rfl
theorem ke_114_17 : alook 114 17 = some (17, .if_icmp .ge 26, 3, (43, 0, 0, 0, 0), ⟨"", "", ""⟩, "") := rfl
theorem ee_114_17 {d : Nat} {ls st : List Value} {h : aH} {x y : Int32} : go d 114 17 ls (.int y :: .int x :: st) h = if y ≤ x then go d 114 43 ls st h else go d 114 20 ls st h := go_ci (go_if2 (tg := 43) (q := 20) (f := fun x y => decide (y ≤ x)) ke_114_17 rfl)
theorem ke_114_20 : alook 114 20 = some (20, .aload_n 0, 1, (0, 0, 0, 0, 0), ⟨"", "", ""⟩, "") := rfl
theorem ee_114_20 {d : Nat} {h : aH} {l1 l2 : Value} {x : Nat} {st : List Value} : go d 114 20 [.ref x, l1, l2] st h = go d 114 21 [.ref x, l1, l2] (.ref x :: st) h := go_plain (q := (21, [.ref x, l1, l2], (.ref x :: st), h)) ke_114_20 rfl
theorem ee_114_20N {d : Nat} {h : aH} {l1 l2 : Value} {st : List Value} : go d 114 20 [.null, l1, l2] st h = go d 114 21 [.null, l1, l2] (.null :: st) h := go_plain (q := (21, [.null, l1, l2], (.null :: st), h)) ke_114_20 rfl
theorem ke_114_21 : alook 114 21 = some (21, .getfield 13, 3, (1, 8, 8, 2, 0), ⟨"", "", ""⟩, "WordHidesModel") := rfl
theorem ee_114_21 {d : Nat} {ls st : List Value} {h : aH} {r : Nat} : go d 114 21 ls (.ref r :: st) h = (gf h r 1 8 8).bind fun z => go d 114 24 ls (z :: st) h := go_getf ke_114_21
theorem ke_114_24 : alook 114 24 = some (24, .bipush 59, 2, (0, 0, 0, 0, 0), ⟨"", "", ""⟩, "") := rfl
theorem ee_114_24 {d : Nat} {h : aH} {ls st : List Value} : go d 114 24 ls st h = go d 114 26 ls (.int 59 :: st) h := go_plain (q := (26, ls, (.int 59 :: st), h)) ke_114_24 rfl
theorem ke_114_26 : alook 114 26 = some (26, .iload_n 1, 1, (0, 0, 0, 0, 0), ⟨"", "", ""⟩, "") := rfl
theorem ee_114_26 {d : Nat} {h : aH} {l0 l2 : Value} {x : Int32} {st : List Value} : go d 114 26 [l0, .int x, l2] st h = go d 114 27 [l0, .int x, l2] (.int x :: st) h := go_plain (q := (27, [l0, .int x, l2], (.int x :: st), h)) ke_114_26 rfl
theorem ke_114_27 : alook 114 27 = some (27, .imul, 1, (0, 0, 0, 0, 0), ⟨"", "", ""⟩, "") := rfl
theorem ee_114_27 {d : Nat} {h : aH} {ls st : List Value} {x y : Int32} : go d 114 27 ls (.int y :: .int x :: st) h = go d 114 28 ls (.int (x * y) :: st) h := go_plain (q := (28, ls, (.int (x * y) :: st), h)) ke_114_27 rfl
theorem ke_114_28 : alook 114 28 = some (28, .iload_n 2, 1, (0, 0, 0, 0, 0), ⟨"", "", ""⟩, "") := rfl
theorem ee_114_28 {d : Nat} {h : aH} {l0 l1 : Value} {x : Int32} {st : List Value} : go d 114 28 [l0, l1, .int x] st h = go d 114 29 [l0, l1, .int x] (.int x :: st) h := go_plain (q := (29, [l0, l1, .int x], (.int x :: st), h)) ke_114_28 rfl
theorem ke_114_29 : alook 114 29 = some (29, .iadd, 1, (0, 0, 0, 0, 0), ⟨"", "", ""⟩, "") := rfl
theorem ee_114_29 {d : Nat} {h : aH} {ls st : List Value} {x y : Int32} : go d 114 29 ls (.int y :: .int x :: st) h = go d 114 30 ls (.int (x + y) :: st) h := go_plain (q := (30, ls, (.int (x + y) :: st), h)) ke_114_29 rfl
theorem ke_114_30 : alook 114 30 = some (30, .aload_n 0, 1, (0, 0, 0, 0, 0), ⟨"", "", ""⟩, "") := rfl
theorem ee_114_30 {d : Nat} {h : aH} {l1 l2 : Value} {x : Nat} {st : List Value} : go d 114 30 [.ref x, l1, l2] st h = go d 114 31 [.ref x, l1, l2] (.ref x :: st) h := go_plain (q := (31, [.ref x, l1, l2], (.ref x :: st), h)) ke_114_30 rfl
theorem ee_114_30N {d : Nat} {h : aH} {l1 l2 : Value} {st : List Value} : go d 114 30 [.null, l1, l2] st h = go d 114 31 [.null, l1, l2] (.null :: st) h := go_plain (q := (31, [.null, l1, l2], (.null :: st), h)) ke_114_30 rfl
theorem ke_114_31 : alook 114 31 = some (31, .getfield 7, 3, (0, 8, 8, 2, 0), ⟨"", "", ""⟩, "WordHidesModel") := rfl
theorem ee_114_31 {d : Nat} {ls st : List Value} {h : aH} {r : Nat} : go d 114 31 ls (.ref r :: st) h = (gf h r 0 8 8).bind fun z => go d 114 34 ls (z :: st) h := go_getf ke_114_31
theorem ke_114_34 : alook 114 34 = some (34, .iload_n 2, 1, (0, 0, 0, 0, 0), ⟨"", "", ""⟩, "") := rfl
theorem ee_114_34 {d : Nat} {h : aH} {l0 l1 : Value} {x : Int32} {st : List Value} : go d 114 34 [l0, l1, .int x] st h = go d 114 35 [l0, l1, .int x] (.int x :: st) h := go_plain (q := (35, [l0, l1, .int x], (.int x :: st), h)) ke_114_34 rfl
theorem ke_114_35 : alook 114 35 = some (35, .iaload, 1, (0, 0, 0, 0, 0), ⟨"", "", ""⟩, "") := rfl
theorem ee_114_35 {d : Nat} {ls st : List Value} {h : aH} {r : Nat} {i : Int32} : go d 114 35 ls (.int i :: .ref r :: st) h = (ia h r i).bind fun z => go d 114 36 ls (.int z :: st) h := go_iald ke_114_35
theorem ke_114_36 : alook 114 36 = some (36, .iastore, 1, (0, 0, 0, 0, 0), ⟨"", "", ""⟩, "") := rfl
theorem ee_114_36 {d : Nat} {ls st : List Value} {h : aH} {r : Nat} {i x : Int32} : go d 114 36 ls (.int x :: .int i :: .ref r :: st) h = (is_ h r i x).bind fun h' => go d 114 37 ls st h' := go_iast ke_114_36
theorem ke_114_37 : alook 114 37 = some (37, .iinc 2 1, 3, (0, 0, 0, 0, 0), ⟨"", "", ""⟩, "") := rfl
theorem ee_114_37 {d : Nat} {h : aH} {l0 l1 : Value} {x : Int32} {st : List Value} : go d 114 37 [l0, l1, .int x] st h = go d 114 40 [l0, l1, .int (x + 1)] st h := go_plain (q := (40, [l0, l1, .int (x + 1)], st, h)) ke_114_37 rfl
theorem ke_114_40 : alook 114 40 = some (40, .goto (-26), 3, (14, 0, 0, 0, 0), ⟨"", "", ""⟩, "") := rfl
theorem ee_114_40 {d : Nat} {h : aH} {ls st : List Value} : go d 114 40 ls st h = go d 114 14 ls st h := go_plain (q := (14, ls, st, h)) ke_114_40 rfl
theorem ke_114_43 : alook 114 43 = some (43, .aload_n 0, 1, (0, 0, 0, 0, 0), ⟨"", "", ""⟩, "") := rfl
theorem ee_114_43 {d : Nat} {h : aH} {l1 l2 : Value} {x : Nat} {st : List Value} : go d 114 43 [.ref x, l1, l2] st h = go d 114 44 [.ref x, l1, l2] (.ref x :: st) h := go_plain (q := (44, [.ref x, l1, l2], (.ref x :: st), h)) ke_114_43 rfl
theorem ee_114_43N {d : Nat} {h : aH} {l1 l2 : Value} {st : List Value} : go d 114 43 [.null, l1, l2] st h = go d 114 44 [.null, l1, l2] (.null :: st) h := go_plain (q := (44, [.null, l1, l2], (.null :: st), h)) ke_114_43 rfl
theorem ke_114_44 : alook 114 44 = some (44, .getfield 16, 3, (2, 8, 8, 2, 0), ⟨"", "", ""⟩, "WordHidesModel") := rfl
theorem ee_114_44 {d : Nat} {ls st : List Value} {h : aH} {r : Nat} : go d 114 44 ls (.ref r :: st) h = (gf h r 2 8 8).bind fun z => go d 114 47 ls (z :: st) h := go_getf ke_114_44
theorem ke_114_47 : alook 114 47 = some (47, .iload_n 1, 1, (0, 0, 0, 0, 0), ⟨"", "", ""⟩, "") := rfl
theorem ee_114_47 {d : Nat} {h : aH} {l0 l2 : Value} {x : Int32} {st : List Value} : go d 114 47 [l0, .int x, l2] st h = go d 114 48 [l0, .int x, l2] (.int x :: st) h := go_plain (q := (48, [l0, .int x, l2], (.int x :: st), h)) ke_114_47 rfl
theorem ke_114_48 : alook 114 48 = some (48, .iconst 1, 1, (0, 0, 0, 0, 0), ⟨"", "", ""⟩, "") := rfl
theorem ee_114_48 {d : Nat} {h : aH} {ls st : List Value} : go d 114 48 ls st h = go d 114 49 ls (.int 1 :: st) h := go_plain (q := (49, ls, (.int 1 :: st), h)) ke_114_48 rfl
theorem ke_114_49 : alook 114 49 = some (49, .bastore, 1, (0, 0, 0, 0, 0), ⟨"", "", ""⟩, "") := rfl
theorem ee_114_49 {d : Nat} {ls st : List Value} {h : aH} {r : Nat} {i x : Int32} : go d 114 49 ls (.int x :: .int i :: .ref r :: st) h = (zs h r i x).bind fun h' => go d 114 50 ls st h' := go_zast ke_114_49
theorem ke_114_50 : alook 114 50 = some (50, .iconst 1, 1, (0, 0, 0, 0, 0), ⟨"", "", ""⟩, "") := rfl
theorem ee_114_50 {d : Nat} {h : aH} {ls st : List Value} : go d 114 50 ls st h = go d 114 51 ls (.int 1 :: st) h := go_plain (q := (51, ls, (.int 1 :: st), h)) ke_114_50 rfl
theorem ke_114_51 : alook 114 51 = some (51, .ireturn, 1, (0, 0, 0, 0, 0), ⟨"", "", ""⟩, "") := rfl
theorem ee_114_51 {d : Nat} {ls : List Value} {h : aH} {v : Int32} : go d 114 51 ls [.int v] h = some (some (.int v), h) := go_iret ke_114_51
theorem ke_115_0 : alook 115 0 = some (0, .iload_n 1, 1, (0, 0, 0, 0, 0), ⟨"", "", ""⟩, "") := rfl
theorem ee_115_0 {d : Nat} {h : aH} {l0 l2 : Value} {x : Int32} {st : List Value} : go d 115 0 [l0, .int x, l2] st h = go d 115 1 [l0, .int x, l2] (.int x :: st) h := go_plain (q := (1, [l0, .int x, l2], (.int x :: st), h)) ke_115_0 rfl
theorem ke_115_1 : alook 115 1 = some (1, .iconst 0, 1, (0, 0, 0, 0, 0), ⟨"", "", ""⟩, "") := rfl
theorem ee_115_1 {d : Nat} {h : aH} {ls st : List Value} : go d 115 1 ls st h = go d 115 2 ls (.int 0 :: st) h := go_plain (q := (2, ls, (.int 0 :: st), h)) ke_115_1 rfl
theorem ke_115_2 : alook 115 2 = some (2, .iconst 1, 1, (0, 0, 0, 0, 0), ⟨"", "", ""⟩, "") := rfl
theorem ee_115_2 {d : Nat} {h : aH} {ls st : List Value} : go d 115 2 ls st h = go d 115 3 ls (.int 1 :: st) h := go_plain (q := (3, ls, (.int 1 :: st), h)) ke_115_2 rfl
theorem ke_115_3 : alook 115 3 = some (3, .invokestatic 36, 3, (3, 0, 65, 0, 0), ⟨"WordHidesModel", "in", "(III)Z"⟩, "") := rfl
theorem ee_115_3 {d : Nat} {ls : List Value} {h : aH} {i0 : Int32} {i1 : Int32} {i2 : Int32} : go (d + 1) 115 3 ls [.int i0, .int i1, .int i2] h = (go d 65 0 [.int i2, .int i1, .int i0] [] h).bind (fun q => go (d + 1) 115 6 ls (q.1.toList ++ []) q.2) := go_cs (as := [.int i2, .int i1, .int i0]) (rest := []) (L := [.int i2, .int i1, .int i0]) ke_115_3 rfl rfl rfl
theorem ke_115_6 : alook 115 6 = some (6, .ifCond .ne 6, 3, (12, 0, 0, 0, 0), ⟨"", "", ""⟩, "") := rfl
theorem ee_115_6 {d : Nat} {ls st : List Value} {h : aH} {x : Int32} : go d 115 6 ls (.int x :: st) h = if ¬ x = 0 then go d 115 12 ls st h else go d 115 9 ls st h := go_c1 (go_if1 (tg := 12) (q := 9) (f := fun x => decide (¬ x = 0)) ke_115_6 rfl)
theorem ke_115_9 : alook 115 9 = some (9, .bipush (-2), 2, (0, 0, 0, 0, 0), ⟨"", "", ""⟩, "") := rfl
theorem ee_115_9 {d : Nat} {h : aH} {ls st : List Value} : go d 115 9 ls st h = go d 115 11 ls (.int (-2) :: st) h := go_plain (q := (11, ls, (.int (-2) :: st), h)) ke_115_9 rfl
theorem ke_115_11 : alook 115 11 = some (11, .ireturn, 1, (0, 0, 0, 0, 0), ⟨"", "", ""⟩, "") := rfl
theorem ee_115_11 {d : Nat} {ls : List Value} {h : aH} {v : Int32} : go d 115 11 ls [.int v] h = some (some (.int v), h) := go_iret ke_115_11
theorem ke_115_12 : alook 115 12 = some (12, .aload_n 0, 1, (0, 0, 0, 0, 0), ⟨"", "", ""⟩, "") := rfl
theorem ee_115_12 {d : Nat} {h : aH} {l1 l2 : Value} {x : Nat} {st : List Value} : go d 115 12 [.ref x, l1, l2] st h = go d 115 13 [.ref x, l1, l2] (.ref x :: st) h := go_plain (q := (13, [.ref x, l1, l2], (.ref x :: st), h)) ke_115_12 rfl
theorem ee_115_12N {d : Nat} {h : aH} {l1 l2 : Value} {st : List Value} : go d 115 12 [.null, l1, l2] st h = go d 115 13 [.null, l1, l2] (.null :: st) h := go_plain (q := (13, [.null, l1, l2], (.null :: st), h)) ke_115_12 rfl
theorem ke_115_13 : alook 115 13 = some (13, .getfield 16, 3, (2, 8, 8, 2, 0), ⟨"", "", ""⟩, "WordHidesModel") := rfl
theorem ee_115_13 {d : Nat} {ls st : List Value} {h : aH} {r : Nat} : go d 115 13 ls (.ref r :: st) h = (gf h r 2 8 8).bind fun z => go d 115 16 ls (z :: st) h := go_getf ke_115_13
theorem ke_115_16 : alook 115 16 = some (16, .iload_n 1, 1, (0, 0, 0, 0, 0), ⟨"", "", ""⟩, "") := rfl
theorem ee_115_16 {d : Nat} {h : aH} {l0 l2 : Value} {x : Int32} {st : List Value} : go d 115 16 [l0, .int x, l2] st h = go d 115 17 [l0, .int x, l2] (.int x :: st) h := go_plain (q := (17, [l0, .int x, l2], (.int x :: st), h)) ke_115_16 rfl
theorem ke_115_17 : alook 115 17 = some (17, .baload, 1, (0, 0, 0, 0, 0), ⟨"", "", ""⟩, "") := rfl
theorem ee_115_17 {d : Nat} {ls st : List Value} {h : aH} {r : Nat} {i : Int32} : go d 115 17 ls (.int i :: .ref r :: st) h = (za h r i).bind fun z => go d 115 18 ls (.int z :: st) h := go_zald ke_115_17
theorem ke_115_18 : alook 115 18 = some (18, .ifCond .ne 6, 3, (24, 0, 0, 0, 0), ⟨"", "", ""⟩, "") := rfl
theorem ee_115_18 {d : Nat} {ls st : List Value} {h : aH} {x : Int32} : go d 115 18 ls (.int x :: st) h = if ¬ x = 0 then go d 115 24 ls st h else go d 115 21 ls st h := go_c1 (go_if1 (tg := 24) (q := 21) (f := fun x => decide (¬ x = 0)) ke_115_18 rfl)
theorem ke_115_21 : alook 115 21 = some (21, .bipush (-3), 2, (0, 0, 0, 0, 0), ⟨"", "", ""⟩, "") := rfl
theorem ee_115_21 {d : Nat} {h : aH} {ls st : List Value} : go d 115 21 ls st h = go d 115 23 ls (.int (-3) :: st) h := go_plain (q := (23, ls, (.int (-3) :: st), h)) ke_115_21 rfl
theorem ke_115_23 : alook 115 23 = some (23, .ireturn, 1, (0, 0, 0, 0, 0), ⟨"", "", ""⟩, "") := rfl
theorem ee_115_23 {d : Nat} {ls : List Value} {h : aH} {v : Int32} : go d 115 23 ls [.int v] h = some (some (.int v), h) := go_iret ke_115_23
theorem ke_115_24 : alook 115 24 = some (24, .iconst 0, 1, (0, 0, 0, 0, 0), ⟨"", "", ""⟩, "") := rfl
theorem ee_115_24 {d : Nat} {h : aH} {ls st : List Value} : go d 115 24 ls st h = go d 115 25 ls (.int 0 :: st) h := go_plain (q := (25, ls, (.int 0 :: st), h)) ke_115_24 rfl
theorem ke_115_25 : alook 115 25 = some (25, .istore_n 2, 1, (0, 0, 0, 0, 0), ⟨"", "", ""⟩, "") := rfl
theorem ee_115_25 {d : Nat} {h : aH} {l0 l1 l2 : Value} {x : Int32} {st : List Value} : go d 115 25 [l0, l1, l2] (.int x :: st) h = go d 115 26 [l0, l1, .int x] st h := go_plain (q := (26, [l0, l1, .int x], st, h)) ke_115_25 rfl
theorem ke_115_26 : alook 115 26 = some (26, .iload_n 2, 1, (0, 0, 0, 0, 0), ⟨"", "", ""⟩, "") := rfl
theorem ee_115_26 {d : Nat} {h : aH} {l0 l1 : Value} {x : Int32} {st : List Value} : go d 115 26 [l0, l1, .int x] st h = go d 115 27 [l0, l1, .int x] (.int x :: st) h := go_plain (q := (27, [l0, l1, .int x], (.int x :: st), h)) ke_115_26 rfl
theorem ke_115_27 : alook 115 27 = some (27, .bipush 59, 2, (0, 0, 0, 0, 0), ⟨"", "", ""⟩, "") := rfl
theorem ee_115_27 {d : Nat} {h : aH} {ls st : List Value} : go d 115 27 ls st h = go d 115 29 ls (.int 59 :: st) h := go_plain (q := (29, ls, (.int 59 :: st), h)) ke_115_27 rfl
theorem ke_115_29 : alook 115 29 = some (29, .if_icmp .ge 26, 3, (55, 0, 0, 0, 0), ⟨"", "", ""⟩, "") := rfl
theorem ee_115_29 {d : Nat} {ls st : List Value} {h : aH} {x y : Int32} : go d 115 29 ls (.int y :: .int x :: st) h = if y ≤ x then go d 115 55 ls st h else go d 115 32 ls st h := go_ci (go_if2 (tg := 55) (q := 32) (f := fun x y => decide (y ≤ x)) ke_115_29 rfl)
theorem ke_115_32 : alook 115 32 = some (32, .aload_n 0, 1, (0, 0, 0, 0, 0), ⟨"", "", ""⟩, "") := rfl
theorem ee_115_32 {d : Nat} {h : aH} {l1 l2 : Value} {x : Nat} {st : List Value} : go d 115 32 [.ref x, l1, l2] st h = go d 115 33 [.ref x, l1, l2] (.ref x :: st) h := go_plain (q := (33, [.ref x, l1, l2], (.ref x :: st), h)) ke_115_32 rfl
theorem ee_115_32N {d : Nat} {h : aH} {l1 l2 : Value} {st : List Value} : go d 115 32 [.null, l1, l2] st h = go d 115 33 [.null, l1, l2] (.null :: st) h := go_plain (q := (33, [.null, l1, l2], (.null :: st), h)) ke_115_32 rfl
theorem ke_115_33 : alook 115 33 = some (33, .getfield 7, 3, (0, 8, 8, 2, 0), ⟨"", "", ""⟩, "WordHidesModel") := rfl
theorem ee_115_33 {d : Nat} {ls st : List Value} {h : aH} {r : Nat} : go d 115 33 ls (.ref r :: st) h = (gf h r 0 8 8).bind fun z => go d 115 36 ls (z :: st) h := go_getf ke_115_33
theorem ke_115_36 : alook 115 36 = some (36, .iload_n 2, 1, (0, 0, 0, 0, 0), ⟨"", "", ""⟩, "") := rfl
theorem ee_115_36 {d : Nat} {h : aH} {l0 l1 : Value} {x : Int32} {st : List Value} : go d 115 36 [l0, l1, .int x] st h = go d 115 37 [l0, l1, .int x] (.int x :: st) h := go_plain (q := (37, [l0, l1, .int x], (.int x :: st), h)) ke_115_36 rfl
theorem ke_115_37 : alook 115 37 = some (37, .aload_n 0, 1, (0, 0, 0, 0, 0), ⟨"", "", ""⟩, "") := rfl
theorem ee_115_37 {d : Nat} {h : aH} {l1 l2 : Value} {x : Nat} {st : List Value} : go d 115 37 [.ref x, l1, l2] st h = go d 115 38 [.ref x, l1, l2] (.ref x :: st) h := go_plain (q := (38, [.ref x, l1, l2], (.ref x :: st), h)) ke_115_37 rfl
theorem ee_115_37N {d : Nat} {h : aH} {l1 l2 : Value} {st : List Value} : go d 115 37 [.null, l1, l2] st h = go d 115 38 [.null, l1, l2] (.null :: st) h := go_plain (q := (38, [.null, l1, l2], (.null :: st), h)) ke_115_37 rfl
theorem ke_115_38 : alook 115 38 = some (38, .getfield 13, 3, (1, 8, 8, 2, 0), ⟨"", "", ""⟩, "WordHidesModel") := rfl
theorem ee_115_38 {d : Nat} {ls st : List Value} {h : aH} {r : Nat} : go d 115 38 ls (.ref r :: st) h = (gf h r 1 8 8).bind fun z => go d 115 41 ls (z :: st) h := go_getf ke_115_38
theorem ke_115_41 : alook 115 41 = some (41, .bipush 59, 2, (0, 0, 0, 0, 0), ⟨"", "", ""⟩, "") := rfl
theorem ee_115_41 {d : Nat} {h : aH} {ls st : List Value} : go d 115 41 ls st h = go d 115 43 ls (.int 59 :: st) h := go_plain (q := (43, ls, (.int 59 :: st), h)) ke_115_41 rfl
theorem ke_115_43 : alook 115 43 = some (43, .iload_n 1, 1, (0, 0, 0, 0, 0), ⟨"", "", ""⟩, "") := rfl
theorem ee_115_43 {d : Nat} {h : aH} {l0 l2 : Value} {x : Int32} {st : List Value} : go d 115 43 [l0, .int x, l2] st h = go d 115 44 [l0, .int x, l2] (.int x :: st) h := go_plain (q := (44, [l0, .int x, l2], (.int x :: st), h)) ke_115_43 rfl
theorem ke_115_44 : alook 115 44 = some (44, .imul, 1, (0, 0, 0, 0, 0), ⟨"", "", ""⟩, "") := rfl
theorem ee_115_44 {d : Nat} {h : aH} {ls st : List Value} {x y : Int32} : go d 115 44 ls (.int y :: .int x :: st) h = go d 115 45 ls (.int (x * y) :: st) h := go_plain (q := (45, ls, (.int (x * y) :: st), h)) ke_115_44 rfl
theorem ke_115_45 : alook 115 45 = some (45, .iload_n 2, 1, (0, 0, 0, 0, 0), ⟨"", "", ""⟩, "") := rfl
theorem ee_115_45 {d : Nat} {h : aH} {l0 l1 : Value} {x : Int32} {st : List Value} : go d 115 45 [l0, l1, .int x] st h = go d 115 46 [l0, l1, .int x] (.int x :: st) h := go_plain (q := (46, [l0, l1, .int x], (.int x :: st), h)) ke_115_45 rfl
theorem ke_115_46 : alook 115 46 = some (46, .iadd, 1, (0, 0, 0, 0, 0), ⟨"", "", ""⟩, "") := rfl
theorem ee_115_46 {d : Nat} {h : aH} {ls st : List Value} {x y : Int32} : go d 115 46 ls (.int y :: .int x :: st) h = go d 115 47 ls (.int (x + y) :: st) h := go_plain (q := (47, ls, (.int (x + y) :: st), h)) ke_115_46 rfl
theorem ke_115_47 : alook 115 47 = some (47, .iaload, 1, (0, 0, 0, 0, 0), ⟨"", "", ""⟩, "") := rfl
theorem ee_115_47 {d : Nat} {ls st : List Value} {h : aH} {r : Nat} {i : Int32} : go d 115 47 ls (.int i :: .ref r :: st) h = (ia h r i).bind fun z => go d 115 48 ls (.int z :: st) h := go_iald ke_115_47
theorem ke_115_48 : alook 115 48 = some (48, .iastore, 1, (0, 0, 0, 0, 0), ⟨"", "", ""⟩, "") := rfl
theorem ee_115_48 {d : Nat} {ls st : List Value} {h : aH} {r : Nat} {i x : Int32} : go d 115 48 ls (.int x :: .int i :: .ref r :: st) h = (is_ h r i x).bind fun h' => go d 115 49 ls st h' := go_iast ke_115_48
theorem ke_115_49 : alook 115 49 = some (49, .iinc 2 1, 3, (0, 0, 0, 0, 0), ⟨"", "", ""⟩, "") := rfl
theorem ee_115_49 {d : Nat} {h : aH} {l0 l1 : Value} {x : Int32} {st : List Value} : go d 115 49 [l0, l1, .int x] st h = go d 115 52 [l0, l1, .int (x + 1)] st h := go_plain (q := (52, [l0, l1, .int (x + 1)], st, h)) ke_115_49 rfl
theorem ke_115_52 : alook 115 52 = some (52, .goto (-26), 3, (26, 0, 0, 0, 0), ⟨"", "", ""⟩, "") := rfl
theorem ee_115_52 {d : Nat} {h : aH} {ls st : List Value} : go d 115 52 ls st h = go d 115 26 ls st h := go_plain (q := (26, ls, st, h)) ke_115_52 rfl
theorem ke_115_55 : alook 115 55 = some (55, .iconst 1, 1, (0, 0, 0, 0, 0), ⟨"", "", ""⟩, "") := rfl
theorem ee_115_55 {d : Nat} {h : aH} {ls st : List Value} : go d 115 55 ls st h = go d 115 56 ls (.int 1 :: st) h := go_plain (q := (56, ls, (.int 1 :: st), h)) ke_115_55 rfl
theorem ke_115_56 : alook 115 56 = some (56, .ireturn, 1, (0, 0, 0, 0, 0), ⟨"", "", ""⟩, "") := rfl
theorem ee_115_56 {d : Nat} {ls : List Value} {h : aH} {v : Int32} : go d 115 56 ls [.int v] h = some (some (.int v), h) := go_iret ke_115_56
theorem ke_116_0 : alook 116 0 = some (0, .iconst 0, 1, (0, 0, 0, 0, 0), ⟨"", "", ""⟩, "") := rfl
theorem ee_116_0 {d : Nat} {h : aH} {ls st : List Value} : go d 116 0 ls st h = go d 116 1 ls (.int 0 :: st) h := go_plain (q := (1, ls, (.int 0 :: st), h)) ke_116_0 rfl
theorem ke_116_1 : alook 116 1 = some (1, .istore_n 1, 1, (0, 0, 0, 0, 0), ⟨"", "", ""⟩, "") := rfl
theorem ee_116_1 {d : Nat} {h : aH} {l0 l1 l2 : Value} {x : Int32} {st : List Value} : go d 116 1 [l0, l1, l2] (.int x :: st) h = go d 116 2 [l0, .int x, l2] st h := go_plain (q := (2, [l0, .int x, l2], st, h)) ke_116_1 rfl
theorem ke_116_2 : alook 116 2 = some (2, .iconst 0, 1, (0, 0, 0, 0, 0), ⟨"", "", ""⟩, "") := rfl
theorem ee_116_2 {d : Nat} {h : aH} {ls st : List Value} : go d 116 2 ls st h = go d 116 3 ls (.int 0 :: st) h := go_plain (q := (3, ls, (.int 0 :: st), h)) ke_116_2 rfl
theorem ke_116_3 : alook 116 3 = some (3, .istore_n 2, 1, (0, 0, 0, 0, 0), ⟨"", "", ""⟩, "") := rfl
theorem ee_116_3 {d : Nat} {h : aH} {l0 l1 l2 : Value} {x : Int32} {st : List Value} : go d 116 3 [l0, l1, l2] (.int x :: st) h = go d 116 4 [l0, l1, .int x] st h := go_plain (q := (4, [l0, l1, .int x], st, h)) ke_116_3 rfl
theorem ke_116_4 : alook 116 4 = some (4, .iload_n 2, 1, (0, 0, 0, 0, 0), ⟨"", "", ""⟩, "") := rfl
theorem ee_116_4 {d : Nat} {h : aH} {l0 l1 : Value} {x : Int32} {st : List Value} : go d 116 4 [l0, l1, .int x] st h = go d 116 5 [l0, l1, .int x] (.int x :: st) h := go_plain (q := (5, [l0, l1, .int x], (.int x :: st), h)) ke_116_4 rfl
theorem ke_116_5 : alook 116 5 = some (5, .aload_n 0, 1, (0, 0, 0, 0, 0), ⟨"", "", ""⟩, "") := rfl
theorem ee_116_5 {d : Nat} {h : aH} {l1 l2 : Value} {x : Nat} {st : List Value} : go d 116 5 [.ref x, l1, l2] st h = go d 116 6 [.ref x, l1, l2] (.ref x :: st) h := go_plain (q := (6, [.ref x, l1, l2], (.ref x :: st), h)) ke_116_5 rfl
theorem ee_116_5N {d : Nat} {h : aH} {l1 l2 : Value} {st : List Value} : go d 116 5 [.null, l1, l2] st h = go d 116 6 [.null, l1, l2] (.null :: st) h := go_plain (q := (6, [.null, l1, l2], (.null :: st), h)) ke_116_5 rfl
theorem ke_116_6 : alook 116 6 = some (6, .invokevirtual 32, 3, (0, 8, 66, 8, 66), ⟨"WordHidesModel", "cells", "()I"⟩, "") := rfl
theorem ee_116_6 {d : Nat} {ls : List Value} {h : aH} {r0 : Nat} {i1 : Int32} : go (d + 1) 116 6 ls [.ref r0, .int i1] h = if isC h r0 8 = true then (go d 66 0 [.ref r0] [] h).bind (fun q => go (d + 1) 116 9 ls (q.1.toList ++ [.int i1]) q.2) else none := go_cv1 (as := []) (rest := [.int i1]) (L := [.ref r0]) ke_116_6 rfl rfl rfl
theorem ke_116_9 : alook 116 9 = some (9, .if_icmp .ge 28, 3, (37, 0, 0, 0, 0), ⟨"", "", ""⟩, "") := rfl
theorem ee_116_9 {d : Nat} {ls st : List Value} {h : aH} {x y : Int32} : go d 116 9 ls (.int y :: .int x :: st) h = if y ≤ x then go d 116 37 ls st h else go d 116 12 ls st h := go_ci (go_if2 (tg := 37) (q := 12) (f := fun x y => decide (y ≤ x)) ke_116_9 rfl)
theorem ke_116_12 : alook 116 12 = some (12, .iload_n 1, 1, (0, 0, 0, 0, 0), ⟨"", "", ""⟩, "") := rfl
theorem ee_116_12 {d : Nat} {h : aH} {l0 l2 : Value} {x : Int32} {st : List Value} : go d 116 12 [l0, .int x, l2] st h = go d 116 13 [l0, .int x, l2] (.int x :: st) h := go_plain (q := (13, [l0, .int x, l2], (.int x :: st), h)) ke_116_12 rfl
theorem ke_116_13 : alook 116 13 = some (13, .aload_n 0, 1, (0, 0, 0, 0, 0), ⟨"", "", ""⟩, "") := rfl
theorem ee_116_13 {d : Nat} {h : aH} {l1 l2 : Value} {x : Nat} {st : List Value} : go d 116 13 [.ref x, l1, l2] st h = go d 116 14 [.ref x, l1, l2] (.ref x :: st) h := go_plain (q := (14, [.ref x, l1, l2], (.ref x :: st), h)) ke_116_13 rfl
theorem ee_116_13N {d : Nat} {h : aH} {l1 l2 : Value} {st : List Value} : go d 116 13 [.null, l1, l2] st h = go d 116 14 [.null, l1, l2] (.null :: st) h := go_plain (q := (14, [.null, l1, l2], (.null :: st), h)) ke_116_13 rfl
theorem ke_116_14 : alook 116 14 = some (14, .getfield 7, 3, (0, 8, 8, 2, 0), ⟨"", "", ""⟩, "WordHidesModel") := rfl
theorem ee_116_14 {d : Nat} {ls st : List Value} {h : aH} {r : Nat} : go d 116 14 ls (.ref r :: st) h = (gf h r 0 8 8).bind fun z => go d 116 17 ls (z :: st) h := go_getf ke_116_14
theorem ke_116_17 : alook 116 17 = some (17, .iconst 1, 1, (0, 0, 0, 0, 0), ⟨"", "", ""⟩, "") := rfl
theorem ee_116_17 {d : Nat} {h : aH} {ls st : List Value} : go d 116 17 ls st h = go d 116 18 ls (.int 1 :: st) h := go_plain (q := (18, ls, (.int 1 :: st), h)) ke_116_17 rfl
theorem ke_116_18 : alook 116 18 = some (18, .iload_n 2, 1, (0, 0, 0, 0, 0), ⟨"", "", ""⟩, "") := rfl
theorem ee_116_18 {d : Nat} {h : aH} {l0 l1 : Value} {x : Int32} {st : List Value} : go d 116 18 [l0, l1, .int x] st h = go d 116 19 [l0, l1, .int x] (.int x :: st) h := go_plain (q := (19, [l0, l1, .int x], (.int x :: st), h)) ke_116_18 rfl
theorem ke_116_19 : alook 116 19 = some (19, .iadd, 1, (0, 0, 0, 0, 0), ⟨"", "", ""⟩, "") := rfl
theorem ee_116_19 {d : Nat} {h : aH} {ls st : List Value} {x y : Int32} : go d 116 19 ls (.int y :: .int x :: st) h = go d 116 20 ls (.int (x + y) :: st) h := go_plain (q := (20, ls, (.int (x + y) :: st), h)) ke_116_19 rfl
theorem ke_116_20 : alook 116 20 = some (20, .iaload, 1, (0, 0, 0, 0, 0), ⟨"", "", ""⟩, "") := rfl
theorem ee_116_20 {d : Nat} {ls st : List Value} {h : aH} {r : Nat} {i : Int32} : go d 116 20 ls (.int i :: .ref r :: st) h = (ia h r i).bind fun z => go d 116 21 ls (.int z :: st) h := go_iald ke_116_20
theorem ke_116_21 : alook 116 21 = some (21, .ifCond .ne 7, 3, (28, 0, 0, 0, 0), ⟨"", "", ""⟩, "") := rfl
theorem ee_116_21 {d : Nat} {ls st : List Value} {h : aH} {x : Int32} : go d 116 21 ls (.int x :: st) h = if ¬ x = 0 then go d 116 28 ls st h else go d 116 24 ls st h := go_c1 (go_if1 (tg := 28) (q := 24) (f := fun x => decide (¬ x = 0)) ke_116_21 rfl)
theorem ke_116_24 : alook 116 24 = some (24, .iconst 1, 1, (0, 0, 0, 0, 0), ⟨"", "", ""⟩, "") := rfl
theorem ee_116_24 {d : Nat} {h : aH} {ls st : List Value} : go d 116 24 ls st h = go d 116 25 ls (.int 1 :: st) h := go_plain (q := (25, ls, (.int 1 :: st), h)) ke_116_24 rfl
theorem ke_116_25 : alook 116 25 = some (25, .goto 4, 3, (29, 0, 0, 0, 0), ⟨"", "", ""⟩, "") := rfl
theorem ee_116_25 {d : Nat} {h : aH} {ls st : List Value} : go d 116 25 ls st h = go d 116 29 ls st h := go_plain (q := (29, ls, st, h)) ke_116_25 rfl
theorem ke_116_28 : alook 116 28 = some (28, .iconst 0, 1, (0, 0, 0, 0, 0), ⟨"", "", ""⟩, "") := rfl
theorem ee_116_28 {d : Nat} {h : aH} {ls st : List Value} : go d 116 28 ls st h = go d 116 29 ls (.int 0 :: st) h := go_plain (q := (29, ls, (.int 0 :: st), h)) ke_116_28 rfl
theorem ke_116_29 : alook 116 29 = some (29, .iadd, 1, (0, 0, 0, 0, 0), ⟨"", "", ""⟩, "") := rfl
theorem ee_116_29 {d : Nat} {h : aH} {ls st : List Value} {x y : Int32} : go d 116 29 ls (.int y :: .int x :: st) h = go d 116 30 ls (.int (x + y) :: st) h := go_plain (q := (30, ls, (.int (x + y) :: st), h)) ke_116_29 rfl
theorem ke_116_30 : alook 116 30 = some (30, .istore_n 1, 1, (0, 0, 0, 0, 0), ⟨"", "", ""⟩, "") := rfl
theorem ee_116_30 {d : Nat} {h : aH} {l0 l1 l2 : Value} {x : Int32} {st : List Value} : go d 116 30 [l0, l1, l2] (.int x :: st) h = go d 116 31 [l0, .int x, l2] st h := go_plain (q := (31, [l0, .int x, l2], st, h)) ke_116_30 rfl
theorem ke_116_31 : alook 116 31 = some (31, .iinc 2 1, 3, (0, 0, 0, 0, 0), ⟨"", "", ""⟩, "") := rfl
theorem ee_116_31 {d : Nat} {h : aH} {l0 l1 : Value} {x : Int32} {st : List Value} : go d 116 31 [l0, l1, .int x] st h = go d 116 34 [l0, l1, .int (x + 1)] st h := go_plain (q := (34, [l0, l1, .int (x + 1)], st, h)) ke_116_31 rfl
theorem ke_116_34 : alook 116 34 = some (34, .goto (-30), 3, (4, 0, 0, 0, 0), ⟨"", "", ""⟩, "") := rfl
theorem ee_116_34 {d : Nat} {h : aH} {ls st : List Value} : go d 116 34 ls st h = go d 116 4 ls st h := go_plain (q := (4, ls, st, h)) ke_116_34 rfl
theorem ke_116_37 : alook 116 37 = some (37, .iload_n 1, 1, (0, 0, 0, 0, 0), ⟨"", "", ""⟩, "") := rfl
theorem ee_116_37 {d : Nat} {h : aH} {l0 l2 : Value} {x : Int32} {st : List Value} : go d 116 37 [l0, .int x, l2] st h = go d 116 38 [l0, .int x, l2] (.int x :: st) h := go_plain (q := (38, [l0, .int x, l2], (.int x :: st), h)) ke_116_37 rfl
theorem ke_116_38 : alook 116 38 = some (38, .ireturn, 1, (0, 0, 0, 0, 0), ⟨"", "", ""⟩, "") := rfl
theorem ee_116_38 {d : Nat} {ls : List Value} {h : aH} {v : Int32} : go d 116 38 ls [.int v] h = some (some (.int v), h) := go_iret ke_116_38
theorem ke_117_0 : alook 117 0 = some (0, .iconst 0, 1, (0, 0, 0, 0, 0), ⟨"", "", ""⟩, "") := rfl
theorem ee_117_0 {d : Nat} {h : aH} {ls st : List Value} : go d 117 0 ls st h = go d 117 1 ls (.int 0 :: st) h := go_plain (q := (1, ls, (.int 0 :: st), h)) ke_117_0 rfl
theorem ke_117_1 : alook 117 1 = some (1, .istore_n 1, 1, (0, 0, 0, 0, 0), ⟨"", "", ""⟩, "") := rfl
theorem ee_117_1 {d : Nat} {h : aH} {l0 l1 l2 l3 : Value} {x : Int32} {st : List Value} : go d 117 1 [l0, l1, l2, l3] (.int x :: st) h = go d 117 2 [l0, .int x, l2, l3] st h := go_plain (q := (2, [l0, .int x, l2, l3], st, h)) ke_117_1 rfl
theorem ke_117_2 : alook 117 2 = some (2, .iconst 0, 1, (0, 0, 0, 0, 0), ⟨"", "", ""⟩, "") := rfl
theorem ee_117_2 {d : Nat} {h : aH} {ls st : List Value} : go d 117 2 ls st h = go d 117 3 ls (.int 0 :: st) h := go_plain (q := (3, ls, (.int 0 :: st), h)) ke_117_2 rfl
theorem ke_117_3 : alook 117 3 = some (3, .istore_n 2, 1, (0, 0, 0, 0, 0), ⟨"", "", ""⟩, "") := rfl
theorem ee_117_3 {d : Nat} {h : aH} {l0 l1 l2 l3 : Value} {x : Int32} {st : List Value} : go d 117 3 [l0, l1, l2, l3] (.int x :: st) h = go d 117 4 [l0, l1, .int x, l3] st h := go_plain (q := (4, [l0, l1, .int x, l3], st, h)) ke_117_3 rfl
theorem ke_117_4 : alook 117 4 = some (4, .iload_n 2, 1, (0, 0, 0, 0, 0), ⟨"", "", ""⟩, "") := rfl
theorem ee_117_4 {d : Nat} {h : aH} {l0 l1 l3 : Value} {x : Int32} {st : List Value} : go d 117 4 [l0, l1, .int x, l3] st h = go d 117 5 [l0, l1, .int x, l3] (.int x :: st) h := go_plain (q := (5, [l0, l1, .int x, l3], (.int x :: st), h)) ke_117_4 rfl
theorem ke_117_5 : alook 117 5 = some (5, .aload_n 0, 1, (0, 0, 0, 0, 0), ⟨"", "", ""⟩, "") := rfl
theorem ee_117_5 {d : Nat} {h : aH} {l1 l2 l3 : Value} {x : Nat} {st : List Value} : go d 117 5 [.ref x, l1, l2, l3] st h = go d 117 6 [.ref x, l1, l2, l3] (.ref x :: st) h := go_plain (q := (6, [.ref x, l1, l2, l3], (.ref x :: st), h)) ke_117_5 rfl
theorem ee_117_5N {d : Nat} {h : aH} {l1 l2 l3 : Value} {st : List Value} : go d 117 5 [.null, l1, l2, l3] st h = go d 117 6 [.null, l1, l2, l3] (.null :: st) h := go_plain (q := (6, [.null, l1, l2, l3], (.null :: st), h)) ke_117_5 rfl
theorem ke_117_6 : alook 117 6 = some (6, .invokevirtual 32, 3, (0, 8, 66, 8, 66), ⟨"WordHidesModel", "cells", "()I"⟩, "") := rfl
theorem ee_117_6 {d : Nat} {ls : List Value} {h : aH} {r0 : Nat} {i1 : Int32} : go (d + 1) 117 6 ls [.ref r0, .int i1] h = if isC h r0 8 = true then (go d 66 0 [.ref r0] [] h).bind (fun q => go (d + 1) 117 9 ls (q.1.toList ++ [.int i1]) q.2) else none := go_cv1 (as := []) (rest := [.int i1]) (L := [.ref r0]) ke_117_6 rfl rfl rfl
theorem ke_117_9 : alook 117 9 = some (9, .if_icmp .ge 40, 3, (49, 0, 0, 0, 0), ⟨"", "", ""⟩, "") := rfl
theorem ee_117_9 {d : Nat} {ls st : List Value} {h : aH} {x y : Int32} : go d 117 9 ls (.int y :: .int x :: st) h = if y ≤ x then go d 117 49 ls st h else go d 117 12 ls st h := go_ci (go_if2 (tg := 49) (q := 12) (f := fun x y => decide (y ≤ x)) ke_117_9 rfl)
theorem ke_117_12 : alook 117 12 = some (12, .iload_n 1, 1, (0, 0, 0, 0, 0), ⟨"", "", ""⟩, "") := rfl
theorem ee_117_12 {d : Nat} {h : aH} {l0 l2 l3 : Value} {x : Int32} {st : List Value} : go d 117 12 [l0, .int x, l2, l3] st h = go d 117 13 [l0, .int x, l2, l3] (.int x :: st) h := go_plain (q := (13, [l0, .int x, l2, l3], (.int x :: st), h)) ke_117_12 rfl
theorem ke_117_13 : alook 117 13 = some (13, .aload_n 0, 1, (0, 0, 0, 0, 0), ⟨"", "", ""⟩, "") := rfl
theorem ee_117_13 {d : Nat} {h : aH} {l1 l2 l3 : Value} {x : Nat} {st : List Value} : go d 117 13 [.ref x, l1, l2, l3] st h = go d 117 14 [.ref x, l1, l2, l3] (.ref x :: st) h := go_plain (q := (14, [.ref x, l1, l2, l3], (.ref x :: st), h)) ke_117_13 rfl
theorem ee_117_13N {d : Nat} {h : aH} {l1 l2 l3 : Value} {st : List Value} : go d 117 13 [.null, l1, l2, l3] st h = go d 117 14 [.null, l1, l2, l3] (.null :: st) h := go_plain (q := (14, [.null, l1, l2, l3], (.null :: st), h)) ke_117_13 rfl
theorem ke_117_14 : alook 117 14 = some (14, .getfield 7, 3, (0, 8, 8, 2, 0), ⟨"", "", ""⟩, "WordHidesModel") := rfl
theorem ee_117_14 {d : Nat} {ls st : List Value} {h : aH} {r : Nat} : go d 117 14 ls (.ref r :: st) h = (gf h r 0 8 8).bind fun z => go d 117 17 ls (z :: st) h := go_getf ke_117_14
theorem ke_117_17 : alook 117 17 = some (17, .iconst 1, 1, (0, 0, 0, 0, 0), ⟨"", "", ""⟩, "") := rfl
theorem ee_117_17 {d : Nat} {h : aH} {ls st : List Value} : go d 117 17 ls st h = go d 117 18 ls (.int 1 :: st) h := go_plain (q := (18, ls, (.int 1 :: st), h)) ke_117_17 rfl
theorem ke_117_18 : alook 117 18 = some (18, .iload_n 2, 1, (0, 0, 0, 0, 0), ⟨"", "", ""⟩, "") := rfl
theorem ee_117_18 {d : Nat} {h : aH} {l0 l1 l3 : Value} {x : Int32} {st : List Value} : go d 117 18 [l0, l1, .int x, l3] st h = go d 117 19 [l0, l1, .int x, l3] (.int x :: st) h := go_plain (q := (19, [l0, l1, .int x, l3], (.int x :: st), h)) ke_117_18 rfl
theorem ke_117_19 : alook 117 19 = some (19, .iadd, 1, (0, 0, 0, 0, 0), ⟨"", "", ""⟩, "") := rfl
theorem ee_117_19 {d : Nat} {h : aH} {ls st : List Value} {x y : Int32} : go d 117 19 ls (.int y :: .int x :: st) h = go d 117 20 ls (.int (x + y) :: st) h := go_plain (q := (20, ls, (.int (x + y) :: st), h)) ke_117_19 rfl
theorem ke_117_20 : alook 117 20 = some (20, .iaload, 1, (0, 0, 0, 0, 0), ⟨"", "", ""⟩, "") := rfl
theorem ee_117_20 {d : Nat} {ls st : List Value} {h : aH} {r : Nat} {i : Int32} : go d 117 20 ls (.int i :: .ref r :: st) h = (ia h r i).bind fun z => go d 117 21 ls (.int z :: st) h := go_iald ke_117_20
theorem ke_117_21 : alook 117 21 = some (21, .ifCond .ne 7, 3, (28, 0, 0, 0, 0), ⟨"", "", ""⟩, "") := rfl
theorem ee_117_21 {d : Nat} {ls st : List Value} {h : aH} {x : Int32} : go d 117 21 ls (.int x :: st) h = if ¬ x = 0 then go d 117 28 ls st h else go d 117 24 ls st h := go_c1 (go_if1 (tg := 28) (q := 24) (f := fun x => decide (¬ x = 0)) ke_117_21 rfl)
theorem ke_117_24 : alook 117 24 = some (24, .iconst 0, 1, (0, 0, 0, 0, 0), ⟨"", "", ""⟩, "") := rfl
theorem ee_117_24 {d : Nat} {h : aH} {ls st : List Value} : go d 117 24 ls st h = go d 117 25 ls (.int 0 :: st) h := go_plain (q := (25, ls, (.int 0 :: st), h)) ke_117_24 rfl
theorem ke_117_25 : alook 117 25 = some (25, .goto 16, 3, (41, 0, 0, 0, 0), ⟨"", "", ""⟩, "") := rfl
theorem ee_117_25 {d : Nat} {h : aH} {ls st : List Value} : go d 117 25 ls st h = go d 117 41 ls st h := go_plain (q := (41, ls, st, h)) ke_117_25 rfl
theorem ke_117_28 : alook 117 28 = some (28, .iconst 1, 1, (0, 0, 0, 0, 0), ⟨"", "", ""⟩, "") := rfl
theorem ee_117_28 {d : Nat} {h : aH} {ls st : List Value} : go d 117 28 ls st h = go d 117 29 ls (.int 1 :: st) h := go_plain (q := (29, ls, (.int 1 :: st), h)) ke_117_28 rfl
theorem ke_117_29 : alook 117 29 = some (29, .aload_n 0, 1, (0, 0, 0, 0, 0), ⟨"", "", ""⟩, "") := rfl
theorem ee_117_29 {d : Nat} {h : aH} {l1 l2 l3 : Value} {x : Nat} {st : List Value} : go d 117 29 [.ref x, l1, l2, l3] st h = go d 117 30 [.ref x, l1, l2, l3] (.ref x :: st) h := go_plain (q := (30, [.ref x, l1, l2, l3], (.ref x :: st), h)) ke_117_29 rfl
theorem ee_117_29N {d : Nat} {h : aH} {l1 l2 l3 : Value} {st : List Value} : go d 117 29 [.null, l1, l2, l3] st h = go d 117 30 [.null, l1, l2, l3] (.null :: st) h := go_plain (q := (30, [.null, l1, l2, l3], (.null :: st), h)) ke_117_29 rfl
theorem ke_117_30 : alook 117 30 = some (30, .getfield 7, 3, (0, 8, 8, 2, 0), ⟨"", "", ""⟩, "WordHidesModel") := rfl
theorem ee_117_30 {d : Nat} {ls st : List Value} {h : aH} {r : Nat} : go d 117 30 ls (.ref r :: st) h = (gf h r 0 8 8).bind fun z => go d 117 33 ls (z :: st) h := go_getf ke_117_30
theorem ke_117_33 : alook 117 33 = some (33, .iconst 1, 1, (0, 0, 0, 0, 0), ⟨"", "", ""⟩, "") := rfl
theorem ee_117_33 {d : Nat} {h : aH} {ls st : List Value} : go d 117 33 ls st h = go d 117 34 ls (.int 1 :: st) h := go_plain (q := (34, ls, (.int 1 :: st), h)) ke_117_33 rfl
theorem ke_117_34 : alook 117 34 = some (34, .iload_n 2, 1, (0, 0, 0, 0, 0), ⟨"", "", ""⟩, "") := rfl
theorem ee_117_34 {d : Nat} {h : aH} {l0 l1 l3 : Value} {x : Int32} {st : List Value} : go d 117 34 [l0, l1, .int x, l3] st h = go d 117 35 [l0, l1, .int x, l3] (.int x :: st) h := go_plain (q := (35, [l0, l1, .int x, l3], (.int x :: st), h)) ke_117_34 rfl
theorem ke_117_35 : alook 117 35 = some (35, .iadd, 1, (0, 0, 0, 0, 0), ⟨"", "", ""⟩, "") := rfl
theorem ee_117_35 {d : Nat} {h : aH} {ls st : List Value} {x y : Int32} : go d 117 35 ls (.int y :: .int x :: st) h = go d 117 36 ls (.int (x + y) :: st) h := go_plain (q := (36, ls, (.int (x + y) :: st), h)) ke_117_35 rfl
theorem ke_117_36 : alook 117 36 = some (36, .iaload, 1, (0, 0, 0, 0, 0), ⟨"", "", ""⟩, "") := rfl
theorem ee_117_36 {d : Nat} {ls st : List Value} {h : aH} {r : Nat} {i : Int32} : go d 117 36 ls (.int i :: .ref r :: st) h = (ia h r i).bind fun z => go d 117 37 ls (.int z :: st) h := go_iald ke_117_36
theorem ke_117_37 : alook 117 37 = some (37, .bipush 97, 2, (0, 0, 0, 0, 0), ⟨"", "", ""⟩, "") := rfl
theorem ee_117_37 {d : Nat} {h : aH} {ls st : List Value} : go d 117 37 ls st h = go d 117 39 ls (.int 97 :: st) h := go_plain (q := (39, ls, (.int 97 :: st), h)) ke_117_37 rfl
theorem ke_117_39 : alook 117 39 = some (39, .isub, 1, (0, 0, 0, 0, 0), ⟨"", "", ""⟩, "") := rfl
theorem ee_117_39 {d : Nat} {h : aH} {ls st : List Value} {x y : Int32} : go d 117 39 ls (.int y :: .int x :: st) h = go d 117 40 ls (.int (x - y) :: st) h := go_plain (q := (40, ls, (.int (x - y) :: st), h)) ke_117_39 rfl
theorem ke_117_40 : alook 117 40 = some (40, .ishl, 1, (0, 0, 0, 0, 0), ⟨"", "", ""⟩, "") := rfl
theorem ee_117_40 {d : Nat} {h : aH} {ls st : List Value} {x y : Int32} : go d 117 40 ls (.int y :: .int x :: st) h = go d 117 41 ls (.int (x <<< (y &&& 31)) :: st) h := go_plain (q := (41, ls, (.int (x <<< (y &&& 31)) :: st), h)) ke_117_40 rfl
theorem ke_117_41 : alook 117 41 = some (41, .ior, 1, (0, 0, 0, 0, 0), ⟨"", "", ""⟩, "") := rfl
theorem ee_117_41 {d : Nat} {h : aH} {ls st : List Value} {x y : Int32} : go d 117 41 ls (.int y :: .int x :: st) h = go d 117 42 ls (.int (x ||| y) :: st) h := go_plain (q := (42, ls, (.int (x ||| y) :: st), h)) ke_117_41 rfl
theorem ke_117_42 : alook 117 42 = some (42, .istore_n 1, 1, (0, 0, 0, 0, 0), ⟨"", "", ""⟩, "") := rfl
theorem ee_117_42 {d : Nat} {h : aH} {l0 l1 l2 l3 : Value} {x : Int32} {st : List Value} : go d 117 42 [l0, l1, l2, l3] (.int x :: st) h = go d 117 43 [l0, .int x, l2, l3] st h := go_plain (q := (43, [l0, .int x, l2, l3], st, h)) ke_117_42 rfl
theorem ke_117_43 : alook 117 43 = some (43, .iinc 2 1, 3, (0, 0, 0, 0, 0), ⟨"", "", ""⟩, "") := rfl
theorem ee_117_43 {d : Nat} {h : aH} {l0 l1 l3 : Value} {x : Int32} {st : List Value} : go d 117 43 [l0, l1, .int x, l3] st h = go d 117 46 [l0, l1, .int (x + 1), l3] st h := go_plain (q := (46, [l0, l1, .int (x + 1), l3], st, h)) ke_117_43 rfl
theorem ke_117_46 : alook 117 46 = some (46, .goto (-42), 3, (4, 0, 0, 0, 0), ⟨"", "", ""⟩, "") := rfl
theorem ee_117_46 {d : Nat} {h : aH} {ls st : List Value} : go d 117 46 ls st h = go d 117 4 ls st h := go_plain (q := (4, ls, st, h)) ke_117_46 rfl
theorem ke_117_49 : alook 117 49 = some (49, .iconst 0, 1, (0, 0, 0, 0, 0), ⟨"", "", ""⟩, "") := rfl
theorem ee_117_49 {d : Nat} {h : aH} {ls st : List Value} : go d 117 49 ls st h = go d 117 50 ls (.int 0 :: st) h := go_plain (q := (50, ls, (.int 0 :: st), h)) ke_117_49 rfl
theorem ke_117_50 : alook 117 50 = some (50, .istore_n 2, 1, (0, 0, 0, 0, 0), ⟨"", "", ""⟩, "") := rfl
theorem ee_117_50 {d : Nat} {h : aH} {l0 l1 l2 l3 : Value} {x : Int32} {st : List Value} : go d 117 50 [l0, l1, l2, l3] (.int x :: st) h = go d 117 51 [l0, l1, .int x, l3] st h := go_plain (q := (51, [l0, l1, .int x, l3], st, h)) ke_117_50 rfl
theorem ke_117_51 : alook 117 51 = some (51, .iconst 0, 1, (0, 0, 0, 0, 0), ⟨"", "", ""⟩, "") := rfl
theorem ee_117_51 {d : Nat} {h : aH} {ls st : List Value} : go d 117 51 ls st h = go d 117 52 ls (.int 0 :: st) h := go_plain (q := (52, ls, (.int 0 :: st), h)) ke_117_51 rfl
theorem ke_117_52 : alook 117 52 = some (52, .istore_n 3, 1, (0, 0, 0, 0, 0), ⟨"", "", ""⟩, "") := rfl
theorem ee_117_52 {d : Nat} {h : aH} {l0 l1 l2 l3 : Value} {x : Int32} {st : List Value} : go d 117 52 [l0, l1, l2, l3] (.int x :: st) h = go d 117 53 [l0, l1, l2, .int x] st h := go_plain (q := (53, [l0, l1, l2, .int x], st, h)) ke_117_52 rfl
theorem ke_117_53 : alook 117 53 = some (53, .iload_n 3, 1, (0, 0, 0, 0, 0), ⟨"", "", ""⟩, "") := rfl
theorem ee_117_53 {d : Nat} {h : aH} {l0 l1 l2 : Value} {x : Int32} {st : List Value} : go d 117 53 [l0, l1, l2, .int x] st h = go d 117 54 [l0, l1, l2, .int x] (.int x :: st) h := go_plain (q := (54, [l0, l1, l2, .int x], (.int x :: st), h)) ke_117_53 rfl
theorem ke_117_54 : alook 117 54 = some (54, .bipush 26, 2, (0, 0, 0, 0, 0), ⟨"", "", ""⟩, "") := rfl
theorem ee_117_54 {d : Nat} {h : aH} {ls st : List Value} : go d 117 54 ls st h = go d 117 56 ls (.int 26 :: st) h := go_plain (q := (56, ls, (.int 26 :: st), h)) ke_117_54 rfl
theorem ke_117_56 : alook 117 56 = some (56, .if_icmp .ge 17, 3, (73, 0, 0, 0, 0), ⟨"", "", ""⟩, "") := rfl
theorem ee_117_56 {d : Nat} {ls st : List Value} {h : aH} {x y : Int32} : go d 117 56 ls (.int y :: .int x :: st) h = if y ≤ x then go d 117 73 ls st h else go d 117 59 ls st h := go_ci (go_if2 (tg := 73) (q := 59) (f := fun x y => decide (y ≤ x)) ke_117_56 rfl)
theorem ke_117_59 : alook 117 59 = some (59, .iload_n 2, 1, (0, 0, 0, 0, 0), ⟨"", "", ""⟩, "") := rfl
theorem ee_117_59 {d : Nat} {h : aH} {l0 l1 l3 : Value} {x : Int32} {st : List Value} : go d 117 59 [l0, l1, .int x, l3] st h = go d 117 60 [l0, l1, .int x, l3] (.int x :: st) h := go_plain (q := (60, [l0, l1, .int x, l3], (.int x :: st), h)) ke_117_59 rfl
theorem ke_117_60 : alook 117 60 = some (60, .iload_n 1, 1, (0, 0, 0, 0, 0), ⟨"", "", ""⟩, "") := rfl
theorem ee_117_60 {d : Nat} {h : aH} {l0 l2 l3 : Value} {x : Int32} {st : List Value} : go d 117 60 [l0, .int x, l2, l3] st h = go d 117 61 [l0, .int x, l2, l3] (.int x :: st) h := go_plain (q := (61, [l0, .int x, l2, l3], (.int x :: st), h)) ke_117_60 rfl
theorem ke_117_61 : alook 117 61 = some (61, .iload_n 3, 1, (0, 0, 0, 0, 0), ⟨"", "", ""⟩, "") := rfl
theorem ee_117_61 {d : Nat} {h : aH} {l0 l1 l2 : Value} {x : Int32} {st : List Value} : go d 117 61 [l0, l1, l2, .int x] st h = go d 117 62 [l0, l1, l2, .int x] (.int x :: st) h := go_plain (q := (62, [l0, l1, l2, .int x], (.int x :: st), h)) ke_117_61 rfl
theorem ke_117_62 : alook 117 62 = some (62, .ishr, 1, (0, 0, 0, 0, 0), ⟨"", "", ""⟩, "") := rfl
theorem ee_117_62 {d : Nat} {h : aH} {ls st : List Value} {x y : Int32} : go d 117 62 ls (.int y :: .int x :: st) h = go d 117 63 ls (.int (x >>> (y &&& 31)) :: st) h := go_plain (q := (63, ls, (.int (x >>> (y &&& 31)) :: st), h)) ke_117_62 rfl
theorem ke_117_63 : alook 117 63 = some (63, .iconst 1, 1, (0, 0, 0, 0, 0), ⟨"", "", ""⟩, "") := rfl
theorem ee_117_63 {d : Nat} {h : aH} {ls st : List Value} : go d 117 63 ls st h = go d 117 64 ls (.int 1 :: st) h := go_plain (q := (64, ls, (.int 1 :: st), h)) ke_117_63 rfl
theorem ke_117_64 : alook 117 64 = some (64, .iand, 1, (0, 0, 0, 0, 0), ⟨"", "", ""⟩, "") := rfl
theorem ee_117_64 {d : Nat} {h : aH} {ls st : List Value} {x y : Int32} : go d 117 64 ls (.int y :: .int x :: st) h = go d 117 65 ls (.int (x &&& y) :: st) h := go_plain (q := (65, ls, (.int (x &&& y) :: st), h)) ke_117_64 rfl
theorem ke_117_65 : alook 117 65 = some (65, .iadd, 1, (0, 0, 0, 0, 0), ⟨"", "", ""⟩, "") := rfl
theorem ee_117_65 {d : Nat} {h : aH} {ls st : List Value} {x y : Int32} : go d 117 65 ls (.int y :: .int x :: st) h = go d 117 66 ls (.int (x + y) :: st) h := go_plain (q := (66, ls, (.int (x + y) :: st), h)) ke_117_65 rfl
theorem ke_117_66 : alook 117 66 = some (66, .istore_n 2, 1, (0, 0, 0, 0, 0), ⟨"", "", ""⟩, "") := rfl
theorem ee_117_66 {d : Nat} {h : aH} {l0 l1 l2 l3 : Value} {x : Int32} {st : List Value} : go d 117 66 [l0, l1, l2, l3] (.int x :: st) h = go d 117 67 [l0, l1, .int x, l3] st h := go_plain (q := (67, [l0, l1, .int x, l3], st, h)) ke_117_66 rfl
theorem ke_117_67 : alook 117 67 = some (67, .iinc 3 1, 3, (0, 0, 0, 0, 0), ⟨"", "", ""⟩, "") := rfl
theorem ee_117_67 {d : Nat} {h : aH} {l0 l1 l2 : Value} {x : Int32} {st : List Value} : go d 117 67 [l0, l1, l2, .int x] st h = go d 117 70 [l0, l1, l2, .int (x + 1)] st h := go_plain (q := (70, [l0, l1, l2, .int (x + 1)], st, h)) ke_117_67 rfl
theorem ke_117_70 : alook 117 70 = some (70, .goto (-17), 3, (53, 0, 0, 0, 0), ⟨"", "", ""⟩, "") := rfl
theorem ee_117_70 {d : Nat} {h : aH} {ls st : List Value} : go d 117 70 ls st h = go d 117 53 ls st h := go_plain (q := (53, ls, st, h)) ke_117_70 rfl
theorem ke_117_73 : alook 117 73 = some (73, .iload_n 2, 1, (0, 0, 0, 0, 0), ⟨"", "", ""⟩, "") := rfl
theorem ee_117_73 {d : Nat} {h : aH} {l0 l1 l3 : Value} {x : Int32} {st : List Value} : go d 117 73 [l0, l1, .int x, l3] st h = go d 117 74 [l0, l1, .int x, l3] (.int x :: st) h := go_plain (q := (74, [l0, l1, .int x, l3], (.int x :: st), h)) ke_117_73 rfl
theorem ke_117_74 : alook 117 74 = some (74, .ireturn, 1, (0, 0, 0, 0, 0), ⟨"", "", ""⟩, "") := rfl
theorem ee_117_74 {d : Nat} {ls : List Value} {h : aH} {v : Int32} : go d 117 74 ls [.int v] h = some (some (.int v), h) := go_iret ke_117_74
theorem ke_118_0 : alook 118 0 = some (0, .iload_n 1, 1, (0, 0, 0, 0, 0), ⟨"", "", ""⟩, "") := rfl
theorem ee_118_0 {d : Nat} {h : aH} {l0 : Value} {x : Int32} {st : List Value} : go d 118 0 [l0, .int x] st h = go d 118 1 [l0, .int x] (.int x :: st) h := go_plain (q := (1, [l0, .int x], (.int x :: st), h)) ke_118_0 rfl
theorem ke_118_1 : alook 118 1 = some (1, .tableswitch 107 0 6 #[43, 50, 50, 62, 67, 72, 77], 43, (0, 0, 0, 0, 0), ⟨"", "", ""⟩, "") := rfl
theorem ee_118_1_0 {d : Nat} {h : aH} {ls st : List Value} : go d 118 1 ls (.int 0 :: st) h = go d 118 44 ls st h := go_plain (q := (44, ls, st, h)) ke_118_1 rfl
theorem ee_118_1_1 {d : Nat} {h : aH} {ls st : List Value} : go d 118 1 ls (.int 1 :: st) h = go d 118 51 ls st h := go_plain (q := (51, ls, st, h)) ke_118_1 rfl
theorem ee_118_1_2 {d : Nat} {h : aH} {ls st : List Value} : go d 118 1 ls (.int 2 :: st) h = go d 118 51 ls st h := go_plain (q := (51, ls, st, h)) ke_118_1 rfl
theorem ee_118_1_3 {d : Nat} {h : aH} {ls st : List Value} : go d 118 1 ls (.int 3 :: st) h = go d 118 63 ls st h := go_plain (q := (63, ls, st, h)) ke_118_1 rfl
theorem ee_118_1_4 {d : Nat} {h : aH} {ls st : List Value} : go d 118 1 ls (.int 4 :: st) h = go d 118 68 ls st h := go_plain (q := (68, ls, st, h)) ke_118_1 rfl
theorem ee_118_1_5 {d : Nat} {h : aH} {ls st : List Value} : go d 118 1 ls (.int 5 :: st) h = go d 118 73 ls st h := go_plain (q := (73, ls, st, h)) ke_118_1 rfl
theorem ee_118_1_6 {d : Nat} {h : aH} {ls st : List Value} : go d 118 1 ls (.int 6 :: st) h = go d 118 78 ls st h := go_plain (q := (78, ls, st, h)) ke_118_1 rfl
theorem ee_118_1_d {d : Nat} {ls st : List Value} {h : aH} {x : Int32} (hx : x.toInt < 0 ∨ 6 < x.toInt) : go d 118 1 ls (.int x :: st) h = go d 118 108 ls st h := go_plain (q := (108, ls, st, h)) ke_118_1 ((if_pos hx).trans rfl)
theorem ke_118_44 : alook 118 44 = some (44, .aload_n 0, 1, (0, 0, 0, 0, 0), ⟨"", "", ""⟩, "") := rfl
theorem ee_118_44 {d : Nat} {h : aH} {l1 : Value} {x : Nat} {st : List Value} : go d 118 44 [.ref x, l1] st h = go d 118 45 [.ref x, l1] (.ref x :: st) h := go_plain (q := (45, [.ref x, l1], (.ref x :: st), h)) ke_118_44 rfl
theorem ee_118_44N {d : Nat} {h : aH} {l1 : Value} {st : List Value} : go d 118 44 [.null, l1] st h = go d 118 45 [.null, l1] (.null :: st) h := go_plain (q := (45, [.null, l1], (.null :: st), h)) ke_118_44 rfl
theorem ke_118_45 : alook 118 45 = some (45, .getfield 7, 3, (0, 8, 8, 2, 0), ⟨"", "", ""⟩, "WordHidesModel") := rfl
theorem ee_118_45 {d : Nat} {ls st : List Value} {h : aH} {r : Nat} : go d 118 45 ls (.ref r :: st) h = (gf h r 0 8 8).bind fun z => go d 118 48 ls (z :: st) h := go_getf ke_118_45
theorem ke_118_48 : alook 118 48 = some (48, .iconst 0, 1, (0, 0, 0, 0, 0), ⟨"", "", ""⟩, "") := rfl
theorem ee_118_48 {d : Nat} {h : aH} {ls st : List Value} : go d 118 48 ls st h = go d 118 49 ls (.int 0 :: st) h := go_plain (q := (49, ls, (.int 0 :: st), h)) ke_118_48 rfl
theorem ke_118_49 : alook 118 49 = some (49, .iaload, 1, (0, 0, 0, 0, 0), ⟨"", "", ""⟩, "") := rfl
theorem ee_118_49 {d : Nat} {ls st : List Value} {h : aH} {r : Nat} {i : Int32} : go d 118 49 ls (.int i :: .ref r :: st) h = (ia h r i).bind fun z => go d 118 50 ls (.int z :: st) h := go_iald ke_118_49
theorem ke_118_50 : alook 118 50 = some (50, .ireturn, 1, (0, 0, 0, 0, 0), ⟨"", "", ""⟩, "") := rfl
theorem ee_118_50 {d : Nat} {ls : List Value} {h : aH} {v : Int32} : go d 118 50 ls [.int v] h = some (some (.int v), h) := go_iret ke_118_50
theorem ke_118_51 : alook 118 51 = some (51, .aload_n 0, 1, (0, 0, 0, 0, 0), ⟨"", "", ""⟩, "") := rfl
theorem ee_118_51 {d : Nat} {h : aH} {l1 : Value} {x : Nat} {st : List Value} : go d 118 51 [.ref x, l1] st h = go d 118 52 [.ref x, l1] (.ref x :: st) h := go_plain (q := (52, [.ref x, l1], (.ref x :: st), h)) ke_118_51 rfl
theorem ee_118_51N {d : Nat} {h : aH} {l1 : Value} {st : List Value} : go d 118 51 [.null, l1] st h = go d 118 52 [.null, l1] (.null :: st) h := go_plain (q := (52, [.null, l1], (.null :: st), h)) ke_118_51 rfl
theorem ke_118_52 : alook 118 52 = some (52, .getfield 7, 3, (0, 8, 8, 2, 0), ⟨"", "", ""⟩, "WordHidesModel") := rfl
theorem ee_118_52 {d : Nat} {ls st : List Value} {h : aH} {r : Nat} : go d 118 52 ls (.ref r :: st) h = (gf h r 0 8 8).bind fun z => go d 118 55 ls (z :: st) h := go_getf ke_118_52
theorem ke_118_55 : alook 118 55 = some (55, .bipush 27, 2, (0, 0, 0, 0, 0), ⟨"", "", ""⟩, "") := rfl
theorem ee_118_55 {d : Nat} {h : aH} {ls st : List Value} : go d 118 55 ls st h = go d 118 57 ls (.int 27 :: st) h := go_plain (q := (57, ls, (.int 27 :: st), h)) ke_118_55 rfl
theorem ke_118_57 : alook 118 57 = some (57, .iload_n 1, 1, (0, 0, 0, 0, 0), ⟨"", "", ""⟩, "") := rfl
theorem ee_118_57 {d : Nat} {h : aH} {l0 : Value} {x : Int32} {st : List Value} : go d 118 57 [l0, .int x] st h = go d 118 58 [l0, .int x] (.int x :: st) h := go_plain (q := (58, [l0, .int x], (.int x :: st), h)) ke_118_57 rfl
theorem ke_118_58 : alook 118 58 = some (58, .iadd, 1, (0, 0, 0, 0, 0), ⟨"", "", ""⟩, "") := rfl
theorem ee_118_58 {d : Nat} {h : aH} {ls st : List Value} {x y : Int32} : go d 118 58 ls (.int y :: .int x :: st) h = go d 118 59 ls (.int (x + y) :: st) h := go_plain (q := (59, ls, (.int (x + y) :: st), h)) ke_118_58 rfl
theorem ke_118_59 : alook 118 59 = some (59, .iconst 1, 1, (0, 0, 0, 0, 0), ⟨"", "", ""⟩, "") := rfl
theorem ee_118_59 {d : Nat} {h : aH} {ls st : List Value} : go d 118 59 ls st h = go d 118 60 ls (.int 1 :: st) h := go_plain (q := (60, ls, (.int 1 :: st), h)) ke_118_59 rfl
theorem ke_118_60 : alook 118 60 = some (60, .isub, 1, (0, 0, 0, 0, 0), ⟨"", "", ""⟩, "") := rfl
theorem ee_118_60 {d : Nat} {h : aH} {ls st : List Value} {x y : Int32} : go d 118 60 ls (.int y :: .int x :: st) h = go d 118 61 ls (.int (x - y) :: st) h := go_plain (q := (61, ls, (.int (x - y) :: st), h)) ke_118_60 rfl
theorem ke_118_61 : alook 118 61 = some (61, .iaload, 1, (0, 0, 0, 0, 0), ⟨"", "", ""⟩, "") := rfl
theorem ee_118_61 {d : Nat} {ls st : List Value} {h : aH} {r : Nat} {i : Int32} : go d 118 61 ls (.int i :: .ref r :: st) h = (ia h r i).bind fun z => go d 118 62 ls (.int z :: st) h := go_iald ke_118_61
theorem ke_118_62 : alook 118 62 = some (62, .ireturn, 1, (0, 0, 0, 0, 0), ⟨"", "", ""⟩, "") := rfl
theorem ee_118_62 {d : Nat} {ls : List Value} {h : aH} {v : Int32} : go d 118 62 ls [.int v] h = some (some (.int v), h) := go_iret ke_118_62
theorem ke_118_63 : alook 118 63 = some (63, .aload_n 0, 1, (0, 0, 0, 0, 0), ⟨"", "", ""⟩, "") := rfl
theorem ee_118_63 {d : Nat} {h : aH} {l1 : Value} {x : Nat} {st : List Value} : go d 118 63 [.ref x, l1] st h = go d 118 64 [.ref x, l1] (.ref x :: st) h := go_plain (q := (64, [.ref x, l1], (.ref x :: st), h)) ke_118_63 rfl
theorem ee_118_63N {d : Nat} {h : aH} {l1 : Value} {st : List Value} : go d 118 63 [.null, l1] st h = go d 118 64 [.null, l1] (.null :: st) h := go_plain (q := (64, [.null, l1], (.null :: st), h)) ke_118_63 rfl
theorem ke_118_64 : alook 118 64 = some (64, .invokevirtual 165, 3, (0, 8, 116, 8, 116), ⟨"WordHidesModel", "empties", "()I"⟩, "") := rfl
theorem ee_118_64 {d : Nat} {ls : List Value} {h : aH} {r0 : Nat} : go (d + 1) 118 64 ls [.ref r0] h = if isC h r0 8 = true then (go d 116 0 [.ref r0, aU, aU] [] h).bind (fun q => go (d + 1) 118 67 ls (q.1.toList ++ []) q.2) else none := go_cv1 (as := []) (rest := []) (L := [.ref r0, aU, aU]) ke_118_64 rfl rfl rfl
theorem ke_118_67 : alook 118 67 = some (67, .ireturn, 1, (0, 0, 0, 0, 0), ⟨"", "", ""⟩, "") := rfl
theorem ee_118_67 {d : Nat} {ls : List Value} {h : aH} {v : Int32} : go d 118 67 ls [.int v] h = some (some (.int v), h) := go_iret ke_118_67
theorem ke_118_68 : alook 118 68 = some (68, .aload_n 0, 1, (0, 0, 0, 0, 0), ⟨"", "", ""⟩, "") := rfl
theorem ee_118_68 {d : Nat} {h : aH} {l1 : Value} {x : Nat} {st : List Value} : go d 118 68 [.ref x, l1] st h = go d 118 69 [.ref x, l1] (.ref x :: st) h := go_plain (q := (69, [.ref x, l1], (.ref x :: st), h)) ke_118_68 rfl
theorem ee_118_68N {d : Nat} {h : aH} {l1 : Value} {st : List Value} : go d 118 68 [.null, l1] st h = go d 118 69 [.null, l1] (.null :: st) h := go_plain (q := (69, [.null, l1], (.null :: st), h)) ke_118_68 rfl
theorem ke_118_69 : alook 118 69 = some (69, .getfield 47, 3, (4, 8, 8, 0, 0), ⟨"", "", ""⟩, "WordHidesModel") := rfl
theorem ee_118_69 {d : Nat} {ls st : List Value} {h : aH} {r : Nat} : go d 118 69 ls (.ref r :: st) h = (gf h r 4 8 8).bind fun z => go d 118 72 ls (z :: st) h := go_getf ke_118_69
theorem ke_118_72 : alook 118 72 = some (72, .ireturn, 1, (0, 0, 0, 0, 0), ⟨"", "", ""⟩, "") := rfl
theorem ee_118_72 {d : Nat} {ls : List Value} {h : aH} {v : Int32} : go d 118 72 ls [.int v] h = some (some (.int v), h) := go_iret ke_118_72
theorem ke_118_73 : alook 118 73 = some (73, .aload_n 0, 1, (0, 0, 0, 0, 0), ⟨"", "", ""⟩, "") := rfl
theorem ee_118_73 {d : Nat} {h : aH} {l1 : Value} {x : Nat} {st : List Value} : go d 118 73 [.ref x, l1] st h = go d 118 74 [.ref x, l1] (.ref x :: st) h := go_plain (q := (74, [.ref x, l1], (.ref x :: st), h)) ke_118_73 rfl
theorem ee_118_73N {d : Nat} {h : aH} {l1 : Value} {st : List Value} : go d 118 73 [.null, l1] st h = go d 118 74 [.null, l1] (.null :: st) h := go_plain (q := (74, [.null, l1], (.null :: st), h)) ke_118_73 rfl
theorem ke_118_74 : alook 118 74 = some (74, .invokevirtual 168, 3, (0, 8, 117, 8, 117), ⟨"WordHidesModel", "letters", "()I"⟩, "") := rfl
theorem ee_118_74 {d : Nat} {ls : List Value} {h : aH} {r0 : Nat} : go (d + 1) 118 74 ls [.ref r0] h = if isC h r0 8 = true then (go d 117 0 [.ref r0, aU, aU, aU] [] h).bind (fun q => go (d + 1) 118 77 ls (q.1.toList ++ []) q.2) else none := go_cv1 (as := []) (rest := []) (L := [.ref r0, aU, aU, aU]) ke_118_74 rfl rfl rfl
theorem ke_118_77 : alook 118 77 = some (77, .ireturn, 1, (0, 0, 0, 0, 0), ⟨"", "", ""⟩, "") := rfl
theorem ee_118_77 {d : Nat} {ls : List Value} {h : aH} {v : Int32} : go d 118 77 ls [.int v] h = some (some (.int v), h) := go_iret ke_118_77
theorem ke_118_78 : alook 118 78 = some (78, .aload_n 0, 1, (0, 0, 0, 0, 0), ⟨"", "", ""⟩, "") := rfl
theorem ee_118_78 {d : Nat} {h : aH} {l1 : Value} {x : Nat} {st : List Value} : go d 118 78 [.ref x, l1] st h = go d 118 79 [.ref x, l1] (.ref x :: st) h := go_plain (q := (79, [.ref x, l1], (.ref x :: st), h)) ke_118_78 rfl
theorem ee_118_78N {d : Nat} {h : aH} {l1 : Value} {st : List Value} : go d 118 78 [.null, l1] st h = go d 118 79 [.null, l1] (.null :: st) h := go_plain (q := (79, [.null, l1], (.null :: st), h)) ke_118_78 rfl
theorem ke_118_79 : alook 118 79 = some (79, .getfield 16, 3, (2, 8, 8, 2, 0), ⟨"", "", ""⟩, "WordHidesModel") := rfl
theorem ee_118_79 {d : Nat} {ls st : List Value} {h : aH} {r : Nat} : go d 118 79 ls (.ref r :: st) h = (gf h r 2 8 8).bind fun z => go d 118 82 ls (z :: st) h := go_getf ke_118_79
theorem ke_118_82 : alook 118 82 = some (82, .iconst 0, 1, (0, 0, 0, 0, 0), ⟨"", "", ""⟩, "") := rfl
theorem ee_118_82 {d : Nat} {h : aH} {ls st : List Value} : go d 118 82 ls st h = go d 118 83 ls (.int 0 :: st) h := go_plain (q := (83, ls, (.int 0 :: st), h)) ke_118_82 rfl
theorem ke_118_83 : alook 118 83 = some (83, .baload, 1, (0, 0, 0, 0, 0), ⟨"", "", ""⟩, "") := rfl
theorem ee_118_83 {d : Nat} {ls st : List Value} {h : aH} {r : Nat} {i : Int32} : go d 118 83 ls (.int i :: .ref r :: st) h = (za h r i).bind fun z => go d 118 84 ls (.int z :: st) h := go_zald ke_118_83
theorem ke_118_84 : alook 118 84 = some (84, .ifCond .eq 7, 3, (91, 0, 0, 0, 0), ⟨"", "", ""⟩, "") := rfl
theorem ee_118_84 {d : Nat} {ls st : List Value} {h : aH} {x : Int32} : go d 118 84 ls (.int x :: st) h = if x = 0 then go d 118 91 ls st h else go d 118 87 ls st h := go_c1 (go_if1 (tg := 91) (q := 87) (f := fun x => decide (x = 0)) ke_118_84 rfl)
theorem ke_118_87 : alook 118 87 = some (87, .iconst 1, 1, (0, 0, 0, 0, 0), ⟨"", "", ""⟩, "") := rfl
theorem ee_118_87 {d : Nat} {h : aH} {ls st : List Value} : go d 118 87 ls st h = go d 118 88 ls (.int 1 :: st) h := go_plain (q := (88, ls, (.int 1 :: st), h)) ke_118_87 rfl
theorem ke_118_88 : alook 118 88 = some (88, .goto 4, 3, (92, 0, 0, 0, 0), ⟨"", "", ""⟩, "") := rfl
theorem ee_118_88 {d : Nat} {h : aH} {ls st : List Value} : go d 118 88 ls st h = go d 118 92 ls st h := go_plain (q := (92, ls, st, h)) ke_118_88 rfl
theorem ke_118_91 : alook 118 91 = some (91, .iconst 0, 1, (0, 0, 0, 0, 0), ⟨"", "", ""⟩, "") := rfl
theorem ee_118_91 {d : Nat} {h : aH} {ls st : List Value} : go d 118 91 ls st h = go d 118 92 ls (.int 0 :: st) h := go_plain (q := (92, ls, (.int 0 :: st), h)) ke_118_91 rfl
theorem ke_118_92 : alook 118 92 = some (92, .aload_n 0, 1, (0, 0, 0, 0, 0), ⟨"", "", ""⟩, "") := rfl
theorem ee_118_92 {d : Nat} {h : aH} {l1 : Value} {x : Nat} {st : List Value} : go d 118 92 [.ref x, l1] st h = go d 118 93 [.ref x, l1] (.ref x :: st) h := go_plain (q := (93, [.ref x, l1], (.ref x :: st), h)) ke_118_92 rfl
theorem ee_118_92N {d : Nat} {h : aH} {l1 : Value} {st : List Value} : go d 118 92 [.null, l1] st h = go d 118 93 [.null, l1] (.null :: st) h := go_plain (q := (93, [.null, l1], (.null :: st), h)) ke_118_92 rfl
theorem ke_118_93 : alook 118 93 = some (93, .getfield 16, 3, (2, 8, 8, 2, 0), ⟨"", "", ""⟩, "WordHidesModel") := rfl
theorem ee_118_93 {d : Nat} {ls st : List Value} {h : aH} {r : Nat} : go d 118 93 ls (.ref r :: st) h = (gf h r 2 8 8).bind fun z => go d 118 96 ls (z :: st) h := go_getf ke_118_93
theorem ke_118_96 : alook 118 96 = some (96, .iconst 1, 1, (0, 0, 0, 0, 0), ⟨"", "", ""⟩, "") := rfl
theorem ee_118_96 {d : Nat} {h : aH} {ls st : List Value} : go d 118 96 ls st h = go d 118 97 ls (.int 1 :: st) h := go_plain (q := (97, ls, (.int 1 :: st), h)) ke_118_96 rfl
theorem ke_118_97 : alook 118 97 = some (97, .baload, 1, (0, 0, 0, 0, 0), ⟨"", "", ""⟩, "") := rfl
theorem ee_118_97 {d : Nat} {ls st : List Value} {h : aH} {r : Nat} {i : Int32} : go d 118 97 ls (.int i :: .ref r :: st) h = (za h r i).bind fun z => go d 118 98 ls (.int z :: st) h := go_zald ke_118_97
theorem ke_118_98 : alook 118 98 = some (98, .ifCond .eq 7, 3, (105, 0, 0, 0, 0), ⟨"", "", ""⟩, "") := rfl
theorem ee_118_98 {d : Nat} {ls st : List Value} {h : aH} {x : Int32} : go d 118 98 ls (.int x :: st) h = if x = 0 then go d 118 105 ls st h else go d 118 101 ls st h := go_c1 (go_if1 (tg := 105) (q := 101) (f := fun x => decide (x = 0)) ke_118_98 rfl)
theorem ke_118_101 : alook 118 101 = some (101, .iconst 2, 1, (0, 0, 0, 0, 0), ⟨"", "", ""⟩, "") := rfl
theorem ee_118_101 {d : Nat} {h : aH} {ls st : List Value} : go d 118 101 ls st h = go d 118 102 ls (.int 2 :: st) h := go_plain (q := (102, ls, (.int 2 :: st), h)) ke_118_101 rfl
theorem ke_118_102 : alook 118 102 = some (102, .goto 4, 3, (106, 0, 0, 0, 0), ⟨"", "", ""⟩, "") := rfl
theorem ee_118_102 {d : Nat} {h : aH} {ls st : List Value} : go d 118 102 ls st h = go d 118 106 ls st h := go_plain (q := (106, ls, st, h)) ke_118_102 rfl
theorem ke_118_105 : alook 118 105 = some (105, .iconst 0, 1, (0, 0, 0, 0, 0), ⟨"", "", ""⟩, "") := rfl
theorem ee_118_105 {d : Nat} {h : aH} {ls st : List Value} : go d 118 105 ls st h = go d 118 106 ls (.int 0 :: st) h := go_plain (q := (106, ls, (.int 0 :: st), h)) ke_118_105 rfl
theorem ke_118_106 : alook 118 106 = some (106, .iadd, 1, (0, 0, 0, 0, 0), ⟨"", "", ""⟩, "") := rfl
theorem ee_118_106 {d : Nat} {h : aH} {ls st : List Value} {x y : Int32} : go d 118 106 ls (.int y :: .int x :: st) h = go d 118 107 ls (.int (x + y) :: st) h := go_plain (q := (107, ls, (.int (x + y) :: st), h)) ke_118_106 rfl
theorem ke_118_107 : alook 118 107 = some (107, .ireturn, 1, (0, 0, 0, 0, 0), ⟨"", "", ""⟩, "") := rfl
theorem ee_118_107 {d : Nat} {ls : List Value} {h : aH} {v : Int32} : go d 118 107 ls [.int v] h = some (some (.int v), h) := go_iret ke_118_107
theorem ke_118_108 : alook 118 108 = some (108, .bipush (-2), 2, (0, 0, 0, 0, 0), ⟨"", "", ""⟩, "") := rfl
theorem ee_118_108 {d : Nat} {h : aH} {ls st : List Value} : go d 118 108 ls st h = go d 118 110 ls (.int (-2) :: st) h := go_plain (q := (110, ls, (.int (-2) :: st), h)) ke_118_108 rfl
theorem ke_118_110 : alook 118 110 = some (110, .ireturn, 1, (0, 0, 0, 0, 0), ⟨"", "", ""⟩, "") := rfl
theorem ee_118_110 {d : Nat} {ls : List Value} {h : aH} {v : Int32} : go d 118 110 ls [.int v] h = some (some (.int v), h) := go_iret ke_118_110
