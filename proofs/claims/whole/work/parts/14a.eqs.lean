/-! the program as equations -/
theorem go_cv1 {d M pc idx : Nat} {ls st : List Value} {h : aH} {x : MethodName} {rf : String} {n c0 M0 r : Nat} {as rest L : List Value} (he : alook M pc = some (pc, .invokevirtual idx, 3, (n, c0, M0, c0, M0), x, rf)) (hst : st.drop n = .ref r :: rest) (has : (st.take n).reverse = as) (hL : aent M0 (.ref r :: as) rest = some L) :
    go (d + 1) M pc ls st h = if isC h r c0 = true then (go d M0 0 L [] h).bind (fun q => go (d + 1) M (pc + 3) ls (q.1.toList ++ rest) q.2) else none := by
  rw [go_cv he hst has hL hL]
  split <;> rfl
theorem ke_1_0 : alook 1 0 = some (0, .aload_n 0, 1, (0, 0, 0, 0, 0), ⟨"", "", ""⟩, "") := rfl
theorem ee_1_0 {d : Nat} {h : aH} {l1 : Value} {x : Nat} {st : List Value} : go d 1 0 [.ref x, l1] st h = go d 1 1 [.ref x, l1] (.ref x :: st) h := go_plain (q := (1, [.ref x, l1], (.ref x :: st), h)) ke_1_0 rfl
theorem ee_1_0N {d : Nat} {h : aH} {l1 : Value} {st : List Value} : go d 1 0 [.null, l1] st h = go d 1 1 [.null, l1] (.null :: st) h := go_plain (q := (1, [.null, l1], (.null :: st), h)) ke_1_0 rfl
theorem ke_1_1 : alook 1 1 = some (1, .getfield 39, 3, (0, 0, 0, 2, 0), ⟨"", "", ""⟩, "WordHides$Board") := rfl
theorem ee_1_1 {d : Nat} {ls st : List Value} {h : aH} {r : Nat} : go d 1 1 ls (.ref r :: st) h = (gf h r 0 0 0).bind fun z => go d 1 4 ls (z :: st) h := go_getf ke_1_1
theorem ke_1_4 : alook 1 4 = some (4, .aload_n 1, 1, (0, 0, 0, 0, 0), ⟨"", "", ""⟩, "") := rfl
theorem ee_1_4 {d : Nat} {h : aH} {l0 : Value} {x : Nat} {st : List Value} : go d 1 4 [l0, .ref x] st h = go d 1 5 [l0, .ref x] (.ref x :: st) h := go_plain (q := (5, [l0, .ref x], (.ref x :: st), h)) ke_1_4 rfl
theorem ee_1_4N {d : Nat} {h : aH} {l0 : Value} {st : List Value} : go d 1 4 [l0, .null] st h = go d 1 5 [l0, .null] (.null :: st) h := go_plain (q := (5, [l0, .null], (.null :: st), h)) ke_1_4 rfl
theorem ke_1_5 : alook 1 5 = some (5, .getfield 39, 3, (0, 0, 0, 2, 0), ⟨"", "", ""⟩, "WordHides$Board") := rfl
theorem ee_1_5 {d : Nat} {ls st : List Value} {h : aH} {r : Nat} : go d 1 5 ls (.ref r :: st) h = (gf h r 0 0 0).bind fun z => go d 1 8 ls (z :: st) h := go_getf ke_1_5
theorem ke_1_8 : alook 1 8 = some (8, .invokevirtual 46, 3, (1, 4, 23, 4, 23), ⟨"WordHides$Square", "copyFrom", "(LWordHides$Square;)V"⟩, "") := rfl
theorem ee_1_8 {d : Nat} {ls : List Value} {h : aH} {r0 : Nat} {r1 : Nat} : go (d + 1) 1 8 ls [.ref r0, .ref r1] h = if isC h r1 4 = true then (go d 23 0 [.ref r1, .ref r0] [] h).bind (fun q => go (d + 1) 1 11 ls (q.1.toList ++ []) q.2) else none := go_cv1 (as := [.ref r0]) (rest := []) (L := [.ref r1, .ref r0]) ke_1_8 rfl rfl rfl
theorem ke_1_11 : alook 1 11 = some (11, .aload_n 0, 1, (0, 0, 0, 0, 0), ⟨"", "", ""⟩, "") := rfl
theorem ee_1_11 {d : Nat} {h : aH} {l1 : Value} {x : Nat} {st : List Value} : go d 1 11 [.ref x, l1] st h = go d 1 12 [.ref x, l1] (.ref x :: st) h := go_plain (q := (12, [.ref x, l1], (.ref x :: st), h)) ke_1_11 rfl
theorem ee_1_11N {d : Nat} {h : aH} {l1 : Value} {st : List Value} : go d 1 11 [.null, l1] st h = go d 1 12 [.null, l1] (.null :: st) h := go_plain (q := (12, [.null, l1], (.null :: st), h)) ke_1_11 rfl
theorem ke_1_12 : alook 1 12 = some (12, .getfield 18, 3, (1, 0, 0, 2, 0), ⟨"", "", ""⟩, "WordHides$Board") := rfl
theorem ee_1_12 {d : Nat} {ls st : List Value} {h : aH} {r : Nat} : go d 1 12 ls (.ref r :: st) h = (gf h r 1 0 0).bind fun z => go d 1 15 ls (z :: st) h := go_getf ke_1_12
theorem ke_1_15 : alook 1 15 = some (15, .aload_n 1, 1, (0, 0, 0, 0, 0), ⟨"", "", ""⟩, "") := rfl
theorem ee_1_15 {d : Nat} {h : aH} {l0 : Value} {x : Nat} {st : List Value} : go d 1 15 [l0, .ref x] st h = go d 1 16 [l0, .ref x] (.ref x :: st) h := go_plain (q := (16, [l0, .ref x], (.ref x :: st), h)) ke_1_15 rfl
theorem ee_1_15N {d : Nat} {h : aH} {l0 : Value} {st : List Value} : go d 1 15 [l0, .null] st h = go d 1 16 [l0, .null] (.null :: st) h := go_plain (q := (16, [l0, .null], (.null :: st), h)) ke_1_15 rfl
theorem ke_1_16 : alook 1 16 = some (16, .getfield 18, 3, (1, 0, 0, 2, 0), ⟨"", "", ""⟩, "WordHides$Board") := rfl
theorem ee_1_16 {d : Nat} {ls st : List Value} {h : aH} {r : Nat} : go d 1 16 ls (.ref r :: st) h = (gf h r 1 0 0).bind fun z => go d 1 19 ls (z :: st) h := go_getf ke_1_16
theorem ke_1_19 : alook 1 19 = some (19, .invokevirtual 50, 3, (1, 6, 39, 6, 39), ⟨"WordHides$TextList", "copyFrom", "(LWordHides$TextList;)V"⟩, "") := rfl
theorem ee_1_19 {d : Nat} {ls : List Value} {h : aH} {r0 : Nat} {r1 : Nat} : go (d + 1) 1 19 ls [.ref r0, .ref r1] h = if isC h r1 6 = true then (go d 39 0 [.ref r1, .ref r0, aU] [] h).bind (fun q => go (d + 1) 1 22 ls (q.1.toList ++ []) q.2) else none := go_cv1 (as := [.ref r0]) (rest := []) (L := [.ref r1, .ref r0, aU]) ke_1_19 rfl rfl rfl
theorem ke_1_22 : alook 1 22 = some (22, .aload_n 0, 1, (0, 0, 0, 0, 0), ⟨"", "", ""⟩, "") := rfl
theorem ee_1_22 {d : Nat} {h : aH} {l1 : Value} {x : Nat} {st : List Value} : go d 1 22 [.ref x, l1] st h = go d 1 23 [.ref x, l1] (.ref x :: st) h := go_plain (q := (23, [.ref x, l1], (.ref x :: st), h)) ke_1_22 rfl
theorem ee_1_22N {d : Nat} {h : aH} {l1 : Value} {st : List Value} : go d 1 22 [.null, l1] st h = go d 1 23 [.null, l1] (.null :: st) h := go_plain (q := (23, [.null, l1], (.null :: st), h)) ke_1_22 rfl
theorem ke_1_23 : alook 1 23 = some (23, .getfield 24, 3, (2, 0, 0, 2, 0), ⟨"", "", ""⟩, "WordHides$Board") := rfl
theorem ee_1_23 {d : Nat} {ls st : List Value} {h : aH} {r : Nat} : go d 1 23 ls (.ref r :: st) h = (gf h r 2 0 0).bind fun z => go d 1 26 ls (z :: st) h := go_getf ke_1_23
theorem ke_1_26 : alook 1 26 = some (26, .aload_n 1, 1, (0, 0, 0, 0, 0), ⟨"", "", ""⟩, "") := rfl
theorem ee_1_26 {d : Nat} {h : aH} {l0 : Value} {x : Nat} {st : List Value} : go d 1 26 [l0, .ref x] st h = go d 1 27 [l0, .ref x] (.ref x :: st) h := go_plain (q := (27, [l0, .ref x], (.ref x :: st), h)) ke_1_26 rfl
theorem ee_1_26N {d : Nat} {h : aH} {l0 : Value} {st : List Value} : go d 1 26 [l0, .null] st h = go d 1 27 [l0, .null] (.null :: st) h := go_plain (q := (27, [l0, .null], (.null :: st), h)) ke_1_26 rfl
theorem ke_1_27 : alook 1 27 = some (27, .getfield 24, 3, (2, 0, 0, 2, 0), ⟨"", "", ""⟩, "WordHides$Board") := rfl
theorem ee_1_27 {d : Nat} {ls st : List Value} {h : aH} {r : Nat} : go d 1 27 ls (.ref r :: st) h = (gf h r 2 0 0).bind fun z => go d 1 30 ls (z :: st) h := go_getf ke_1_27
theorem ke_1_30 : alook 1 30 = some (30, .invokevirtual 50, 3, (1, 6, 39, 6, 39), ⟨"WordHides$TextList", "copyFrom", "(LWordHides$TextList;)V"⟩, "") := rfl
theorem ee_1_30 {d : Nat} {ls : List Value} {h : aH} {r0 : Nat} {r1 : Nat} : go (d + 1) 1 30 ls [.ref r0, .ref r1] h = if isC h r1 6 = true then (go d 39 0 [.ref r1, .ref r0, aU] [] h).bind (fun q => go (d + 1) 1 33 ls (q.1.toList ++ []) q.2) else none := go_cv1 (as := [.ref r0]) (rest := []) (L := [.ref r1, .ref r0, aU]) ke_1_30 rfl rfl rfl
theorem ke_1_33 : alook 1 33 = some (33, .aload_n 0, 1, (0, 0, 0, 0, 0), ⟨"", "", ""⟩, "") := rfl
theorem ee_1_33 {d : Nat} {h : aH} {l1 : Value} {x : Nat} {st : List Value} : go d 1 33 [.ref x, l1] st h = go d 1 34 [.ref x, l1] (.ref x :: st) h := go_plain (q := (34, [.ref x, l1], (.ref x :: st), h)) ke_1_33 rfl
theorem ee_1_33N {d : Nat} {h : aH} {l1 : Value} {st : List Value} : go d 1 33 [.null, l1] st h = go d 1 34 [.null, l1] (.null :: st) h := go_plain (q := (34, [.null, l1], (.null :: st), h)) ke_1_33 rfl
theorem ke_1_34 : alook 1 34 = some (34, .getfield 30, 3, (3, 0, 0, 2, 0), ⟨"", "", ""⟩, "WordHides$Board") := rfl
theorem ee_1_34 {d : Nat} {ls st : List Value} {h : aH} {r : Nat} : go d 1 34 ls (.ref r :: st) h = (gf h r 3 0 0).bind fun z => go d 1 37 ls (z :: st) h := go_getf ke_1_34
theorem ke_1_37 : alook 1 37 = some (37, .aload_n 1, 1, (0, 0, 0, 0, 0), ⟨"", "", ""⟩, "") := rfl
theorem ee_1_37 {d : Nat} {h : aH} {l0 : Value} {x : Nat} {st : List Value} : go d 1 37 [l0, .ref x] st h = go d 1 38 [l0, .ref x] (.ref x :: st) h := go_plain (q := (38, [l0, .ref x], (.ref x :: st), h)) ke_1_37 rfl
theorem ee_1_37N {d : Nat} {h : aH} {l0 : Value} {st : List Value} : go d 1 37 [l0, .null] st h = go d 1 38 [l0, .null] (.null :: st) h := go_plain (q := (38, [l0, .null], (.null :: st), h)) ke_1_37 rfl
theorem ke_1_38 : alook 1 38 = some (38, .getfield 30, 3, (3, 0, 0, 2, 0), ⟨"", "", ""⟩, "WordHides$Board") := rfl
theorem ee_1_38 {d : Nat} {ls st : List Value} {h : aH} {r : Nat} : go d 1 38 ls (.ref r :: st) h = (gf h r 3 0 0).bind fun z => go d 1 41 ls (z :: st) h := go_getf ke_1_38
theorem ke_1_41 : alook 1 41 = some (41, .invokevirtual 53, 3, (1, 5, 34, 5, 34), ⟨"WordHides$Text", "copyFrom", "(LWordHides$Text;)V"⟩, "") := rfl
theorem ee_1_41 {d : Nat} {ls : List Value} {h : aH} {r0 : Nat} {r1 : Nat} : go (d + 1) 1 41 ls [.ref r0, .ref r1] h = if isC h r1 5 = true then (go d 34 0 [.ref r1, .ref r0] [] h).bind (fun q => go (d + 1) 1 44 ls (q.1.toList ++ []) q.2) else none := go_cv1 (as := [.ref r0]) (rest := []) (L := [.ref r1, .ref r0]) ke_1_41 rfl rfl rfl
theorem ke_1_44 : alook 1 44 = some (44, .return_, 1, (0, 0, 0, 0, 0), ⟨"", "", ""⟩, "") := rfl
theorem ee_1_44 {d : Nat} {ls : List Value} {h : aH} : go d 1 44 ls [] h = some (none, h) := go_ret ke_1_44 rfl rfl rfl
theorem ke_3_0 : alook 3 0 = some (0, .iconst 1, 1, (0, 0, 0, 0, 0), ⟨"", "", ""⟩, "") := rfl
theorem ee_3_0 {d : Nat} {h : aH} {ls st : List Value} : go d 3 0 ls st h = go d 3 1 ls (.int 1 :: st) h := go_plain (q := (1, ls, (.int 1 :: st), h)) ke_3_0 rfl
theorem ke_3_1 : alook 3 1 = some (1, .ireturn, 1, (1, 0, 0, 0, 0), ⟨"", "", ""⟩, "") := rfl
theorem ee_3_1 {d : Nat} {ls : List Value} {h : aH} : go d 3 1 ls [.int 0] h = some (some (.int 0), h) := go_zret0 ke_3_1
theorem ee_3_1T {d : Nat} {ls : List Value} {h : aH} : go d 3 1 ls [.int 1] h = some (some (.int 1), h) := go_zret1 ke_3_1
theorem ke_4_0 : alook 4 0 = some (0, .aload_n 0, 1, (0, 0, 0, 0, 0), ⟨"", "", ""⟩, "") := rfl
theorem ee_4_0 {d : Nat} {h : aH} {l1 : Value} {x : Nat} {st : List Value} : go d 4 0 [.ref x, l1] st h = go d 4 1 [.ref x, l1] (.ref x :: st) h := go_plain (q := (1, [.ref x, l1], (.ref x :: st), h)) ke_4_0 rfl
theorem ee_4_0N {d : Nat} {h : aH} {l1 : Value} {st : List Value} : go d 4 0 [.null, l1] st h = go d 4 1 [.null, l1] (.null :: st) h := go_plain (q := (1, [.null, l1], (.null :: st), h)) ke_4_0 rfl
theorem ke_4_1 : alook 4 1 = some (1, .getfield 16, 3, (3, 1, 1, 2, 0), ⟨"", "", ""⟩, "WordHides$CrossedSearch") := rfl
theorem ee_4_1 {d : Nat} {ls st : List Value} {h : aH} {r : Nat} : go d 4 1 ls (.ref r :: st) h = (gf h r 3 1 1).bind fun z => go d 4 4 ls (z :: st) h := go_getf ke_4_1
theorem ke_4_4 : alook 4 4 = some (4, .iconst 0, 1, (0, 0, 0, 0, 0), ⟨"", "", ""⟩, "") := rfl
theorem ee_4_4 {d : Nat} {h : aH} {ls st : List Value} : go d 4 4 ls st h = go d 4 5 ls (.int 0 :: st) h := go_plain (q := (5, ls, (.int 0 :: st), h)) ke_4_4 rfl
theorem ke_4_5 : alook 4 5 = some (5, .iaload, 1, (0, 0, 0, 0, 0), ⟨"", "", ""⟩, "") := rfl
theorem ee_4_5 {d : Nat} {ls st : List Value} {h : aH} {r : Nat} {i : Int32} : go d 4 5 ls (.int i :: .ref r :: st) h = (ia h r i).bind fun z => go d 4 6 ls (.int z :: st) h := go_iald ke_4_5
theorem ke_4_6 : alook 4 6 = some (6, .aload_n 0, 1, (0, 0, 0, 0, 0), ⟨"", "", ""⟩, "") := rfl
theorem ee_4_6 {d : Nat} {h : aH} {l1 : Value} {x : Nat} {st : List Value} : go d 4 6 [.ref x, l1] st h = go d 4 7 [.ref x, l1] (.ref x :: st) h := go_plain (q := (7, [.ref x, l1], (.ref x :: st), h)) ke_4_6 rfl
theorem ee_4_6N {d : Nat} {h : aH} {l1 : Value} {st : List Value} : go d 4 6 [.null, l1] st h = go d 4 7 [.null, l1] (.null :: st) h := go_plain (q := (7, [.null, l1], (.null :: st), h)) ke_4_6 rfl
theorem ke_4_7 : alook 4 7 = some (7, .getfield 16, 3, (3, 1, 1, 2, 0), ⟨"", "", ""⟩, "WordHides$CrossedSearch") := rfl
theorem ee_4_7 {d : Nat} {ls st : List Value} {h : aH} {r : Nat} : go d 4 7 ls (.ref r :: st) h = (gf h r 3 1 1).bind fun z => go d 4 10 ls (z :: st) h := go_getf ke_4_7
theorem ke_4_10 : alook 4 10 = some (10, .iconst 1, 1, (0, 0, 0, 0, 0), ⟨"", "", ""⟩, "") := rfl
theorem ee_4_10 {d : Nat} {h : aH} {ls st : List Value} : go d 4 10 ls st h = go d 4 11 ls (.int 1 :: st) h := go_plain (q := (11, ls, (.int 1 :: st), h)) ke_4_10 rfl
theorem ke_4_11 : alook 4 11 = some (11, .iaload, 1, (0, 0, 0, 0, 0), ⟨"", "", ""⟩, "") := rfl
theorem ee_4_11 {d : Nat} {ls st : List Value} {h : aH} {r : Nat} {i : Int32} : go d 4 11 ls (.int i :: .ref r :: st) h = (ia h r i).bind fun z => go d 4 12 ls (.int z :: st) h := go_iald ke_4_11
theorem ke_4_12 : alook 4 12 = some (12, .iand, 1, (0, 0, 0, 0, 0), ⟨"", "", ""⟩, "") := rfl
theorem ee_4_12 {d : Nat} {h : aH} {ls st : List Value} {x y : Int32} : go d 4 12 ls (.int y :: .int x :: st) h = go d 4 13 ls (.int (x &&& y) :: st) h := go_plain (q := (13, ls, (.int (x &&& y) :: st), h)) ke_4_12 rfl
theorem ke_4_13 : alook 4 13 = some (13, .aload_n 0, 1, (0, 0, 0, 0, 0), ⟨"", "", ""⟩, "") := rfl
theorem ee_4_13 {d : Nat} {h : aH} {l1 : Value} {x : Nat} {st : List Value} : go d 4 13 [.ref x, l1] st h = go d 4 14 [.ref x, l1] (.ref x :: st) h := go_plain (q := (14, [.ref x, l1], (.ref x :: st), h)) ke_4_13 rfl
theorem ee_4_13N {d : Nat} {h : aH} {l1 : Value} {st : List Value} : go d 4 13 [.null, l1] st h = go d 4 14 [.null, l1] (.null :: st) h := go_plain (q := (14, [.null, l1], (.null :: st), h)) ke_4_13 rfl
theorem ke_4_14 : alook 4 14 = some (14, .getfield 16, 3, (3, 1, 1, 2, 0), ⟨"", "", ""⟩, "WordHides$CrossedSearch") := rfl
theorem ee_4_14 {d : Nat} {ls st : List Value} {h : aH} {r : Nat} : go d 4 14 ls (.ref r :: st) h = (gf h r 3 1 1).bind fun z => go d 4 17 ls (z :: st) h := go_getf ke_4_14
theorem ke_4_17 : alook 4 17 = some (17, .iconst 0, 1, (0, 0, 0, 0, 0), ⟨"", "", ""⟩, "") := rfl
theorem ee_4_17 {d : Nat} {h : aH} {ls st : List Value} : go d 4 17 ls st h = go d 4 18 ls (.int 0 :: st) h := go_plain (q := (18, ls, (.int 0 :: st), h)) ke_4_17 rfl
theorem ke_4_18 : alook 4 18 = some (18, .iaload, 1, (0, 0, 0, 0, 0), ⟨"", "", ""⟩, "") := rfl
theorem ee_4_18 {d : Nat} {ls st : List Value} {h : aH} {r : Nat} {i : Int32} : go d 4 18 ls (.int i :: .ref r :: st) h = (ia h r i).bind fun z => go d 4 19 ls (.int z :: st) h := go_iald ke_4_18
theorem ke_4_19 : alook 4 19 = some (19, .aload_n 0, 1, (0, 0, 0, 0, 0), ⟨"", "", ""⟩, "") := rfl
theorem ee_4_19 {d : Nat} {h : aH} {l1 : Value} {x : Nat} {st : List Value} : go d 4 19 [.ref x, l1] st h = go d 4 20 [.ref x, l1] (.ref x :: st) h := go_plain (q := (20, [.ref x, l1], (.ref x :: st), h)) ke_4_19 rfl
theorem ee_4_19N {d : Nat} {h : aH} {l1 : Value} {st : List Value} : go d 4 19 [.null, l1] st h = go d 4 20 [.null, l1] (.null :: st) h := go_plain (q := (20, [.null, l1], (.null :: st), h)) ke_4_19 rfl
theorem ke_4_20 : alook 4 20 = some (20, .getfield 16, 3, (3, 1, 1, 2, 0), ⟨"", "", ""⟩, "WordHides$CrossedSearch") := rfl
theorem ee_4_20 {d : Nat} {ls st : List Value} {h : aH} {r : Nat} : go d 4 20 ls (.ref r :: st) h = (gf h r 3 1 1).bind fun z => go d 4 23 ls (z :: st) h := go_getf ke_4_20
theorem ke_4_23 : alook 4 23 = some (23, .iconst 2, 1, (0, 0, 0, 0, 0), ⟨"", "", ""⟩, "") := rfl
theorem ee_4_23 {d : Nat} {h : aH} {ls st : List Value} : go d 4 23 ls st h = go d 4 24 ls (.int 2 :: st) h := go_plain (q := (24, ls, (.int 2 :: st), h)) ke_4_23 rfl
theorem ke_4_24 : alook 4 24 = some (24, .iaload, 1, (0, 0, 0, 0, 0), ⟨"", "", ""⟩, "") := rfl
theorem ee_4_24 {d : Nat} {ls st : List Value} {h : aH} {r : Nat} {i : Int32} : go d 4 24 ls (.int i :: .ref r :: st) h = (ia h r i).bind fun z => go d 4 25 ls (.int z :: st) h := go_iald ke_4_24
theorem ke_4_25 : alook 4 25 = some (25, .iand, 1, (0, 0, 0, 0, 0), ⟨"", "", ""⟩, "") := rfl
theorem ee_4_25 {d : Nat} {h : aH} {ls st : List Value} {x y : Int32} : go d 4 25 ls (.int y :: .int x :: st) h = go d 4 26 ls (.int (x &&& y) :: st) h := go_plain (q := (26, ls, (.int (x &&& y) :: st), h)) ke_4_25 rfl
theorem ke_4_26 : alook 4 26 = some (26, .ior, 1, (0, 0, 0, 0, 0), ⟨"", "", ""⟩, "") := rfl
theorem ee_4_26 {d : Nat} {h : aH} {ls st : List Value} {x y : Int32} : go d 4 26 ls (.int y :: .int x :: st) h = go d 4 27 ls (.int (x ||| y) :: st) h := go_plain (q := (27, ls, (.int (x ||| y) :: st), h)) ke_4_26 rfl
theorem ke_4_27 : alook 4 27 = some (27, .aload_n 0, 1, (0, 0, 0, 0, 0), ⟨"", "", ""⟩, "") := rfl
theorem ee_4_27 {d : Nat} {h : aH} {l1 : Value} {x : Nat} {st : List Value} : go d 4 27 [.ref x, l1] st h = go d 4 28 [.ref x, l1] (.ref x :: st) h := go_plain (q := (28, [.ref x, l1], (.ref x :: st), h)) ke_4_27 rfl
theorem ee_4_27N {d : Nat} {h : aH} {l1 : Value} {st : List Value} : go d 4 27 [.null, l1] st h = go d 4 28 [.null, l1] (.null :: st) h := go_plain (q := (28, [.null, l1], (.null :: st), h)) ke_4_27 rfl
theorem ke_4_28 : alook 4 28 = some (28, .getfield 16, 3, (3, 1, 1, 2, 0), ⟨"", "", ""⟩, "WordHides$CrossedSearch") := rfl
theorem ee_4_28 {d : Nat} {ls st : List Value} {h : aH} {r : Nat} : go d 4 28 ls (.ref r :: st) h = (gf h r 3 1 1).bind fun z => go d 4 31 ls (z :: st) h := go_getf ke_4_28
theorem ke_4_31 : alook 4 31 = some (31, .iconst 1, 1, (0, 0, 0, 0, 0), ⟨"", "", ""⟩, "") := rfl
theorem ee_4_31 {d : Nat} {h : aH} {ls st : List Value} : go d 4 31 ls st h = go d 4 32 ls (.int 1 :: st) h := go_plain (q := (32, ls, (.int 1 :: st), h)) ke_4_31 rfl
theorem ke_4_32 : alook 4 32 = some (32, .iaload, 1, (0, 0, 0, 0, 0), ⟨"", "", ""⟩, "") := rfl
theorem ee_4_32 {d : Nat} {ls st : List Value} {h : aH} {r : Nat} {i : Int32} : go d 4 32 ls (.int i :: .ref r :: st) h = (ia h r i).bind fun z => go d 4 33 ls (.int z :: st) h := go_iald ke_4_32
theorem ke_4_33 : alook 4 33 = some (33, .aload_n 0, 1, (0, 0, 0, 0, 0), ⟨"", "", ""⟩, "") := rfl
theorem ee_4_33 {d : Nat} {h : aH} {l1 : Value} {x : Nat} {st : List Value} : go d 4 33 [.ref x, l1] st h = go d 4 34 [.ref x, l1] (.ref x :: st) h := go_plain (q := (34, [.ref x, l1], (.ref x :: st), h)) ke_4_33 rfl
theorem ee_4_33N {d : Nat} {h : aH} {l1 : Value} {st : List Value} : go d 4 33 [.null, l1] st h = go d 4 34 [.null, l1] (.null :: st) h := go_plain (q := (34, [.null, l1], (.null :: st), h)) ke_4_33 rfl
theorem ke_4_34 : alook 4 34 = some (34, .getfield 16, 3, (3, 1, 1, 2, 0), ⟨"", "", ""⟩, "WordHides$CrossedSearch") := rfl
theorem ee_4_34 {d : Nat} {ls st : List Value} {h : aH} {r : Nat} : go d 4 34 ls (.ref r :: st) h = (gf h r 3 1 1).bind fun z => go d 4 37 ls (z :: st) h := go_getf ke_4_34
theorem ke_4_37 : alook 4 37 = some (37, .iconst 2, 1, (0, 0, 0, 0, 0), ⟨"", "", ""⟩, "") := rfl
theorem ee_4_37 {d : Nat} {h : aH} {ls st : List Value} : go d 4 37 ls st h = go d 4 38 ls (.int 2 :: st) h := go_plain (q := (38, ls, (.int 2 :: st), h)) ke_4_37 rfl
theorem ke_4_38 : alook 4 38 = some (38, .iaload, 1, (0, 0, 0, 0, 0), ⟨"", "", ""⟩, "") := rfl
theorem ee_4_38 {d : Nat} {ls st : List Value} {h : aH} {r : Nat} {i : Int32} : go d 4 38 ls (.int i :: .ref r :: st) h = (ia h r i).bind fun z => go d 4 39 ls (.int z :: st) h := go_iald ke_4_38
theorem ke_4_39 : alook 4 39 = some (39, .iand, 1, (0, 0, 0, 0, 0), ⟨"", "", ""⟩, "") := rfl
theorem ee_4_39 {d : Nat} {h : aH} {ls st : List Value} {x y : Int32} : go d 4 39 ls (.int y :: .int x :: st) h = go d 4 40 ls (.int (x &&& y) :: st) h := go_plain (q := (40, ls, (.int (x &&& y) :: st), h)) ke_4_39 rfl
theorem ke_4_40 : alook 4 40 = some (40, .ior, 1, (0, 0, 0, 0, 0), ⟨"", "", ""⟩, "") := rfl
theorem ee_4_40 {d : Nat} {h : aH} {ls st : List Value} {x y : Int32} : go d 4 40 ls (.int y :: .int x :: st) h = go d 4 41 ls (.int (x ||| y) :: st) h := go_plain (q := (41, ls, (.int (x ||| y) :: st), h)) ke_4_40 rfl
theorem ke_4_41 : alook 4 41 = some (41, .invokestatic 20, 3, (1, 0, 119, 0, 0), ⟨"java/lang/Integer", "bitCount", "(I)I"⟩, "") := rfl
theorem ee_4_41 {d : Nat} {ls : List Value} {h : aH} {i0 : Int32} : go (d + 1) 4 41 ls [.int i0] h = (go d 119 0 [.int i0] [] h).bind (fun q => go (d + 1) 4 44 ls (q.1.toList ++ []) q.2) := go_cs (as := [.int i0]) (rest := []) (L := [.int i0]) ke_4_41 rfl rfl rfl
theorem ke_4_44 : alook 4 44 = some (44, .istore_n 1, 1, (0, 0, 0, 0, 0), ⟨"", "", ""⟩, "") := rfl
theorem ee_4_44 {d : Nat} {h : aH} {l0 l1 : Value} {x : Int32} {st : List Value} : go d 4 44 [l0, l1] (.int x :: st) h = go d 4 45 [l0, .int x] st h := go_plain (q := (45, [l0, .int x], st, h)) ke_4_44 rfl
theorem ke_4_45 : alook 4 45 = some (45, .aload_n 0, 1, (0, 0, 0, 0, 0), ⟨"", "", ""⟩, "") := rfl
theorem ee_4_45 {d : Nat} {h : aH} {l1 : Value} {x : Nat} {st : List Value} : go d 4 45 [.ref x, l1] st h = go d 4 46 [.ref x, l1] (.ref x :: st) h := go_plain (q := (46, [.ref x, l1], (.ref x :: st), h)) ke_4_45 rfl
theorem ee_4_45N {d : Nat} {h : aH} {l1 : Value} {st : List Value} : go d 4 45 [.null, l1] st h = go d 4 46 [.null, l1] (.null :: st) h := go_plain (q := (46, [.null, l1], (.null :: st), h)) ke_4_45 rfl
theorem ke_4_46 : alook 4 46 = some (46, .getfield 26, 3, (5, 1, 1, 0, 0), ⟨"", "", ""⟩, "WordHides$CrossedSearch") := rfl
theorem ee_4_46 {d : Nat} {ls st : List Value} {h : aH} {r : Nat} : go d 4 46 ls (.ref r :: st) h = (gf h r 5 1 1).bind fun z => go d 4 49 ls (z :: st) h := go_getf ke_4_46
theorem ke_4_49 : alook 4 49 = some (49, .ifCond .eq 11, 3, (60, 0, 0, 0, 0), ⟨"", "", ""⟩, "") := rfl
theorem ee_4_49 {d : Nat} {ls st : List Value} {h : aH} {x : Int32} : go d 4 49 ls (.int x :: st) h = if x = 0 then go d 4 60 ls st h else go d 4 52 ls st h := go_c1 (go_if1 (tg := 60) (q := 52) (f := fun x => decide (x = 0)) ke_4_49 rfl)
theorem ke_4_52 : alook 4 52 = some (52, .iload_n 1, 1, (0, 0, 0, 0, 0), ⟨"", "", ""⟩, "") := rfl
theorem ee_4_52 {d : Nat} {h : aH} {l0 : Value} {x : Int32} {st : List Value} : go d 4 52 [l0, .int x] st h = go d 4 53 [l0, .int x] (.int x :: st) h := go_plain (q := (53, [l0, .int x], (.int x :: st), h)) ke_4_52 rfl
theorem ke_4_53 : alook 4 53 = some (53, .aload_n 0, 1, (0, 0, 0, 0, 0), ⟨"", "", ""⟩, "") := rfl
theorem ee_4_53 {d : Nat} {h : aH} {l1 : Value} {x : Nat} {st : List Value} : go d 4 53 [.ref x, l1] st h = go d 4 54 [.ref x, l1] (.ref x :: st) h := go_plain (q := (54, [.ref x, l1], (.ref x :: st), h)) ke_4_53 rfl
theorem ee_4_53N {d : Nat} {h : aH} {l1 : Value} {st : List Value} : go d 4 53 [.null, l1] st h = go d 4 54 [.null, l1] (.null :: st) h := go_plain (q := (54, [.null, l1], (.null :: st), h)) ke_4_53 rfl
theorem ke_4_54 : alook 4 54 = some (54, .getfield 7, 3, (7, 1, 1, 0, 0), ⟨"", "", ""⟩, "WordHides$CrossedSearch") := rfl
theorem ee_4_54 {d : Nat} {ls st : List Value} {h : aH} {r : Nat} : go d 4 54 ls (.ref r :: st) h = (gf h r 7 1 1).bind fun z => go d 4 57 ls (z :: st) h := go_getf ke_4_54
theorem ke_4_57 : alook 4 57 = some (57, .if_icmp .le 17, 3, (74, 0, 0, 0, 0), ⟨"", "", ""⟩, "") := rfl
theorem ee_4_57 {d : Nat} {ls st : List Value} {h : aH} {x y : Int32} : go d 4 57 ls (.int y :: .int x :: st) h = if x ≤ y then go d 4 74 ls st h else go d 4 60 ls st h := go_ci (go_if2 (tg := 74) (q := 60) (f := fun x y => decide (x ≤ y)) ke_4_57 rfl)
theorem ke_4_60 : alook 4 60 = some (60, .aload_n 0, 1, (0, 0, 0, 0, 0), ⟨"", "", ""⟩, "") := rfl
theorem ee_4_60 {d : Nat} {h : aH} {l1 : Value} {x : Nat} {st : List Value} : go d 4 60 [.ref x, l1] st h = go d 4 61 [.ref x, l1] (.ref x :: st) h := go_plain (q := (61, [.ref x, l1], (.ref x :: st), h)) ke_4_60 rfl
theorem ee_4_60N {d : Nat} {h : aH} {l1 : Value} {st : List Value} : go d 4 60 [.null, l1] st h = go d 4 61 [.null, l1] (.null :: st) h := go_plain (q := (61, [.null, l1], (.null :: st), h)) ke_4_60 rfl
theorem ke_4_61 : alook 4 61 = some (61, .iload_n 1, 1, (0, 0, 0, 0, 0), ⟨"", "", ""⟩, "") := rfl
theorem ee_4_61 {d : Nat} {h : aH} {l0 : Value} {x : Int32} {st : List Value} : go d 4 61 [l0, .int x] st h = go d 4 62 [l0, .int x] (.int x :: st) h := go_plain (q := (62, [l0, .int x], (.int x :: st), h)) ke_4_61 rfl
theorem ke_4_62 : alook 4 62 = some (62, .putfield 7, 3, (7, 1, 1, 0, 0), ⟨"", "", ""⟩, "WordHides$CrossedSearch") := rfl
theorem ee_4_62 {d : Nat} {ls st : List Value} {h : aH} {r : Nat} {w : Value} : go d 4 62 ls (w :: .ref r :: st) h = (pf h r 7 1 1 0 w).bind fun h' => go d 4 65 ls st h' := go_putf ke_4_62
theorem ke_4_65 : alook 4 65 = some (65, .aload_n 0, 1, (0, 0, 0, 0, 0), ⟨"", "", ""⟩, "") := rfl
theorem ee_4_65 {d : Nat} {h : aH} {l1 : Value} {x : Nat} {st : List Value} : go d 4 65 [.ref x, l1] st h = go d 4 66 [.ref x, l1] (.ref x :: st) h := go_plain (q := (66, [.ref x, l1], (.ref x :: st), h)) ke_4_65 rfl
theorem ee_4_65N {d : Nat} {h : aH} {l1 : Value} {st : List Value} : go d 4 65 [.null, l1] st h = go d 4 66 [.null, l1] (.null :: st) h := go_plain (q := (66, [.null, l1], (.null :: st), h)) ke_4_65 rfl
theorem ke_4_66 : alook 4 66 = some (66, .iconst 0, 1, (0, 0, 0, 0, 0), ⟨"", "", ""⟩, "") := rfl
theorem ee_4_66 {d : Nat} {h : aH} {ls st : List Value} : go d 4 66 ls st h = go d 4 67 ls (.int 0 :: st) h := go_plain (q := (67, ls, (.int 0 :: st), h)) ke_4_66 rfl
theorem ke_4_67 : alook 4 67 = some (67, .putfield 13, 3, (8, 1, 1, 0, 0), ⟨"", "", ""⟩, "WordHides$CrossedSearch") := rfl
theorem ee_4_67 {d : Nat} {ls st : List Value} {h : aH} {r : Nat} {w : Value} : go d 4 67 ls (w :: .ref r :: st) h = (pf h r 8 1 1 0 w).bind fun h' => go d 4 70 ls st h' := go_putf ke_4_67
theorem ke_4_70 : alook 4 70 = some (70, .aload_n 0, 1, (0, 0, 0, 0, 0), ⟨"", "", ""⟩, "") := rfl
theorem ee_4_70 {d : Nat} {h : aH} {l1 : Value} {x : Nat} {st : List Value} : go d 4 70 [.ref x, l1] st h = go d 4 71 [.ref x, l1] (.ref x :: st) h := go_plain (q := (71, [.ref x, l1], (.ref x :: st), h)) ke_4_70 rfl
theorem ee_4_70N {d : Nat} {h : aH} {l1 : Value} {st : List Value} : go d 4 70 [.null, l1] st h = go d 4 71 [.null, l1] (.null :: st) h := go_plain (q := (71, [.null, l1], (.null :: st), h)) ke_4_70 rfl
theorem ke_4_71 : alook 4 71 = some (71, .invokevirtual 29, 3, (0, 1, 19, 1, 19), ⟨"WordHides$CrossedSearch", "keepPlaces", "()V"⟩, "WordHides$Search") := rfl
theorem ee_4_71 {d : Nat} {ls : List Value} {h : aH} {r0 : Nat} : go (d + 1) 4 71 ls [.ref r0] h = if isC h r0 1 = true then (go d 19 0 [.ref r0] [] h).bind (fun q => go (d + 1) 4 74 ls (q.1.toList ++ []) q.2) else none := go_cv1 (as := []) (rest := []) (L := [.ref r0]) ke_4_71 rfl rfl rfl
theorem ke_4_74 : alook 4 74 = some (74, .iload_n 1, 1, (0, 0, 0, 0, 0), ⟨"", "", ""⟩, "") := rfl
theorem ee_4_74 {d : Nat} {h : aH} {l0 : Value} {x : Int32} {st : List Value} : go d 4 74 [l0, .int x] st h = go d 4 75 [l0, .int x] (.int x :: st) h := go_plain (q := (75, [l0, .int x], (.int x :: st), h)) ke_4_74 rfl
theorem ke_4_75 : alook 4 75 = some (75, .aload_n 0, 1, (0, 0, 0, 0, 0), ⟨"", "", ""⟩, "") := rfl
theorem ee_4_75 {d : Nat} {h : aH} {l1 : Value} {x : Nat} {st : List Value} : go d 4 75 [.ref x, l1] st h = go d 4 76 [.ref x, l1] (.ref x :: st) h := go_plain (q := (76, [.ref x, l1], (.ref x :: st), h)) ke_4_75 rfl
theorem ee_4_75N {d : Nat} {h : aH} {l1 : Value} {st : List Value} : go d 4 75 [.null, l1] st h = go d 4 76 [.null, l1] (.null :: st) h := go_plain (q := (76, [.null, l1], (.null :: st), h)) ke_4_75 rfl
theorem ke_4_76 : alook 4 76 = some (76, .getfield 7, 3, (7, 1, 1, 0, 0), ⟨"", "", ""⟩, "WordHides$CrossedSearch") := rfl
theorem ee_4_76 {d : Nat} {ls st : List Value} {h : aH} {r : Nat} : go d 4 76 ls (.ref r :: st) h = (gf h r 7 1 1).bind fun z => go d 4 79 ls (z :: st) h := go_getf ke_4_76
theorem ke_4_79 : alook 4 79 = some (79, .if_icmp .ne 13, 3, (92, 0, 0, 0, 0), ⟨"", "", ""⟩, "") := rfl
theorem ee_4_79 {d : Nat} {ls st : List Value} {h : aH} {x y : Int32} : go d 4 79 ls (.int y :: .int x :: st) h = if ¬ x = y then go d 4 92 ls st h else go d 4 82 ls st h := go_ci (go_if2 (tg := 92) (q := 82) (f := fun x y => decide (¬ x = y)) ke_4_79 rfl)
theorem ke_4_82 : alook 4 82 = some (82, .aload_n 0, 1, (0, 0, 0, 0, 0), ⟨"", "", ""⟩, "") := rfl
theorem ee_4_82 {d : Nat} {h : aH} {l1 : Value} {x : Nat} {st : List Value} : go d 4 82 [.ref x, l1] st h = go d 4 83 [.ref x, l1] (.ref x :: st) h := go_plain (q := (83, [.ref x, l1], (.ref x :: st), h)) ke_4_82 rfl
theorem ee_4_82N {d : Nat} {h : aH} {l1 : Value} {st : List Value} : go d 4 82 [.null, l1] st h = go d 4 83 [.null, l1] (.null :: st) h := go_plain (q := (83, [.null, l1], (.null :: st), h)) ke_4_82 rfl
theorem ke_4_83 : alook 4 83 = some (83, .dup, 1, (0, 0, 0, 0, 0), ⟨"", "", ""⟩, "") := rfl
theorem ee_4_83 {d : Nat} {h : aH} {ls st : List Value} {x : Nat} : go d 4 83 ls (.ref x :: st) h = go d 4 84 ls (.ref x :: .ref x :: st) h := go_plain (q := (84, ls, (.ref x :: .ref x :: st), h)) ke_4_83 rfl
theorem ke_4_84 : alook 4 84 = some (84, .getfield 13, 3, (8, 1, 1, 0, 0), ⟨"", "", ""⟩, "WordHides$CrossedSearch") := rfl
theorem ee_4_84 {d : Nat} {ls st : List Value} {h : aH} {r : Nat} : go d 4 84 ls (.ref r :: st) h = (gf h r 8 1 1).bind fun z => go d 4 87 ls (z :: st) h := go_getf ke_4_84
theorem ke_4_87 : alook 4 87 = some (87, .iconst 1, 1, (0, 0, 0, 0, 0), ⟨"", "", ""⟩, "") := rfl
theorem ee_4_87 {d : Nat} {h : aH} {ls st : List Value} : go d 4 87 ls st h = go d 4 88 ls (.int 1 :: st) h := go_plain (q := (88, ls, (.int 1 :: st), h)) ke_4_87 rfl
theorem ke_4_88 : alook 4 88 = some (88, .iadd, 1, (0, 0, 0, 0, 0), ⟨"", "", ""⟩, "") := rfl
theorem ee_4_88 {d : Nat} {h : aH} {ls st : List Value} {x y : Int32} : go d 4 88 ls (.int y :: .int x :: st) h = go d 4 89 ls (.int (x + y) :: st) h := go_plain (q := (89, ls, (.int (x + y) :: st), h)) ke_4_88 rfl
theorem ke_4_89 : alook 4 89 = some (89, .putfield 13, 3, (8, 1, 1, 0, 0), ⟨"", "", ""⟩, "WordHides$CrossedSearch") := rfl
theorem ee_4_89 {d : Nat} {ls st : List Value} {h : aH} {r : Nat} {w : Value} : go d 4 89 ls (w :: .ref r :: st) h = (pf h r 8 1 1 0 w).bind fun h' => go d 4 92 ls st h' := go_putf ke_4_89
theorem ke_4_92 : alook 4 92 = some (92, .aload_n 0, 1, (0, 0, 0, 0, 0), ⟨"", "", ""⟩, "") := rfl
theorem ee_4_92 {d : Nat} {h : aH} {l1 : Value} {x : Nat} {st : List Value} : go d 4 92 [.ref x, l1] st h = go d 4 93 [.ref x, l1] (.ref x :: st) h := go_plain (q := (93, [.ref x, l1], (.ref x :: st), h)) ke_4_92 rfl
theorem ee_4_92N {d : Nat} {h : aH} {l1 : Value} {st : List Value} : go d 4 92 [.null, l1] st h = go d 4 93 [.null, l1] (.null :: st) h := go_plain (q := (93, [.null, l1], (.null :: st), h)) ke_4_92 rfl
theorem ke_4_93 : alook 4 93 = some (93, .dup, 1, (0, 0, 0, 0, 0), ⟨"", "", ""⟩, "") := rfl
theorem ee_4_93 {d : Nat} {h : aH} {ls st : List Value} {x : Nat} : go d 4 93 ls (.ref x :: st) h = go d 4 94 ls (.ref x :: .ref x :: st) h := go_plain (q := (94, ls, (.ref x :: .ref x :: st), h)) ke_4_93 rfl
theorem ke_4_94 : alook 4 94 = some (94, .getfield 26, 3, (5, 1, 1, 0, 0), ⟨"", "", ""⟩, "WordHides$CrossedSearch") := rfl
theorem ee_4_94 {d : Nat} {ls st : List Value} {h : aH} {r : Nat} : go d 4 94 ls (.ref r :: st) h = (gf h r 5 1 1).bind fun z => go d 4 97 ls (z :: st) h := go_getf ke_4_94
theorem ke_4_97 : alook 4 97 = some (97, .iconst 1, 1, (0, 0, 0, 0, 0), ⟨"", "", ""⟩, "") := rfl
theorem ee_4_97 {d : Nat} {h : aH} {ls st : List Value} : go d 4 97 ls st h = go d 4 98 ls (.int 1 :: st) h := go_plain (q := (98, ls, (.int 1 :: st), h)) ke_4_97 rfl
theorem ke_4_98 : alook 4 98 = some (98, .iadd, 1, (0, 0, 0, 0, 0), ⟨"", "", ""⟩, "") := rfl
theorem ee_4_98 {d : Nat} {h : aH} {ls st : List Value} {x y : Int32} : go d 4 98 ls (.int y :: .int x :: st) h = go d 4 99 ls (.int (x + y) :: st) h := go_plain (q := (99, ls, (.int (x + y) :: st), h)) ke_4_98 rfl
theorem ke_4_99 : alook 4 99 = some (99, .putfield 26, 3, (5, 1, 1, 0, 0), ⟨"", "", ""⟩, "WordHides$CrossedSearch") := rfl
theorem ee_4_99 {d : Nat} {ls st : List Value} {h : aH} {r : Nat} {w : Value} : go d 4 99 ls (w :: .ref r :: st) h = (pf h r 5 1 1 0 w).bind fun h' => go d 4 102 ls st h' := go_putf ke_4_99
theorem ke_4_102 : alook 4 102 = some (102, .return_, 1, (0, 0, 0, 0, 0), ⟨"", "", ""⟩, "") := rfl
theorem ee_4_102 {d : Nat} {ls : List Value} {h : aH} : go d 4 102 ls [] h = some (none, h) := go_ret ke_4_102 rfl rfl rfl
theorem ke_6_0 : alook 6 0 = some (0, .aload_n 0, 1, (0, 0, 0, 0, 0), ⟨"", "", ""⟩, "") := rfl
theorem ee_6_0 {d : Nat} {h : aH} {x : Nat} {st : List Value} : go d 6 0 [.ref x] st h = go d 6 1 [.ref x] (.ref x :: st) h := go_plain (q := (1, [.ref x], (.ref x :: st), h)) ke_6_0 rfl
theorem ee_6_0N {d : Nat} {h : aH} {st : List Value} : go d 6 0 [.null] st h = go d 6 1 [.null] (.null :: st) h := go_plain (q := (1, [.null], (.null :: st), h)) ke_6_0 rfl
theorem ke_6_1 : alook 6 1 = some (1, .aload_n 0, 1, (0, 0, 0, 0, 0), ⟨"", "", ""⟩, "") := rfl
theorem ee_6_1 {d : Nat} {h : aH} {x : Nat} {st : List Value} : go d 6 1 [.ref x] st h = go d 6 2 [.ref x] (.ref x :: st) h := go_plain (q := (2, [.ref x], (.ref x :: st), h)) ke_6_1 rfl
theorem ee_6_1N {d : Nat} {h : aH} {st : List Value} : go d 6 1 [.null] st h = go d 6 2 [.null] (.null :: st) h := go_plain (q := (2, [.null], (.null :: st), h)) ke_6_1 rfl
theorem ke_6_2 : alook 6 2 = some (2, .getfield 36, 3, (1, 2, 2, 2, 0), ⟨"", "", ""⟩, "WordHides$GoodSearch") := rfl
theorem ee_6_2 {d : Nat} {ls st : List Value} {h : aH} {r : Nat} : go d 6 2 ls (.ref r :: st) h = (gf h r 1 2 2).bind fun z => go d 6 5 ls (z :: st) h := go_getf ke_6_2
theorem ke_6_5 : alook 6 5 = some (5, .invokevirtual 39, 3, (1, 2, 8, 2, 8), ⟨"WordHides$GoodSearch", "isSpoiled", "(LWordHides$Square;)Z"⟩, "") := rfl
theorem ee_6_5 {d : Nat} {ls : List Value} {h : aH} {r0 : Nat} {r1 : Nat} : go (d + 1) 6 5 ls [.ref r0, .ref r1] h = if isC h r1 2 = true then (go d 8 0 [.ref r1, .ref r0, aU, aU, aU] [] h).bind (fun q => go (d + 1) 6 8 ls (q.1.toList ++ []) q.2) else none := go_cv1 (as := [.ref r0]) (rest := []) (L := [.ref r1, .ref r0, aU, aU, aU]) ke_6_5 rfl rfl rfl
theorem ke_6_8 : alook 6 8 = some (8, .ifCond .ne 7, 3, (15, 0, 0, 0, 0), ⟨"", "", ""⟩, "") := rfl
theorem ee_6_8 {d : Nat} {ls st : List Value} {h : aH} {x : Int32} : go d 6 8 ls (.int x :: st) h = if ¬ x = 0 then go d 6 15 ls st h else go d 6 11 ls st h := go_c1 (go_if1 (tg := 15) (q := 11) (f := fun x => decide (¬ x = 0)) ke_6_8 rfl)
theorem ke_6_11 : alook 6 11 = some (11, .iconst 1, 1, (0, 0, 0, 0, 0), ⟨"", "", ""⟩, "") := rfl
theorem ee_6_11 {d : Nat} {h : aH} {ls st : List Value} : go d 6 11 ls st h = go d 6 12 ls (.int 1 :: st) h := go_plain (q := (12, ls, (.int 1 :: st), h)) ke_6_11 rfl
theorem ke_6_12 : alook 6 12 = some (12, .goto 4, 3, (16, 0, 0, 0, 0), ⟨"", "", ""⟩, "") := rfl
theorem ee_6_12 {d : Nat} {h : aH} {ls st : List Value} : go d 6 12 ls st h = go d 6 16 ls st h := go_plain (q := (16, ls, st, h)) ke_6_12 rfl
theorem ke_6_15 : alook 6 15 = some (15, .iconst 0, 1, (0, 0, 0, 0, 0), ⟨"", "", ""⟩, "") := rfl
theorem ee_6_15 {d : Nat} {h : aH} {ls st : List Value} : go d 6 15 ls st h = go d 6 16 ls (.int 0 :: st) h := go_plain (q := (16, ls, (.int 0 :: st), h)) ke_6_15 rfl
theorem ke_6_16 : alook 6 16 = some (16, .ireturn, 1, (1, 0, 0, 0, 0), ⟨"", "", ""⟩, "") := rfl
theorem ee_6_16 {d : Nat} {ls : List Value} {h : aH} : go d 6 16 ls [.int 0] h = some (some (.int 0), h) := go_zret0 ke_6_16
theorem ee_6_16T {d : Nat} {ls : List Value} {h : aH} : go d 6 16 ls [.int 1] h = some (some (.int 1), h) := go_zret1 ke_6_16
theorem ke_7_0 : alook 7 0 = some (0, .aload_n 0, 1, (0, 0, 0, 0, 0), ⟨"", "", ""⟩, "") := rfl
theorem ee_7_0 {d : Nat} {h : aH} {l1 : Value} {x : Nat} {st : List Value} : go d 7 0 [.ref x, l1] st h = go d 7 1 [.ref x, l1] (.ref x :: st) h := go_plain (q := (1, [.ref x, l1], (.ref x :: st), h)) ke_7_0 rfl
theorem ee_7_0N {d : Nat} {h : aH} {l1 : Value} {st : List Value} : go d 7 0 [.null, l1] st h = go d 7 1 [.null, l1] (.null :: st) h := go_plain (q := (1, [.null, l1], (.null :: st), h)) ke_7_0 rfl
theorem ke_7_1 : alook 7 1 = some (1, .getfield 30, 3, (7, 2, 2, 2, 0), ⟨"", "", ""⟩, "WordHides$GoodSearch") := rfl
theorem ee_7_1 {d : Nat} {ls st : List Value} {h : aH} {r : Nat} : go d 7 1 ls (.ref r :: st) h = (gf h r 7 2 2).bind fun z => go d 7 4 ls (z :: st) h := go_getf ke_7_1
theorem ke_7_4 : alook 7 4 = some (4, .aload_n 0, 1, (0, 0, 0, 0, 0), ⟨"", "", ""⟩, "") := rfl
theorem ee_7_4 {d : Nat} {h : aH} {l1 : Value} {x : Nat} {st : List Value} : go d 7 4 [.ref x, l1] st h = go d 7 5 [.ref x, l1] (.ref x :: st) h := go_plain (q := (5, [.ref x, l1], (.ref x :: st), h)) ke_7_4 rfl
theorem ee_7_4N {d : Nat} {h : aH} {l1 : Value} {st : List Value} : go d 7 4 [.null, l1] st h = go d 7 5 [.null, l1] (.null :: st) h := go_plain (q := (5, [.null, l1], (.null :: st), h)) ke_7_4 rfl
theorem ke_7_5 : alook 7 5 = some (5, .getfield 36, 3, (1, 2, 2, 2, 0), ⟨"", "", ""⟩, "WordHides$GoodSearch") := rfl
theorem ee_7_5 {d : Nat} {ls st : List Value} {h : aH} {r : Nat} : go d 7 5 ls (.ref r :: st) h = (gf h r 1 2 2).bind fun z => go d 7 8 ls (z :: st) h := go_getf ke_7_5
theorem ke_7_8 : alook 7 8 = some (8, .invokevirtual 43, 3, (1, 4, 23, 4, 23), ⟨"WordHides$Square", "copyFrom", "(LWordHides$Square;)V"⟩, "") := rfl
theorem ee_7_8 {d : Nat} {ls : List Value} {h : aH} {r0 : Nat} {r1 : Nat} : go (d + 1) 7 8 ls [.ref r0, .ref r1] h = if isC h r1 4 = true then (go d 23 0 [.ref r1, .ref r0] [] h).bind (fun q => go (d + 1) 7 11 ls (q.1.toList ++ []) q.2) else none := go_cv1 (as := [.ref r0]) (rest := []) (L := [.ref r1, .ref r0]) ke_7_8 rfl rfl rfl
theorem ke_7_11 : alook 7 11 = some (11, .aload_n 0, 1, (0, 0, 0, 0, 0), ⟨"", "", ""⟩, "") := rfl
theorem ee_7_11 {d : Nat} {h : aH} {l1 : Value} {x : Nat} {st : List Value} : go d 7 11 [.ref x, l1] st h = go d 7 12 [.ref x, l1] (.ref x :: st) h := go_plain (q := (12, [.ref x, l1], (.ref x :: st), h)) ke_7_11 rfl
theorem ee_7_11N {d : Nat} {h : aH} {l1 : Value} {st : List Value} : go d 7 11 [.null, l1] st h = go d 7 12 [.null, l1] (.null :: st) h := go_plain (q := (12, [.null, l1], (.null :: st), h)) ke_7_11 rfl
theorem ke_7_12 : alook 7 12 = some (12, .getfield 30, 3, (7, 2, 2, 2, 0), ⟨"", "", ""⟩, "WordHides$GoodSearch") := rfl
theorem ee_7_12 {d : Nat} {ls st : List Value} {h : aH} {r : Nat} : go d 7 12 ls (.ref r :: st) h = (gf h r 7 2 2).bind fun z => go d 7 15 ls (z :: st) h := go_getf ke_7_12
theorem ke_7_15 : alook 7 15 = some (15, .aload_n 0, 1, (0, 0, 0, 0, 0), ⟨"", "", ""⟩, "") := rfl
theorem ee_7_15 {d : Nat} {h : aH} {l1 : Value} {x : Nat} {st : List Value} : go d 7 15 [.ref x, l1] st h = go d 7 16 [.ref x, l1] (.ref x :: st) h := go_plain (q := (16, [.ref x, l1], (.ref x :: st), h)) ke_7_15 rfl
theorem ee_7_15N {d : Nat} {h : aH} {l1 : Value} {st : List Value} : go d 7 15 [.null, l1] st h = go d 7 16 [.null, l1] (.null :: st) h := go_plain (q := (16, [.null, l1], (.null :: st), h)) ke_7_15 rfl
theorem ke_7_16 : alook 7 16 = some (16, .getfield 47, 3, (0, 2, 2, 2, 0), ⟨"", "", ""⟩, "WordHides$GoodSearch") := rfl
theorem ee_7_16 {d : Nat} {ls st : List Value} {h : aH} {r : Nat} : go d 7 16 ls (.ref r :: st) h = (gf h r 0 2 2).bind fun z => go d 7 19 ls (z :: st) h := go_getf ke_7_16
theorem ke_7_19 : alook 7 19 = some (19, .getfield 51, 3, (3, 0, 0, 2, 0), ⟨"", "", ""⟩, "WordHides$Board") := rfl
theorem ee_7_19 {d : Nat} {ls st : List Value} {h : aH} {r : Nat} : go d 7 19 ls (.ref r :: st) h = (gf h r 3 0 0).bind fun z => go d 7 22 ls (z :: st) h := go_getf ke_7_19
theorem ke_7_22 : alook 7 22 = some (22, .invokevirtual 55, 3, (1, 4, 27, 4, 27), ⟨"WordHides$Square", "pour", "(LWordHides$Text;)I"⟩, "") := rfl
theorem ee_7_22 {d : Nat} {ls : List Value} {h : aH} {r0 : Nat} {r1 : Nat} : go (d + 1) 7 22 ls [.ref r0, .ref r1] h = if isC h r1 4 = true then (go d 27 0 [.ref r1, .ref r0, aU, aU, aU] [] h).bind (fun q => go (d + 1) 7 25 ls (q.1.toList ++ []) q.2) else none := go_cv1 (as := [.ref r0]) (rest := []) (L := [.ref r1, .ref r0, aU, aU, aU]) ke_7_22 rfl rfl rfl
theorem ke_7_25 : alook 7 25 = some (25, .istore_n 1, 1, (0, 0, 0, 0, 0), ⟨"", "", ""⟩, "") := rfl
theorem ee_7_25 {d : Nat} {h : aH} {l0 l1 : Value} {x : Int32} {st : List Value} : go d 7 25 [l0, l1] (.int x :: st) h = go d 7 26 [l0, .int x] st h := go_plain (q := (26, [l0, .int x], st, h)) ke_7_25 rfl
theorem ke_7_26 : alook 7 26 = some (26, .aload_n 0, 1, (0, 0, 0, 0, 0), ⟨"", "", ""⟩, "") := rfl
theorem ee_7_26 {d : Nat} {h : aH} {l1 : Value} {x : Nat} {st : List Value} : go d 7 26 [.ref x, l1] st h = go d 7 27 [.ref x, l1] (.ref x :: st) h := go_plain (q := (27, [.ref x, l1], (.ref x :: st), h)) ke_7_26 rfl
theorem ee_7_26N {d : Nat} {h : aH} {l1 : Value} {st : List Value} : go d 7 26 [.null, l1] st h = go d 7 27 [.null, l1] (.null :: st) h := go_plain (q := (27, [.null, l1], (.null :: st), h)) ke_7_26 rfl
theorem ke_7_27 : alook 7 27 = some (27, .aload_n 0, 1, (0, 0, 0, 0, 0), ⟨"", "", ""⟩, "") := rfl
theorem ee_7_27 {d : Nat} {h : aH} {l1 : Value} {x : Nat} {st : List Value} : go d 7 27 [.ref x, l1] st h = go d 7 28 [.ref x, l1] (.ref x :: st) h := go_plain (q := (28, [.ref x, l1], (.ref x :: st), h)) ke_7_27 rfl
theorem ee_7_27N {d : Nat} {h : aH} {l1 : Value} {st : List Value} : go d 7 27 [.null, l1] st h = go d 7 28 [.null, l1] (.null :: st) h := go_plain (q := (28, [.null, l1], (.null :: st), h)) ke_7_27 rfl
theorem ke_7_28 : alook 7 28 = some (28, .getfield 30, 3, (7, 2, 2, 2, 0), ⟨"", "", ""⟩, "WordHides$GoodSearch") := rfl
theorem ee_7_28 {d : Nat} {ls st : List Value} {h : aH} {r : Nat} : go d 7 28 ls (.ref r :: st) h = (gf h r 7 2 2).bind fun z => go d 7 31 ls (z :: st) h := go_getf ke_7_28
theorem ke_7_31 : alook 7 31 = some (31, .invokevirtual 39, 3, (1, 2, 8, 2, 8), ⟨"WordHides$GoodSearch", "isSpoiled", "(LWordHides$Square;)Z"⟩, "") := rfl
theorem ee_7_31 {d : Nat} {ls : List Value} {h : aH} {r0 : Nat} {r1 : Nat} : go (d + 1) 7 31 ls [.ref r0, .ref r1] h = if isC h r1 2 = true then (go d 8 0 [.ref r1, .ref r0, aU, aU, aU] [] h).bind (fun q => go (d + 1) 7 34 ls (q.1.toList ++ []) q.2) else none := go_cv1 (as := [.ref r0]) (rest := []) (L := [.ref r1, .ref r0, aU, aU, aU]) ke_7_31 rfl rfl rfl
theorem ke_7_34 : alook 7 34 = some (34, .ifCond .eq 4, 3, (38, 0, 0, 0, 0), ⟨"", "", ""⟩, "") := rfl
theorem ee_7_34 {d : Nat} {ls st : List Value} {h : aH} {x : Int32} : go d 7 34 ls (.int x :: st) h = if x = 0 then go d 7 38 ls st h else go d 7 37 ls st h := go_c1 (go_if1 (tg := 38) (q := 37) (f := fun x => decide (x = 0)) ke_7_34 rfl)
theorem ke_7_37 : alook 7 37 = some (37, .return_, 1, (0, 0, 0, 0, 0), ⟨"", "", ""⟩, "") := rfl
theorem ee_7_37 {d : Nat} {ls : List Value} {h : aH} : go d 7 37 ls [] h = some (none, h) := go_ret ke_7_37 rfl rfl rfl
theorem ke_7_38 : alook 7 38 = some (38, .aload_n 0, 1, (0, 0, 0, 0, 0), ⟨"", "", ""⟩, "") := rfl
theorem ee_7_38 {d : Nat} {h : aH} {l1 : Value} {x : Nat} {st : List Value} : go d 7 38 [.ref x, l1] st h = go d 7 39 [.ref x, l1] (.ref x :: st) h := go_plain (q := (39, [.ref x, l1], (.ref x :: st), h)) ke_7_38 rfl
theorem ee_7_38N {d : Nat} {h : aH} {l1 : Value} {st : List Value} : go d 7 38 [.null, l1] st h = go d 7 39 [.null, l1] (.null :: st) h := go_plain (q := (39, [.null, l1], (.null :: st), h)) ke_7_38 rfl
theorem ke_7_39 : alook 7 39 = some (39, .getfield 59, 3, (5, 2, 2, 0, 0), ⟨"", "", ""⟩, "WordHides$GoodSearch") := rfl
theorem ee_7_39 {d : Nat} {ls st : List Value} {h : aH} {r : Nat} : go d 7 39 ls (.ref r :: st) h = (gf h r 5 2 2).bind fun z => go d 7 42 ls (z :: st) h := go_getf ke_7_39
theorem ke_7_42 : alook 7 42 = some (42, .ifCond .ne 23, 3, (65, 0, 0, 0, 0), ⟨"", "", ""⟩, "") := rfl
theorem ee_7_42 {d : Nat} {ls st : List Value} {h : aH} {x : Int32} : go d 7 42 ls (.int x :: st) h = if ¬ x = 0 then go d 7 65 ls st h else go d 7 45 ls st h := go_c1 (go_if1 (tg := 65) (q := 45) (f := fun x => decide (¬ x = 0)) ke_7_42 rfl)
theorem ke_7_45 : alook 7 45 = some (45, .aload_n 0, 1, (0, 0, 0, 0, 0), ⟨"", "", ""⟩, "") := rfl
theorem ee_7_45 {d : Nat} {h : aH} {l1 : Value} {x : Nat} {st : List Value} : go d 7 45 [.ref x, l1] st h = go d 7 46 [.ref x, l1] (.ref x :: st) h := go_plain (q := (46, [.ref x, l1], (.ref x :: st), h)) ke_7_45 rfl
theorem ee_7_45N {d : Nat} {h : aH} {l1 : Value} {st : List Value} : go d 7 45 [.null, l1] st h = go d 7 46 [.null, l1] (.null :: st) h := go_plain (q := (46, [.null, l1], (.null :: st), h)) ke_7_45 rfl
theorem ke_7_46 : alook 7 46 = some (46, .getfield 33, 3, (8, 2, 2, 2, 0), ⟨"", "", ""⟩, "WordHides$GoodSearch") := rfl
theorem ee_7_46 {d : Nat} {ls st : List Value} {h : aH} {r : Nat} : go d 7 46 ls (.ref r :: st) h = (gf h r 8 2 2).bind fun z => go d 7 49 ls (z :: st) h := go_getf ke_7_46
theorem ke_7_49 : alook 7 49 = some (49, .aload_n 0, 1, (0, 0, 0, 0, 0), ⟨"", "", ""⟩, "") := rfl
theorem ee_7_49 {d : Nat} {h : aH} {l1 : Value} {x : Nat} {st : List Value} : go d 7 49 [.ref x, l1] st h = go d 7 50 [.ref x, l1] (.ref x :: st) h := go_plain (q := (50, [.ref x, l1], (.ref x :: st), h)) ke_7_49 rfl
theorem ee_7_49N {d : Nat} {h : aH} {l1 : Value} {st : List Value} : go d 7 49 [.null, l1] st h = go d 7 50 [.null, l1] (.null :: st) h := go_plain (q := (50, [.null, l1], (.null :: st), h)) ke_7_49 rfl
theorem ke_7_50 : alook 7 50 = some (50, .getfield 30, 3, (7, 2, 2, 2, 0), ⟨"", "", ""⟩, "WordHides$GoodSearch") := rfl
theorem ee_7_50 {d : Nat} {ls st : List Value} {h : aH} {r : Nat} : go d 7 50 ls (.ref r :: st) h = (gf h r 7 2 2).bind fun z => go d 7 53 ls (z :: st) h := go_getf ke_7_50
theorem ke_7_53 : alook 7 53 = some (53, .invokevirtual 43, 3, (1, 4, 23, 4, 23), ⟨"WordHides$Square", "copyFrom", "(LWordHides$Square;)V"⟩, "") := rfl
theorem ee_7_53 {d : Nat} {ls : List Value} {h : aH} {r0 : Nat} {r1 : Nat} : go (d + 1) 7 53 ls [.ref r0, .ref r1] h = if isC h r1 4 = true then (go d 23 0 [.ref r1, .ref r0] [] h).bind (fun q => go (d + 1) 7 56 ls (q.1.toList ++ []) q.2) else none := go_cv1 (as := [.ref r0]) (rest := []) (L := [.ref r1, .ref r0]) ke_7_53 rfl rfl rfl
theorem ke_7_56 : alook 7 56 = some (56, .aload_n 0, 1, (0, 0, 0, 0, 0), ⟨"", "", ""⟩, "") := rfl
theorem ee_7_56 {d : Nat} {h : aH} {l1 : Value} {x : Nat} {st : List Value} : go d 7 56 [.ref x, l1] st h = go d 7 57 [.ref x, l1] (.ref x :: st) h := go_plain (q := (57, [.ref x, l1], (.ref x :: st), h)) ke_7_56 rfl
theorem ee_7_56N {d : Nat} {h : aH} {l1 : Value} {st : List Value} : go d 7 56 [.null, l1] st h = go d 7 57 [.null, l1] (.null :: st) h := go_plain (q := (57, [.null, l1], (.null :: st), h)) ke_7_56 rfl
theorem ke_7_57 : alook 7 57 = some (57, .iload_n 1, 1, (0, 0, 0, 0, 0), ⟨"", "", ""⟩, "") := rfl
theorem ee_7_57 {d : Nat} {h : aH} {l0 : Value} {x : Int32} {st : List Value} : go d 7 57 [l0, .int x] st h = go d 7 58 [l0, .int x] (.int x :: st) h := go_plain (q := (58, [l0, .int x], (.int x :: st), h)) ke_7_57 rfl
theorem ke_7_58 : alook 7 58 = some (58, .putfield 9, 3, (9, 2, 2, 0, 0), ⟨"", "", ""⟩, "WordHides$GoodSearch") := rfl
theorem ee_7_58 {d : Nat} {ls st : List Value} {h : aH} {r : Nat} {w : Value} : go d 7 58 ls (w :: .ref r :: st) h = (pf h r 9 2 2 0 w).bind fun h' => go d 7 61 ls st h' := go_putf ke_7_58
theorem ke_7_61 : alook 7 61 = some (61, .aload_n 0, 1, (0, 0, 0, 0, 0), ⟨"", "", ""⟩, "") := rfl
theorem ee_7_61 {d : Nat} {h : aH} {l1 : Value} {x : Nat} {st : List Value} : go d 7 61 [.ref x, l1] st h = go d 7 62 [.ref x, l1] (.ref x :: st) h := go_plain (q := (62, [.ref x, l1], (.ref x :: st), h)) ke_7_61 rfl
theorem ee_7_61N {d : Nat} {h : aH} {l1 : Value} {st : List Value} : go d 7 61 [.null, l1] st h = go d 7 62 [.null, l1] (.null :: st) h := go_plain (q := (62, [.null, l1], (.null :: st), h)) ke_7_61 rfl
theorem ke_7_62 : alook 7 62 = some (62, .invokevirtual 62, 3, (0, 2, 19, 2, 19), ⟨"WordHides$GoodSearch", "keepPlaces", "()V"⟩, "WordHides$Search") := rfl
theorem ee_7_62 {d : Nat} {ls : List Value} {h : aH} {r0 : Nat} : go (d + 1) 7 62 ls [.ref r0] h = if isC h r0 2 = true then (go d 19 0 [.ref r0] [] h).bind (fun q => go (d + 1) 7 65 ls (q.1.toList ++ []) q.2) else none := go_cv1 (as := []) (rest := []) (L := [.ref r0]) ke_7_62 rfl rfl rfl
theorem ke_7_65 : alook 7 65 = some (65, .aload_n 0, 1, (0, 0, 0, 0, 0), ⟨"", "", ""⟩, "") := rfl
theorem ee_7_65 {d : Nat} {h : aH} {l1 : Value} {x : Nat} {st : List Value} : go d 7 65 [.ref x, l1] st h = go d 7 66 [.ref x, l1] (.ref x :: st) h := go_plain (q := (66, [.ref x, l1], (.ref x :: st), h)) ke_7_65 rfl
theorem ee_7_65N {d : Nat} {h : aH} {l1 : Value} {st : List Value} : go d 7 65 [.null, l1] st h = go d 7 66 [.null, l1] (.null :: st) h := go_plain (q := (66, [.null, l1], (.null :: st), h)) ke_7_65 rfl
theorem ke_7_66 : alook 7 66 = some (66, .dup, 1, (0, 0, 0, 0, 0), ⟨"", "", ""⟩, "") := rfl
theorem ee_7_66 {d : Nat} {h : aH} {ls st : List Value} {x : Nat} : go d 7 66 ls (.ref x :: st) h = go d 7 67 ls (.ref x :: .ref x :: st) h := go_plain (q := (67, ls, (.ref x :: .ref x :: st), h)) ke_7_66 rfl
theorem ke_7_67 : alook 7 67 = some (67, .getfield 59, 3, (5, 2, 2, 0, 0), ⟨"", "", ""⟩, "WordHides$GoodSearch") := rfl
theorem ee_7_67 {d : Nat} {ls st : List Value} {h : aH} {r : Nat} : go d 7 67 ls (.ref r :: st) h = (gf h r 5 2 2).bind fun z => go d 7 70 ls (z :: st) h := go_getf ke_7_67
theorem ke_7_70 : alook 7 70 = some (70, .iconst 1, 1, (0, 0, 0, 0, 0), ⟨"", "", ""⟩, "") := rfl
theorem ee_7_70 {d : Nat} {h : aH} {ls st : List Value} : go d 7 70 ls st h = go d 7 71 ls (.int 1 :: st) h := go_plain (q := (71, ls, (.int 1 :: st), h)) ke_7_70 rfl
theorem ke_7_71 : alook 7 71 = some (71, .iadd, 1, (0, 0, 0, 0, 0), ⟨"", "", ""⟩, "") := rfl
theorem ee_7_71 {d : Nat} {h : aH} {ls st : List Value} {x y : Int32} : go d 7 71 ls (.int y :: .int x :: st) h = go d 7 72 ls (.int (x + y) :: st) h := go_plain (q := (72, ls, (.int (x + y) :: st), h)) ke_7_71 rfl
theorem ke_7_72 : alook 7 72 = some (72, .putfield 59, 3, (5, 2, 2, 0, 0), ⟨"", "", ""⟩, "WordHides$GoodSearch") := rfl
theorem ee_7_72 {d : Nat} {ls st : List Value} {h : aH} {r : Nat} {w : Value} : go d 7 72 ls (w :: .ref r :: st) h = (pf h r 5 2 2 0 w).bind fun h' => go d 7 75 ls st h' := go_putf ke_7_72
theorem ke_7_75 : alook 7 75 = some (75, .return_, 1, (0, 0, 0, 0, 0), ⟨"", "", ""⟩, "") := rfl
theorem ee_7_75 {d : Nat} {ls : List Value} {h : aH} : go d 7 75 ls [] h = some (none, h) := go_ret ke_7_75 rfl rfl rfl
theorem ke_8_0 : alook 8 0 = some (0, .iconst 0, 1, (0, 0, 0, 0, 0), ⟨"", "", ""⟩, "") := rfl
theorem ee_8_0 {d : Nat} {h : aH} {ls st : List Value} : go d 8 0 ls st h = go d 8 1 ls (.int 0 :: st) h := go_plain (q := (1, ls, (.int 0 :: st), h)) ke_8_0 rfl
theorem ke_8_1 : alook 8 1 = some (1, .istore_n 2, 1, (0, 0, 0, 0, 0), ⟨"", "", ""⟩, "") := rfl
theorem ee_8_1 {d : Nat} {h : aH} {l0 l1 l2 l3 l4 : Value} {x : Int32} {st : List Value} : go d 8 1 [l0, l1, l2, l3, l4] (.int x :: st) h = go d 8 2 [l0, l1, .int x, l3, l4] st h := go_plain (q := (2, [l0, l1, .int x, l3, l4], st, h)) ke_8_1 rfl
theorem ke_8_2 : alook 8 2 = some (2, .iload_n 2, 1, (0, 0, 0, 0, 0), ⟨"", "", ""⟩, "") := rfl
theorem ee_8_2 {d : Nat} {h : aH} {l0 l1 l3 l4 : Value} {x : Int32} {st : List Value} : go d 8 2 [l0, l1, .int x, l3, l4] st h = go d 8 3 [l0, l1, .int x, l3, l4] (.int x :: st) h := go_plain (q := (3, [l0, l1, .int x, l3, l4], (.int x :: st), h)) ke_8_2 rfl
theorem ke_8_3 : alook 8 3 = some (3, .aload_n 0, 1, (0, 0, 0, 0, 0), ⟨"", "", ""⟩, "") := rfl
theorem ee_8_3 {d : Nat} {h : aH} {l1 l2 l3 l4 : Value} {x : Nat} {st : List Value} : go d 8 3 [.ref x, l1, l2, l3, l4] st h = go d 8 4 [.ref x, l1, l2, l3, l4] (.ref x :: st) h := go_plain (q := (4, [.ref x, l1, l2, l3, l4], (.ref x :: st), h)) ke_8_3 rfl
theorem ee_8_3N {d : Nat} {h : aH} {l1 l2 l3 l4 : Value} {st : List Value} : go d 8 3 [.null, l1, l2, l3, l4] st h = go d 8 4 [.null, l1, l2, l3, l4] (.null :: st) h := go_plain (q := (4, [.null, l1, l2, l3, l4], (.null :: st), h)) ke_8_3 rfl
theorem ke_8_4 : alook 8 4 = some (4, .getfield 47, 3, (0, 2, 2, 2, 0), ⟨"", "", ""⟩, "WordHides$GoodSearch") := rfl
theorem ee_8_4 {d : Nat} {ls st : List Value} {h : aH} {r : Nat} : go d 8 4 ls (.ref r :: st) h = (gf h r 0 2 2).bind fun z => go d 8 7 ls (z :: st) h := go_getf ke_8_4
theorem ke_8_7 : alook 8 7 = some (7, .getfield 66, 3, (2, 0, 0, 2, 0), ⟨"", "", ""⟩, "WordHides$Board") := rfl
theorem ee_8_7 {d : Nat} {ls st : List Value} {h : aH} {r : Nat} : go d 8 7 ls (.ref r :: st) h = (gf h r 2 0 0).bind fun z => go d 8 10 ls (z :: st) h := go_getf ke_8_7
theorem ke_8_10 : alook 8 10 = some (10, .getfield 70, 3, (1, 6, 6, 0, 0), ⟨"", "", ""⟩, "WordHides$TextList") := rfl
theorem ee_8_10 {d : Nat} {ls st : List Value} {h : aH} {r : Nat} : go d 8 10 ls (.ref r :: st) h = (gf h r 1 6 6).bind fun z => go d 8 13 ls (z :: st) h := go_getf ke_8_10
theorem ke_8_13 : alook 8 13 = some (13, .if_icmp .ge 38, 3, (51, 0, 0, 0, 0), ⟨"", "", ""⟩, "") := rfl
theorem ee_8_13 {d : Nat} {ls st : List Value} {h : aH} {x y : Int32} : go d 8 13 ls (.int y :: .int x :: st) h = if y ≤ x then go d 8 51 ls st h else go d 8 16 ls st h := go_ci (go_if2 (tg := 51) (q := 16) (f := fun x y => decide (y ≤ x)) ke_8_13 rfl)
theorem ke_8_16 : alook 8 16 = some (16, .iload_n 2, 1, (0, 0, 0, 0, 0), ⟨"", "", ""⟩, "") := rfl
theorem ee_8_16 {d : Nat} {h : aH} {l0 l1 l3 l4 : Value} {x : Int32} {st : List Value} : go d 8 16 [l0, l1, .int x, l3, l4] st h = go d 8 17 [l0, l1, .int x, l3, l4] (.int x :: st) h := go_plain (q := (17, [l0, l1, .int x, l3, l4], (.int x :: st), h)) ke_8_16 rfl
theorem ke_8_17 : alook 8 17 = some (17, .iconst 3, 1, (0, 0, 0, 0, 0), ⟨"", "", ""⟩, "") := rfl
theorem ee_8_17 {d : Nat} {h : aH} {ls st : List Value} : go d 8 17 ls st h = go d 8 18 ls (.int 3 :: st) h := go_plain (q := (18, ls, (.int 3 :: st), h)) ke_8_17 rfl
theorem ke_8_18 : alook 8 18 = some (18, .if_icmp .ge 33, 3, (51, 0, 0, 0, 0), ⟨"", "", ""⟩, "") := rfl
theorem ee_8_18 {d : Nat} {ls st : List Value} {h : aH} {x y : Int32} : go d 8 18 ls (.int y :: .int x :: st) h = if y ≤ x then go d 8 51 ls st h else go d 8 21 ls st h := go_ci (go_if2 (tg := 51) (q := 21) (f := fun x y => decide (y ≤ x)) ke_8_18 rfl)
theorem ke_8_21 : alook 8 21 = some (21, .aload_n 1, 1, (0, 0, 0, 0, 0), ⟨"", "", ""⟩, "") := rfl
theorem ee_8_21 {d : Nat} {h : aH} {l0 l2 l3 l4 : Value} {x : Nat} {st : List Value} : go d 8 21 [l0, .ref x, l2, l3, l4] st h = go d 8 22 [l0, .ref x, l2, l3, l4] (.ref x :: st) h := go_plain (q := (22, [l0, .ref x, l2, l3, l4], (.ref x :: st), h)) ke_8_21 rfl
theorem ee_8_21N {d : Nat} {h : aH} {l0 l2 l3 l4 : Value} {st : List Value} : go d 8 21 [l0, .null, l2, l3, l4] st h = go d 8 22 [l0, .null, l2, l3, l4] (.null :: st) h := go_plain (q := (22, [l0, .null, l2, l3, l4], (.null :: st), h)) ke_8_21 rfl
theorem ke_8_22 : alook 8 22 = some (22, .aload_n 0, 1, (0, 0, 0, 0, 0), ⟨"", "", ""⟩, "") := rfl
theorem ee_8_22 {d : Nat} {h : aH} {l1 l2 l3 l4 : Value} {x : Nat} {st : List Value} : go d 8 22 [.ref x, l1, l2, l3, l4] st h = go d 8 23 [.ref x, l1, l2, l3, l4] (.ref x :: st) h := go_plain (q := (23, [.ref x, l1, l2, l3, l4], (.ref x :: st), h)) ke_8_22 rfl
theorem ee_8_22N {d : Nat} {h : aH} {l1 l2 l3 l4 : Value} {st : List Value} : go d 8 22 [.null, l1, l2, l3, l4] st h = go d 8 23 [.null, l1, l2, l3, l4] (.null :: st) h := go_plain (q := (23, [.null, l1, l2, l3, l4], (.null :: st), h)) ke_8_22 rfl
theorem ke_8_23 : alook 8 23 = some (23, .getfield 47, 3, (0, 2, 2, 2, 0), ⟨"", "", ""⟩, "WordHides$GoodSearch") := rfl
theorem ee_8_23 {d : Nat} {ls st : List Value} {h : aH} {r : Nat} : go d 8 23 ls (.ref r :: st) h = (gf h r 0 2 2).bind fun z => go d 8 26 ls (z :: st) h := go_getf ke_8_23
theorem ke_8_26 : alook 8 26 = some (26, .getfield 66, 3, (2, 0, 0, 2, 0), ⟨"", "", ""⟩, "WordHides$Board") := rfl
theorem ee_8_26 {d : Nat} {ls st : List Value} {h : aH} {r : Nat} : go d 8 26 ls (.ref r :: st) h = (gf h r 2 0 0).bind fun z => go d 8 29 ls (z :: st) h := go_getf ke_8_26
theorem ke_8_29 : alook 8 29 = some (29, .getfield 75, 3, (0, 6, 6, 2, 0), ⟨"", "", ""⟩, "WordHides$TextList") := rfl
theorem ee_8_29 {d : Nat} {ls st : List Value} {h : aH} {r : Nat} : go d 8 29 ls (.ref r :: st) h = (gf h r 0 6 6).bind fun z => go d 8 32 ls (z :: st) h := go_getf ke_8_29
theorem ke_8_32 : alook 8 32 = some (32, .iload_n 2, 1, (0, 0, 0, 0, 0), ⟨"", "", ""⟩, "") := rfl
theorem ee_8_32 {d : Nat} {h : aH} {l0 l1 l3 l4 : Value} {x : Int32} {st : List Value} : go d 8 32 [l0, l1, .int x, l3, l4] st h = go d 8 33 [l0, l1, .int x, l3, l4] (.int x :: st) h := go_plain (q := (33, [l0, l1, .int x, l3, l4], (.int x :: st), h)) ke_8_32 rfl
theorem ke_8_33 : alook 8 33 = some (33, .aaload, 1, (0, 0, 0, 0, 0), ⟨"", "", ""⟩, "") := rfl
theorem ee_8_33 {d : Nat} {ls st : List Value} {h : aH} {r : Nat} {i : Int32} : go d 8 33 ls (.int i :: .ref r :: st) h = (aa h r i).bind fun z => go d 8 34 ls (z :: st) h := go_aald ke_8_33
theorem ke_8_34 : alook 8 34 = some (34, .iconst 0, 1, (0, 0, 0, 0, 0), ⟨"", "", ""⟩, "") := rfl
theorem ee_8_34 {d : Nat} {h : aH} {ls st : List Value} : go d 8 34 ls st h = go d 8 35 ls (.int 0 :: st) h := go_plain (q := (35, ls, (.int 0 :: st), h)) ke_8_34 rfl
theorem ke_8_35 : alook 8 35 = some (35, .invokevirtual 79, 3, (2, 4, 28, 4, 28), ⟨"WordHides$Square", "standing", "(LWordHides$Text;I)I"⟩, "") := rfl
theorem ee_8_35 {d : Nat} {ls : List Value} {h : aH} {i0 : Int32} {r1 : Nat} {r2 : Nat} : go (d + 1) 8 35 ls [.int i0, .ref r1, .ref r2] h = if isC h r2 4 = true then (go d 28 0 [.ref r2, .ref r1, .int i0, aU, aU, aU] [] h).bind (fun q => go (d + 1) 8 38 ls (q.1.toList ++ []) q.2) else none := go_cv1 (as := [.ref r1, .int i0]) (rest := []) (L := [.ref r2, .ref r1, .int i0, aU, aU, aU]) ke_8_35 rfl rfl rfl
theorem ke_8_38 : alook 8 38 = some (38, .bipush (-6), 2, (0, 0, 0, 0, 0), ⟨"", "", ""⟩, "") := rfl
theorem ee_8_38 {d : Nat} {h : aH} {ls st : List Value} : go d 8 38 ls st h = go d 8 40 ls (.int (-6) :: st) h := go_plain (q := (40, ls, (.int (-6) :: st), h)) ke_8_38 rfl
theorem ke_8_40 : alook 8 40 = some (40, .if_icmp .eq 5, 3, (45, 0, 0, 0, 0), ⟨"", "", ""⟩, "") := rfl
theorem ee_8_40 {d : Nat} {ls st : List Value} {h : aH} {x y : Int32} : go d 8 40 ls (.int y :: .int x :: st) h = if x = y then go d 8 45 ls st h else go d 8 43 ls st h := go_ci (go_if2 (tg := 45) (q := 43) (f := fun x y => decide (x = y)) ke_8_40 rfl)
theorem ke_8_43 : alook 8 43 = some (43, .iconst 1, 1, (0, 0, 0, 0, 0), ⟨"", "", ""⟩, "") := rfl
theorem ee_8_43 {d : Nat} {h : aH} {ls st : List Value} : go d 8 43 ls st h = go d 8 44 ls (.int 1 :: st) h := go_plain (q := (44, ls, (.int 1 :: st), h)) ke_8_43 rfl
theorem ke_8_44 : alook 8 44 = some (44, .ireturn, 1, (1, 0, 0, 0, 0), ⟨"", "", ""⟩, "") := rfl
theorem ee_8_44 {d : Nat} {ls : List Value} {h : aH} : go d 8 44 ls [.int 0] h = some (some (.int 0), h) := go_zret0 ke_8_44
theorem ee_8_44T {d : Nat} {ls : List Value} {h : aH} : go d 8 44 ls [.int 1] h = some (some (.int 1), h) := go_zret1 ke_8_44
theorem ke_8_45 : alook 8 45 = some (45, .iinc 2 1, 3, (0, 0, 0, 0, 0), ⟨"", "", ""⟩, "") := rfl
theorem ee_8_45 {d : Nat} {h : aH} {l0 l1 l3 l4 : Value} {x : Int32} {st : List Value} : go d 8 45 [l0, l1, .int x, l3, l4] st h = go d 8 48 [l0, l1, .int (x + 1), l3, l4] st h := go_plain (q := (48, [l0, l1, .int (x + 1), l3, l4], st, h)) ke_8_45 rfl
theorem ke_8_48 : alook 8 48 = some (48, .goto (-46), 3, (2, 0, 0, 0, 0), ⟨"", "", ""⟩, "") := rfl
theorem ee_8_48 {d : Nat} {h : aH} {ls st : List Value} : go d 8 48 ls st h = go d 8 2 ls st h := go_plain (q := (2, ls, st, h)) ke_8_48 rfl
theorem ke_8_51 : alook 8 51 = some (51, .iconst 0, 1, (0, 0, 0, 0, 0), ⟨"", "", ""⟩, "") := rfl
theorem ee_8_51 {d : Nat} {h : aH} {ls st : List Value} : go d 8 51 ls st h = go d 8 52 ls (.int 0 :: st) h := go_plain (q := (52, ls, (.int 0 :: st), h)) ke_8_51 rfl
theorem ke_8_52 : alook 8 52 = some (52, .istore_n 2, 1, (0, 0, 0, 0, 0), ⟨"", "", ""⟩, "") := rfl
theorem ee_8_52 {d : Nat} {h : aH} {l0 l1 l2 l3 l4 : Value} {x : Int32} {st : List Value} : go d 8 52 [l0, l1, l2, l3, l4] (.int x :: st) h = go d 8 53 [l0, l1, .int x, l3, l4] st h := go_plain (q := (53, [l0, l1, .int x, l3, l4], st, h)) ke_8_52 rfl
theorem ke_8_53 : alook 8 53 = some (53, .iload_n 2, 1, (0, 0, 0, 0, 0), ⟨"", "", ""⟩, "") := rfl
theorem ee_8_53 {d : Nat} {h : aH} {l0 l1 l3 l4 : Value} {x : Int32} {st : List Value} : go d 8 53 [l0, l1, .int x, l3, l4] st h = go d 8 54 [l0, l1, .int x, l3, l4] (.int x :: st) h := go_plain (q := (54, [l0, l1, .int x, l3, l4], (.int x :: st), h)) ke_8_53 rfl
theorem ke_8_54 : alook 8 54 = some (54, .aload_n 0, 1, (0, 0, 0, 0, 0), ⟨"", "", ""⟩, "") := rfl
theorem ee_8_54 {d : Nat} {h : aH} {l1 l2 l3 l4 : Value} {x : Nat} {st : List Value} : go d 8 54 [.ref x, l1, l2, l3, l4] st h = go d 8 55 [.ref x, l1, l2, l3, l4] (.ref x :: st) h := go_plain (q := (55, [.ref x, l1, l2, l3, l4], (.ref x :: st), h)) ke_8_54 rfl
theorem ee_8_54N {d : Nat} {h : aH} {l1 l2 l3 l4 : Value} {st : List Value} : go d 8 54 [.null, l1, l2, l3, l4] st h = go d 8 55 [.null, l1, l2, l3, l4] (.null :: st) h := go_plain (q := (55, [.null, l1, l2, l3, l4], (.null :: st), h)) ke_8_54 rfl
theorem ke_8_55 : alook 8 55 = some (55, .getfield 47, 3, (0, 2, 2, 2, 0), ⟨"", "", ""⟩, "WordHides$GoodSearch") := rfl
theorem ee_8_55 {d : Nat} {ls st : List Value} {h : aH} {r : Nat} : go d 8 55 ls (.ref r :: st) h = (gf h r 0 2 2).bind fun z => go d 8 58 ls (z :: st) h := go_getf ke_8_55
theorem ke_8_58 : alook 8 58 = some (58, .getfield 83, 3, (1, 0, 0, 2, 0), ⟨"", "", ""⟩, "WordHides$Board") := rfl
theorem ee_8_58 {d : Nat} {ls st : List Value} {h : aH} {r : Nat} : go d 8 58 ls (.ref r :: st) h = (gf h r 1 0 0).bind fun z => go d 8 61 ls (z :: st) h := go_getf ke_8_58
theorem ke_8_61 : alook 8 61 = some (61, .getfield 70, 3, (1, 6, 6, 0, 0), ⟨"", "", ""⟩, "WordHides$TextList") := rfl
theorem ee_8_61 {d : Nat} {ls st : List Value} {h : aH} {r : Nat} : go d 8 61 ls (.ref r :: st) h = (gf h r 1 6 6).bind fun z => go d 8 64 ls (z :: st) h := go_getf ke_8_61
theorem ke_8_64 : alook 8 64 = some (64, .if_icmp .ge 55, 3, (119, 0, 0, 0, 0), ⟨"", "", ""⟩, "") := rfl
theorem ee_8_64 {d : Nat} {ls st : List Value} {h : aH} {x y : Int32} : go d 8 64 ls (.int y :: .int x :: st) h = if y ≤ x then go d 8 119 ls st h else go d 8 67 ls st h := go_ci (go_if2 (tg := 119) (q := 67) (f := fun x y => decide (y ≤ x)) ke_8_64 rfl)
theorem ke_8_67 : alook 8 67 = some (67, .iload_n 2, 1, (0, 0, 0, 0, 0), ⟨"", "", ""⟩, "") := rfl
theorem ee_8_67 {d : Nat} {h : aH} {l0 l1 l3 l4 : Value} {x : Int32} {st : List Value} : go d 8 67 [l0, l1, .int x, l3, l4] st h = go d 8 68 [l0, l1, .int x, l3, l4] (.int x :: st) h := go_plain (q := (68, [l0, l1, .int x, l3, l4], (.int x :: st), h)) ke_8_67 rfl
theorem ke_8_68 : alook 8 68 = some (68, .iconst 3, 1, (0, 0, 0, 0, 0), ⟨"", "", ""⟩, "") := rfl
theorem ee_8_68 {d : Nat} {h : aH} {ls st : List Value} : go d 8 68 ls st h = go d 8 69 ls (.int 3 :: st) h := go_plain (q := (69, ls, (.int 3 :: st), h)) ke_8_68 rfl
theorem ke_8_69 : alook 8 69 = some (69, .if_icmp .ge 50, 3, (119, 0, 0, 0, 0), ⟨"", "", ""⟩, "") := rfl
theorem ee_8_69 {d : Nat} {ls st : List Value} {h : aH} {x y : Int32} : go d 8 69 ls (.int y :: .int x :: st) h = if y ≤ x then go d 8 119 ls st h else go d 8 72 ls st h := go_ci (go_if2 (tg := 119) (q := 72) (f := fun x y => decide (y ≤ x)) ke_8_69 rfl)
theorem ke_8_72 : alook 8 72 = some (72, .aload_n 0, 1, (0, 0, 0, 0, 0), ⟨"", "", ""⟩, "") := rfl
theorem ee_8_72 {d : Nat} {h : aH} {l1 l2 l3 l4 : Value} {x : Nat} {st : List Value} : go d 8 72 [.ref x, l1, l2, l3, l4] st h = go d 8 73 [.ref x, l1, l2, l3, l4] (.ref x :: st) h := go_plain (q := (73, [.ref x, l1, l2, l3, l4], (.ref x :: st), h)) ke_8_72 rfl
theorem ee_8_72N {d : Nat} {h : aH} {l1 l2 l3 l4 : Value} {st : List Value} : go d 8 72 [.null, l1, l2, l3, l4] st h = go d 8 73 [.null, l1, l2, l3, l4] (.null :: st) h := go_plain (q := (73, [.null, l1, l2, l3, l4], (.null :: st), h)) ke_8_72 rfl
theorem ke_8_73 : alook 8 73 = some (73, .getfield 47, 3, (0, 2, 2, 2, 0), ⟨"", "", ""⟩, "WordHides$GoodSearch") := rfl
theorem ee_8_73 {d : Nat} {ls st : List Value} {h : aH} {r : Nat} : go d 8 73 ls (.ref r :: st) h = (gf h r 0 2 2).bind fun z => go d 8 76 ls (z :: st) h := go_getf ke_8_73
theorem ke_8_76 : alook 8 76 = some (76, .getfield 83, 3, (1, 0, 0, 2, 0), ⟨"", "", ""⟩, "WordHides$Board") := rfl
theorem ee_8_76 {d : Nat} {ls st : List Value} {h : aH} {r : Nat} : go d 8 76 ls (.ref r :: st) h = (gf h r 1 0 0).bind fun z => go d 8 79 ls (z :: st) h := go_getf ke_8_76
theorem ke_8_79 : alook 8 79 = some (79, .getfield 75, 3, (0, 6, 6, 2, 0), ⟨"", "", ""⟩, "WordHides$TextList") := rfl
theorem ee_8_79 {d : Nat} {ls st : List Value} {h : aH} {r : Nat} : go d 8 79 ls (.ref r :: st) h = (gf h r 0 6 6).bind fun z => go d 8 82 ls (z :: st) h := go_getf ke_8_79
theorem ke_8_82 : alook 8 82 = some (82, .iload_n 2, 1, (0, 0, 0, 0, 0), ⟨"", "", ""⟩, "") := rfl
theorem ee_8_82 {d : Nat} {h : aH} {l0 l1 l3 l4 : Value} {x : Int32} {st : List Value} : go d 8 82 [l0, l1, .int x, l3, l4] st h = go d 8 83 [l0, l1, .int x, l3, l4] (.int x :: st) h := go_plain (q := (83, [l0, l1, .int x, l3, l4], (.int x :: st), h)) ke_8_82 rfl
theorem ke_8_83 : alook 8 83 = some (83, .aaload, 1, (0, 0, 0, 0, 0), ⟨"", "", ""⟩, "") := rfl
theorem ee_8_83 {d : Nat} {ls st : List Value} {h : aH} {r : Nat} {i : Int32} : go d 8 83 ls (.int i :: .ref r :: st) h = (aa h r i).bind fun z => go d 8 84 ls (z :: st) h := go_aald ke_8_83
theorem ke_8_84 : alook 8 84 = some (84, .astore_n 3, 1, (0, 0, 0, 0, 0), ⟨"", "", ""⟩, "") := rfl
theorem ee_8_84 {d : Nat} {h : aH} {l0 l1 l2 l3 l4 : Value} {x : Nat} {st : List Value} : go d 8 84 [l0, l1, l2, l3, l4] (.ref x :: st) h = go d 8 85 [l0, l1, l2, .ref x, l4] st h := go_plain (q := (85, [l0, l1, l2, .ref x, l4], st, h)) ke_8_84 rfl
theorem ee_8_84N {d : Nat} {h : aH} {l0 l1 l2 l3 l4 : Value} {st : List Value} : go d 8 84 [l0, l1, l2, l3, l4] (.null :: st) h = go d 8 85 [l0, l1, l2, .null, l4] st h := go_plain (q := (85, [l0, l1, l2, .null, l4], st, h)) ke_8_84 rfl
theorem ke_8_85 : alook 8 85 = some (85, .aload_n 3, 1, (0, 0, 0, 0, 0), ⟨"", "", ""⟩, "") := rfl
theorem ee_8_85 {d : Nat} {h : aH} {l0 l1 l2 l4 : Value} {x : Nat} {st : List Value} : go d 8 85 [l0, l1, l2, .ref x, l4] st h = go d 8 86 [l0, l1, l2, .ref x, l4] (.ref x :: st) h := go_plain (q := (86, [l0, l1, l2, .ref x, l4], (.ref x :: st), h)) ke_8_85 rfl
theorem ee_8_85N {d : Nat} {h : aH} {l0 l1 l2 l4 : Value} {st : List Value} : go d 8 85 [l0, l1, l2, .null, l4] st h = go d 8 86 [l0, l1, l2, .null, l4] (.null :: st) h := go_plain (q := (86, [l0, l1, l2, .null, l4], (.null :: st), h)) ke_8_85 rfl
theorem ke_8_86 : alook 8 86 = some (86, .invokevirtual 86, 3, (0, 5, 35, 5, 35), ⟨"WordHides$Text", "isSameFromEnd", "()Z"⟩, "") := rfl
theorem ee_8_86 {d : Nat} {ls : List Value} {h : aH} {r0 : Nat} : go (d + 1) 8 86 ls [.ref r0] h = if isC h r0 5 = true then (go d 35 0 [.ref r0, aU] [] h).bind (fun q => go (d + 1) 8 89 ls (q.1.toList ++ []) q.2) else none := go_cv1 (as := []) (rest := []) (L := [.ref r0, aU]) ke_8_86 rfl rfl rfl
theorem ke_8_89 : alook 8 89 = some (89, .ifCond .eq 7, 3, (96, 0, 0, 0, 0), ⟨"", "", ""⟩, "") := rfl
theorem ee_8_89 {d : Nat} {ls st : List Value} {h : aH} {x : Int32} : go d 8 89 ls (.int x :: st) h = if x = 0 then go d 8 96 ls st h else go d 8 92 ls st h := go_c1 (go_if1 (tg := 96) (q := 92) (f := fun x => decide (x = 0)) ke_8_89 rfl)
theorem ke_8_92 : alook 8 92 = some (92, .iconst 2, 1, (0, 0, 0, 0, 0), ⟨"", "", ""⟩, "") := rfl
theorem ee_8_92 {d : Nat} {h : aH} {ls st : List Value} : go d 8 92 ls st h = go d 8 93 ls (.int 2 :: st) h := go_plain (q := (93, ls, (.int 2 :: st), h)) ke_8_92 rfl
theorem ke_8_93 : alook 8 93 = some (93, .goto 4, 3, (97, 0, 0, 0, 0), ⟨"", "", ""⟩, "") := rfl
theorem ee_8_93 {d : Nat} {h : aH} {ls st : List Value} : go d 8 93 ls st h = go d 8 97 ls st h := go_plain (q := (97, ls, st, h)) ke_8_93 rfl
theorem ke_8_96 : alook 8 96 = some (96, .iconst 1, 1, (0, 0, 0, 0, 0), ⟨"", "", ""⟩, "") := rfl
theorem ee_8_96 {d : Nat} {h : aH} {ls st : List Value} : go d 8 96 ls st h = go d 8 97 ls (.int 1 :: st) h := go_plain (q := (97, ls, (.int 1 :: st), h)) ke_8_96 rfl
theorem ke_8_97 : alook 8 97 = some (97, .istore 4, 2, (0, 0, 0, 0, 0), ⟨"", "", ""⟩, "") := rfl
theorem ee_8_97 {d : Nat} {h : aH} {l0 l1 l2 l3 l4 : Value} {x : Int32} {st : List Value} : go d 8 97 [l0, l1, l2, l3, l4] (.int x :: st) h = go d 8 99 [l0, l1, l2, l3, .int x] st h := go_plain (q := (99, [l0, l1, l2, l3, .int x], st, h)) ke_8_97 rfl
theorem ke_8_99 : alook 8 99 = some (99, .aload_n 1, 1, (0, 0, 0, 0, 0), ⟨"", "", ""⟩, "") := rfl
theorem ee_8_99 {d : Nat} {h : aH} {l0 l2 l3 l4 : Value} {x : Nat} {st : List Value} : go d 8 99 [l0, .ref x, l2, l3, l4] st h = go d 8 100 [l0, .ref x, l2, l3, l4] (.ref x :: st) h := go_plain (q := (100, [l0, .ref x, l2, l3, l4], (.ref x :: st), h)) ke_8_99 rfl
theorem ee_8_99N {d : Nat} {h : aH} {l0 l2 l3 l4 : Value} {st : List Value} : go d 8 99 [l0, .null, l2, l3, l4] st h = go d 8 100 [l0, .null, l2, l3, l4] (.null :: st) h := go_plain (q := (100, [l0, .null, l2, l3, l4], (.null :: st), h)) ke_8_99 rfl
theorem ke_8_100 : alook 8 100 = some (100, .aload_n 3, 1, (0, 0, 0, 0, 0), ⟨"", "", ""⟩, "") := rfl
theorem ee_8_100 {d : Nat} {h : aH} {l0 l1 l2 l4 : Value} {x : Nat} {st : List Value} : go d 8 100 [l0, l1, l2, .ref x, l4] st h = go d 8 101 [l0, l1, l2, .ref x, l4] (.ref x :: st) h := go_plain (q := (101, [l0, l1, l2, .ref x, l4], (.ref x :: st), h)) ke_8_100 rfl
theorem ee_8_100N {d : Nat} {h : aH} {l0 l1 l2 l4 : Value} {st : List Value} : go d 8 100 [l0, l1, l2, .null, l4] st h = go d 8 101 [l0, l1, l2, .null, l4] (.null :: st) h := go_plain (q := (101, [l0, l1, l2, .null, l4], (.null :: st), h)) ke_8_100 rfl
theorem ke_8_101 : alook 8 101 = some (101, .iload 4, 2, (0, 0, 0, 0, 0), ⟨"", "", ""⟩, "") := rfl
theorem ee_8_101 {d : Nat} {h : aH} {l0 l1 l2 l3 : Value} {x : Int32} {st : List Value} : go d 8 101 [l0, l1, l2, l3, .int x] st h = go d 8 103 [l0, l1, l2, l3, .int x] (.int x :: st) h := go_plain (q := (103, [l0, l1, l2, l3, .int x], (.int x :: st), h)) ke_8_101 rfl
theorem ke_8_103 : alook 8 103 = some (103, .invokevirtual 79, 3, (2, 4, 28, 4, 28), ⟨"WordHides$Square", "standing", "(LWordHides$Text;I)I"⟩, "") := rfl
theorem ee_8_103 {d : Nat} {ls : List Value} {h : aH} {i0 : Int32} {r1 : Nat} {r2 : Nat} : go (d + 1) 8 103 ls [.int i0, .ref r1, .ref r2] h = if isC h r2 4 = true then (go d 28 0 [.ref r2, .ref r1, .int i0, aU, aU, aU] [] h).bind (fun q => go (d + 1) 8 106 ls (q.1.toList ++ []) q.2) else none := go_cv1 (as := [.ref r1, .int i0]) (rest := []) (L := [.ref r2, .ref r1, .int i0, aU, aU, aU]) ke_8_103 rfl rfl rfl
theorem ke_8_106 : alook 8 106 = some (106, .bipush (-6), 2, (0, 0, 0, 0, 0), ⟨"", "", ""⟩, "") := rfl
theorem ee_8_106 {d : Nat} {h : aH} {ls st : List Value} : go d 8 106 ls st h = go d 8 108 ls (.int (-6) :: st) h := go_plain (q := (108, ls, (.int (-6) :: st), h)) ke_8_106 rfl
theorem ke_8_108 : alook 8 108 = some (108, .if_icmp .eq 5, 3, (113, 0, 0, 0, 0), ⟨"", "", ""⟩, "") := rfl
theorem ee_8_108 {d : Nat} {ls st : List Value} {h : aH} {x y : Int32} : go d 8 108 ls (.int y :: .int x :: st) h = if x = y then go d 8 113 ls st h else go d 8 111 ls st h := go_ci (go_if2 (tg := 113) (q := 111) (f := fun x y => decide (x = y)) ke_8_108 rfl)
theorem ke_8_111 : alook 8 111 = some (111, .iconst 1, 1, (0, 0, 0, 0, 0), ⟨"", "", ""⟩, "") := rfl
theorem ee_8_111 {d : Nat} {h : aH} {ls st : List Value} : go d 8 111 ls st h = go d 8 112 ls (.int 1 :: st) h := go_plain (q := (112, ls, (.int 1 :: st), h)) ke_8_111 rfl
theorem ke_8_112 : alook 8 112 = some (112, .ireturn, 1, (1, 0, 0, 0, 0), ⟨"", "", ""⟩, "") := rfl
theorem ee_8_112 {d : Nat} {ls : List Value} {h : aH} : go d 8 112 ls [.int 0] h = some (some (.int 0), h) := go_zret0 ke_8_112
theorem ee_8_112T {d : Nat} {ls : List Value} {h : aH} : go d 8 112 ls [.int 1] h = some (some (.int 1), h) := go_zret1 ke_8_112
theorem ke_8_113 : alook 8 113 = some (113, .iinc 2 1, 3, (0, 0, 0, 0, 0), ⟨"", "", ""⟩, "") := rfl
theorem ee_8_113 {d : Nat} {h : aH} {l0 l1 l3 l4 : Value} {x : Int32} {st : List Value} : go d 8 113 [l0, l1, .int x, l3, l4] st h = go d 8 116 [l0, l1, .int (x + 1), l3, l4] st h := go_plain (q := (116, [l0, l1, .int (x + 1), l3, l4], st, h)) ke_8_113 rfl
theorem ke_8_116 : alook 8 116 = some (116, .goto (-63), 3, (53, 0, 0, 0, 0), ⟨"", "", ""⟩, "") := rfl
theorem ee_8_116 {d : Nat} {h : aH} {ls st : List Value} : go d 8 116 ls st h = go d 8 53 ls st h := go_plain (q := (53, ls, st, h)) ke_8_116 rfl
theorem ke_8_119 : alook 8 119 = some (119, .iconst 0, 1, (0, 0, 0, 0, 0), ⟨"", "", ""⟩, "") := rfl
theorem ee_8_119 {d : Nat} {h : aH} {ls st : List Value} : go d 8 119 ls st h = go d 8 120 ls (.int 0 :: st) h := go_plain (q := (120, ls, (.int 0 :: st), h)) ke_8_119 rfl
theorem ke_8_120 : alook 8 120 = some (120, .ireturn, 1, (1, 0, 0, 0, 0), ⟨"", "", ""⟩, "") := rfl
theorem ee_8_120 {d : Nat} {ls : List Value} {h : aH} : go d 8 120 ls [.int 0] h = some (some (.int 0), h) := go_zret0 ke_8_120
theorem ee_8_120T {d : Nat} {ls : List Value} {h : aH} : go d 8 120 ls [.int 1] h = some (some (.int 1), h) := go_zret1 ke_8_120
theorem ke_12_0 : alook 12 0 = some (0, .iload_n 1, 1, (0, 0, 0, 0, 0), ⟨"", "", ""⟩, "") := rfl
theorem ee_12_0 {d : Nat} {h : aH} {l0 : Value} {x : Int32} {st : List Value} : go d 12 0 [l0, .int x] st h = go d 12 1 [l0, .int x] (.int x :: st) h := go_plain (q := (1, [l0, .int x], (.int x :: st), h)) ke_12_0 rfl
theorem ke_12_1 : alook 12 1 = some (1, .ifCond .lt 15, 3, (16, 0, 0, 0, 0), ⟨"", "", ""⟩, "") := rfl
theorem ee_12_1 {d : Nat} {ls st : List Value} {h : aH} {x : Int32} : go d 12 1 ls (.int x :: st) h = if x < 0 then go d 12 16 ls st h else go d 12 4 ls st h := go_c1 (go_if1 (tg := 16) (q := 4) (f := fun x => decide (x < 0)) ke_12_1 rfl)
theorem ke_12_4 : alook 12 4 = some (4, .iload_n 1, 1, (0, 0, 0, 0, 0), ⟨"", "", ""⟩, "") := rfl
theorem ee_12_4 {d : Nat} {h : aH} {l0 : Value} {x : Int32} {st : List Value} : go d 12 4 [l0, .int x] st h = go d 12 5 [l0, .int x] (.int x :: st) h := go_plain (q := (5, [l0, .int x], (.int x :: st), h)) ke_12_4 rfl
theorem ke_12_5 : alook 12 5 = some (5, .aload_n 0, 1, (0, 0, 0, 0, 0), ⟨"", "", ""⟩, "") := rfl
theorem ee_12_5 {d : Nat} {h : aH} {l1 : Value} {x : Nat} {st : List Value} : go d 12 5 [.ref x, l1] st h = go d 12 6 [.ref x, l1] (.ref x :: st) h := go_plain (q := (6, [.ref x, l1], (.ref x :: st), h)) ke_12_5 rfl
theorem ee_12_5N {d : Nat} {h : aH} {l1 : Value} {st : List Value} : go d 12 5 [.null, l1] st h = go d 12 6 [.null, l1] (.null :: st) h := go_plain (q := (6, [.null, l1], (.null :: st), h)) ke_12_5 rfl
theorem ke_12_6 : alook 12 6 = some (6, .getfield 22, 3, (1, 3, 3, 0, 0), ⟨"", "", ""⟩, "WordHides$Lattice") := rfl
theorem ee_12_6 {d : Nat} {ls st : List Value} {h : aH} {r : Nat} : go d 12 6 ls (.ref r :: st) h = (gf h r 1 3 3).bind fun z => go d 12 9 ls (z :: st) h := go_getf ke_12_6
theorem ke_12_9 : alook 12 9 = some (9, .if_icmp .ge 7, 3, (16, 0, 0, 0, 0), ⟨"", "", ""⟩, "") := rfl
theorem ee_12_9 {d : Nat} {ls st : List Value} {h : aH} {x y : Int32} : go d 12 9 ls (.int y :: .int x :: st) h = if y ≤ x then go d 12 16 ls st h else go d 12 12 ls st h := go_ci (go_if2 (tg := 16) (q := 12) (f := fun x y => decide (y ≤ x)) ke_12_9 rfl)
theorem ke_12_12 : alook 12 12 = some (12, .iconst 1, 1, (0, 0, 0, 0, 0), ⟨"", "", ""⟩, "") := rfl
theorem ee_12_12 {d : Nat} {h : aH} {ls st : List Value} : go d 12 12 ls st h = go d 12 13 ls (.int 1 :: st) h := go_plain (q := (13, ls, (.int 1 :: st), h)) ke_12_12 rfl
theorem ke_12_13 : alook 12 13 = some (13, .goto 4, 3, (17, 0, 0, 0, 0), ⟨"", "", ""⟩, "") := rfl
theorem ee_12_13 {d : Nat} {h : aH} {ls st : List Value} : go d 12 13 ls st h = go d 12 17 ls st h := go_plain (q := (17, ls, st, h)) ke_12_13 rfl
theorem ke_12_16 : alook 12 16 = some (16, .iconst 0, 1, (0, 0, 0, 0, 0), ⟨"", "", ""⟩, "") := rfl
theorem ee_12_16 {d : Nat} {h : aH} {ls st : List Value} : go d 12 16 ls st h = go d 12 17 ls (.int 0 :: st) h := go_plain (q := (17, ls, (.int 0 :: st), h)) ke_12_16 rfl
theorem ke_12_17 : alook 12 17 = some (17, .ireturn, 1, (1, 0, 0, 0, 0), ⟨"", "", ""⟩, "") := rfl
theorem ee_12_17 {d : Nat} {ls : List Value} {h : aH} : go d 12 17 ls [.int 0] h = some (some (.int 0), h) := go_zret0 ke_12_17
theorem ee_12_17T {d : Nat} {ls : List Value} {h : aH} : go d 12 17 ls [.int 1] h = some (some (.int 1), h) := go_zret1 ke_12_17
theorem ke_13_0 : alook 13 0 = some (0, .iload_n 1, 1, (0, 0, 0, 0, 0), ⟨"", "", ""⟩, "") := rfl
theorem ee_13_0 {d : Nat} {h : aH} {l0 : Value} {x : Int32} {st : List Value} : go d 13 0 [l0, .int x] st h = go d 13 1 [l0, .int x] (.int x :: st) h := go_plain (q := (1, [l0, .int x], (.int x :: st), h)) ke_13_0 rfl
theorem ke_13_1 : alook 13 1 = some (1, .ifCond .lt 15, 3, (16, 0, 0, 0, 0), ⟨"", "", ""⟩, "") := rfl
theorem ee_13_1 {d : Nat} {ls st : List Value} {h : aH} {x : Int32} : go d 13 1 ls (.int x :: st) h = if x < 0 then go d 13 16 ls st h else go d 13 4 ls st h := go_c1 (go_if1 (tg := 16) (q := 4) (f := fun x => decide (x < 0)) ke_13_1 rfl)
theorem ke_13_4 : alook 13 4 = some (4, .iload_n 1, 1, (0, 0, 0, 0, 0), ⟨"", "", ""⟩, "") := rfl
theorem ee_13_4 {d : Nat} {h : aH} {l0 : Value} {x : Int32} {st : List Value} : go d 13 4 [l0, .int x] st h = go d 13 5 [l0, .int x] (.int x :: st) h := go_plain (q := (5, [l0, .int x], (.int x :: st), h)) ke_13_4 rfl
theorem ke_13_5 : alook 13 5 = some (5, .aload_n 0, 1, (0, 0, 0, 0, 0), ⟨"", "", ""⟩, "") := rfl
theorem ee_13_5 {d : Nat} {h : aH} {l1 : Value} {x : Nat} {st : List Value} : go d 13 5 [.ref x, l1] st h = go d 13 6 [.ref x, l1] (.ref x :: st) h := go_plain (q := (6, [.ref x, l1], (.ref x :: st), h)) ke_13_5 rfl
theorem ee_13_5N {d : Nat} {h : aH} {l1 : Value} {st : List Value} : go d 13 5 [.null, l1] st h = go d 13 6 [.null, l1] (.null :: st) h := go_plain (q := (6, [.null, l1], (.null :: st), h)) ke_13_5 rfl
theorem ke_13_6 : alook 13 6 = some (6, .getfield 25, 3, (2, 3, 3, 0, 0), ⟨"", "", ""⟩, "WordHides$Lattice") := rfl
theorem ee_13_6 {d : Nat} {ls st : List Value} {h : aH} {r : Nat} : go d 13 6 ls (.ref r :: st) h = (gf h r 2 3 3).bind fun z => go d 13 9 ls (z :: st) h := go_getf ke_13_6
theorem ke_13_9 : alook 13 9 = some (9, .if_icmp .ge 7, 3, (16, 0, 0, 0, 0), ⟨"", "", ""⟩, "") := rfl
theorem ee_13_9 {d : Nat} {ls st : List Value} {h : aH} {x y : Int32} : go d 13 9 ls (.int y :: .int x :: st) h = if y ≤ x then go d 13 16 ls st h else go d 13 12 ls st h := go_ci (go_if2 (tg := 16) (q := 12) (f := fun x y => decide (y ≤ x)) ke_13_9 rfl)
theorem ke_13_12 : alook 13 12 = some (12, .iconst 1, 1, (0, 0, 0, 0, 0), ⟨"", "", ""⟩, "") := rfl
theorem ee_13_12 {d : Nat} {h : aH} {ls st : List Value} : go d 13 12 ls st h = go d 13 13 ls (.int 1 :: st) h := go_plain (q := (13, ls, (.int 1 :: st), h)) ke_13_12 rfl
theorem ke_13_13 : alook 13 13 = some (13, .goto 4, 3, (17, 0, 0, 0, 0), ⟨"", "", ""⟩, "") := rfl
theorem ee_13_13 {d : Nat} {h : aH} {ls st : List Value} : go d 13 13 ls st h = go d 13 17 ls st h := go_plain (q := (17, ls, st, h)) ke_13_13 rfl
theorem ke_13_16 : alook 13 16 = some (16, .iconst 0, 1, (0, 0, 0, 0, 0), ⟨"", "", ""⟩, "") := rfl
theorem ee_13_16 {d : Nat} {h : aH} {ls st : List Value} : go d 13 16 ls st h = go d 13 17 ls (.int 0 :: st) h := go_plain (q := (17, ls, (.int 0 :: st), h)) ke_13_16 rfl
theorem ke_13_17 : alook 13 17 = some (17, .ireturn, 1, (1, 0, 0, 0, 0), ⟨"", "", ""⟩, "") := rfl
theorem ee_13_17 {d : Nat} {ls : List Value} {h : aH} : go d 13 17 ls [.int 0] h = some (some (.int 0), h) := go_zret0 ke_13_17
theorem ee_13_17T {d : Nat} {ls : List Value} {h : aH} : go d 13 17 ls [.int 1] h = some (some (.int 1), h) := go_zret1 ke_13_17
theorem ke_14_0 : alook 14 0 = some (0, .aload_n 0, 1, (0, 0, 0, 0, 0), ⟨"", "", ""⟩, "") := rfl
theorem ee_14_0 {d : Nat} {h : aH} {l1 l2 : Value} {x : Nat} {st : List Value} : go d 14 0 [.ref x, l1, l2] st h = go d 14 1 [.ref x, l1, l2] (.ref x :: st) h := go_plain (q := (1, [.ref x, l1, l2], (.ref x :: st), h)) ke_14_0 rfl
theorem ee_14_0N {d : Nat} {h : aH} {l1 l2 : Value} {st : List Value} : go d 14 0 [.null, l1, l2] st h = go d 14 1 [.null, l1, l2] (.null :: st) h := go_plain (q := (1, [.null, l1, l2], (.null :: st), h)) ke_14_0 rfl
theorem ke_14_1 : alook 14 1 = some (1, .iload_n 1, 1, (0, 0, 0, 0, 0), ⟨"", "", ""⟩, "") := rfl
theorem ee_14_1 {d : Nat} {h : aH} {l0 l2 : Value} {x : Int32} {st : List Value} : go d 14 1 [l0, .int x, l2] st h = go d 14 2 [l0, .int x, l2] (.int x :: st) h := go_plain (q := (2, [l0, .int x, l2], (.int x :: st), h)) ke_14_1 rfl
theorem ke_14_2 : alook 14 2 = some (2, .invokevirtual 47, 3, (1, 3, 13, 3, 13), ⟨"WordHides$Lattice", "hasPlace", "(I)Z"⟩, "") := rfl
theorem ee_14_2 {d : Nat} {ls : List Value} {h : aH} {i0 : Int32} {r1 : Nat} : go (d + 1) 14 2 ls [.int i0, .ref r1] h = if isC h r1 3 = true then (go d 13 0 [.ref r1, .int i0] [] h).bind (fun q => go (d + 1) 14 5 ls (q.1.toList ++ []) q.2) else none := go_cv1 (as := [.int i0]) (rest := []) (L := [.ref r1, .int i0]) ke_14_2 rfl rfl rfl
theorem ke_14_5 : alook 14 5 = some (5, .ifCond .eq 17, 3, (22, 0, 0, 0, 0), ⟨"", "", ""⟩, "") := rfl
theorem ee_14_5 {d : Nat} {ls st : List Value} {h : aH} {x : Int32} : go d 14 5 ls (.int x :: st) h = if x = 0 then go d 14 22 ls st h else go d 14 8 ls st h := go_c1 (go_if1 (tg := 22) (q := 8) (f := fun x => decide (x = 0)) ke_14_5 rfl)
theorem ke_14_8 : alook 14 8 = some (8, .aload_n 0, 1, (0, 0, 0, 0, 0), ⟨"", "", ""⟩, "") := rfl
theorem ee_14_8 {d : Nat} {h : aH} {l1 l2 : Value} {x : Nat} {st : List Value} : go d 14 8 [.ref x, l1, l2] st h = go d 14 9 [.ref x, l1, l2] (.ref x :: st) h := go_plain (q := (9, [.ref x, l1, l2], (.ref x :: st), h)) ke_14_8 rfl
theorem ee_14_8N {d : Nat} {h : aH} {l1 l2 : Value} {st : List Value} : go d 14 8 [.null, l1, l2] st h = go d 14 9 [.null, l1, l2] (.null :: st) h := go_plain (q := (9, [.null, l1, l2], (.null :: st), h)) ke_14_8 rfl
theorem ke_14_9 : alook 14 9 = some (9, .getfield 15, 3, (4, 3, 3, 2, 0), ⟨"", "", ""⟩, "WordHides$Lattice") := rfl
theorem ee_14_9 {d : Nat} {ls st : List Value} {h : aH} {r : Nat} : go d 14 9 ls (.ref r :: st) h = (gf h r 4 3 3).bind fun z => go d 14 12 ls (z :: st) h := go_getf ke_14_9
theorem ke_14_12 : alook 14 12 = some (12, .iload_n 1, 1, (0, 0, 0, 0, 0), ⟨"", "", ""⟩, "") := rfl
theorem ee_14_12 {d : Nat} {h : aH} {l0 l2 : Value} {x : Int32} {st : List Value} : go d 14 12 [l0, .int x, l2] st h = go d 14 13 [l0, .int x, l2] (.int x :: st) h := go_plain (q := (13, [l0, .int x, l2], (.int x :: st), h)) ke_14_12 rfl
theorem ke_14_13 : alook 14 13 = some (13, .iaload, 1, (0, 0, 0, 0, 0), ⟨"", "", ""⟩, "") := rfl
theorem ee_14_13 {d : Nat} {ls st : List Value} {h : aH} {r : Nat} {i : Int32} : go d 14 13 ls (.int i :: .ref r :: st) h = (ia h r i).bind fun z => go d 14 14 ls (.int z :: st) h := go_iald ke_14_13
theorem ke_14_14 : alook 14 14 = some (14, .iload_n 2, 1, (0, 0, 0, 0, 0), ⟨"", "", ""⟩, "") := rfl
theorem ee_14_14 {d : Nat} {h : aH} {l0 l1 : Value} {x : Int32} {st : List Value} : go d 14 14 [l0, l1, .int x] st h = go d 14 15 [l0, l1, .int x] (.int x :: st) h := go_plain (q := (15, [l0, l1, .int x], (.int x :: st), h)) ke_14_14 rfl
theorem ke_14_15 : alook 14 15 = some (15, .if_icmp .lt 7, 3, (22, 0, 0, 0, 0), ⟨"", "", ""⟩, "") := rfl
theorem ee_14_15 {d : Nat} {ls st : List Value} {h : aH} {x y : Int32} : go d 14 15 ls (.int y :: .int x :: st) h = if x < y then go d 14 22 ls st h else go d 14 18 ls st h := go_ci (go_if2 (tg := 22) (q := 18) (f := fun x y => decide (x < y)) ke_14_15 rfl)
theorem ke_14_18 : alook 14 18 = some (18, .iconst 1, 1, (0, 0, 0, 0, 0), ⟨"", "", ""⟩, "") := rfl
theorem ee_14_18 {d : Nat} {h : aH} {ls st : List Value} : go d 14 18 ls st h = go d 14 19 ls (.int 1 :: st) h := go_plain (q := (19, ls, (.int 1 :: st), h)) ke_14_18 rfl
theorem ke_14_19 : alook 14 19 = some (19, .goto 4, 3, (23, 0, 0, 0, 0), ⟨"", "", ""⟩, "") := rfl
theorem ee_14_19 {d : Nat} {h : aH} {ls st : List Value} : go d 14 19 ls st h = go d 14 23 ls st h := go_plain (q := (23, ls, st, h)) ke_14_19 rfl
theorem ke_14_22 : alook 14 22 = some (22, .iconst 0, 1, (0, 0, 0, 0, 0), ⟨"", "", ""⟩, "") := rfl
theorem ee_14_22 {d : Nat} {h : aH} {ls st : List Value} : go d 14 22 ls st h = go d 14 23 ls (.int 0 :: st) h := go_plain (q := (23, ls, (.int 0 :: st), h)) ke_14_22 rfl
theorem ke_14_23 : alook 14 23 = some (23, .ireturn, 1, (1, 0, 0, 0, 0), ⟨"", "", ""⟩, "") := rfl
theorem ee_14_23 {d : Nat} {ls : List Value} {h : aH} : go d 14 23 ls [.int 0] h = some (some (.int 0), h) := go_zret0 ke_14_23
theorem ee_14_23T {d : Nat} {ls : List Value} {h : aH} : go d 14 23 ls [.int 1] h = some (some (.int 1), h) := go_zret1 ke_14_23
theorem ke_15_0 : alook 15 0 = some (0, .iconst 0, 1, (0, 0, 0, 0, 0), ⟨"", "", ""⟩, "") := rfl
theorem ee_15_0 {d : Nat} {h : aH} {ls st : List Value} : go d 15 0 ls st h = go d 15 1 ls (.int 0 :: st) h := go_plain (q := (1, ls, (.int 0 :: st), h)) ke_15_0 rfl
theorem ke_15_1 : alook 15 1 = some (1, .istore_n 3, 1, (0, 0, 0, 0, 0), ⟨"", "", ""⟩, "") := rfl
theorem ee_15_1 {d : Nat} {h : aH} {l0 l1 l2 l3 l4 l5 : Value} {x : Int32} {st : List Value} : go d 15 1 [l0, l1, l2, l3, l4, l5] (.int x :: st) h = go d 15 2 [l0, l1, l2, .int x, l4, l5] st h := go_plain (q := (2, [l0, l1, l2, .int x, l4, l5], st, h)) ke_15_1 rfl
theorem ke_15_2 : alook 15 2 = some (2, .iload_n 1, 1, (0, 0, 0, 0, 0), ⟨"", "", ""⟩, "") := rfl
theorem ee_15_2 {d : Nat} {h : aH} {l0 l2 l3 l4 l5 : Value} {x : Int32} {st : List Value} : go d 15 2 [l0, .int x, l2, l3, l4, l5] st h = go d 15 3 [l0, .int x, l2, l3, l4, l5] (.int x :: st) h := go_plain (q := (3, [l0, .int x, l2, l3, l4, l5], (.int x :: st), h)) ke_15_2 rfl
theorem ke_15_3 : alook 15 3 = some (3, .bipush 8, 2, (0, 0, 0, 0, 0), ⟨"", "", ""⟩, "") := rfl
theorem ee_15_3 {d : Nat} {h : aH} {ls st : List Value} : go d 15 3 ls st h = go d 15 5 ls (.int 8 :: st) h := go_plain (q := (5, ls, (.int 8 :: st), h)) ke_15_3 rfl
theorem ke_15_5 : alook 15 5 = some (5, .idiv, 1, (0, 0, 0, 0, 0), ⟨"", "", ""⟩, "") := rfl
theorem ee_15_5 {d : Nat} {ls st : List Value} {h : aH} {x y : Int32} : go d 15 5 ls (.int y :: .int x :: st) h = if y = 0 then none else go d 15 6 ls (.int (x / y) :: st) h := go_div (f := fun x y => x / y) (q := 6) ke_15_5 rfl rfl rfl
theorem ke_15_6 : alook 15 6 = some (6, .istore 4, 2, (0, 0, 0, 0, 0), ⟨"", "", ""⟩, "") := rfl
theorem ee_15_6 {d : Nat} {h : aH} {l0 l1 l2 l3 l4 l5 : Value} {x : Int32} {st : List Value} : go d 15 6 [l0, l1, l2, l3, l4, l5] (.int x :: st) h = go d 15 8 [l0, l1, l2, l3, .int x, l5] st h := go_plain (q := (8, [l0, l1, l2, l3, .int x, l5], st, h)) ke_15_6 rfl
theorem ke_15_8 : alook 15 8 = some (8, .iconst 0, 1, (0, 0, 0, 0, 0), ⟨"", "", ""⟩, "") := rfl
theorem ee_15_8 {d : Nat} {h : aH} {ls st : List Value} : go d 15 8 ls st h = go d 15 9 ls (.int 0 :: st) h := go_plain (q := (9, ls, (.int 0 :: st), h)) ke_15_8 rfl
theorem ke_15_9 : alook 15 9 = some (9, .istore 5, 2, (0, 0, 0, 0, 0), ⟨"", "", ""⟩, "") := rfl
theorem ee_15_9 {d : Nat} {h : aH} {l0 l1 l2 l3 l4 l5 : Value} {x : Int32} {st : List Value} : go d 15 9 [l0, l1, l2, l3, l4, l5] (.int x :: st) h = go d 15 11 [l0, l1, l2, l3, l4, .int x] st h := go_plain (q := (11, [l0, l1, l2, l3, l4, .int x], st, h)) ke_15_9 rfl
theorem ke_15_11 : alook 15 11 = some (11, .iload 5, 2, (0, 0, 0, 0, 0), ⟨"", "", ""⟩, "") := rfl
theorem ee_15_11 {d : Nat} {h : aH} {l0 l1 l2 l3 l4 : Value} {x : Int32} {st : List Value} : go d 15 11 [l0, l1, l2, l3, l4, .int x] st h = go d 15 13 [l0, l1, l2, l3, l4, .int x] (.int x :: st) h := go_plain (q := (13, [l0, l1, l2, l3, l4, .int x], (.int x :: st), h)) ke_15_11 rfl
theorem ke_15_13 : alook 15 13 = some (13, .iload_n 2, 1, (0, 0, 0, 0, 0), ⟨"", "", ""⟩, "") := rfl
theorem ee_15_13 {d : Nat} {h : aH} {l0 l1 l3 l4 l5 : Value} {x : Int32} {st : List Value} : go d 15 13 [l0, l1, .int x, l3, l4, l5] st h = go d 15 14 [l0, l1, .int x, l3, l4, l5] (.int x :: st) h := go_plain (q := (14, [l0, l1, .int x, l3, l4, l5], (.int x :: st), h)) ke_15_13 rfl
theorem ke_15_14 : alook 15 14 = some (14, .if_icmp .ge 30, 3, (44, 0, 0, 0, 0), ⟨"", "", ""⟩, "") := rfl
theorem ee_15_14 {d : Nat} {ls st : List Value} {h : aH} {x y : Int32} : go d 15 14 ls (.int y :: .int x :: st) h = if y ≤ x then go d 15 44 ls st h else go d 15 17 ls st h := go_ci (go_if2 (tg := 44) (q := 17) (f := fun x y => decide (y ≤ x)) ke_15_14 rfl)
theorem ke_15_17 : alook 15 17 = some (17, .iload_n 3, 1, (0, 0, 0, 0, 0), ⟨"", "", ""⟩, "") := rfl
theorem ee_15_17 {d : Nat} {h : aH} {l0 l1 l2 l4 l5 : Value} {x : Int32} {st : List Value} : go d 15 17 [l0, l1, l2, .int x, l4, l5] st h = go d 15 18 [l0, l1, l2, .int x, l4, l5] (.int x :: st) h := go_plain (q := (18, [l0, l1, l2, .int x, l4, l5], (.int x :: st), h)) ke_15_17 rfl
theorem ke_15_18 : alook 15 18 = some (18, .iconst 1, 1, (0, 0, 0, 0, 0), ⟨"", "", ""⟩, "") := rfl
theorem ee_15_18 {d : Nat} {h : aH} {ls st : List Value} : go d 15 18 ls st h = go d 15 19 ls (.int 1 :: st) h := go_plain (q := (19, ls, (.int 1 :: st), h)) ke_15_18 rfl
theorem ke_15_19 : alook 15 19 = some (19, .iload 4, 2, (0, 0, 0, 0, 0), ⟨"", "", ""⟩, "") := rfl
theorem ee_15_19 {d : Nat} {h : aH} {l0 l1 l2 l3 l5 : Value} {x : Int32} {st : List Value} : go d 15 19 [l0, l1, l2, l3, .int x, l5] st h = go d 15 21 [l0, l1, l2, l3, .int x, l5] (.int x :: st) h := go_plain (q := (21, [l0, l1, l2, l3, .int x, l5], (.int x :: st), h)) ke_15_19 rfl
theorem ke_15_21 : alook 15 21 = some (21, .ishl, 1, (0, 0, 0, 0, 0), ⟨"", "", ""⟩, "") := rfl
theorem ee_15_21 {d : Nat} {h : aH} {ls st : List Value} {x y : Int32} : go d 15 21 ls (.int y :: .int x :: st) h = go d 15 22 ls (.int (x <<< (y &&& 31)) :: st) h := go_plain (q := (22, ls, (.int (x <<< (y &&& 31)) :: st), h)) ke_15_21 rfl
theorem ke_15_22 : alook 15 22 = some (22, .ior, 1, (0, 0, 0, 0, 0), ⟨"", "", ""⟩, "") := rfl
theorem ee_15_22 {d : Nat} {h : aH} {ls st : List Value} {x y : Int32} : go d 15 22 ls (.int y :: .int x :: st) h = go d 15 23 ls (.int (x ||| y) :: st) h := go_plain (q := (23, ls, (.int (x ||| y) :: st), h)) ke_15_22 rfl
theorem ke_15_23 : alook 15 23 = some (23, .istore_n 3, 1, (0, 0, 0, 0, 0), ⟨"", "", ""⟩, "") := rfl
theorem ee_15_23 {d : Nat} {h : aH} {l0 l1 l2 l3 l4 l5 : Value} {x : Int32} {st : List Value} : go d 15 23 [l0, l1, l2, l3, l4, l5] (.int x :: st) h = go d 15 24 [l0, l1, l2, .int x, l4, l5] st h := go_plain (q := (24, [l0, l1, l2, .int x, l4, l5], st, h)) ke_15_23 rfl
theorem ke_15_24 : alook 15 24 = some (24, .iload 4, 2, (0, 0, 0, 0, 0), ⟨"", "", ""⟩, "") := rfl
theorem ee_15_24 {d : Nat} {h : aH} {l0 l1 l2 l3 l5 : Value} {x : Int32} {st : List Value} : go d 15 24 [l0, l1, l2, l3, .int x, l5] st h = go d 15 26 [l0, l1, l2, l3, .int x, l5] (.int x :: st) h := go_plain (q := (26, [l0, l1, l2, l3, .int x, l5], (.int x :: st), h)) ke_15_24 rfl
theorem ke_15_26 : alook 15 26 = some (26, .aload_n 0, 1, (0, 0, 0, 0, 0), ⟨"", "", ""⟩, "") := rfl
theorem ee_15_26 {d : Nat} {h : aH} {l1 l2 l3 l4 l5 : Value} {x : Nat} {st : List Value} : go d 15 26 [.ref x, l1, l2, l3, l4, l5] st h = go d 15 27 [.ref x, l1, l2, l3, l4, l5] (.ref x :: st) h := go_plain (q := (27, [.ref x, l1, l2, l3, l4, l5], (.ref x :: st), h)) ke_15_26 rfl
theorem ee_15_26N {d : Nat} {h : aH} {l1 l2 l3 l4 l5 : Value} {st : List Value} : go d 15 26 [.null, l1, l2, l3, l4, l5] st h = go d 15 27 [.null, l1, l2, l3, l4, l5] (.null :: st) h := go_plain (q := (27, [.null, l1, l2, l3, l4, l5], (.null :: st), h)) ke_15_26 rfl
theorem ke_15_27 : alook 15 27 = some (27, .getfield 9, 3, (3, 3, 3, 2, 0), ⟨"", "", ""⟩, "WordHides$Lattice") := rfl
theorem ee_15_27 {d : Nat} {ls st : List Value} {h : aH} {r : Nat} : go d 15 27 ls (.ref r :: st) h = (gf h r 3 3 3).bind fun z => go d 15 30 ls (z :: st) h := go_getf ke_15_27
theorem ke_15_30 : alook 15 30 = some (30, .iload_n 1, 1, (0, 0, 0, 0, 0), ⟨"", "", ""⟩, "") := rfl
theorem ee_15_30 {d : Nat} {h : aH} {l0 l2 l3 l4 l5 : Value} {x : Int32} {st : List Value} : go d 15 30 [l0, .int x, l2, l3, l4, l5] st h = go d 15 31 [l0, .int x, l2, l3, l4, l5] (.int x :: st) h := go_plain (q := (31, [l0, .int x, l2, l3, l4, l5], (.int x :: st), h)) ke_15_30 rfl
theorem ke_15_31 : alook 15 31 = some (31, .bipush 8, 2, (0, 0, 0, 0, 0), ⟨"", "", ""⟩, "") := rfl
theorem ee_15_31 {d : Nat} {h : aH} {ls st : List Value} : go d 15 31 ls st h = go d 15 33 ls (.int 8 :: st) h := go_plain (q := (33, ls, (.int 8 :: st), h)) ke_15_31 rfl
theorem ke_15_33 : alook 15 33 = some (33, .irem, 1, (0, 0, 0, 0, 0), ⟨"", "", ""⟩, "") := rfl
theorem ee_15_33 {d : Nat} {ls st : List Value} {h : aH} {x y : Int32} : go d 15 33 ls (.int y :: .int x :: st) h = if y = 0 then none else go d 15 34 ls (.int (x - x / y * y) :: st) h := go_div (f := fun x y => x - x / y * y) (q := 34) ke_15_33 rfl rfl rfl
theorem ke_15_34 : alook 15 34 = some (34, .iaload, 1, (0, 0, 0, 0, 0), ⟨"", "", ""⟩, "") := rfl
theorem ee_15_34 {d : Nat} {ls st : List Value} {h : aH} {r : Nat} {i : Int32} : go d 15 34 ls (.int i :: .ref r :: st) h = (ia h r i).bind fun z => go d 15 35 ls (.int z :: st) h := go_iald ke_15_34
theorem ke_15_35 : alook 15 35 = some (35, .iadd, 1, (0, 0, 0, 0, 0), ⟨"", "", ""⟩, "") := rfl
theorem ee_15_35 {d : Nat} {h : aH} {ls st : List Value} {x y : Int32} : go d 15 35 ls (.int y :: .int x :: st) h = go d 15 36 ls (.int (x + y) :: st) h := go_plain (q := (36, ls, (.int (x + y) :: st), h)) ke_15_35 rfl
theorem ke_15_36 : alook 15 36 = some (36, .istore 4, 2, (0, 0, 0, 0, 0), ⟨"", "", ""⟩, "") := rfl
theorem ee_15_36 {d : Nat} {h : aH} {l0 l1 l2 l3 l4 l5 : Value} {x : Int32} {st : List Value} : go d 15 36 [l0, l1, l2, l3, l4, l5] (.int x :: st) h = go d 15 38 [l0, l1, l2, l3, .int x, l5] st h := go_plain (q := (38, [l0, l1, l2, l3, .int x, l5], st, h)) ke_15_36 rfl
theorem ke_15_38 : alook 15 38 = some (38, .iinc 5 1, 3, (0, 0, 0, 0, 0), ⟨"", "", ""⟩, "") := rfl
theorem ee_15_38 {d : Nat} {h : aH} {l0 l1 l2 l3 l4 : Value} {x : Int32} {st : List Value} : go d 15 38 [l0, l1, l2, l3, l4, .int x] st h = go d 15 41 [l0, l1, l2, l3, l4, .int (x + 1)] st h := go_plain (q := (41, [l0, l1, l2, l3, l4, .int (x + 1)], st, h)) ke_15_38 rfl
theorem ke_15_41 : alook 15 41 = some (41, .goto (-30), 3, (11, 0, 0, 0, 0), ⟨"", "", ""⟩, "") := rfl
theorem ee_15_41 {d : Nat} {h : aH} {ls st : List Value} : go d 15 41 ls st h = go d 15 11 ls st h := go_plain (q := (11, ls, st, h)) ke_15_41 rfl
theorem ke_15_44 : alook 15 44 = some (44, .iload_n 3, 1, (0, 0, 0, 0, 0), ⟨"", "", ""⟩, "") := rfl
theorem ee_15_44 {d : Nat} {h : aH} {l0 l1 l2 l4 l5 : Value} {x : Int32} {st : List Value} : go d 15 44 [l0, l1, l2, .int x, l4, l5] st h = go d 15 45 [l0, l1, l2, .int x, l4, l5] (.int x :: st) h := go_plain (q := (45, [l0, l1, l2, .int x, l4, l5], (.int x :: st), h)) ke_15_44 rfl
theorem ke_15_45 : alook 15 45 = some (45, .ireturn, 1, (0, 0, 0, 0, 0), ⟨"", "", ""⟩, "") := rfl
theorem ee_15_45 {d : Nat} {ls : List Value} {h : aH} {v : Int32} : go d 15 45 ls [.int v] h = some (some (.int v), h) := go_iret ke_15_45
theorem ke_17_0 : alook 17 0 = some (0, .aload_n 0, 1, (0, 0, 0, 0, 0), ⟨"", "", ""⟩, "") := rfl
theorem ee_17_0 {d : Nat} {h : aH} {x : Nat} {st : List Value} : go d 17 0 [.ref x] st h = go d 17 1 [.ref x] (.ref x :: st) h := go_plain (q := (1, [.ref x], (.ref x :: st), h)) ke_17_0 rfl
theorem ee_17_0N {d : Nat} {h : aH} {st : List Value} : go d 17 0 [.null] st h = go d 17 1 [.null] (.null :: st) h := go_plain (q := (1, [.null], (.null :: st), h)) ke_17_0 rfl
theorem ke_17_1 : alook 17 1 = some (1, .getfield 25, 3, (6, 1, 2, 1, 0), ⟨"", "", ""⟩, "WordHides$Search") := rfl
theorem ee_17_1 {d : Nat} {ls st : List Value} {h : aH} {r : Nat} : go d 17 1 ls (.ref r :: st) h = (gf h r 6 1 2).bind fun z => go d 17 4 ls (z :: st) h := go_getf ke_17_1
theorem ke_17_4 : alook 17 4 = some (4, .ifCond .eq 4, 3, (8, 0, 0, 0, 0), ⟨"", "", ""⟩, "") := rfl
theorem ee_17_4 {d : Nat} {ls st : List Value} {h : aH} {x : Int32} : go d 17 4 ls (.int x :: st) h = if x = 0 then go d 17 8 ls st h else go d 17 7 ls st h := go_c1 (go_if1 (tg := 8) (q := 7) (f := fun x => decide (x = 0)) ke_17_4 rfl)
theorem ke_17_7 : alook 17 7 = some (7, .return_, 1, (0, 0, 0, 0, 0), ⟨"", "", ""⟩, "") := rfl
theorem ee_17_7 {d : Nat} {ls : List Value} {h : aH} : go d 17 7 ls [] h = some (none, h) := go_ret ke_17_7 rfl rfl rfl
theorem ke_17_8 : alook 17 8 = some (8, .aload_n 0, 1, (0, 0, 0, 0, 0), ⟨"", "", ""⟩, "") := rfl
theorem ee_17_8 {d : Nat} {h : aH} {x : Nat} {st : List Value} : go d 17 8 [.ref x] st h = go d 17 9 [.ref x] (.ref x :: st) h := go_plain (q := (9, [.ref x], (.ref x :: st), h)) ke_17_8 rfl
theorem ee_17_8N {d : Nat} {h : aH} {st : List Value} : go d 17 8 [.null] st h = go d 17 9 [.null] (.null :: st) h := go_plain (q := (9, [.null], (.null :: st), h)) ke_17_8 rfl
theorem ke_17_9 : alook 17 9 = some (9, .getfield 48, 3, (1, 1, 2, 2, 0), ⟨"", "", ""⟩, "WordHides$Search") := rfl
theorem ee_17_9 {d : Nat} {ls st : List Value} {h : aH} {r : Nat} : go d 17 9 ls (.ref r :: st) h = (gf h r 1 1 2).bind fun z => go d 17 12 ls (z :: st) h := go_getf ke_17_9
theorem ke_17_12 : alook 17 12 = some (12, .aload_n 0, 1, (0, 0, 0, 0, 0), ⟨"", "", ""⟩, "") := rfl
theorem ee_17_12 {d : Nat} {h : aH} {x : Nat} {st : List Value} : go d 17 12 [.ref x] st h = go d 17 13 [.ref x] (.ref x :: st) h := go_plain (q := (13, [.ref x], (.ref x :: st), h)) ke_17_12 rfl
theorem ee_17_12N {d : Nat} {h : aH} {st : List Value} : go d 17 12 [.null] st h = go d 17 13 [.null] (.null :: st) h := go_plain (q := (13, [.null], (.null :: st), h)) ke_17_12 rfl
theorem ke_17_13 : alook 17 13 = some (13, .getfield 29, 3, (0, 1, 2, 2, 0), ⟨"", "", ""⟩, "WordHides$Search") := rfl
theorem ee_17_13 {d : Nat} {ls st : List Value} {h : aH} {r : Nat} : go d 17 13 ls (.ref r :: st) h = (gf h r 0 1 2).bind fun z => go d 17 16 ls (z :: st) h := go_getf ke_17_13
theorem ke_17_16 : alook 17 16 = some (16, .getfield 35, 3, (0, 0, 0, 2, 0), ⟨"", "", ""⟩, "WordHides$Board") := rfl
theorem ee_17_16 {d : Nat} {ls st : List Value} {h : aH} {r : Nat} : go d 17 16 ls (.ref r :: st) h = (gf h r 0 0 0).bind fun z => go d 17 19 ls (z :: st) h := go_getf ke_17_16
theorem ke_17_19 : alook 17 19 = some (19, .invokevirtual 51, 3, (1, 4, 23, 4, 23), ⟨"WordHides$Square", "copyFrom", "(LWordHides$Square;)V"⟩, "") := rfl
theorem ee_17_19 {d : Nat} {ls : List Value} {h : aH} {r0 : Nat} {r1 : Nat} : go (d + 1) 17 19 ls [.ref r0, .ref r1] h = if isC h r1 4 = true then (go d 23 0 [.ref r1, .ref r0] [] h).bind (fun q => go (d + 1) 17 22 ls (q.1.toList ++ []) q.2) else none := go_cv1 (as := [.ref r0]) (rest := []) (L := [.ref r1, .ref r0]) ke_17_19 rfl rfl rfl
theorem ke_17_22 : alook 17 22 = some (22, .aload_n 0, 1, (0, 0, 0, 0, 0), ⟨"", "", ""⟩, "") := rfl
theorem ee_17_22 {d : Nat} {h : aH} {x : Nat} {st : List Value} : go d 17 22 [.ref x] st h = go d 17 23 [.ref x] (.ref x :: st) h := go_plain (q := (23, [.ref x], (.ref x :: st), h)) ke_17_22 rfl
theorem ee_17_22N {d : Nat} {h : aH} {st : List Value} : go d 17 22 [.null] st h = go d 17 23 [.null] (.null :: st) h := go_plain (q := (23, [.null], (.null :: st), h)) ke_17_22 rfl
theorem ke_17_23 : alook 17 23 = some (23, .getfield 15, 3, (3, 1, 2, 2, 0), ⟨"", "", ""⟩, "WordHides$Search") := rfl
theorem ee_17_23 {d : Nat} {ls st : List Value} {h : aH} {r : Nat} : go d 17 23 ls (.ref r :: st) h = (gf h r 3 1 2).bind fun z => go d 17 26 ls (z :: st) h := go_getf ke_17_23
theorem ke_17_26 : alook 17 26 = some (26, .iconst 0, 1, (0, 0, 0, 0, 0), ⟨"", "", ""⟩, "") := rfl
theorem ee_17_26 {d : Nat} {h : aH} {ls st : List Value} : go d 17 26 ls st h = go d 17 27 ls (.int 0 :: st) h := go_plain (q := (27, ls, (.int 0 :: st), h)) ke_17_26 rfl
theorem ke_17_27 : alook 17 27 = some (27, .invokestatic 55, 3, (2, 0, 122, 0, 0), ⟨"java/util/Arrays", "fill", "([II)V"⟩, "") := rfl
theorem ee_17_27 {d : Nat} {ls : List Value} {h : aH} {i0 : Int32} {r1 : Nat} : go (d + 1) 17 27 ls [.int i0, .ref r1] h = (go d 122 0 [.ref r1, .int i0, aU, aU] [] h).bind (fun q => go (d + 1) 17 30 ls (q.1.toList ++ []) q.2) := go_cs (as := [.ref r1, .int i0]) (rest := []) (L := [.ref r1, .int i0, aU, aU]) ke_17_27 rfl rfl rfl
theorem ke_17_30 : alook 17 30 = some (30, .aload_n 0, 1, (0, 0, 0, 0, 0), ⟨"", "", ""⟩, "") := rfl
theorem ee_17_30 {d : Nat} {h : aH} {x : Nat} {st : List Value} : go d 17 30 [.ref x] st h = go d 17 31 [.ref x] (.ref x :: st) h := go_plain (q := (31, [.ref x], (.ref x :: st), h)) ke_17_30 rfl
theorem ee_17_30N {d : Nat} {h : aH} {st : List Value} : go d 17 30 [.null] st h = go d 17 31 [.null] (.null :: st) h := go_plain (q := (31, [.null], (.null :: st), h)) ke_17_30 rfl
theorem ke_17_31 : alook 17 31 = some (31, .iconst 0, 1, (0, 0, 0, 0, 0), ⟨"", "", ""⟩, "") := rfl
theorem ee_17_31 {d : Nat} {h : aH} {ls st : List Value} : go d 17 31 ls st h = go d 17 32 ls (.int 0 :: st) h := go_plain (q := (32, ls, (.int 0 :: st), h)) ke_17_31 rfl
theorem ke_17_32 : alook 17 32 = some (32, .putfield 21, 3, (5, 1, 2, 0, 0), ⟨"", "", ""⟩, "WordHides$Search") := rfl
theorem ee_17_32 {d : Nat} {ls st : List Value} {h : aH} {r : Nat} {w : Value} : go d 17 32 ls (w :: .ref r :: st) h = (pf h r 5 1 2 0 w).bind fun h' => go d 17 35 ls st h' := go_putf ke_17_32
theorem ke_17_35 : alook 17 35 = some (35, .aload_n 0, 1, (0, 0, 0, 0, 0), ⟨"", "", ""⟩, "") := rfl
theorem ee_17_35 {d : Nat} {h : aH} {x : Nat} {st : List Value} : go d 17 35 [.ref x] st h = go d 17 36 [.ref x] (.ref x :: st) h := go_plain (q := (36, [.ref x], (.ref x :: st), h)) ke_17_35 rfl
theorem ee_17_35N {d : Nat} {h : aH} {st : List Value} : go d 17 35 [.null] st h = go d 17 36 [.null] (.null :: st) h := go_plain (q := (36, [.null], (.null :: st), h)) ke_17_35 rfl
theorem ke_17_36 : alook 17 36 = some (36, .iconst 0, 1, (0, 0, 0, 0, 0), ⟨"", "", ""⟩, "") := rfl
theorem ee_17_36 {d : Nat} {h : aH} {ls st : List Value} : go d 17 36 ls st h = go d 17 37 ls (.int 0 :: st) h := go_plain (q := (37, ls, (.int 0 :: st), h)) ke_17_36 rfl
theorem ke_17_37 : alook 17 37 = some (37, .invokestatic 61, 3, (2, 0, 18, 0, 0), ⟨"WordHides$Search", "layFrom", "(LWordHides$Search;I)V"⟩, "") := rfl
theorem ee_17_37 {d : Nat} {ls : List Value} {h : aH} {i0 : Int32} {r1 : Nat} : go (d + 1) 17 37 ls [.int i0, .ref r1] h = (go d 18 0 [.ref r1, .int i0, aU, aU, aU, aU] [] h).bind (fun q => go (d + 1) 17 40 ls (q.1.toList ++ []) q.2) := go_cs (as := [.ref r1, .int i0]) (rest := []) (L := [.ref r1, .int i0, aU, aU, aU, aU]) ke_17_37 rfl rfl rfl
theorem ke_17_40 : alook 17 40 = some (40, .aload_n 0, 1, (0, 0, 0, 0, 0), ⟨"", "", ""⟩, "") := rfl
theorem ee_17_40 {d : Nat} {h : aH} {x : Nat} {st : List Value} : go d 17 40 [.ref x] st h = go d 17 41 [.ref x] (.ref x :: st) h := go_plain (q := (41, [.ref x], (.ref x :: st), h)) ke_17_40 rfl
theorem ee_17_40N {d : Nat} {h : aH} {st : List Value} : go d 17 40 [.null] st h = go d 17 41 [.null] (.null :: st) h := go_plain (q := (41, [.null], (.null :: st), h)) ke_17_40 rfl
theorem ke_17_41 : alook 17 41 = some (41, .iconst 1, 1, (0, 0, 0, 0, 0), ⟨"", "", ""⟩, "") := rfl
theorem ee_17_41 {d : Nat} {h : aH} {ls st : List Value} : go d 17 41 ls st h = go d 17 42 ls (.int 1 :: st) h := go_plain (q := (42, ls, (.int 1 :: st), h)) ke_17_41 rfl
theorem ke_17_42 : alook 17 42 = some (42, .putfield 25, 3, (6, 1, 2, 1, 0), ⟨"", "", ""⟩, "WordHides$Search") := rfl
theorem ee_17_42 {d : Nat} {ls st : List Value} {h : aH} {r : Nat} {w : Value} : go d 17 42 ls (w :: .ref r :: st) h = (pf h r 6 1 2 1 w).bind fun h' => go d 17 45 ls st h' := go_putf ke_17_42
theorem ke_17_45 : alook 17 45 = some (45, .return_, 1, (0, 0, 0, 0, 0), ⟨"", "", ""⟩, "") := rfl
theorem ee_17_45 {d : Nat} {ls : List Value} {h : aH} : go d 17 45 ls [] h = some (none, h) := go_ret ke_17_45 rfl rfl rfl
theorem ke_18_0 : alook 18 0 = some (0, .aload_n 0, 1, (0, 0, 0, 0, 0), ⟨"", "", ""⟩, "") := rfl
theorem ee_18_0 {d : Nat} {h : aH} {l1 l2 l3 l4 l5 : Value} {x : Nat} {st : List Value} : go d 18 0 [.ref x, l1, l2, l3, l4, l5] st h = go d 18 1 [.ref x, l1, l2, l3, l4, l5] (.ref x :: st) h := go_plain (q := (1, [.ref x, l1, l2, l3, l4, l5], (.ref x :: st), h)) ke_18_0 rfl
theorem ee_18_0N {d : Nat} {h : aH} {l1 l2 l3 l4 l5 : Value} {st : List Value} : go d 18 0 [.null, l1, l2, l3, l4, l5] st h = go d 18 1 [.null, l1, l2, l3, l4, l5] (.null :: st) h := go_plain (q := (1, [.null, l1, l2, l3, l4, l5], (.null :: st), h)) ke_18_0 rfl
theorem ke_18_1 : alook 18 1 = some (1, .getfield 29, 3, (0, 1, 2, 2, 0), ⟨"", "", ""⟩, "WordHides$Search") := rfl
theorem ee_18_1 {d : Nat} {ls st : List Value} {h : aH} {r : Nat} : go d 18 1 ls (.ref r :: st) h = (gf h r 0 1 2).bind fun z => go d 18 4 ls (z :: st) h := go_getf ke_18_1
theorem ke_18_4 : alook 18 4 = some (4, .getfield 65, 3, (1, 0, 0, 2, 0), ⟨"", "", ""⟩, "WordHides$Board") := rfl
theorem ee_18_4 {d : Nat} {ls st : List Value} {h : aH} {r : Nat} : go d 18 4 ls (.ref r :: st) h = (gf h r 1 0 0).bind fun z => go d 18 7 ls (z :: st) h := go_getf ke_18_4
theorem ke_18_7 : alook 18 7 = some (7, .iload_n 1, 1, (0, 0, 0, 0, 0), ⟨"", "", ""⟩, "") := rfl
theorem ee_18_7 {d : Nat} {h : aH} {l0 l2 l3 l4 l5 : Value} {x : Int32} {st : List Value} : go d 18 7 [l0, .int x, l2, l3, l4, l5] st h = go d 18 8 [l0, .int x, l2, l3, l4, l5] (.int x :: st) h := go_plain (q := (8, [l0, .int x, l2, l3, l4, l5], (.int x :: st), h)) ke_18_7 rfl
theorem ke_18_8 : alook 18 8 = some (8, .invokevirtual 69, 3, (1, 6, 37, 6, 37), ⟨"WordHides$TextList", "find", "(I)LWordHides$Text;"⟩, "") := rfl
theorem ee_18_8 {d : Nat} {ls : List Value} {h : aH} {i0 : Int32} {r1 : Nat} : go (d + 1) 18 8 ls [.int i0, .ref r1] h = if isC h r1 6 = true then (go d 37 0 [.ref r1, .int i0] [] h).bind (fun q => go (d + 1) 18 11 ls (q.1.toList ++ []) q.2) else none := go_cv1 (as := [.int i0]) (rest := []) (L := [.ref r1, .int i0]) ke_18_8 rfl rfl rfl
theorem ke_18_11 : alook 18 11 = some (11, .astore_n 2, 1, (0, 0, 0, 0, 0), ⟨"", "", ""⟩, "") := rfl
theorem ee_18_11 {d : Nat} {h : aH} {l0 l1 l2 l3 l4 l5 : Value} {x : Nat} {st : List Value} : go d 18 11 [l0, l1, l2, l3, l4, l5] (.ref x :: st) h = go d 18 12 [l0, l1, .ref x, l3, l4, l5] st h := go_plain (q := (12, [l0, l1, .ref x, l3, l4, l5], st, h)) ke_18_11 rfl
theorem ee_18_11N {d : Nat} {h : aH} {l0 l1 l2 l3 l4 l5 : Value} {st : List Value} : go d 18 11 [l0, l1, l2, l3, l4, l5] (.null :: st) h = go d 18 12 [l0, l1, .null, l3, l4, l5] st h := go_plain (q := (12, [l0, l1, .null, l3, l4, l5], st, h)) ke_18_11 rfl
theorem ke_18_12 : alook 18 12 = some (12, .aload_n 2, 1, (0, 0, 0, 0, 0), ⟨"", "", ""⟩, "") := rfl
theorem ee_18_12 {d : Nat} {h : aH} {l0 l1 l3 l4 l5 : Value} {x : Nat} {st : List Value} : go d 18 12 [l0, l1, .ref x, l3, l4, l5] st h = go d 18 13 [l0, l1, .ref x, l3, l4, l5] (.ref x :: st) h := go_plain (q := (13, [l0, l1, .ref x, l3, l4, l5], (.ref x :: st), h)) ke_18_12 rfl
theorem ee_18_12N {d : Nat} {h : aH} {l0 l1 l3 l4 l5 : Value} {st : List Value} : go d 18 12 [l0, l1, .null, l3, l4, l5] st h = go d 18 13 [l0, l1, .null, l3, l4, l5] (.null :: st) h := go_plain (q := (13, [l0, l1, .null, l3, l4, l5], (.null :: st), h)) ke_18_12 rfl
theorem ke_18_13 : alook 18 13 = some (13, .ifnull 8, 3, (21, 0, 0, 0, 0), ⟨"", "", ""⟩, "") := rfl
theorem ee_18_13 {d : Nat} {h : aH} {ls st : List Value} {x : Nat} : go d 18 13 ls (.ref x :: st) h = go d 18 16 ls st h := go_plain (q := (16, ls, st, h)) ke_18_13 rfl
theorem ee_18_13N {d : Nat} {h : aH} {ls st : List Value} : go d 18 13 ls (.null :: st) h = go d 18 21 ls st h := go_plain (q := (21, ls, st, h)) ke_18_13 rfl
theorem ke_18_16 : alook 18 16 = some (16, .iload_n 1, 1, (0, 0, 0, 0, 0), ⟨"", "", ""⟩, "") := rfl
theorem ee_18_16 {d : Nat} {h : aH} {l0 l2 l3 l4 l5 : Value} {x : Int32} {st : List Value} : go d 18 16 [l0, .int x, l2, l3, l4, l5] st h = go d 18 17 [l0, .int x, l2, l3, l4, l5] (.int x :: st) h := go_plain (q := (17, [l0, .int x, l2, l3, l4, l5], (.int x :: st), h)) ke_18_16 rfl
theorem ke_18_17 : alook 18 17 = some (17, .iconst 3, 1, (0, 0, 0, 0, 0), ⟨"", "", ""⟩, "") := rfl
theorem ee_18_17 {d : Nat} {h : aH} {ls st : List Value} : go d 18 17 ls st h = go d 18 18 ls (.int 3 :: st) h := go_plain (q := (18, ls, (.int 3 :: st), h)) ke_18_17 rfl
theorem ke_18_18 : alook 18 18 = some (18, .if_icmp .lt 8, 3, (26, 0, 0, 0, 0), ⟨"", "", ""⟩, "") := rfl
theorem ee_18_18 {d : Nat} {ls st : List Value} {h : aH} {x y : Int32} : go d 18 18 ls (.int y :: .int x :: st) h = if x < y then go d 18 26 ls st h else go d 18 21 ls st h := go_ci (go_if2 (tg := 26) (q := 21) (f := fun x y => decide (x < y)) ke_18_18 rfl)
theorem ke_18_21 : alook 18 21 = some (21, .aload_n 0, 1, (0, 0, 0, 0, 0), ⟨"", "", ""⟩, "") := rfl
theorem ee_18_21 {d : Nat} {h : aH} {l1 l2 l3 l4 l5 : Value} {x : Nat} {st : List Value} : go d 18 21 [.ref x, l1, l2, l3, l4, l5] st h = go d 18 22 [.ref x, l1, l2, l3, l4, l5] (.ref x :: st) h := go_plain (q := (22, [.ref x, l1, l2, l3, l4, l5], (.ref x :: st), h)) ke_18_21 rfl
theorem ee_18_21N {d : Nat} {h : aH} {l1 l2 l3 l4 l5 : Value} {st : List Value} : go d 18 21 [.null, l1, l2, l3, l4, l5] st h = go d 18 22 [.null, l1, l2, l3, l4, l5] (.null :: st) h := go_plain (q := (22, [.null, l1, l2, l3, l4, l5], (.null :: st), h)) ke_18_21 rfl
theorem ke_18_22 : alook 18 22 = some (22, .invokevirtual 75, 3, (0, 1, 4, 2, 7), ⟨"WordHides$Search", "meetLaying", "()V"⟩, "WordHides$Search") := rfl
theorem ee_18_22 {d : Nat} {ls : List Value} {h : aH} {r0 : Nat} : go (d + 1) 18 22 ls [.ref r0] h = if isC h r0 1 = true then (go d 4 0 [.ref r0, aU] [] h).bind (fun q => go (d + 1) 18 25 ls (q.1.toList ++ []) q.2) else if isC h r0 2 = true then (go d 7 0 [.ref r0, aU] [] h).bind (fun q => go (d + 1) 18 25 ls (q.1.toList ++ []) q.2) else none := go_cv (as := []) (rest := []) (L := [.ref r0, aU]) (L1 := [.ref r0, aU]) ke_18_22 rfl rfl rfl rfl
theorem ke_18_25 : alook 18 25 = some (25, .return_, 1, (0, 0, 0, 0, 0), ⟨"", "", ""⟩, "") := rfl
theorem ee_18_25 {d : Nat} {ls : List Value} {h : aH} : go d 18 25 ls [] h = some (none, h) := go_ret ke_18_25 rfl rfl rfl
theorem ke_18_26 : alook 18 26 = some (26, .aload_n 0, 1, (0, 0, 0, 0, 0), ⟨"", "", ""⟩, "") := rfl
theorem ee_18_26 {d : Nat} {h : aH} {l1 l2 l3 l4 l5 : Value} {x : Nat} {st : List Value} : go d 18 26 [.ref x, l1, l2, l3, l4, l5] st h = go d 18 27 [.ref x, l1, l2, l3, l4, l5] (.ref x :: st) h := go_plain (q := (27, [.ref x, l1, l2, l3, l4, l5], (.ref x :: st), h)) ke_18_26 rfl
theorem ee_18_26N {d : Nat} {h : aH} {l1 l2 l3 l4 l5 : Value} {st : List Value} : go d 18 26 [.null, l1, l2, l3, l4, l5] st h = go d 18 27 [.null, l1, l2, l3, l4, l5] (.null :: st) h := go_plain (q := (27, [.null, l1, l2, l3, l4, l5], (.null :: st), h)) ke_18_26 rfl
theorem ke_18_27 : alook 18 27 = some (27, .invokevirtual 78, 3, (0, 1, 3, 2, 6), ⟨"WordHides$Search", "hasHope", "()Z"⟩, "WordHides$Search") := rfl
theorem ee_18_27 {d : Nat} {ls : List Value} {h : aH} {r0 : Nat} : go (d + 1) 18 27 ls [.ref r0] h = if isC h r0 1 = true then (go d 3 0 [.ref r0] [] h).bind (fun q => go (d + 1) 18 30 ls (q.1.toList ++ []) q.2) else if isC h r0 2 = true then (go d 6 0 [.ref r0] [] h).bind (fun q => go (d + 1) 18 30 ls (q.1.toList ++ []) q.2) else none := go_cv (as := []) (rest := []) (L := [.ref r0]) (L1 := [.ref r0]) ke_18_27 rfl rfl rfl rfl
theorem ke_18_30 : alook 18 30 = some (30, .ifCond .ne 4, 3, (34, 0, 0, 0, 0), ⟨"", "", ""⟩, "") := rfl
theorem ee_18_30 {d : Nat} {ls st : List Value} {h : aH} {x : Int32} : go d 18 30 ls (.int x :: st) h = if ¬ x = 0 then go d 18 34 ls st h else go d 18 33 ls st h := go_c1 (go_if1 (tg := 34) (q := 33) (f := fun x => decide (¬ x = 0)) ke_18_30 rfl)
theorem ke_18_33 : alook 18 33 = some (33, .return_, 1, (0, 0, 0, 0, 0), ⟨"", "", ""⟩, "") := rfl
theorem ee_18_33 {d : Nat} {ls : List Value} {h : aH} : go d 18 33 ls [] h = some (none, h) := go_ret ke_18_33 rfl rfl rfl
theorem ke_18_34 : alook 18 34 = some (34, .aload_n 0, 1, (0, 0, 0, 0, 0), ⟨"", "", ""⟩, "") := rfl
theorem ee_18_34 {d : Nat} {h : aH} {l1 l2 l3 l4 l5 : Value} {x : Nat} {st : List Value} : go d 18 34 [.ref x, l1, l2, l3, l4, l5] st h = go d 18 35 [.ref x, l1, l2, l3, l4, l5] (.ref x :: st) h := go_plain (q := (35, [.ref x, l1, l2, l3, l4, l5], (.ref x :: st), h)) ke_18_34 rfl
theorem ee_18_34N {d : Nat} {h : aH} {l1 l2 l3 l4 l5 : Value} {st : List Value} : go d 18 34 [.null, l1, l2, l3, l4, l5] st h = go d 18 35 [.null, l1, l2, l3, l4, l5] (.null :: st) h := go_plain (q := (35, [.null, l1, l2, l3, l4, l5], (.null :: st), h)) ke_18_34 rfl
theorem ke_18_35 : alook 18 35 = some (35, .getfield 48, 3, (1, 1, 2, 2, 0), ⟨"", "", ""⟩, "WordHides$Search") := rfl
theorem ee_18_35 {d : Nat} {ls st : List Value} {h : aH} {r : Nat} : go d 18 35 ls (.ref r :: st) h = (gf h r 1 1 2).bind fun z => go d 18 38 ls (z :: st) h := go_getf ke_18_35
theorem ke_18_38 : alook 18 38 = some (38, .astore_n 3, 1, (0, 0, 0, 0, 0), ⟨"", "", ""⟩, "") := rfl
theorem ee_18_38 {d : Nat} {h : aH} {l0 l1 l2 l3 l4 l5 : Value} {x : Nat} {st : List Value} : go d 18 38 [l0, l1, l2, l3, l4, l5] (.ref x :: st) h = go d 18 39 [l0, l1, l2, .ref x, l4, l5] st h := go_plain (q := (39, [l0, l1, l2, .ref x, l4, l5], st, h)) ke_18_38 rfl
theorem ee_18_38N {d : Nat} {h : aH} {l0 l1 l2 l3 l4 l5 : Value} {st : List Value} : go d 18 38 [l0, l1, l2, l3, l4, l5] (.null :: st) h = go d 18 39 [l0, l1, l2, .null, l4, l5] st h := go_plain (q := (39, [l0, l1, l2, .null, l4, l5], st, h)) ke_18_38 rfl
theorem ke_18_39 : alook 18 39 = some (39, .iconst 0, 1, (0, 0, 0, 0, 0), ⟨"", "", ""⟩, "") := rfl
theorem ee_18_39 {d : Nat} {h : aH} {ls st : List Value} : go d 18 39 ls st h = go d 18 40 ls (.int 0 :: st) h := go_plain (q := (40, ls, (.int 0 :: st), h)) ke_18_39 rfl
theorem ke_18_40 : alook 18 40 = some (40, .istore 4, 2, (0, 0, 0, 0, 0), ⟨"", "", ""⟩, "") := rfl
theorem ee_18_40 {d : Nat} {h : aH} {l0 l1 l2 l3 l4 l5 : Value} {x : Int32} {st : List Value} : go d 18 40 [l0, l1, l2, l3, l4, l5] (.int x :: st) h = go d 18 42 [l0, l1, l2, l3, .int x, l5] st h := go_plain (q := (42, [l0, l1, l2, l3, .int x, l5], st, h)) ke_18_40 rfl
theorem ke_18_42 : alook 18 42 = some (42, .iload 4, 2, (0, 0, 0, 0, 0), ⟨"", "", ""⟩, "") := rfl
theorem ee_18_42 {d : Nat} {h : aH} {l0 l1 l2 l3 l5 : Value} {x : Int32} {st : List Value} : go d 18 42 [l0, l1, l2, l3, .int x, l5] st h = go d 18 44 [l0, l1, l2, l3, .int x, l5] (.int x :: st) h := go_plain (q := (44, [l0, l1, l2, l3, .int x, l5], (.int x :: st), h)) ke_18_42 rfl
theorem ke_18_44 : alook 18 44 = some (44, .aload_n 3, 1, (0, 0, 0, 0, 0), ⟨"", "", ""⟩, "") := rfl
theorem ee_18_44 {d : Nat} {h : aH} {l0 l1 l2 l4 l5 : Value} {x : Nat} {st : List Value} : go d 18 44 [l0, l1, l2, .ref x, l4, l5] st h = go d 18 45 [l0, l1, l2, .ref x, l4, l5] (.ref x :: st) h := go_plain (q := (45, [l0, l1, l2, .ref x, l4, l5], (.ref x :: st), h)) ke_18_44 rfl
theorem ee_18_44N {d : Nat} {h : aH} {l0 l1 l2 l4 l5 : Value} {st : List Value} : go d 18 44 [l0, l1, l2, .null, l4, l5] st h = go d 18 45 [l0, l1, l2, .null, l4, l5] (.null :: st) h := go_plain (q := (45, [l0, l1, l2, .null, l4, l5], (.null :: st), h)) ke_18_44 rfl
theorem ke_18_45 : alook 18 45 = some (45, .getfield 41, 3, (1, 4, 4, 2, 0), ⟨"", "", ""⟩, "WordHides$Square") := rfl
theorem ee_18_45 {d : Nat} {ls st : List Value} {h : aH} {r : Nat} : go d 18 45 ls (.ref r :: st) h = (gf h r 1 4 4).bind fun z => go d 18 48 ls (z :: st) h := go_getf ke_18_45
theorem ke_18_48 : alook 18 48 = some (48, .getfield 82, 3, (2, 3, 3, 0, 0), ⟨"", "", ""⟩, "WordHides$Lattice") := rfl
theorem ee_18_48 {d : Nat} {ls st : List Value} {h : aH} {r : Nat} : go d 18 48 ls (.ref r :: st) h = (gf h r 2 3 3).bind fun z => go d 18 51 ls (z :: st) h := go_getf ke_18_48
theorem ke_18_51 : alook 18 51 = some (51, .if_icmp .ge 68, 3, (119, 0, 0, 0, 0), ⟨"", "", ""⟩, "") := rfl
theorem ee_18_51 {d : Nat} {ls st : List Value} {h : aH} {x y : Int32} : go d 18 51 ls (.int y :: .int x :: st) h = if y ≤ x then go d 18 119 ls st h else go d 18 54 ls st h := go_ci (go_if2 (tg := 119) (q := 54) (f := fun x y => decide (y ≤ x)) ke_18_51 rfl)
theorem ke_18_54 : alook 18 54 = some (54, .aload_n 3, 1, (0, 0, 0, 0, 0), ⟨"", "", ""⟩, "") := rfl
theorem ee_18_54 {d : Nat} {h : aH} {l0 l1 l2 l4 l5 : Value} {x : Nat} {st : List Value} : go d 18 54 [l0, l1, l2, .ref x, l4, l5] st h = go d 18 55 [l0, l1, l2, .ref x, l4, l5] (.ref x :: st) h := go_plain (q := (55, [l0, l1, l2, .ref x, l4, l5], (.ref x :: st), h)) ke_18_54 rfl
theorem ee_18_54N {d : Nat} {h : aH} {l0 l1 l2 l4 l5 : Value} {st : List Value} : go d 18 54 [l0, l1, l2, .null, l4, l5] st h = go d 18 55 [l0, l1, l2, .null, l4, l5] (.null :: st) h := go_plain (q := (55, [l0, l1, l2, .null, l4, l5], (.null :: st), h)) ke_18_54 rfl
theorem ke_18_55 : alook 18 55 = some (55, .aload_n 2, 1, (0, 0, 0, 0, 0), ⟨"", "", ""⟩, "") := rfl
theorem ee_18_55 {d : Nat} {h : aH} {l0 l1 l3 l4 l5 : Value} {x : Nat} {st : List Value} : go d 18 55 [l0, l1, .ref x, l3, l4, l5] st h = go d 18 56 [l0, l1, .ref x, l3, l4, l5] (.ref x :: st) h := go_plain (q := (56, [l0, l1, .ref x, l3, l4, l5], (.ref x :: st), h)) ke_18_55 rfl
theorem ee_18_55N {d : Nat} {h : aH} {l0 l1 l3 l4 l5 : Value} {st : List Value} : go d 18 55 [l0, l1, .null, l3, l4, l5] st h = go d 18 56 [l0, l1, .null, l3, l4, l5] (.null :: st) h := go_plain (q := (56, [l0, l1, .null, l3, l4, l5], (.null :: st), h)) ke_18_55 rfl
theorem ke_18_56 : alook 18 56 = some (56, .iload 4, 2, (0, 0, 0, 0, 0), ⟨"", "", ""⟩, "") := rfl
theorem ee_18_56 {d : Nat} {h : aH} {l0 l1 l2 l3 l5 : Value} {x : Int32} {st : List Value} : go d 18 56 [l0, l1, l2, l3, .int x, l5] st h = go d 18 58 [l0, l1, l2, l3, .int x, l5] (.int x :: st) h := go_plain (q := (58, [l0, l1, l2, l3, .int x, l5], (.int x :: st), h)) ke_18_56 rfl
theorem ke_18_58 : alook 18 58 = some (58, .invokevirtual 87, 3, (2, 4, 24, 4, 24), ⟨"WordHides$Square", "accepts", "(LWordHides$Text;I)Z"⟩, "") := rfl
theorem ee_18_58 {d : Nat} {ls : List Value} {h : aH} {i0 : Int32} {r1 : Nat} {r2 : Nat} : go (d + 1) 18 58 ls [.int i0, .ref r1, .ref r2] h = if isC h r2 4 = true then (go d 24 0 [.ref r2, .ref r1, .int i0, aU, aU, aU] [] h).bind (fun q => go (d + 1) 18 61 ls (q.1.toList ++ []) q.2) else none := go_cv1 (as := [.ref r1, .int i0]) (rest := []) (L := [.ref r2, .ref r1, .int i0, aU, aU, aU]) ke_18_58 rfl rfl rfl
theorem ke_18_61 : alook 18 61 = some (61, .ifCond .eq 52, 3, (113, 0, 0, 0, 0), ⟨"", "", ""⟩, "") := rfl
theorem ee_18_61 {d : Nat} {ls st : List Value} {h : aH} {x : Int32} : go d 18 61 ls (.int x :: st) h = if x = 0 then go d 18 113 ls st h else go d 18 64 ls st h := go_c1 (go_if1 (tg := 113) (q := 64) (f := fun x => decide (x = 0)) ke_18_61 rfl)
theorem ke_18_64 : alook 18 64 = some (64, .aload_n 0, 1, (0, 0, 0, 0, 0), ⟨"", "", ""⟩, "") := rfl
theorem ee_18_64 {d : Nat} {h : aH} {l1 l2 l3 l4 l5 : Value} {x : Nat} {st : List Value} : go d 18 64 [.ref x, l1, l2, l3, l4, l5] st h = go d 18 65 [.ref x, l1, l2, l3, l4, l5] (.ref x :: st) h := go_plain (q := (65, [.ref x, l1, l2, l3, l4, l5], (.ref x :: st), h)) ke_18_64 rfl
theorem ee_18_64N {d : Nat} {h : aH} {l1 l2 l3 l4 l5 : Value} {st : List Value} : go d 18 64 [.null, l1, l2, l3, l4, l5] st h = go d 18 65 [.null, l1, l2, l3, l4, l5] (.null :: st) h := go_plain (q := (65, [.null, l1, l2, l3, l4, l5], (.null :: st), h)) ke_18_64 rfl
theorem ke_18_65 : alook 18 65 = some (65, .getfield 9, 3, (2, 1, 2, 2, 0), ⟨"", "", ""⟩, "WordHides$Search") := rfl
theorem ee_18_65 {d : Nat} {ls st : List Value} {h : aH} {r : Nat} : go d 18 65 ls (.ref r :: st) h = (gf h r 2 1 2).bind fun z => go d 18 68 ls (z :: st) h := go_getf ke_18_65
theorem ke_18_68 : alook 18 68 = some (68, .iload_n 1, 1, (0, 0, 0, 0, 0), ⟨"", "", ""⟩, "") := rfl
theorem ee_18_68 {d : Nat} {h : aH} {l0 l2 l3 l4 l5 : Value} {x : Int32} {st : List Value} : go d 18 68 [l0, .int x, l2, l3, l4, l5] st h = go d 18 69 [l0, .int x, l2, l3, l4, l5] (.int x :: st) h := go_plain (q := (69, [l0, .int x, l2, l3, l4, l5], (.int x :: st), h)) ke_18_68 rfl
theorem ke_18_69 : alook 18 69 = some (69, .iload 4, 2, (0, 0, 0, 0, 0), ⟨"", "", ""⟩, "") := rfl
theorem ee_18_69 {d : Nat} {h : aH} {l0 l1 l2 l3 l5 : Value} {x : Int32} {st : List Value} : go d 18 69 [l0, l1, l2, l3, .int x, l5] st h = go d 18 71 [l0, l1, l2, l3, .int x, l5] (.int x :: st) h := go_plain (q := (71, [l0, l1, l2, l3, .int x, l5], (.int x :: st), h)) ke_18_69 rfl
theorem ke_18_71 : alook 18 71 = some (71, .iastore, 1, (0, 0, 0, 0, 0), ⟨"", "", ""⟩, "") := rfl
theorem ee_18_71 {d : Nat} {ls st : List Value} {h : aH} {r : Nat} {i x : Int32} : go d 18 71 ls (.int x :: .int i :: .ref r :: st) h = (is_ h r i x).bind fun h' => go d 18 72 ls st h' := go_iast ke_18_71
theorem ke_18_72 : alook 18 72 = some (72, .aload_n 0, 1, (0, 0, 0, 0, 0), ⟨"", "", ""⟩, "") := rfl
theorem ee_18_72 {d : Nat} {h : aH} {l1 l2 l3 l4 l5 : Value} {x : Nat} {st : List Value} : go d 18 72 [.ref x, l1, l2, l3, l4, l5] st h = go d 18 73 [.ref x, l1, l2, l3, l4, l5] (.ref x :: st) h := go_plain (q := (73, [.ref x, l1, l2, l3, l4, l5], (.ref x :: st), h)) ke_18_72 rfl
theorem ee_18_72N {d : Nat} {h : aH} {l1 l2 l3 l4 l5 : Value} {st : List Value} : go d 18 72 [.null, l1, l2, l3, l4, l5] st h = go d 18 73 [.null, l1, l2, l3, l4, l5] (.null :: st) h := go_plain (q := (73, [.null, l1, l2, l3, l4, l5], (.null :: st), h)) ke_18_72 rfl
theorem ke_18_73 : alook 18 73 = some (73, .getfield 15, 3, (3, 1, 2, 2, 0), ⟨"", "", ""⟩, "WordHides$Search") := rfl
theorem ee_18_73 {d : Nat} {ls st : List Value} {h : aH} {r : Nat} : go d 18 73 ls (.ref r :: st) h = (gf h r 3 1 2).bind fun z => go d 18 76 ls (z :: st) h := go_getf ke_18_73
theorem ke_18_76 : alook 18 76 = some (76, .iload_n 1, 1, (0, 0, 0, 0, 0), ⟨"", "", ""⟩, "") := rfl
theorem ee_18_76 {d : Nat} {h : aH} {l0 l2 l3 l4 l5 : Value} {x : Int32} {st : List Value} : go d 18 76 [l0, .int x, l2, l3, l4, l5] st h = go d 18 77 [l0, .int x, l2, l3, l4, l5] (.int x :: st) h := go_plain (q := (77, [l0, .int x, l2, l3, l4, l5], (.int x :: st), h)) ke_18_76 rfl
theorem ke_18_77 : alook 18 77 = some (77, .aload_n 3, 1, (0, 0, 0, 0, 0), ⟨"", "", ""⟩, "") := rfl
theorem ee_18_77 {d : Nat} {h : aH} {l0 l1 l2 l4 l5 : Value} {x : Nat} {st : List Value} : go d 18 77 [l0, l1, l2, .ref x, l4, l5] st h = go d 18 78 [l0, l1, l2, .ref x, l4, l5] (.ref x :: st) h := go_plain (q := (78, [l0, l1, l2, .ref x, l4, l5], (.ref x :: st), h)) ke_18_77 rfl
theorem ee_18_77N {d : Nat} {h : aH} {l0 l1 l2 l4 l5 : Value} {st : List Value} : go d 18 77 [l0, l1, l2, .null, l4, l5] st h = go d 18 78 [l0, l1, l2, .null, l4, l5] (.null :: st) h := go_plain (q := (78, [l0, l1, l2, .null, l4, l5], (.null :: st), h)) ke_18_77 rfl
theorem ke_18_78 : alook 18 78 = some (78, .getfield 41, 3, (1, 4, 4, 2, 0), ⟨"", "", ""⟩, "WordHides$Square") := rfl
theorem ee_18_78 {d : Nat} {ls st : List Value} {h : aH} {r : Nat} : go d 18 78 ls (.ref r :: st) h = (gf h r 1 4 4).bind fun z => go d 18 81 ls (z :: st) h := go_getf ke_18_78
theorem ke_18_81 : alook 18 81 = some (81, .iload 4, 2, (0, 0, 0, 0, 0), ⟨"", "", ""⟩, "") := rfl
theorem ee_18_81 {d : Nat} {h : aH} {l0 l1 l2 l3 l5 : Value} {x : Int32} {st : List Value} : go d 18 81 [l0, l1, l2, l3, .int x, l5] st h = go d 18 83 [l0, l1, l2, l3, .int x, l5] (.int x :: st) h := go_plain (q := (83, [l0, l1, l2, l3, .int x, l5], (.int x :: st), h)) ke_18_81 rfl
theorem ke_18_83 : alook 18 83 = some (83, .aload_n 2, 1, (0, 0, 0, 0, 0), ⟨"", "", ""⟩, "") := rfl
theorem ee_18_83 {d : Nat} {h : aH} {l0 l1 l3 l4 l5 : Value} {x : Nat} {st : List Value} : go d 18 83 [l0, l1, .ref x, l3, l4, l5] st h = go d 18 84 [l0, l1, .ref x, l3, l4, l5] (.ref x :: st) h := go_plain (q := (84, [l0, l1, .ref x, l3, l4, l5], (.ref x :: st), h)) ke_18_83 rfl
theorem ee_18_83N {d : Nat} {h : aH} {l0 l1 l3 l4 l5 : Value} {st : List Value} : go d 18 83 [l0, l1, .null, l3, l4, l5] st h = go d 18 84 [l0, l1, .null, l3, l4, l5] (.null :: st) h := go_plain (q := (84, [l0, l1, .null, l3, l4, l5], (.null :: st), h)) ke_18_83 rfl
theorem ke_18_84 : alook 18 84 = some (84, .getfield 91, 3, (1, 5, 5, 0, 0), ⟨"", "", ""⟩, "WordHides$Text") := rfl
theorem ee_18_84 {d : Nat} {ls st : List Value} {h : aH} {r : Nat} : go d 18 84 ls (.ref r :: st) h = (gf h r 1 5 5).bind fun z => go d 18 87 ls (z :: st) h := go_getf ke_18_84
theorem ke_18_87 : alook 18 87 = some (87, .invokevirtual 96, 3, (2, 3, 15, 3, 15), ⟨"WordHides$Lattice", "cellSet", "(II)I"⟩, "") := rfl
theorem ee_18_87 {d : Nat} {ls : List Value} {h : aH} {i0 : Int32} {i1 : Int32} {r2 : Nat} {i3 : Int32} {r4 : Nat} : go (d + 1) 18 87 ls [.int i0, .int i1, .ref r2, .int i3, .ref r4] h = if isC h r2 3 = true then (go d 15 0 [.ref r2, .int i1, .int i0, aU, aU, aU] [] h).bind (fun q => go (d + 1) 18 90 ls (q.1.toList ++ [.int i3, .ref r4]) q.2) else none := go_cv1 (as := [.int i1, .int i0]) (rest := [.int i3, .ref r4]) (L := [.ref r2, .int i1, .int i0, aU, aU, aU]) ke_18_87 rfl rfl rfl
theorem ke_18_90 : alook 18 90 = some (90, .iastore, 1, (0, 0, 0, 0, 0), ⟨"", "", ""⟩, "") := rfl
theorem ee_18_90 {d : Nat} {ls st : List Value} {h : aH} {r : Nat} {i x : Int32} : go d 18 90 ls (.int x :: .int i :: .ref r :: st) h = (is_ h r i x).bind fun h' => go d 18 91 ls st h' := go_iast ke_18_90
theorem ke_18_91 : alook 18 91 = some (91, .aload_n 3, 1, (0, 0, 0, 0, 0), ⟨"", "", ""⟩, "") := rfl
theorem ee_18_91 {d : Nat} {h : aH} {l0 l1 l2 l4 l5 : Value} {x : Nat} {st : List Value} : go d 18 91 [l0, l1, l2, .ref x, l4, l5] st h = go d 18 92 [l0, l1, l2, .ref x, l4, l5] (.ref x :: st) h := go_plain (q := (92, [l0, l1, l2, .ref x, l4, l5], (.ref x :: st), h)) ke_18_91 rfl
theorem ee_18_91N {d : Nat} {h : aH} {l0 l1 l2 l4 l5 : Value} {st : List Value} : go d 18 91 [l0, l1, l2, .null, l4, l5] st h = go d 18 92 [l0, l1, l2, .null, l4, l5] (.null :: st) h := go_plain (q := (92, [l0, l1, l2, .null, l4, l5], (.null :: st), h)) ke_18_91 rfl
theorem ke_18_92 : alook 18 92 = some (92, .aload_n 2, 1, (0, 0, 0, 0, 0), ⟨"", "", ""⟩, "") := rfl
theorem ee_18_92 {d : Nat} {h : aH} {l0 l1 l3 l4 l5 : Value} {x : Nat} {st : List Value} : go d 18 92 [l0, l1, .ref x, l3, l4, l5] st h = go d 18 93 [l0, l1, .ref x, l3, l4, l5] (.ref x :: st) h := go_plain (q := (93, [l0, l1, .ref x, l3, l4, l5], (.ref x :: st), h)) ke_18_92 rfl
theorem ee_18_92N {d : Nat} {h : aH} {l0 l1 l3 l4 l5 : Value} {st : List Value} : go d 18 92 [l0, l1, .null, l3, l4, l5] st h = go d 18 93 [l0, l1, .null, l3, l4, l5] (.null :: st) h := go_plain (q := (93, [l0, l1, .null, l3, l4, l5], (.null :: st), h)) ke_18_92 rfl
theorem ke_18_93 : alook 18 93 = some (93, .iload 4, 2, (0, 0, 0, 0, 0), ⟨"", "", ""⟩, "") := rfl
theorem ee_18_93 {d : Nat} {h : aH} {l0 l1 l2 l3 l5 : Value} {x : Int32} {st : List Value} : go d 18 93 [l0, l1, l2, l3, .int x, l5] st h = go d 18 95 [l0, l1, l2, l3, .int x, l5] (.int x :: st) h := go_plain (q := (95, [l0, l1, l2, l3, .int x, l5], (.int x :: st), h)) ke_18_93 rfl
theorem ke_18_95 : alook 18 95 = some (95, .invokevirtual 100, 3, (2, 4, 25, 4, 25), ⟨"WordHides$Square", "lay", "(LWordHides$Text;I)I"⟩, "") := rfl
theorem ee_18_95 {d : Nat} {ls : List Value} {h : aH} {i0 : Int32} {r1 : Nat} {r2 : Nat} : go (d + 1) 18 95 ls [.int i0, .ref r1, .ref r2] h = if isC h r2 4 = true then (go d 25 0 [.ref r2, .ref r1, .int i0, aU, aU, aU, aU] [] h).bind (fun q => go (d + 1) 18 98 ls (q.1.toList ++ []) q.2) else none := go_cv1 (as := [.ref r1, .int i0]) (rest := []) (L := [.ref r2, .ref r1, .int i0, aU, aU, aU, aU]) ke_18_95 rfl rfl rfl
theorem ke_18_98 : alook 18 98 = some (98, .istore 5, 2, (0, 0, 0, 0, 0), ⟨"", "", ""⟩, "") := rfl
theorem ee_18_98 {d : Nat} {h : aH} {l0 l1 l2 l3 l4 l5 : Value} {x : Int32} {st : List Value} : go d 18 98 [l0, l1, l2, l3, l4, l5] (.int x :: st) h = go d 18 100 [l0, l1, l2, l3, l4, .int x] st h := go_plain (q := (100, [l0, l1, l2, l3, l4, .int x], st, h)) ke_18_98 rfl
theorem ke_18_100 : alook 18 100 = some (100, .aload_n 0, 1, (0, 0, 0, 0, 0), ⟨"", "", ""⟩, "") := rfl
theorem ee_18_100 {d : Nat} {h : aH} {l1 l2 l3 l4 l5 : Value} {x : Nat} {st : List Value} : go d 18 100 [.ref x, l1, l2, l3, l4, l5] st h = go d 18 101 [.ref x, l1, l2, l3, l4, l5] (.ref x :: st) h := go_plain (q := (101, [.ref x, l1, l2, l3, l4, l5], (.ref x :: st), h)) ke_18_100 rfl
theorem ee_18_100N {d : Nat} {h : aH} {l1 l2 l3 l4 l5 : Value} {st : List Value} : go d 18 100 [.null, l1, l2, l3, l4, l5] st h = go d 18 101 [.null, l1, l2, l3, l4, l5] (.null :: st) h := go_plain (q := (101, [.null, l1, l2, l3, l4, l5], (.null :: st), h)) ke_18_100 rfl
theorem ke_18_101 : alook 18 101 = some (101, .iload_n 1, 1, (0, 0, 0, 0, 0), ⟨"", "", ""⟩, "") := rfl
theorem ee_18_101 {d : Nat} {h : aH} {l0 l2 l3 l4 l5 : Value} {x : Int32} {st : List Value} : go d 18 101 [l0, .int x, l2, l3, l4, l5] st h = go d 18 102 [l0, .int x, l2, l3, l4, l5] (.int x :: st) h := go_plain (q := (102, [l0, .int x, l2, l3, l4, l5], (.int x :: st), h)) ke_18_101 rfl
theorem ke_18_102 : alook 18 102 = some (102, .iconst 1, 1, (0, 0, 0, 0, 0), ⟨"", "", ""⟩, "") := rfl
theorem ee_18_102 {d : Nat} {h : aH} {ls st : List Value} : go d 18 102 ls st h = go d 18 103 ls (.int 1 :: st) h := go_plain (q := (103, ls, (.int 1 :: st), h)) ke_18_102 rfl
theorem ke_18_103 : alook 18 103 = some (103, .iadd, 1, (0, 0, 0, 0, 0), ⟨"", "", ""⟩, "") := rfl
theorem ee_18_103 {d : Nat} {h : aH} {ls st : List Value} {x y : Int32} : go d 18 103 ls (.int y :: .int x :: st) h = go d 18 104 ls (.int (x + y) :: st) h := go_plain (q := (104, ls, (.int (x + y) :: st), h)) ke_18_103 rfl
theorem ke_18_104 : alook 18 104 = some (104, .invokestatic 61, 3, (2, 0, 18, 0, 0), ⟨"WordHides$Search", "layFrom", "(LWordHides$Search;I)V"⟩, "") := rfl
theorem ee_18_104 {d : Nat} {ls : List Value} {h : aH} {i0 : Int32} {r1 : Nat} : go (d + 1) 18 104 ls [.int i0, .ref r1] h = (go d 18 0 [.ref r1, .int i0, aU, aU, aU, aU] [] h).bind (fun q => go (d + 1) 18 107 ls (q.1.toList ++ []) q.2) := go_cs (as := [.ref r1, .int i0]) (rest := []) (L := [.ref r1, .int i0, aU, aU, aU, aU]) ke_18_104 rfl rfl rfl
theorem ke_18_107 : alook 18 107 = some (107, .aload_n 3, 1, (0, 0, 0, 0, 0), ⟨"", "", ""⟩, "") := rfl
theorem ee_18_107 {d : Nat} {h : aH} {l0 l1 l2 l4 l5 : Value} {x : Nat} {st : List Value} : go d 18 107 [l0, l1, l2, .ref x, l4, l5] st h = go d 18 108 [l0, l1, l2, .ref x, l4, l5] (.ref x :: st) h := go_plain (q := (108, [l0, l1, l2, .ref x, l4, l5], (.ref x :: st), h)) ke_18_107 rfl
theorem ee_18_107N {d : Nat} {h : aH} {l0 l1 l2 l4 l5 : Value} {st : List Value} : go d 18 107 [l0, l1, l2, .null, l4, l5] st h = go d 18 108 [l0, l1, l2, .null, l4, l5] (.null :: st) h := go_plain (q := (108, [l0, l1, l2, .null, l4, l5], (.null :: st), h)) ke_18_107 rfl
theorem ke_18_108 : alook 18 108 = some (108, .iload 5, 2, (0, 0, 0, 0, 0), ⟨"", "", ""⟩, "") := rfl
theorem ee_18_108 {d : Nat} {h : aH} {l0 l1 l2 l3 l4 : Value} {x : Int32} {st : List Value} : go d 18 108 [l0, l1, l2, l3, l4, .int x] st h = go d 18 110 [l0, l1, l2, l3, l4, .int x] (.int x :: st) h := go_plain (q := (110, [l0, l1, l2, l3, l4, .int x], (.int x :: st), h)) ke_18_108 rfl
theorem ke_18_110 : alook 18 110 = some (110, .invokevirtual 104, 3, (1, 4, 26, 4, 26), ⟨"WordHides$Square", "lift", "(I)V"⟩, "") := rfl
theorem ee_18_110 {d : Nat} {ls : List Value} {h : aH} {i0 : Int32} {r1 : Nat} : go (d + 1) 18 110 ls [.int i0, .ref r1] h = if isC h r1 4 = true then (go d 26 0 [.ref r1, .int i0, aU] [] h).bind (fun q => go (d + 1) 18 113 ls (q.1.toList ++ []) q.2) else none := go_cv1 (as := [.int i0]) (rest := []) (L := [.ref r1, .int i0, aU]) ke_18_110 rfl rfl rfl
theorem ke_18_113 : alook 18 113 = some (113, .iinc 4 1, 3, (0, 0, 0, 0, 0), ⟨"", "", ""⟩, "") := rfl
theorem ee_18_113 {d : Nat} {h : aH} {l0 l1 l2 l3 l5 : Value} {x : Int32} {st : List Value} : go d 18 113 [l0, l1, l2, l3, .int x, l5] st h = go d 18 116 [l0, l1, l2, l3, .int (x + 1), l5] st h := go_plain (q := (116, [l0, l1, l2, l3, .int (x + 1), l5], st, h)) ke_18_113 rfl
theorem ke_18_116 : alook 18 116 = some (116, .goto (-74), 3, (42, 0, 0, 0, 0), ⟨"", "", ""⟩, "") := rfl
theorem ee_18_116 {d : Nat} {h : aH} {ls st : List Value} : go d 18 116 ls st h = go d 18 42 ls st h := go_plain (q := (42, ls, st, h)) ke_18_116 rfl
theorem ke_18_119 : alook 18 119 = some (119, .return_, 1, (0, 0, 0, 0, 0), ⟨"", "", ""⟩, "") := rfl
theorem ee_18_119 {d : Nat} {ls : List Value} {h : aH} : go d 18 119 ls [] h = some (none, h) := go_ret ke_18_119 rfl rfl rfl
theorem ke_19_0 : alook 19 0 = some (0, .aload_n 0, 1, (0, 0, 0, 0, 0), ⟨"", "", ""⟩, "") := rfl
theorem ee_19_0 {d : Nat} {h : aH} {x : Nat} {st : List Value} : go d 19 0 [.ref x] st h = go d 19 1 [.ref x] (.ref x :: st) h := go_plain (q := (1, [.ref x], (.ref x :: st), h)) ke_19_0 rfl
theorem ee_19_0N {d : Nat} {h : aH} {st : List Value} : go d 19 0 [.null] st h = go d 19 1 [.null] (.null :: st) h := go_plain (q := (1, [.null], (.null :: st), h)) ke_19_0 rfl
theorem ke_19_1 : alook 19 1 = some (1, .getfield 9, 3, (2, 1, 2, 2, 0), ⟨"", "", ""⟩, "WordHides$Search") := rfl
theorem ee_19_1 {d : Nat} {ls st : List Value} {h : aH} {r : Nat} : go d 19 1 ls (.ref r :: st) h = (gf h r 2 1 2).bind fun z => go d 19 4 ls (z :: st) h := go_getf ke_19_1
theorem ke_19_4 : alook 19 4 = some (4, .iconst 0, 1, (0, 0, 0, 0, 0), ⟨"", "", ""⟩, "") := rfl
theorem ee_19_4 {d : Nat} {h : aH} {ls st : List Value} : go d 19 4 ls st h = go d 19 5 ls (.int 0 :: st) h := go_plain (q := (5, ls, (.int 0 :: st), h)) ke_19_4 rfl
theorem ke_19_5 : alook 19 5 = some (5, .aload_n 0, 1, (0, 0, 0, 0, 0), ⟨"", "", ""⟩, "") := rfl
theorem ee_19_5 {d : Nat} {h : aH} {x : Nat} {st : List Value} : go d 19 5 [.ref x] st h = go d 19 6 [.ref x] (.ref x :: st) h := go_plain (q := (6, [.ref x], (.ref x :: st), h)) ke_19_5 rfl
theorem ee_19_5N {d : Nat} {h : aH} {st : List Value} : go d 19 5 [.null] st h = go d 19 6 [.null] (.null :: st) h := go_plain (q := (6, [.null], (.null :: st), h)) ke_19_5 rfl
theorem ke_19_6 : alook 19 6 = some (6, .getfield 18, 3, (4, 1, 2, 2, 0), ⟨"", "", ""⟩, "WordHides$Search") := rfl
theorem ee_19_6 {d : Nat} {ls st : List Value} {h : aH} {r : Nat} : go d 19 6 ls (.ref r :: st) h = (gf h r 4 1 2).bind fun z => go d 19 9 ls (z :: st) h := go_getf ke_19_6
theorem ke_19_9 : alook 19 9 = some (9, .iconst 0, 1, (0, 0, 0, 0, 0), ⟨"", "", ""⟩, "") := rfl
theorem ee_19_9 {d : Nat} {h : aH} {ls st : List Value} : go d 19 9 ls st h = go d 19 10 ls (.int 0 :: st) h := go_plain (q := (10, ls, (.int 0 :: st), h)) ke_19_9 rfl
theorem ke_19_10 : alook 19 10 = some (10, .iconst 3, 1, (0, 0, 0, 0, 0), ⟨"", "", ""⟩, "") := rfl
theorem ee_19_10 {d : Nat} {h : aH} {ls st : List Value} : go d 19 10 ls st h = go d 19 11 ls (.int 3 :: st) h := go_plain (q := (11, ls, (.int 3 :: st), h)) ke_19_10 rfl
theorem ke_19_11 : alook 19 11 = some (11, .invokestatic 108, 3, (0, 0, 0, 0, 1), ⟨"java/lang/System", "arraycopy", "(Ljava/lang/Object;ILjava/lang/Object;II)V"⟩, "") := rfl
theorem ee_19_11 {d : Nat} {ls : List Value} {h : aH} {v w : Nat} {n : Int32} : go d 19 11 ls [.int n, .int 0, .ref w, .int 0, .ref v] h = (cpy h v w n).bind fun h' => go d 19 14 ls [] h' := go_copy ke_19_11 (Nat.zero_le _) rfl
theorem ke_19_14 : alook 19 14 = some (14, .return_, 1, (0, 0, 0, 0, 0), ⟨"", "", ""⟩, "") := rfl
theorem ee_19_14 {d : Nat} {ls : List Value} {h : aH} : go d 19 14 ls [] h = some (none, h) := go_ret ke_19_14 rfl rfl rfl
theorem ke_20_0 : alook 20 0 = some (0, .iload_n 1, 1, (0, 0, 0, 0, 0), ⟨"", "", ""⟩, "") := rfl
theorem ee_20_0 {d : Nat} {h : aH} {l0 : Value} {x : Int32} {st : List Value} : go d 20 0 [l0, .int x] st h = go d 20 1 [l0, .int x] (.int x :: st) h := go_plain (q := (1, [l0, .int x], (.int x :: st), h)) ke_20_0 rfl
theorem ke_20_1 : alook 20 1 = some (1, .ifCond .lt 31, 3, (32, 0, 0, 0, 0), ⟨"", "", ""⟩, "") := rfl
theorem ee_20_1 {d : Nat} {ls st : List Value} {h : aH} {x : Int32} : go d 20 1 ls (.int x :: st) h = if x < 0 then go d 20 32 ls st h else go d 20 4 ls st h := go_c1 (go_if1 (tg := 32) (q := 4) (f := fun x => decide (x < 0)) ke_20_1 rfl)
theorem ke_20_4 : alook 20 4 = some (4, .iload_n 1, 1, (0, 0, 0, 0, 0), ⟨"", "", ""⟩, "") := rfl
theorem ee_20_4 {d : Nat} {h : aH} {l0 : Value} {x : Int32} {st : List Value} : go d 20 4 [l0, .int x] st h = go d 20 5 [l0, .int x] (.int x :: st) h := go_plain (q := (5, [l0, .int x], (.int x :: st), h)) ke_20_4 rfl
theorem ke_20_5 : alook 20 5 = some (5, .aload_n 0, 1, (0, 0, 0, 0, 0), ⟨"", "", ""⟩, "") := rfl
theorem ee_20_5 {d : Nat} {h : aH} {l1 : Value} {x : Nat} {st : List Value} : go d 20 5 [.ref x, l1] st h = go d 20 6 [.ref x, l1] (.ref x :: st) h := go_plain (q := (6, [.ref x, l1], (.ref x :: st), h)) ke_20_5 rfl
theorem ee_20_5N {d : Nat} {h : aH} {l1 : Value} {st : List Value} : go d 20 5 [.null, l1] st h = go d 20 6 [.null, l1] (.null :: st) h := go_plain (q := (6, [.null, l1], (.null :: st), h)) ke_20_5 rfl
theorem ke_20_6 : alook 20 6 = some (6, .getfield 29, 3, (0, 1, 2, 2, 0), ⟨"", "", ""⟩, "WordHides$Search") := rfl
theorem ee_20_6 {d : Nat} {ls st : List Value} {h : aH} {r : Nat} : go d 20 6 ls (.ref r :: st) h = (gf h r 0 1 2).bind fun z => go d 20 9 ls (z :: st) h := go_getf ke_20_6
theorem ke_20_9 : alook 20 9 = some (9, .getfield 65, 3, (1, 0, 0, 2, 0), ⟨"", "", ""⟩, "WordHides$Board") := rfl
theorem ee_20_9 {d : Nat} {ls st : List Value} {h : aH} {r : Nat} : go d 20 9 ls (.ref r :: st) h = (gf h r 1 0 0).bind fun z => go d 20 12 ls (z :: st) h := go_getf ke_20_9
theorem ke_20_12 : alook 20 12 = some (12, .getfield 114, 3, (1, 6, 6, 0, 0), ⟨"", "", ""⟩, "WordHides$TextList") := rfl
theorem ee_20_12 {d : Nat} {ls st : List Value} {h : aH} {r : Nat} : go d 20 12 ls (.ref r :: st) h = (gf h r 1 6 6).bind fun z => go d 20 15 ls (z :: st) h := go_getf ke_20_12
theorem ke_20_15 : alook 20 15 = some (15, .if_icmp .ge 17, 3, (32, 0, 0, 0, 0), ⟨"", "", ""⟩, "") := rfl
theorem ee_20_15 {d : Nat} {ls st : List Value} {h : aH} {x y : Int32} : go d 20 15 ls (.int y :: .int x :: st) h = if y ≤ x then go d 20 32 ls st h else go d 20 18 ls st h := go_ci (go_if2 (tg := 32) (q := 18) (f := fun x y => decide (y ≤ x)) ke_20_15 rfl)
theorem ke_20_18 : alook 20 18 = some (18, .iload_n 1, 1, (0, 0, 0, 0, 0), ⟨"", "", ""⟩, "") := rfl
theorem ee_20_18 {d : Nat} {h : aH} {l0 : Value} {x : Int32} {st : List Value} : go d 20 18 [l0, .int x] st h = go d 20 19 [l0, .int x] (.int x :: st) h := go_plain (q := (19, [l0, .int x], (.int x :: st), h)) ke_20_18 rfl
theorem ke_20_19 : alook 20 19 = some (19, .iconst 3, 1, (0, 0, 0, 0, 0), ⟨"", "", ""⟩, "") := rfl
theorem ee_20_19 {d : Nat} {h : aH} {ls st : List Value} : go d 20 19 ls st h = go d 20 20 ls (.int 3 :: st) h := go_plain (q := (20, ls, (.int 3 :: st), h)) ke_20_19 rfl
theorem ke_20_20 : alook 20 20 = some (20, .if_icmp .ge 12, 3, (32, 0, 0, 0, 0), ⟨"", "", ""⟩, "") := rfl
theorem ee_20_20 {d : Nat} {ls st : List Value} {h : aH} {x y : Int32} : go d 20 20 ls (.int y :: .int x :: st) h = if y ≤ x then go d 20 32 ls st h else go d 20 23 ls st h := go_ci (go_if2 (tg := 32) (q := 23) (f := fun x y => decide (y ≤ x)) ke_20_20 rfl)
theorem ke_20_23 : alook 20 23 = some (23, .aload_n 0, 1, (0, 0, 0, 0, 0), ⟨"", "", ""⟩, "") := rfl
theorem ee_20_23 {d : Nat} {h : aH} {l1 : Value} {x : Nat} {st : List Value} : go d 20 23 [.ref x, l1] st h = go d 20 24 [.ref x, l1] (.ref x :: st) h := go_plain (q := (24, [.ref x, l1], (.ref x :: st), h)) ke_20_23 rfl
theorem ee_20_23N {d : Nat} {h : aH} {l1 : Value} {st : List Value} : go d 20 23 [.null, l1] st h = go d 20 24 [.null, l1] (.null :: st) h := go_plain (q := (24, [.null, l1], (.null :: st), h)) ke_20_23 rfl
theorem ke_20_24 : alook 20 24 = some (24, .getfield 18, 3, (4, 1, 2, 2, 0), ⟨"", "", ""⟩, "WordHides$Search") := rfl
theorem ee_20_24 {d : Nat} {ls st : List Value} {h : aH} {r : Nat} : go d 20 24 ls (.ref r :: st) h = (gf h r 4 1 2).bind fun z => go d 20 27 ls (z :: st) h := go_getf ke_20_24
theorem ke_20_27 : alook 20 27 = some (27, .iload_n 1, 1, (0, 0, 0, 0, 0), ⟨"", "", ""⟩, "") := rfl
theorem ee_20_27 {d : Nat} {h : aH} {l0 : Value} {x : Int32} {st : List Value} : go d 20 27 [l0, .int x] st h = go d 20 28 [l0, .int x] (.int x :: st) h := go_plain (q := (28, [l0, .int x], (.int x :: st), h)) ke_20_27 rfl
theorem ke_20_28 : alook 20 28 = some (28, .iaload, 1, (0, 0, 0, 0, 0), ⟨"", "", ""⟩, "") := rfl
theorem ee_20_28 {d : Nat} {ls st : List Value} {h : aH} {r : Nat} {i : Int32} : go d 20 28 ls (.int i :: .ref r :: st) h = (ia h r i).bind fun z => go d 20 29 ls (.int z :: st) h := go_iald ke_20_28
theorem ke_20_29 : alook 20 29 = some (29, .goto 5, 3, (34, 0, 0, 0, 0), ⟨"", "", ""⟩, "") := rfl
theorem ee_20_29 {d : Nat} {h : aH} {ls st : List Value} : go d 20 29 ls st h = go d 20 34 ls st h := go_plain (q := (34, ls, st, h)) ke_20_29 rfl
theorem ke_20_32 : alook 20 32 = some (32, .bipush (-6), 2, (0, 0, 0, 0, 0), ⟨"", "", ""⟩, "") := rfl
theorem ee_20_32 {d : Nat} {h : aH} {ls st : List Value} : go d 20 32 ls st h = go d 20 34 ls (.int (-6) :: st) h := go_plain (q := (34, ls, (.int (-6) :: st), h)) ke_20_32 rfl
theorem ke_20_34 : alook 20 34 = some (34, .ireturn, 1, (0, 0, 0, 0, 0), ⟨"", "", ""⟩, "") := rfl
theorem ee_20_34 {d : Nat} {ls : List Value} {h : aH} {v : Int32} : go d 20 34 ls [.int v] h = some (some (.int v), h) := go_iret ke_20_34
