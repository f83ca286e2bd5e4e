/-! the program as equations -/
theorem ke_119_0 : alook 119 0 = some (0, .iload_n 0, 1, (0, 0, 0, 0, 0), ⟨"", "", ""⟩, "") := rfl
theorem ee_119_0 {d : Nat} {h : aH} {x : Int32} {st : List Value} : go d 119 0 [.int x] st h = go d 119 1 [.int x] (.int x :: st) h := go_plain (q := (1, [.int x], (.int x :: st), h)) ke_119_0 rfl
theorem ke_119_1 : alook 119 1 = some (1, .iload_n 0, 1, (0, 0, 0, 0, 0), ⟨"", "", ""⟩, "") := rfl
theorem ee_119_1 {d : Nat} {h : aH} {x : Int32} {st : List Value} : go d 119 1 [.int x] st h = go d 119 2 [.int x] (.int x :: st) h := go_plain (q := (2, [.int x], (.int x :: st), h)) ke_119_1 rfl
theorem ke_119_2 : alook 119 2 = some (2, .iconst 1, 1, (0, 0, 0, 0, 0), ⟨"", "", ""⟩, "") := rfl
theorem ee_119_2 {d : Nat} {h : aH} {ls st : List Value} : go d 119 2 ls st h = go d 119 3 ls (.int 1 :: st) h := go_plain (q := (3, ls, (.int 1 :: st), h)) ke_119_2 rfl
theorem ke_119_3 : alook 119 3 = some (3, .iushr, 1, (0, 0, 0, 0, 0), ⟨"", "", ""⟩, "") := rfl
theorem ee_119_3 {d : Nat} {h : aH} {ls st : List Value} {x y : Int32} : go d 119 3 ls (.int y :: .int x :: st) h = go d 119 4 ls (.int ((x.toUInt32 >>> (y.toUInt32 &&& Int32.toUInt32 31)).toInt32) :: st) h := go_plain (q := (4, ls, (.int ((x.toUInt32 >>> (y.toUInt32 &&& Int32.toUInt32 31)).toInt32) :: st), h)) ke_119_3 rfl
theorem ke_119_4 : alook 119 4 = some (4, .ldc_w 265, 3, (1431655765, 0, 0, 0, 0), ⟨"", "", ""⟩, "") := rfl
theorem ee_119_4 {d : Nat} {h : aH} {ls st : List Value} : go d 119 4 ls st h = go d 119 7 ls (.int 1431655765 :: st) h := go_plain (q := (7, ls, (.int 1431655765 :: st), h)) ke_119_4 rfl
theorem ke_119_7 : alook 119 7 = some (7, .iand, 1, (0, 0, 0, 0, 0), ⟨"", "", ""⟩, "") := rfl
theorem ee_119_7 {d : Nat} {h : aH} {ls st : List Value} {x y : Int32} : go d 119 7 ls (.int y :: .int x :: st) h = go d 119 8 ls (.int (x &&& y) :: st) h := go_plain (q := (8, ls, (.int (x &&& y) :: st), h)) ke_119_7 rfl
theorem ke_119_8 : alook 119 8 = some (8, .isub, 1, (0, 0, 0, 0, 0), ⟨"", "", ""⟩, "") := rfl
theorem ee_119_8 {d : Nat} {h : aH} {ls st : List Value} {x y : Int32} : go d 119 8 ls (.int y :: .int x :: st) h = go d 119 9 ls (.int (x - y) :: st) h := go_plain (q := (9, ls, (.int (x - y) :: st), h)) ke_119_8 rfl
theorem ke_119_9 : alook 119 9 = some (9, .istore_n 0, 1, (0, 0, 0, 0, 0), ⟨"", "", ""⟩, "") := rfl
theorem ee_119_9 {d : Nat} {h : aH} {l0 : Value} {x : Int32} {st : List Value} : go d 119 9 [l0] (.int x :: st) h = go d 119 10 [.int x] st h := go_plain (q := (10, [.int x], st, h)) ke_119_9 rfl
theorem ke_119_10 : alook 119 10 = some (10, .iload_n 0, 1, (0, 0, 0, 0, 0), ⟨"", "", ""⟩, "") := rfl
theorem ee_119_10 {d : Nat} {h : aH} {x : Int32} {st : List Value} : go d 119 10 [.int x] st h = go d 119 11 [.int x] (.int x :: st) h := go_plain (q := (11, [.int x], (.int x :: st), h)) ke_119_10 rfl
theorem ke_119_11 : alook 119 11 = some (11, .ldc_w 266, 3, (858993459, 0, 0, 0, 0), ⟨"", "", ""⟩, "") := rfl
theorem ee_119_11 {d : Nat} {h : aH} {ls st : List Value} : go d 119 11 ls st h = go d 119 14 ls (.int 858993459 :: st) h := go_plain (q := (14, ls, (.int 858993459 :: st), h)) ke_119_11 rfl
theorem ke_119_14 : alook 119 14 = some (14, .iand, 1, (0, 0, 0, 0, 0), ⟨"", "", ""⟩, "") := rfl
theorem ee_119_14 {d : Nat} {h : aH} {ls st : List Value} {x y : Int32} : go d 119 14 ls (.int y :: .int x :: st) h = go d 119 15 ls (.int (x &&& y) :: st) h := go_plain (q := (15, ls, (.int (x &&& y) :: st), h)) ke_119_14 rfl
theorem ke_119_15 : alook 119 15 = some (15, .iload_n 0, 1, (0, 0, 0, 0, 0), ⟨"", "", ""⟩, "") := rfl
theorem ee_119_15 {d : Nat} {h : aH} {x : Int32} {st : List Value} : go d 119 15 [.int x] st h = go d 119 16 [.int x] (.int x :: st) h := go_plain (q := (16, [.int x], (.int x :: st), h)) ke_119_15 rfl
theorem ke_119_16 : alook 119 16 = some (16, .iconst 2, 1, (0, 0, 0, 0, 0), ⟨"", "", ""⟩, "") := rfl
theorem ee_119_16 {d : Nat} {h : aH} {ls st : List Value} : go d 119 16 ls st h = go d 119 17 ls (.int 2 :: st) h := go_plain (q := (17, ls, (.int 2 :: st), h)) ke_119_16 rfl
theorem ke_119_17 : alook 119 17 = some (17, .iushr, 1, (0, 0, 0, 0, 0), ⟨"", "", ""⟩, "") := rfl
theorem ee_119_17 {d : Nat} {h : aH} {ls st : List Value} {x y : Int32} : go d 119 17 ls (.int y :: .int x :: st) h = go d 119 18 ls (.int ((x.toUInt32 >>> (y.toUInt32 &&& Int32.toUInt32 31)).toInt32) :: st) h := go_plain (q := (18, ls, (.int ((x.toUInt32 >>> (y.toUInt32 &&& Int32.toUInt32 31)).toInt32) :: st), h)) ke_119_17 rfl
theorem ke_119_18 : alook 119 18 = some (18, .ldc_w 266, 3, (858993459, 0, 0, 0, 0), ⟨"", "", ""⟩, "") := rfl
theorem ee_119_18 {d : Nat} {h : aH} {ls st : List Value} : go d 119 18 ls st h = go d 119 21 ls (.int 858993459 :: st) h := go_plain (q := (21, ls, (.int 858993459 :: st), h)) ke_119_18 rfl
theorem ke_119_21 : alook 119 21 = some (21, .iand, 1, (0, 0, 0, 0, 0), ⟨"", "", ""⟩, "") := rfl
theorem ee_119_21 {d : Nat} {h : aH} {ls st : List Value} {x y : Int32} : go d 119 21 ls (.int y :: .int x :: st) h = go d 119 22 ls (.int (x &&& y) :: st) h := go_plain (q := (22, ls, (.int (x &&& y) :: st), h)) ke_119_21 rfl
theorem ke_119_22 : alook 119 22 = some (22, .iadd, 1, (0, 0, 0, 0, 0), ⟨"", "", ""⟩, "") := rfl
theorem ee_119_22 {d : Nat} {h : aH} {ls st : List Value} {x y : Int32} : go d 119 22 ls (.int y :: .int x :: st) h = go d 119 23 ls (.int (x + y) :: st) h := go_plain (q := (23, ls, (.int (x + y) :: st), h)) ke_119_22 rfl
theorem ke_119_23 : alook 119 23 = some (23, .istore_n 0, 1, (0, 0, 0, 0, 0), ⟨"", "", ""⟩, "") := rfl
theorem ee_119_23 {d : Nat} {h : aH} {l0 : Value} {x : Int32} {st : List Value} : go d 119 23 [l0] (.int x :: st) h = go d 119 24 [.int x] st h := go_plain (q := (24, [.int x], st, h)) ke_119_23 rfl
theorem ke_119_24 : alook 119 24 = some (24, .iload_n 0, 1, (0, 0, 0, 0, 0), ⟨"", "", ""⟩, "") := rfl
theorem ee_119_24 {d : Nat} {h : aH} {x : Int32} {st : List Value} : go d 119 24 [.int x] st h = go d 119 25 [.int x] (.int x :: st) h := go_plain (q := (25, [.int x], (.int x :: st), h)) ke_119_24 rfl
theorem ke_119_25 : alook 119 25 = some (25, .iload_n 0, 1, (0, 0, 0, 0, 0), ⟨"", "", ""⟩, "") := rfl
theorem ee_119_25 {d : Nat} {h : aH} {x : Int32} {st : List Value} : go d 119 25 [.int x] st h = go d 119 26 [.int x] (.int x :: st) h := go_plain (q := (26, [.int x], (.int x :: st), h)) ke_119_25 rfl
theorem ke_119_26 : alook 119 26 = some (26, .iconst 4, 1, (0, 0, 0, 0, 0), ⟨"", "", ""⟩, "") := rfl
theorem ee_119_26 {d : Nat} {h : aH} {ls st : List Value} : go d 119 26 ls st h = go d 119 27 ls (.int 4 :: st) h := go_plain (q := (27, ls, (.int 4 :: st), h)) ke_119_26 rfl
theorem ke_119_27 : alook 119 27 = some (27, .iushr, 1, (0, 0, 0, 0, 0), ⟨"", "", ""⟩, "") := rfl
theorem ee_119_27 {d : Nat} {h : aH} {ls st : List Value} {x y : Int32} : go d 119 27 ls (.int y :: .int x :: st) h = go d 119 28 ls (.int ((x.toUInt32 >>> (y.toUInt32 &&& Int32.toUInt32 31)).toInt32) :: st) h := go_plain (q := (28, ls, (.int ((x.toUInt32 >>> (y.toUInt32 &&& Int32.toUInt32 31)).toInt32) :: st), h)) ke_119_27 rfl
theorem ke_119_28 : alook 119 28 = some (28, .iadd, 1, (0, 0, 0, 0, 0), ⟨"", "", ""⟩, "") := rfl
theorem ee_119_28 {d : Nat} {h : aH} {ls st : List Value} {x y : Int32} : go d 119 28 ls (.int y :: .int x :: st) h = go d 119 29 ls (.int (x + y) :: st) h := go_plain (q := (29, ls, (.int (x + y) :: st), h)) ke_119_28 rfl
theorem ke_119_29 : alook 119 29 = some (29, .ldc_w 267, 3, (252645135, 0, 0, 0, 0), ⟨"", "", ""⟩, "") := rfl
theorem ee_119_29 {d : Nat} {h : aH} {ls st : List Value} : go d 119 29 ls st h = go d 119 32 ls (.int 252645135 :: st) h := go_plain (q := (32, ls, (.int 252645135 :: st), h)) ke_119_29 rfl
theorem ke_119_32 : alook 119 32 = some (32, .iand, 1, (0, 0, 0, 0, 0), ⟨"", "", ""⟩, "") := rfl
theorem ee_119_32 {d : Nat} {h : aH} {ls st : List Value} {x y : Int32} : go d 119 32 ls (.int y :: .int x :: st) h = go d 119 33 ls (.int (x &&& y) :: st) h := go_plain (q := (33, ls, (.int (x &&& y) :: st), h)) ke_119_32 rfl
theorem ke_119_33 : alook 119 33 = some (33, .istore_n 0, 1, (0, 0, 0, 0, 0), ⟨"", "", ""⟩, "") := rfl
theorem ee_119_33 {d : Nat} {h : aH} {l0 : Value} {x : Int32} {st : List Value} : go d 119 33 [l0] (.int x :: st) h = go d 119 34 [.int x] st h := go_plain (q := (34, [.int x], st, h)) ke_119_33 rfl
theorem ke_119_34 : alook 119 34 = some (34, .iload_n 0, 1, (0, 0, 0, 0, 0), ⟨"", "", ""⟩, "") := rfl
theorem ee_119_34 {d : Nat} {h : aH} {x : Int32} {st : List Value} : go d 119 34 [.int x] st h = go d 119 35 [.int x] (.int x :: st) h := go_plain (q := (35, [.int x], (.int x :: st), h)) ke_119_34 rfl
theorem ke_119_35 : alook 119 35 = some (35, .iload_n 0, 1, (0, 0, 0, 0, 0), ⟨"", "", ""⟩, "") := rfl
theorem ee_119_35 {d : Nat} {h : aH} {x : Int32} {st : List Value} : go d 119 35 [.int x] st h = go d 119 36 [.int x] (.int x :: st) h := go_plain (q := (36, [.int x], (.int x :: st), h)) ke_119_35 rfl
theorem ke_119_36 : alook 119 36 = some (36, .bipush 8, 2, (0, 0, 0, 0, 0), ⟨"", "", ""⟩, "") := rfl
theorem ee_119_36 {d : Nat} {h : aH} {ls st : List Value} : go d 119 36 ls st h = go d 119 38 ls (.int 8 :: st) h := go_plain (q := (38, ls, (.int 8 :: st), h)) ke_119_36 rfl
theorem ke_119_38 : alook 119 38 = some (38, .iushr, 1, (0, 0, 0, 0, 0), ⟨"", "", ""⟩, "") := rfl
theorem ee_119_38 {d : Nat} {h : aH} {ls st : List Value} {x y : Int32} : go d 119 38 ls (.int y :: .int x :: st) h = go d 119 39 ls (.int ((x.toUInt32 >>> (y.toUInt32 &&& Int32.toUInt32 31)).toInt32) :: st) h := go_plain (q := (39, ls, (.int ((x.toUInt32 >>> (y.toUInt32 &&& Int32.toUInt32 31)).toInt32) :: st), h)) ke_119_38 rfl
theorem ke_119_39 : alook 119 39 = some (39, .iadd, 1, (0, 0, 0, 0, 0), ⟨"", "", ""⟩, "") := rfl
theorem ee_119_39 {d : Nat} {h : aH} {ls st : List Value} {x y : Int32} : go d 119 39 ls (.int y :: .int x :: st) h = go d 119 40 ls (.int (x + y) :: st) h := go_plain (q := (40, ls, (.int (x + y) :: st), h)) ke_119_39 rfl
theorem ke_119_40 : alook 119 40 = some (40, .istore_n 0, 1, (0, 0, 0, 0, 0), ⟨"", "", ""⟩, "") := rfl
theorem ee_119_40 {d : Nat} {h : aH} {l0 : Value} {x : Int32} {st : List Value} : go d 119 40 [l0] (.int x :: st) h = go d 119 41 [.int x] st h := go_plain (q := (41, [.int x], st, h)) ke_119_40 rfl
theorem ke_119_41 : alook 119 41 = some (41, .iload_n 0, 1, (0, 0, 0, 0, 0), ⟨"", "", ""⟩, "") := rfl
theorem ee_119_41 {d : Nat} {h : aH} {x : Int32} {st : List Value} : go d 119 41 [.int x] st h = go d 119 42 [.int x] (.int x :: st) h := go_plain (q := (42, [.int x], (.int x :: st), h)) ke_119_41 rfl
theorem ke_119_42 : alook 119 42 = some (42, .iload_n 0, 1, (0, 0, 0, 0, 0), ⟨"", "", ""⟩, "") := rfl
theorem ee_119_42 {d : Nat} {h : aH} {x : Int32} {st : List Value} : go d 119 42 [.int x] st h = go d 119 43 [.int x] (.int x :: st) h := go_plain (q := (43, [.int x], (.int x :: st), h)) ke_119_42 rfl
theorem ke_119_43 : alook 119 43 = some (43, .bipush 16, 2, (0, 0, 0, 0, 0), ⟨"", "", ""⟩, "") := rfl
theorem ee_119_43 {d : Nat} {h : aH} {ls st : List Value} : go d 119 43 ls st h = go d 119 45 ls (.int 16 :: st) h := go_plain (q := (45, ls, (.int 16 :: st), h)) ke_119_43 rfl
theorem ke_119_45 : alook 119 45 = some (45, .iushr, 1, (0, 0, 0, 0, 0), ⟨"", "", ""⟩, "") := rfl
theorem ee_119_45 {d : Nat} {h : aH} {ls st : List Value} {x y : Int32} : go d 119 45 ls (.int y :: .int x :: st) h = go d 119 46 ls (.int ((x.toUInt32 >>> (y.toUInt32 &&& Int32.toUInt32 31)).toInt32) :: st) h := go_plain (q := (46, ls, (.int ((x.toUInt32 >>> (y.toUInt32 &&& Int32.toUInt32 31)).toInt32) :: st), h)) ke_119_45 rfl
theorem ke_119_46 : alook 119 46 = some (46, .iadd, 1, (0, 0, 0, 0, 0), ⟨"", "", ""⟩, "") := rfl
theorem ee_119_46 {d : Nat} {h : aH} {ls st : List Value} {x y : Int32} : go d 119 46 ls (.int y :: .int x :: st) h = go d 119 47 ls (.int (x + y) :: st) h := go_plain (q := (47, ls, (.int (x + y) :: st), h)) ke_119_46 rfl
theorem ke_119_47 : alook 119 47 = some (47, .istore_n 0, 1, (0, 0, 0, 0, 0), ⟨"", "", ""⟩, "") := rfl
theorem ee_119_47 {d : Nat} {h : aH} {l0 : Value} {x : Int32} {st : List Value} : go d 119 47 [l0] (.int x :: st) h = go d 119 48 [.int x] st h := go_plain (q := (48, [.int x], st, h)) ke_119_47 rfl
theorem ke_119_48 : alook 119 48 = some (48, .iload_n 0, 1, (0, 0, 0, 0, 0), ⟨"", "", ""⟩, "") := rfl
theorem ee_119_48 {d : Nat} {h : aH} {x : Int32} {st : List Value} : go d 119 48 [.int x] st h = go d 119 49 [.int x] (.int x :: st) h := go_plain (q := (49, [.int x], (.int x :: st), h)) ke_119_48 rfl
theorem ke_119_49 : alook 119 49 = some (49, .bipush 63, 2, (0, 0, 0, 0, 0), ⟨"", "", ""⟩, "") := rfl
theorem ee_119_49 {d : Nat} {h : aH} {ls st : List Value} : go d 119 49 ls st h = go d 119 51 ls (.int 63 :: st) h := go_plain (q := (51, ls, (.int 63 :: st), h)) ke_119_49 rfl
theorem ke_119_51 : alook 119 51 = some (51, .iand, 1, (0, 0, 0, 0, 0), ⟨"", "", ""⟩, "") := rfl
theorem ee_119_51 {d : Nat} {h : aH} {ls st : List Value} {x y : Int32} : go d 119 51 ls (.int y :: .int x :: st) h = go d 119 52 ls (.int (x &&& y) :: st) h := go_plain (q := (52, ls, (.int (x &&& y) :: st), h)) ke_119_51 rfl
theorem ke_119_52 : alook 119 52 = some (52, .ireturn, 1, (0, 0, 0, 0, 0), ⟨"", "", ""⟩, "") := rfl
theorem ee_119_52 {d : Nat} {ls : List Value} {h : aH} {v : Int32} : go d 119 52 ls [.int v] h = some (some (.int v), h) := go_iret ke_119_52
theorem ke_122_0 : alook 122 0 = some (0, .iconst 0, 1, (0, 0, 0, 0, 0), ⟨"", "", ""⟩, "") := rfl
theorem ee_122_0 {d : Nat} {h : aH} {ls st : List Value} : go d 122 0 ls st h = go d 122 1 ls (.int 0 :: st) h := go_plain (q := (1, ls, (.int 0 :: st), h)) ke_122_0 rfl
theorem ke_122_1 : alook 122 1 = some (1, .istore_n 2, 1, (0, 0, 0, 0, 0), ⟨"", "", ""⟩, "") := rfl
theorem ee_122_1 {d : Nat} {h : aH} {l0 l1 l2 l3 : Value} {x : Int32} {st : List Value} : go d 122 1 [l0, l1, l2, l3] (.int x :: st) h = go d 122 2 [l0, l1, .int x, l3] st h := go_plain (q := (2, [l0, l1, .int x, l3], st, h)) ke_122_1 rfl
theorem ke_122_2 : alook 122 2 = some (2, .aload_n 0, 1, (0, 0, 0, 0, 0), ⟨"", "", ""⟩, "") := rfl
theorem ee_122_2 {d : Nat} {h : aH} {l1 l2 l3 : Value} {x : Nat} {st : List Value} : go d 122 2 [.ref x, l1, l2, l3] st h = go d 122 3 [.ref x, l1, l2, l3] (.ref x :: st) h := go_plain (q := (3, [.ref x, l1, l2, l3], (.ref x :: st), h)) ke_122_2 rfl
theorem ee_122_2N {d : Nat} {h : aH} {l1 l2 l3 : Value} {st : List Value} : go d 122 2 [.null, l1, l2, l3] st h = go d 122 3 [.null, l1, l2, l3] (.null :: st) h := go_plain (q := (3, [.null, l1, l2, l3], (.null :: st), h)) ke_122_2 rfl
theorem ke_122_3 : alook 122 3 = some (3, .arraylength, 1, (0, 0, 0, 0, 0), ⟨"", "", ""⟩, "") := rfl
theorem ee_122_3 {d : Nat} {ls st : List Value} {h : aH} {r : Nat} : go d 122 3 ls (.ref r :: st) h = (al h r).bind fun z => go d 122 4 ls (.int z :: st) h := go_alen ke_122_3
theorem ke_122_4 : alook 122 4 = some (4, .istore_n 3, 1, (0, 0, 0, 0, 0), ⟨"", "", ""⟩, "") := rfl
theorem ee_122_4 {d : Nat} {h : aH} {l0 l1 l2 l3 : Value} {x : Int32} {st : List Value} : go d 122 4 [l0, l1, l2, l3] (.int x :: st) h = go d 122 5 [l0, l1, l2, .int x] st h := go_plain (q := (5, [l0, l1, l2, .int x], st, h)) ke_122_4 rfl
theorem ke_122_5 : alook 122 5 = some (5, .iload_n 2, 1, (0, 0, 0, 0, 0), ⟨"", "", ""⟩, "") := rfl
theorem ee_122_5 {d : Nat} {h : aH} {l0 l1 l3 : Value} {x : Int32} {st : List Value} : go d 122 5 [l0, l1, .int x, l3] st h = go d 122 6 [l0, l1, .int x, l3] (.int x :: st) h := go_plain (q := (6, [l0, l1, .int x, l3], (.int x :: st), h)) ke_122_5 rfl
theorem ke_122_6 : alook 122 6 = some (6, .iload_n 3, 1, (0, 0, 0, 0, 0), ⟨"", "", ""⟩, "") := rfl
theorem ee_122_6 {d : Nat} {h : aH} {l0 l1 l2 : Value} {x : Int32} {st : List Value} : go d 122 6 [l0, l1, l2, .int x] st h = go d 122 7 [l0, l1, l2, .int x] (.int x :: st) h := go_plain (q := (7, [l0, l1, l2, .int x], (.int x :: st), h)) ke_122_6 rfl
theorem ke_122_7 : alook 122 7 = some (7, .if_icmp .ge 13, 3, (20, 0, 0, 0, 0), ⟨"", "", ""⟩, "") := rfl
theorem ee_122_7 {d : Nat} {ls st : List Value} {h : aH} {x y : Int32} : go d 122 7 ls (.int y :: .int x :: st) h = if y ≤ x then go d 122 20 ls st h else go d 122 10 ls st h := go_ci (go_if2 (tg := 20) (q := 10) (f := fun x y => decide (y ≤ x)) ke_122_7 rfl)
theorem ke_122_10 : alook 122 10 = some (10, .aload_n 0, 1, (0, 0, 0, 0, 0), ⟨"", "", ""⟩, "") := rfl
theorem ee_122_10 {d : Nat} {h : aH} {l1 l2 l3 : Value} {x : Nat} {st : List Value} : go d 122 10 [.ref x, l1, l2, l3] st h = go d 122 11 [.ref x, l1, l2, l3] (.ref x :: st) h := go_plain (q := (11, [.ref x, l1, l2, l3], (.ref x :: st), h)) ke_122_10 rfl
theorem ee_122_10N {d : Nat} {h : aH} {l1 l2 l3 : Value} {st : List Value} : go d 122 10 [.null, l1, l2, l3] st h = go d 122 11 [.null, l1, l2, l3] (.null :: st) h := go_plain (q := (11, [.null, l1, l2, l3], (.null :: st), h)) ke_122_10 rfl
theorem ke_122_11 : alook 122 11 = some (11, .iload_n 2, 1, (0, 0, 0, 0, 0), ⟨"", "", ""⟩, "") := rfl
theorem ee_122_11 {d : Nat} {h : aH} {l0 l1 l3 : Value} {x : Int32} {st : List Value} : go d 122 11 [l0, l1, .int x, l3] st h = go d 122 12 [l0, l1, .int x, l3] (.int x :: st) h := go_plain (q := (12, [l0, l1, .int x, l3], (.int x :: st), h)) ke_122_11 rfl
theorem ke_122_12 : alook 122 12 = some (12, .iload_n 1, 1, (0, 0, 0, 0, 0), ⟨"", "", ""⟩, "") := rfl
theorem ee_122_12 {d : Nat} {h : aH} {l0 l2 l3 : Value} {x : Int32} {st : List Value} : go d 122 12 [l0, .int x, l2, l3] st h = go d 122 13 [l0, .int x, l2, l3] (.int x :: st) h := go_plain (q := (13, [l0, .int x, l2, l3], (.int x :: st), h)) ke_122_12 rfl
theorem ke_122_13 : alook 122 13 = some (13, .iastore, 1, (0, 0, 0, 0, 0), ⟨"", "", ""⟩, "") := rfl
theorem ee_122_13 {d : Nat} {ls st : List Value} {h : aH} {r : Nat} {i x : Int32} : go d 122 13 ls (.int x :: .int i :: .ref r :: st) h = (is_ h r i x).bind fun h' => go d 122 14 ls st h' := go_iast ke_122_13
theorem ke_122_14 : alook 122 14 = some (14, .iinc 2 1, 3, (0, 0, 0, 0, 0), ⟨"", "", ""⟩, "") := rfl
theorem ee_122_14 {d : Nat} {h : aH} {l0 l1 l3 : Value} {x : Int32} {st : List Value} : go d 122 14 [l0, l1, .int x, l3] st h = go d 122 17 [l0, l1, .int (x + 1), l3] st h := go_plain (q := (17, [l0, l1, .int (x + 1), l3], st, h)) ke_122_14 rfl
theorem ke_122_17 : alook 122 17 = some (17, .goto (-12), 3, (5, 0, 0, 0, 0), ⟨"", "", ""⟩, "") := rfl
theorem ee_122_17 {d : Nat} {h : aH} {ls st : List Value} : go d 122 17 ls st h = go d 122 5 ls st h := go_plain (q := (5, ls, st, h)) ke_122_17 rfl
theorem ke_122_20 : alook 122 20 = some (20, .return_, 1, (0, 0, 0, 0, 0), ⟨"", "", ""⟩, "") := rfl
theorem ee_122_20 {d : Nat} {ls : List Value} {h : aH} : go d 122 20 ls [] h = some (none, h) := go_ret ke_122_20 rfl rfl rfl
set_option maxRecDepth 20000 in
theorem ke_123_0 : alook 123 0 = some (0, .new 7, 3, (7, 9, 0, 0, 0), ⟨"", "", ""⟩, "") := rfl
theorem ee_123_0 {d : Nat} {ls st : List Value} {h : aH} : go d 123 0 ls st h = go d 123 3 ls (.ref h.length :: st) (h ++ [.inl (7, dfl 7)]) := go_plain (q := (3, ls, .ref h.length :: st, h ++ [.inl (7, dfl 7)])) ke_123_0 rfl
set_option maxRecDepth 20000 in
theorem ke_123_3 : alook 123 3 = some (3, .dup, 1, (0, 0, 0, 0, 0), ⟨"", "", ""⟩, "") := rfl
theorem ee_123_3 {d : Nat} {h : aH} {ls st : List Value} {x : Nat} : go d 123 3 ls (.ref x :: st) h = go d 123 4 ls (.ref x :: .ref x :: st) h := go_plain (q := (4, ls, (.ref x :: .ref x :: st), h)) ke_123_3 rfl
set_option maxRecDepth 20000 in
theorem ke_123_4 : alook 123 4 = some (4, .invokespecial 9, 3, (0, 0, 40, 0, 0), ⟨"WordHides", "<init>", "()V"⟩, "") := rfl
theorem ee_123_4 {d : Nat} {ls : List Value} {h : aH} {r q : Nat} : go (d + 1) 123 4 ls [.ref r, .ref q] h = (go d 40 0 [.ref r, aU] [] h).bind (fun z => go (d + 1) 123 7 ls (z.1.toList ++ [.ref q]) z.2) := go_call (M' := 40) (args := [.ref r]) (rest := [.ref q]) (L := [.ref r, aU]) ke_123_4 rfl rfl rfl
set_option maxRecDepth 20000 in
theorem ke_123_7 : alook 123 7 = some (7, .astore_n 1, 1, (0, 0, 0, 0, 0), ⟨"", "", ""⟩, "") := rfl
theorem ee_123_7 {d : Nat} {h : aH} {l0 l1 l2 l3 : Value} {x : Nat} {st : List Value} : go d 123 7 [l0, l1, l2, l3] (.ref x :: st) h = go d 123 8 [l0, .ref x, l2, l3] st h := go_plain (q := (8, [l0, .ref x, l2, l3], st, h)) ke_123_7 rfl
theorem ee_123_7N {d : Nat} {h : aH} {l0 l1 l2 l3 : Value} {st : List Value} : go d 123 7 [l0, l1, l2, l3] (.null :: st) h = go d 123 8 [l0, .null, l2, l3] st h := go_plain (q := (8, [l0, .null, l2, l3], st, h)) ke_123_7 rfl
set_option maxRecDepth 20000 in
theorem ke_123_8 : alook 123 8 = some (8, .new 10, 3, (8, 13, 0, 0, 0), ⟨"", "", ""⟩, "") := rfl
theorem ee_123_8 {d : Nat} {ls st : List Value} {h : aH} : go d 123 8 ls st h = go d 123 11 ls (.ref h.length :: st) (h ++ [.inl (8, dfl 8)]) := go_plain (q := (11, ls, .ref h.length :: st, h ++ [.inl (8, dfl 8)])) ke_123_8 rfl
set_option maxRecDepth 20000 in
theorem ke_123_11 : alook 123 11 = some (11, .dup, 1, (0, 0, 0, 0, 0), ⟨"", "", ""⟩, "") := rfl
theorem ee_123_11 {d : Nat} {h : aH} {ls st : List Value} {x : Nat} : go d 123 11 ls (.ref x :: st) h = go d 123 12 ls (.ref x :: .ref x :: st) h := go_plain (q := (12, ls, (.ref x :: .ref x :: st), h)) ke_123_11 rfl
set_option maxRecDepth 20000 in
theorem ke_123_12 : alook 123 12 = some (12, .invokespecial 12, 3, (0, 0, 64, 0, 0), ⟨"WordHidesModel", "<init>", "()V"⟩, "") := rfl
theorem ee_123_12 {d : Nat} {ls : List Value} {h : aH} {r q : Nat} : go (d + 1) 123 12 ls [.ref r, .ref q] h = (go d 64 0 [.ref r] [] h).bind (fun z => go (d + 1) 123 15 ls (z.1.toList ++ [.ref q]) z.2) := go_call (M' := 64) (args := [.ref r]) (rest := [.ref q]) (L := [.ref r]) ke_123_12 rfl rfl rfl
set_option maxRecDepth 20000 in
theorem ke_123_15 : alook 123 15 = some (15, .astore_n 2, 1, (0, 0, 0, 0, 0), ⟨"", "", ""⟩, "") := rfl
theorem ee_123_15 {d : Nat} {h : aH} {l0 l1 l2 l3 : Value} {x : Nat} {st : List Value} : go d 123 15 [l0, l1, l2, l3] (.ref x :: st) h = go d 123 16 [l0, l1, .ref x, l3] st h := go_plain (q := (16, [l0, l1, .ref x, l3], st, h)) ke_123_15 rfl
theorem ee_123_15N {d : Nat} {h : aH} {l0 l1 l2 l3 : Value} {st : List Value} : go d 123 15 [l0, l1, l2, l3] (.null :: st) h = go d 123 16 [l0, l1, .null, l3] st h := go_plain (q := (16, [l0, l1, .null, l3], st, h)) ke_123_15 rfl
set_option maxRecDepth 20000 in
theorem ke_123_16 : alook 123 16 = some (16, .iconst 0, 1, (0, 0, 0, 0, 0), ⟨"", "", ""⟩, "") := rfl
theorem ee_123_16 {d : Nat} {h : aH} {ls st : List Value} : go d 123 16 ls st h = go d 123 17 ls (.int 0 :: st) h := go_plain (q := (17, ls, (.int 0 :: st), h)) ke_123_16 rfl
set_option maxRecDepth 20000 in
theorem ke_123_17 : alook 123 17 = some (17, .istore_n 3, 1, (0, 0, 0, 0, 0), ⟨"", "", ""⟩, "") := rfl
theorem ee_123_17 {d : Nat} {h : aH} {l0 l1 l2 l3 : Value} {x : Int32} {st : List Value} : go d 123 17 [l0, l1, l2, l3] (.int x :: st) h = go d 123 18 [l0, l1, l2, .int x] st h := go_plain (q := (18, [l0, l1, l2, .int x], st, h)) ke_123_17 rfl
set_option maxRecDepth 20000 in
theorem ke_123_18 : alook 123 18 = some (18, .iload_n 3, 1, (0, 0, 0, 0, 0), ⟨"", "", ""⟩, "") := rfl
theorem ee_123_18 {d : Nat} {h : aH} {l0 l1 l2 : Value} {x : Int32} {st : List Value} : go d 123 18 [l0, l1, l2, .int x] st h = go d 123 19 [l0, l1, l2, .int x] (.int x :: st) h := go_plain (q := (19, [l0, l1, l2, .int x], (.int x :: st), h)) ke_123_18 rfl
set_option maxRecDepth 20000 in
theorem ke_123_19 : alook 123 19 = some (19, .aload_n 0, 1, (0, 0, 0, 0, 0), ⟨"", "", ""⟩, "") := rfl
theorem ee_123_19 {d : Nat} {h : aH} {l1 l2 l3 : Value} {x : Nat} {st : List Value} : go d 123 19 [.ref x, l1, l2, l3] st h = go d 123 20 [.ref x, l1, l2, l3] (.ref x :: st) h := go_plain (q := (20, [.ref x, l1, l2, l3], (.ref x :: st), h)) ke_123_19 rfl
theorem ee_123_19N {d : Nat} {h : aH} {l1 l2 l3 : Value} {st : List Value} : go d 123 19 [.null, l1, l2, l3] st h = go d 123 20 [.null, l1, l2, l3] (.null :: st) h := go_plain (q := (20, [.null, l1, l2, l3], (.null :: st), h)) ke_123_19 rfl
set_option maxRecDepth 20000 in
theorem ke_123_20 : alook 123 20 = some (20, .arraylength, 1, (0, 0, 0, 0, 0), ⟨"", "", ""⟩, "") := rfl
theorem ee_123_20 {d : Nat} {ls st : List Value} {h : aH} {r : Nat} : go d 123 20 ls (.ref r :: st) h = (al h r).bind fun z => go d 123 21 ls (.int z :: st) h := go_alen ke_123_20
set_option maxRecDepth 20000 in
theorem ke_123_21 : alook 123 21 = some (21, .iconst 4, 1, (0, 0, 0, 0, 0), ⟨"", "", ""⟩, "") := rfl
theorem ee_123_21 {d : Nat} {h : aH} {ls st : List Value} : go d 123 21 ls st h = go d 123 22 ls (.int 4 :: st) h := go_plain (q := (22, ls, (.int 4 :: st), h)) ke_123_21 rfl
set_option maxRecDepth 20000 in
theorem ke_123_22 : alook 123 22 = some (22, .isub, 1, (0, 0, 0, 0, 0), ⟨"", "", ""⟩, "") := rfl
theorem ee_123_22 {d : Nat} {h : aH} {ls st : List Value} {x y : Int32} : go d 123 22 ls (.int y :: .int x :: st) h = go d 123 23 ls (.int (x - y) :: st) h := go_plain (q := (23, ls, (.int (x - y) :: st), h)) ke_123_22 rfl
set_option maxRecDepth 20000 in
theorem ke_123_23 : alook 123 23 = some (23, .if_icmp .gt 604, 3, (627, 0, 0, 0, 0), ⟨"", "", ""⟩, "") := rfl
theorem ee_123_23 {d : Nat} {ls st : List Value} {h : aH} {x y : Int32} : go d 123 23 ls (.int y :: .int x :: st) h = if y < x then go d 123 627 ls st h else go d 123 26 ls st h := go_ci (go_if2 (tg := 627) (q := 26) (f := fun x y => decide (y < x)) ke_123_23 rfl)
set_option maxRecDepth 20000 in
theorem ke_123_26 : alook 123 26 = some (26, .aload_n 0, 1, (0, 0, 0, 0, 0), ⟨"", "", ""⟩, "") := rfl
theorem ee_123_26 {d : Nat} {h : aH} {l1 l2 l3 : Value} {x : Nat} {st : List Value} : go d 123 26 [.ref x, l1, l2, l3] st h = go d 123 27 [.ref x, l1, l2, l3] (.ref x :: st) h := go_plain (q := (27, [.ref x, l1, l2, l3], (.ref x :: st), h)) ke_123_26 rfl
theorem ee_123_26N {d : Nat} {h : aH} {l1 l2 l3 : Value} {st : List Value} : go d 123 26 [.null, l1, l2, l3] st h = go d 123 27 [.null, l1, l2, l3] (.null :: st) h := go_plain (q := (27, [.null, l1, l2, l3], (.null :: st), h)) ke_123_26 rfl
set_option maxRecDepth 20000 in
theorem ke_123_27 : alook 123 27 = some (27, .iload_n 3, 1, (0, 0, 0, 0, 0), ⟨"", "", ""⟩, "") := rfl
theorem ee_123_27 {d : Nat} {h : aH} {l0 l1 l2 : Value} {x : Int32} {st : List Value} : go d 123 27 [l0, l1, l2, .int x] st h = go d 123 28 [l0, l1, l2, .int x] (.int x :: st) h := go_plain (q := (28, [l0, l1, l2, .int x], (.int x :: st), h)) ke_123_27 rfl
set_option maxRecDepth 20000 in
theorem ke_123_28 : alook 123 28 = some (28, .iaload, 1, (0, 0, 0, 0, 0), ⟨"", "", ""⟩, "") := rfl
theorem ee_123_28 {d : Nat} {ls st : List Value} {h : aH} {r : Nat} {i : Int32} : go d 123 28 ls (.int i :: .ref r :: st) h = (ia h r i).bind fun z => go d 123 29 ls (.int z :: st) h := go_iald ke_123_28
set_option maxRecDepth 20000 in
theorem ke_123_29 : alook 123 29 = some (29, .bipush 31, 2, (0, 0, 0, 0, 0), ⟨"", "", ""⟩, "") := rfl
theorem ee_123_29 {d : Nat} {h : aH} {ls st : List Value} : go d 123 29 ls st h = go d 123 31 ls (.int 31 :: st) h := go_plain (q := (31, ls, (.int 31 :: st), h)) ke_123_29 rfl
set_option maxRecDepth 20000 in
theorem ke_123_31 : alook 123 31 = some (31, .iand, 1, (0, 0, 0, 0, 0), ⟨"", "", ""⟩, "") := rfl
theorem ee_123_31 {d : Nat} {h : aH} {ls st : List Value} {x y : Int32} : go d 123 31 ls (.int y :: .int x :: st) h = go d 123 32 ls (.int (x &&& y) :: st) h := go_plain (q := (32, ls, (.int (x &&& y) :: st), h)) ke_123_31 rfl
set_option maxRecDepth 20000 in
theorem ke_123_32 : alook 123 32 = some (32, .tableswitch 589 0 18 #[92, 115, 148, 171, 194, 207, 230, 253, 266, 309, 352, 385, 418, 441, 484, 507, 520, 543, 566], 92, (0, 0, 0, 0, 0), ⟨"", "", ""⟩, "") := rfl
theorem ee_123_32_0 {d : Nat} {h : aH} {ls st : List Value} : go d 123 32 ls (.int 0 :: st) h = go d 123 124 ls st h := go_plain (q := (124, ls, st, h)) ke_123_32 rfl
theorem ee_123_32_1 {d : Nat} {h : aH} {ls st : List Value} : go d 123 32 ls (.int 1 :: st) h = go d 123 147 ls st h := go_plain (q := (147, ls, st, h)) ke_123_32 rfl
theorem ee_123_32_2 {d : Nat} {h : aH} {ls st : List Value} : go d 123 32 ls (.int 2 :: st) h = go d 123 180 ls st h := go_plain (q := (180, ls, st, h)) ke_123_32 rfl
theorem ee_123_32_3 {d : Nat} {h : aH} {ls st : List Value} : go d 123 32 ls (.int 3 :: st) h = go d 123 203 ls st h := go_plain (q := (203, ls, st, h)) ke_123_32 rfl
theorem ee_123_32_4 {d : Nat} {h : aH} {ls st : List Value} : go d 123 32 ls (.int 4 :: st) h = go d 123 226 ls st h := go_plain (q := (226, ls, st, h)) ke_123_32 rfl
theorem ee_123_32_5 {d : Nat} {h : aH} {ls st : List Value} : go d 123 32 ls (.int 5 :: st) h = go d 123 239 ls st h := go_plain (q := (239, ls, st, h)) ke_123_32 rfl
theorem ee_123_32_6 {d : Nat} {h : aH} {ls st : List Value} : go d 123 32 ls (.int 6 :: st) h = go d 123 262 ls st h := go_plain (q := (262, ls, st, h)) ke_123_32 rfl
theorem ee_123_32_7 {d : Nat} {h : aH} {ls st : List Value} : go d 123 32 ls (.int 7 :: st) h = go d 123 285 ls st h := go_plain (q := (285, ls, st, h)) ke_123_32 rfl
theorem ee_123_32_8 {d : Nat} {h : aH} {ls st : List Value} : go d 123 32 ls (.int 8 :: st) h = go d 123 298 ls st h := go_plain (q := (298, ls, st, h)) ke_123_32 rfl
theorem ee_123_32_9 {d : Nat} {h : aH} {ls st : List Value} : go d 123 32 ls (.int 9 :: st) h = go d 123 341 ls st h := go_plain (q := (341, ls, st, h)) ke_123_32 rfl
theorem ee_123_32_10 {d : Nat} {h : aH} {ls st : List Value} : go d 123 32 ls (.int 10 :: st) h = go d 123 384 ls st h := go_plain (q := (384, ls, st, h)) ke_123_32 rfl
theorem ee_123_32_11 {d : Nat} {h : aH} {ls st : List Value} : go d 123 32 ls (.int 11 :: st) h = go d 123 417 ls st h := go_plain (q := (417, ls, st, h)) ke_123_32 rfl
theorem ee_123_32_12 {d : Nat} {h : aH} {ls st : List Value} : go d 123 32 ls (.int 12 :: st) h = go d 123 450 ls st h := go_plain (q := (450, ls, st, h)) ke_123_32 rfl
theorem ee_123_32_13 {d : Nat} {h : aH} {ls st : List Value} : go d 123 32 ls (.int 13 :: st) h = go d 123 473 ls st h := go_plain (q := (473, ls, st, h)) ke_123_32 rfl
theorem ee_123_32_14 {d : Nat} {h : aH} {ls st : List Value} : go d 123 32 ls (.int 14 :: st) h = go d 123 516 ls st h := go_plain (q := (516, ls, st, h)) ke_123_32 rfl
theorem ee_123_32_15 {d : Nat} {h : aH} {ls st : List Value} : go d 123 32 ls (.int 15 :: st) h = go d 123 539 ls st h := go_plain (q := (539, ls, st, h)) ke_123_32 rfl
theorem ee_123_32_16 {d : Nat} {h : aH} {ls st : List Value} : go d 123 32 ls (.int 16 :: st) h = go d 123 552 ls st h := go_plain (q := (552, ls, st, h)) ke_123_32 rfl
theorem ee_123_32_17 {d : Nat} {h : aH} {ls st : List Value} : go d 123 32 ls (.int 17 :: st) h = go d 123 575 ls st h := go_plain (q := (575, ls, st, h)) ke_123_32 rfl
theorem ee_123_32_18 {d : Nat} {h : aH} {ls st : List Value} : go d 123 32 ls (.int 18 :: st) h = go d 123 598 ls st h := go_plain (q := (598, ls, st, h)) ke_123_32 rfl
theorem ee_123_32_d {d : Nat} {ls st : List Value} {h : aH} {x : Int32} (hx : x.toInt < 0 ∨ 18 < x.toInt) : go d 123 32 ls (.int x :: st) h = go d 123 621 ls st h := go_plain (q := (621, ls, st, h)) ke_123_32 ((if_pos hx).trans rfl)
set_option maxRecDepth 20000 in
theorem ke_123_124 : alook 123 124 = some (124, .aload_n 1, 1, (0, 0, 0, 0, 0), ⟨"", "", ""⟩, "") := rfl
theorem ee_123_124 {d : Nat} {h : aH} {l0 l2 l3 : Value} {x : Nat} {st : List Value} : go d 123 124 [l0, .ref x, l2, l3] st h = go d 123 125 [l0, .ref x, l2, l3] (.ref x :: st) h := go_plain (q := (125, [l0, .ref x, l2, l3], (.ref x :: st), h)) ke_123_124 rfl
theorem ee_123_124N {d : Nat} {h : aH} {l0 l2 l3 : Value} {st : List Value} : go d 123 124 [l0, .null, l2, l3] st h = go d 123 125 [l0, .null, l2, l3] (.null :: st) h := go_plain (q := (125, [l0, .null, l2, l3], (.null :: st), h)) ke_123_124 rfl
set_option maxRecDepth 20000 in
theorem ke_123_125 : alook 123 125 = some (125, .aload_n 0, 1, (0, 0, 0, 0, 0), ⟨"", "", ""⟩, "") := rfl
theorem ee_123_125 {d : Nat} {h : aH} {l1 l2 l3 : Value} {x : Nat} {st : List Value} : go d 123 125 [.ref x, l1, l2, l3] st h = go d 123 126 [.ref x, l1, l2, l3] (.ref x :: st) h := go_plain (q := (126, [.ref x, l1, l2, l3], (.ref x :: st), h)) ke_123_125 rfl
theorem ee_123_125N {d : Nat} {h : aH} {l1 l2 l3 : Value} {st : List Value} : go d 123 125 [.null, l1, l2, l3] st h = go d 123 126 [.null, l1, l2, l3] (.null :: st) h := go_plain (q := (126, [.null, l1, l2, l3], (.null :: st), h)) ke_123_125 rfl
set_option maxRecDepth 20000 in
theorem ke_123_126 : alook 123 126 = some (126, .iload_n 3, 1, (0, 0, 0, 0, 0), ⟨"", "", ""⟩, "") := rfl
theorem ee_123_126 {d : Nat} {h : aH} {l0 l1 l2 : Value} {x : Int32} {st : List Value} : go d 123 126 [l0, l1, l2, .int x] st h = go d 123 127 [l0, l1, l2, .int x] (.int x :: st) h := go_plain (q := (127, [l0, l1, l2, .int x], (.int x :: st), h)) ke_123_126 rfl
set_option maxRecDepth 20000 in
theorem ke_123_127 : alook 123 127 = some (127, .iconst 1, 1, (0, 0, 0, 0, 0), ⟨"", "", ""⟩, "") := rfl
theorem ee_123_127 {d : Nat} {h : aH} {ls st : List Value} : go d 123 127 ls st h = go d 123 128 ls (.int 1 :: st) h := go_plain (q := (128, ls, (.int 1 :: st), h)) ke_123_127 rfl
set_option maxRecDepth 20000 in
theorem ke_123_128 : alook 123 128 = some (128, .iadd, 1, (0, 0, 0, 0, 0), ⟨"", "", ""⟩, "") := rfl
theorem ee_123_128 {d : Nat} {h : aH} {ls st : List Value} {x y : Int32} : go d 123 128 ls (.int y :: .int x :: st) h = go d 123 129 ls (.int (x + y) :: st) h := go_plain (q := (129, ls, (.int (x + y) :: st), h)) ke_123_128 rfl
set_option maxRecDepth 20000 in
theorem ke_123_129 : alook 123 129 = some (129, .iaload, 1, (0, 0, 0, 0, 0), ⟨"", "", ""⟩, "") := rfl
theorem ee_123_129 {d : Nat} {ls st : List Value} {h : aH} {r : Nat} {i : Int32} : go d 123 129 ls (.int i :: .ref r :: st) h = (ia h r i).bind fun z => go d 123 130 ls (.int z :: st) h := go_iald ke_123_129
set_option maxRecDepth 20000 in
theorem ke_123_130 : alook 123 130 = some (130, .invokevirtual 13, 3, (1, 7, 41, 7, 41), ⟨"WordHides", "side", "(I)I"⟩, "") := rfl
theorem ee_123_130 {d : Nat} {ls : List Value} {h : aH} {i0 : Int32} {r1 : Nat} : go (d + 1) 123 130 ls [.int i0, .ref r1] h = if isC h r1 7 = true then (go d 41 0 [.ref r1, .int i0, aU] [] h).bind (fun q => go (d + 1) 123 133 ls (q.1.toList ++ []) q.2) else none := go_cv1 (as := [.int i0]) (rest := []) (L := [.ref r1, .int i0, aU]) ke_123_130 rfl rfl rfl
set_option maxRecDepth 20000 in
theorem ke_123_133 : alook 123 133 = some (133, .aload_n 2, 1, (0, 0, 0, 0, 0), ⟨"", "", ""⟩, "") := rfl
theorem ee_123_133 {d : Nat} {h : aH} {l0 l1 l3 : Value} {x : Nat} {st : List Value} : go d 123 133 [l0, l1, .ref x, l3] st h = go d 123 134 [l0, l1, .ref x, l3] (.ref x :: st) h := go_plain (q := (134, [l0, l1, .ref x, l3], (.ref x :: st), h)) ke_123_133 rfl
theorem ee_123_133N {d : Nat} {h : aH} {l0 l1 l3 : Value} {st : List Value} : go d 123 133 [l0, l1, .null, l3] st h = go d 123 134 [l0, l1, .null, l3] (.null :: st) h := go_plain (q := (134, [l0, l1, .null, l3], (.null :: st), h)) ke_123_133 rfl
set_option maxRecDepth 20000 in
theorem ke_123_134 : alook 123 134 = some (134, .aload_n 0, 1, (0, 0, 0, 0, 0), ⟨"", "", ""⟩, "") := rfl
theorem ee_123_134 {d : Nat} {h : aH} {l1 l2 l3 : Value} {x : Nat} {st : List Value} : go d 123 134 [.ref x, l1, l2, l3] st h = go d 123 135 [.ref x, l1, l2, l3] (.ref x :: st) h := go_plain (q := (135, [.ref x, l1, l2, l3], (.ref x :: st), h)) ke_123_134 rfl
theorem ee_123_134N {d : Nat} {h : aH} {l1 l2 l3 : Value} {st : List Value} : go d 123 134 [.null, l1, l2, l3] st h = go d 123 135 [.null, l1, l2, l3] (.null :: st) h := go_plain (q := (135, [.null, l1, l2, l3], (.null :: st), h)) ke_123_134 rfl
set_option maxRecDepth 20000 in
theorem ke_123_135 : alook 123 135 = some (135, .iload_n 3, 1, (0, 0, 0, 0, 0), ⟨"", "", ""⟩, "") := rfl
theorem ee_123_135 {d : Nat} {h : aH} {l0 l1 l2 : Value} {x : Int32} {st : List Value} : go d 123 135 [l0, l1, l2, .int x] st h = go d 123 136 [l0, l1, l2, .int x] (.int x :: st) h := go_plain (q := (136, [l0, l1, l2, .int x], (.int x :: st), h)) ke_123_135 rfl
set_option maxRecDepth 20000 in
theorem ke_123_136 : alook 123 136 = some (136, .iconst 1, 1, (0, 0, 0, 0, 0), ⟨"", "", ""⟩, "") := rfl
theorem ee_123_136 {d : Nat} {h : aH} {ls st : List Value} : go d 123 136 ls st h = go d 123 137 ls (.int 1 :: st) h := go_plain (q := (137, ls, (.int 1 :: st), h)) ke_123_136 rfl
set_option maxRecDepth 20000 in
theorem ke_123_137 : alook 123 137 = some (137, .iadd, 1, (0, 0, 0, 0, 0), ⟨"", "", ""⟩, "") := rfl
theorem ee_123_137 {d : Nat} {h : aH} {ls st : List Value} {x y : Int32} : go d 123 137 ls (.int y :: .int x :: st) h = go d 123 138 ls (.int (x + y) :: st) h := go_plain (q := (138, ls, (.int (x + y) :: st), h)) ke_123_137 rfl
set_option maxRecDepth 20000 in
theorem ke_123_138 : alook 123 138 = some (138, .iaload, 1, (0, 0, 0, 0, 0), ⟨"", "", ""⟩, "") := rfl
theorem ee_123_138 {d : Nat} {ls st : List Value} {h : aH} {r : Nat} {i : Int32} : go d 123 138 ls (.int i :: .ref r :: st) h = (ia h r i).bind fun z => go d 123 139 ls (.int z :: st) h := go_iald ke_123_138
set_option maxRecDepth 20000 in
theorem ke_123_139 : alook 123 139 = some (139, .invokevirtual 17, 3, (1, 8, 73, 8, 73), ⟨"WordHidesModel", "side", "(I)I"⟩, "") := rfl
theorem ee_123_139 {d : Nat} {ls : List Value} {h : aH} {i0 : Int32} {r1 : Nat} {i2 : Int32} : go (d + 1) 123 139 ls [.int i0, .ref r1, .int i2] h = if isC h r1 8 = true then (go d 73 0 [.ref r1, .int i0, aU, aU] [] h).bind (fun q => go (d + 1) 123 142 ls (q.1.toList ++ [.int i2]) q.2) else none := go_cv1 (as := [.int i0]) (rest := [.int i2]) (L := [.ref r1, .int i0, aU, aU]) ke_123_139 rfl rfl rfl
set_option maxRecDepth 20000 in
theorem ke_123_142 : alook 123 142 = some (142, .if_icmp .eq 479, 3, (621, 0, 0, 0, 0), ⟨"", "", ""⟩, "") := rfl
theorem ee_123_142 {d : Nat} {ls st : List Value} {h : aH} {x y : Int32} : go d 123 142 ls (.int y :: .int x :: st) h = if x = y then go d 123 621 ls st h else go d 123 145 ls st h := go_ci (go_if2 (tg := 621) (q := 145) (f := fun x y => decide (x = y)) ke_123_142 rfl)
set_option maxRecDepth 20000 in
theorem ke_123_145 : alook 123 145 = some (145, .iconst 0, 1, (0, 0, 0, 0, 0), ⟨"", "", ""⟩, "") := rfl
theorem ee_123_145 {d : Nat} {h : aH} {ls st : List Value} : go d 123 145 ls st h = go d 123 146 ls (.int 0 :: st) h := go_plain (q := (146, ls, (.int 0 :: st), h)) ke_123_145 rfl
set_option maxRecDepth 20000 in
theorem ke_123_146 : alook 123 146 = some (146, .ireturn, 1, (1, 0, 0, 0, 0), ⟨"", "", ""⟩, "") := rfl
theorem ee_123_146 {d : Nat} {ls : List Value} {h : aH} : go d 123 146 ls [.int 0] h = some (some (.int 0), h) := go_zret0 ke_123_146
theorem ee_123_146T {d : Nat} {ls : List Value} {h : aH} : go d 123 146 ls [.int 1] h = some (some (.int 1), h) := go_zret1 ke_123_146
set_option maxRecDepth 20000 in
theorem ke_123_147 : alook 123 147 = some (147, .aload_n 1, 1, (0, 0, 0, 0, 0), ⟨"", "", ""⟩, "") := rfl
theorem ee_123_147 {d : Nat} {h : aH} {l0 l2 l3 : Value} {x : Nat} {st : List Value} : go d 123 147 [l0, .ref x, l2, l3] st h = go d 123 148 [l0, .ref x, l2, l3] (.ref x :: st) h := go_plain (q := (148, [l0, .ref x, l2, l3], (.ref x :: st), h)) ke_123_147 rfl
theorem ee_123_147N {d : Nat} {h : aH} {l0 l2 l3 : Value} {st : List Value} : go d 123 147 [l0, .null, l2, l3] st h = go d 123 148 [l0, .null, l2, l3] (.null :: st) h := go_plain (q := (148, [l0, .null, l2, l3], (.null :: st), h)) ke_123_147 rfl
set_option maxRecDepth 20000 in
theorem ke_123_148 : alook 123 148 = some (148, .aload_n 0, 1, (0, 0, 0, 0, 0), ⟨"", "", ""⟩, "") := rfl
theorem ee_123_148 {d : Nat} {h : aH} {l1 l2 l3 : Value} {x : Nat} {st : List Value} : go d 123 148 [.ref x, l1, l2, l3] st h = go d 123 149 [.ref x, l1, l2, l3] (.ref x :: st) h := go_plain (q := (149, [.ref x, l1, l2, l3], (.ref x :: st), h)) ke_123_148 rfl
theorem ee_123_148N {d : Nat} {h : aH} {l1 l2 l3 : Value} {st : List Value} : go d 123 148 [.null, l1, l2, l3] st h = go d 123 149 [.null, l1, l2, l3] (.null :: st) h := go_plain (q := (149, [.null, l1, l2, l3], (.null :: st), h)) ke_123_148 rfl
set_option maxRecDepth 20000 in
theorem ke_123_149 : alook 123 149 = some (149, .iload_n 3, 1, (0, 0, 0, 0, 0), ⟨"", "", ""⟩, "") := rfl
theorem ee_123_149 {d : Nat} {h : aH} {l0 l1 l2 : Value} {x : Int32} {st : List Value} : go d 123 149 [l0, l1, l2, .int x] st h = go d 123 150 [l0, l1, l2, .int x] (.int x :: st) h := go_plain (q := (150, [l0, l1, l2, .int x], (.int x :: st), h)) ke_123_149 rfl
set_option maxRecDepth 20000 in
theorem ke_123_150 : alook 123 150 = some (150, .iconst 1, 1, (0, 0, 0, 0, 0), ⟨"", "", ""⟩, "") := rfl
theorem ee_123_150 {d : Nat} {h : aH} {ls st : List Value} : go d 123 150 ls st h = go d 123 151 ls (.int 1 :: st) h := go_plain (q := (151, ls, (.int 1 :: st), h)) ke_123_150 rfl
set_option maxRecDepth 20000 in
theorem ke_123_151 : alook 123 151 = some (151, .iadd, 1, (0, 0, 0, 0, 0), ⟨"", "", ""⟩, "") := rfl
theorem ee_123_151 {d : Nat} {h : aH} {ls st : List Value} {x y : Int32} : go d 123 151 ls (.int y :: .int x :: st) h = go d 123 152 ls (.int (x + y) :: st) h := go_plain (q := (152, ls, (.int (x + y) :: st), h)) ke_123_151 rfl
set_option maxRecDepth 20000 in
theorem ke_123_152 : alook 123 152 = some (152, .iaload, 1, (0, 0, 0, 0, 0), ⟨"", "", ""⟩, "") := rfl
theorem ee_123_152 {d : Nat} {ls st : List Value} {h : aH} {r : Nat} {i : Int32} : go d 123 152 ls (.int i :: .ref r :: st) h = (ia h r i).bind fun z => go d 123 153 ls (.int z :: st) h := go_iald ke_123_152
set_option maxRecDepth 20000 in
theorem ke_123_153 : alook 123 153 = some (153, .aload_n 0, 1, (0, 0, 0, 0, 0), ⟨"", "", ""⟩, "") := rfl
theorem ee_123_153 {d : Nat} {h : aH} {l1 l2 l3 : Value} {x : Nat} {st : List Value} : go d 123 153 [.ref x, l1, l2, l3] st h = go d 123 154 [.ref x, l1, l2, l3] (.ref x :: st) h := go_plain (q := (154, [.ref x, l1, l2, l3], (.ref x :: st), h)) ke_123_153 rfl
theorem ee_123_153N {d : Nat} {h : aH} {l1 l2 l3 : Value} {st : List Value} : go d 123 153 [.null, l1, l2, l3] st h = go d 123 154 [.null, l1, l2, l3] (.null :: st) h := go_plain (q := (154, [.null, l1, l2, l3], (.null :: st), h)) ke_123_153 rfl
set_option maxRecDepth 20000 in
theorem ke_123_154 : alook 123 154 = some (154, .iload_n 3, 1, (0, 0, 0, 0, 0), ⟨"", "", ""⟩, "") := rfl
theorem ee_123_154 {d : Nat} {h : aH} {l0 l1 l2 : Value} {x : Int32} {st : List Value} : go d 123 154 [l0, l1, l2, .int x] st h = go d 123 155 [l0, l1, l2, .int x] (.int x :: st) h := go_plain (q := (155, [l0, l1, l2, .int x], (.int x :: st), h)) ke_123_154 rfl
set_option maxRecDepth 20000 in
theorem ke_123_155 : alook 123 155 = some (155, .iconst 2, 1, (0, 0, 0, 0, 0), ⟨"", "", ""⟩, "") := rfl
theorem ee_123_155 {d : Nat} {h : aH} {ls st : List Value} : go d 123 155 ls st h = go d 123 156 ls (.int 2 :: st) h := go_plain (q := (156, ls, (.int 2 :: st), h)) ke_123_155 rfl
set_option maxRecDepth 20000 in
theorem ke_123_156 : alook 123 156 = some (156, .iadd, 1, (0, 0, 0, 0, 0), ⟨"", "", ""⟩, "") := rfl
theorem ee_123_156 {d : Nat} {h : aH} {ls st : List Value} {x y : Int32} : go d 123 156 ls (.int y :: .int x :: st) h = go d 123 157 ls (.int (x + y) :: st) h := go_plain (q := (157, ls, (.int (x + y) :: st), h)) ke_123_156 rfl
set_option maxRecDepth 20000 in
theorem ke_123_157 : alook 123 157 = some (157, .iaload, 1, (0, 0, 0, 0, 0), ⟨"", "", ""⟩, "") := rfl
theorem ee_123_157 {d : Nat} {ls st : List Value} {h : aH} {r : Nat} {i : Int32} : go d 123 157 ls (.int i :: .ref r :: st) h = (ia h r i).bind fun z => go d 123 158 ls (.int z :: st) h := go_iald ke_123_157
set_option maxRecDepth 20000 in
theorem ke_123_158 : alook 123 158 = some (158, .invokevirtual 18, 3, (2, 7, 42, 7, 42), ⟨"WordHides", "set", "(II)I"⟩, "") := rfl
theorem ee_123_158 {d : Nat} {ls : List Value} {h : aH} {i0 : Int32} {i1 : Int32} {r2 : Nat} : go (d + 1) 123 158 ls [.int i0, .int i1, .ref r2] h = if isC h r2 7 = true then (go d 42 0 [.ref r2, .int i1, .int i0, aU] [] h).bind (fun q => go (d + 1) 123 161 ls (q.1.toList ++ []) q.2) else none := go_cv1 (as := [.int i1, .int i0]) (rest := []) (L := [.ref r2, .int i1, .int i0, aU]) ke_123_158 rfl rfl rfl
set_option maxRecDepth 20000 in
theorem ke_123_161 : alook 123 161 = some (161, .aload_n 2, 1, (0, 0, 0, 0, 0), ⟨"", "", ""⟩, "") := rfl
theorem ee_123_161 {d : Nat} {h : aH} {l0 l1 l3 : Value} {x : Nat} {st : List Value} : go d 123 161 [l0, l1, .ref x, l3] st h = go d 123 162 [l0, l1, .ref x, l3] (.ref x :: st) h := go_plain (q := (162, [l0, l1, .ref x, l3], (.ref x :: st), h)) ke_123_161 rfl
theorem ee_123_161N {d : Nat} {h : aH} {l0 l1 l3 : Value} {st : List Value} : go d 123 161 [l0, l1, .null, l3] st h = go d 123 162 [l0, l1, .null, l3] (.null :: st) h := go_plain (q := (162, [l0, l1, .null, l3], (.null :: st), h)) ke_123_161 rfl
set_option maxRecDepth 20000 in
theorem ke_123_162 : alook 123 162 = some (162, .aload_n 0, 1, (0, 0, 0, 0, 0), ⟨"", "", ""⟩, "") := rfl
theorem ee_123_162 {d : Nat} {h : aH} {l1 l2 l3 : Value} {x : Nat} {st : List Value} : go d 123 162 [.ref x, l1, l2, l3] st h = go d 123 163 [.ref x, l1, l2, l3] (.ref x :: st) h := go_plain (q := (163, [.ref x, l1, l2, l3], (.ref x :: st), h)) ke_123_162 rfl
theorem ee_123_162N {d : Nat} {h : aH} {l1 l2 l3 : Value} {st : List Value} : go d 123 162 [.null, l1, l2, l3] st h = go d 123 163 [.null, l1, l2, l3] (.null :: st) h := go_plain (q := (163, [.null, l1, l2, l3], (.null :: st), h)) ke_123_162 rfl
set_option maxRecDepth 20000 in
theorem ke_123_163 : alook 123 163 = some (163, .iload_n 3, 1, (0, 0, 0, 0, 0), ⟨"", "", ""⟩, "") := rfl
theorem ee_123_163 {d : Nat} {h : aH} {l0 l1 l2 : Value} {x : Int32} {st : List Value} : go d 123 163 [l0, l1, l2, .int x] st h = go d 123 164 [l0, l1, l2, .int x] (.int x :: st) h := go_plain (q := (164, [l0, l1, l2, .int x], (.int x :: st), h)) ke_123_163 rfl
set_option maxRecDepth 20000 in
theorem ke_123_164 : alook 123 164 = some (164, .iconst 1, 1, (0, 0, 0, 0, 0), ⟨"", "", ""⟩, "") := rfl
theorem ee_123_164 {d : Nat} {h : aH} {ls st : List Value} : go d 123 164 ls st h = go d 123 165 ls (.int 1 :: st) h := go_plain (q := (165, ls, (.int 1 :: st), h)) ke_123_164 rfl
set_option maxRecDepth 20000 in
theorem ke_123_165 : alook 123 165 = some (165, .iadd, 1, (0, 0, 0, 0, 0), ⟨"", "", ""⟩, "") := rfl
theorem ee_123_165 {d : Nat} {h : aH} {ls st : List Value} {x y : Int32} : go d 123 165 ls (.int y :: .int x :: st) h = go d 123 166 ls (.int (x + y) :: st) h := go_plain (q := (166, ls, (.int (x + y) :: st), h)) ke_123_165 rfl
set_option maxRecDepth 20000 in
theorem ke_123_166 : alook 123 166 = some (166, .iaload, 1, (0, 0, 0, 0, 0), ⟨"", "", ""⟩, "") := rfl
theorem ee_123_166 {d : Nat} {ls st : List Value} {h : aH} {r : Nat} {i : Int32} : go d 123 166 ls (.int i :: .ref r :: st) h = (ia h r i).bind fun z => go d 123 167 ls (.int z :: st) h := go_iald ke_123_166
set_option maxRecDepth 20000 in
theorem ke_123_167 : alook 123 167 = some (167, .aload_n 0, 1, (0, 0, 0, 0, 0), ⟨"", "", ""⟩, "") := rfl
theorem ee_123_167 {d : Nat} {h : aH} {l1 l2 l3 : Value} {x : Nat} {st : List Value} : go d 123 167 [.ref x, l1, l2, l3] st h = go d 123 168 [.ref x, l1, l2, l3] (.ref x :: st) h := go_plain (q := (168, [.ref x, l1, l2, l3], (.ref x :: st), h)) ke_123_167 rfl
theorem ee_123_167N {d : Nat} {h : aH} {l1 l2 l3 : Value} {st : List Value} : go d 123 167 [.null, l1, l2, l3] st h = go d 123 168 [.null, l1, l2, l3] (.null :: st) h := go_plain (q := (168, [.null, l1, l2, l3], (.null :: st), h)) ke_123_167 rfl
set_option maxRecDepth 20000 in
theorem ke_123_168 : alook 123 168 = some (168, .iload_n 3, 1, (0, 0, 0, 0, 0), ⟨"", "", ""⟩, "") := rfl
theorem ee_123_168 {d : Nat} {h : aH} {l0 l1 l2 : Value} {x : Int32} {st : List Value} : go d 123 168 [l0, l1, l2, .int x] st h = go d 123 169 [l0, l1, l2, .int x] (.int x :: st) h := go_plain (q := (169, [l0, l1, l2, .int x], (.int x :: st), h)) ke_123_168 rfl
set_option maxRecDepth 20000 in
theorem ke_123_169 : alook 123 169 = some (169, .iconst 2, 1, (0, 0, 0, 0, 0), ⟨"", "", ""⟩, "") := rfl
theorem ee_123_169 {d : Nat} {h : aH} {ls st : List Value} : go d 123 169 ls st h = go d 123 170 ls (.int 2 :: st) h := go_plain (q := (170, ls, (.int 2 :: st), h)) ke_123_169 rfl
set_option maxRecDepth 20000 in
theorem ke_123_170 : alook 123 170 = some (170, .iadd, 1, (0, 0, 0, 0, 0), ⟨"", "", ""⟩, "") := rfl
theorem ee_123_170 {d : Nat} {h : aH} {ls st : List Value} {x y : Int32} : go d 123 170 ls (.int y :: .int x :: st) h = go d 123 171 ls (.int (x + y) :: st) h := go_plain (q := (171, ls, (.int (x + y) :: st), h)) ke_123_170 rfl
set_option maxRecDepth 20000 in
theorem ke_123_171 : alook 123 171 = some (171, .iaload, 1, (0, 0, 0, 0, 0), ⟨"", "", ""⟩, "") := rfl
theorem ee_123_171 {d : Nat} {ls st : List Value} {h : aH} {r : Nat} {i : Int32} : go d 123 171 ls (.int i :: .ref r :: st) h = (ia h r i).bind fun z => go d 123 172 ls (.int z :: st) h := go_iald ke_123_171
set_option maxRecDepth 20000 in
theorem ke_123_172 : alook 123 172 = some (172, .invokevirtual 22, 3, (2, 8, 74, 8, 74), ⟨"WordHidesModel", "set", "(II)I"⟩, "") := rfl
theorem ee_123_172 {d : Nat} {ls : List Value} {h : aH} {i0 : Int32} {i1 : Int32} {r2 : Nat} {i3 : Int32} : go (d + 1) 123 172 ls [.int i0, .int i1, .ref r2, .int i3] h = if isC h r2 8 = true then (go d 74 0 [.ref r2, .int i1, .int i0, aU] [] h).bind (fun q => go (d + 1) 123 175 ls (q.1.toList ++ [.int i3]) q.2) else none := go_cv1 (as := [.int i1, .int i0]) (rest := [.int i3]) (L := [.ref r2, .int i1, .int i0, aU]) ke_123_172 rfl rfl rfl
set_option maxRecDepth 20000 in
theorem ke_123_175 : alook 123 175 = some (175, .if_icmp .eq 446, 3, (621, 0, 0, 0, 0), ⟨"", "", ""⟩, "") := rfl
theorem ee_123_175 {d : Nat} {ls st : List Value} {h : aH} {x y : Int32} : go d 123 175 ls (.int y :: .int x :: st) h = if x = y then go d 123 621 ls st h else go d 123 178 ls st h := go_ci (go_if2 (tg := 621) (q := 178) (f := fun x y => decide (x = y)) ke_123_175 rfl)
set_option maxRecDepth 20000 in
theorem ke_123_178 : alook 123 178 = some (178, .iconst 0, 1, (0, 0, 0, 0, 0), ⟨"", "", ""⟩, "") := rfl
theorem ee_123_178 {d : Nat} {h : aH} {ls st : List Value} : go d 123 178 ls st h = go d 123 179 ls (.int 0 :: st) h := go_plain (q := (179, ls, (.int 0 :: st), h)) ke_123_178 rfl
set_option maxRecDepth 20000 in
theorem ke_123_179 : alook 123 179 = some (179, .ireturn, 1, (1, 0, 0, 0, 0), ⟨"", "", ""⟩, "") := rfl
theorem ee_123_179 {d : Nat} {ls : List Value} {h : aH} : go d 123 179 ls [.int 0] h = some (some (.int 0), h) := go_zret0 ke_123_179
theorem ee_123_179T {d : Nat} {ls : List Value} {h : aH} : go d 123 179 ls [.int 1] h = some (some (.int 1), h) := go_zret1 ke_123_179
set_option maxRecDepth 20000 in
theorem ke_123_180 : alook 123 180 = some (180, .aload_n 1, 1, (0, 0, 0, 0, 0), ⟨"", "", ""⟩, "") := rfl
theorem ee_123_180 {d : Nat} {h : aH} {l0 l2 l3 : Value} {x : Nat} {st : List Value} : go d 123 180 [l0, .ref x, l2, l3] st h = go d 123 181 [l0, .ref x, l2, l3] (.ref x :: st) h := go_plain (q := (181, [l0, .ref x, l2, l3], (.ref x :: st), h)) ke_123_180 rfl
theorem ee_123_180N {d : Nat} {h : aH} {l0 l2 l3 : Value} {st : List Value} : go d 123 180 [l0, .null, l2, l3] st h = go d 123 181 [l0, .null, l2, l3] (.null :: st) h := go_plain (q := (181, [l0, .null, l2, l3], (.null :: st), h)) ke_123_180 rfl
set_option maxRecDepth 20000 in
theorem ke_123_181 : alook 123 181 = some (181, .aload_n 0, 1, (0, 0, 0, 0, 0), ⟨"", "", ""⟩, "") := rfl
theorem ee_123_181 {d : Nat} {h : aH} {l1 l2 l3 : Value} {x : Nat} {st : List Value} : go d 123 181 [.ref x, l1, l2, l3] st h = go d 123 182 [.ref x, l1, l2, l3] (.ref x :: st) h := go_plain (q := (182, [.ref x, l1, l2, l3], (.ref x :: st), h)) ke_123_181 rfl
theorem ee_123_181N {d : Nat} {h : aH} {l1 l2 l3 : Value} {st : List Value} : go d 123 181 [.null, l1, l2, l3] st h = go d 123 182 [.null, l1, l2, l3] (.null :: st) h := go_plain (q := (182, [.null, l1, l2, l3], (.null :: st), h)) ke_123_181 rfl
set_option maxRecDepth 20000 in
theorem ke_123_182 : alook 123 182 = some (182, .iload_n 3, 1, (0, 0, 0, 0, 0), ⟨"", "", ""⟩, "") := rfl
theorem ee_123_182 {d : Nat} {h : aH} {l0 l1 l2 : Value} {x : Int32} {st : List Value} : go d 123 182 [l0, l1, l2, .int x] st h = go d 123 183 [l0, l1, l2, .int x] (.int x :: st) h := go_plain (q := (183, [l0, l1, l2, .int x], (.int x :: st), h)) ke_123_182 rfl
set_option maxRecDepth 20000 in
theorem ke_123_183 : alook 123 183 = some (183, .iconst 1, 1, (0, 0, 0, 0, 0), ⟨"", "", ""⟩, "") := rfl
theorem ee_123_183 {d : Nat} {h : aH} {ls st : List Value} : go d 123 183 ls st h = go d 123 184 ls (.int 1 :: st) h := go_plain (q := (184, ls, (.int 1 :: st), h)) ke_123_183 rfl
set_option maxRecDepth 20000 in
theorem ke_123_184 : alook 123 184 = some (184, .iadd, 1, (0, 0, 0, 0, 0), ⟨"", "", ""⟩, "") := rfl
theorem ee_123_184 {d : Nat} {h : aH} {ls st : List Value} {x y : Int32} : go d 123 184 ls (.int y :: .int x :: st) h = go d 123 185 ls (.int (x + y) :: st) h := go_plain (q := (185, ls, (.int (x + y) :: st), h)) ke_123_184 rfl
set_option maxRecDepth 20000 in
theorem ke_123_185 : alook 123 185 = some (185, .iaload, 1, (0, 0, 0, 0, 0), ⟨"", "", ""⟩, "") := rfl
theorem ee_123_185 {d : Nat} {ls st : List Value} {h : aH} {r : Nat} {i : Int32} : go d 123 185 ls (.int i :: .ref r :: st) h = (ia h r i).bind fun z => go d 123 186 ls (.int z :: st) h := go_iald ke_123_185
set_option maxRecDepth 20000 in
theorem ke_123_186 : alook 123 186 = some (186, .invokevirtual 23, 3, (1, 7, 43, 7, 43), ⟨"WordHides", "at", "(I)I"⟩, "") := rfl
theorem ee_123_186 {d : Nat} {ls : List Value} {h : aH} {i0 : Int32} {r1 : Nat} : go (d + 1) 123 186 ls [.int i0, .ref r1] h = if isC h r1 7 = true then (go d 43 0 [.ref r1, .int i0, aU] [] h).bind (fun q => go (d + 1) 123 189 ls (q.1.toList ++ []) q.2) else none := go_cv1 (as := [.int i0]) (rest := []) (L := [.ref r1, .int i0, aU]) ke_123_186 rfl rfl rfl
set_option maxRecDepth 20000 in
theorem ke_123_189 : alook 123 189 = some (189, .aload_n 2, 1, (0, 0, 0, 0, 0), ⟨"", "", ""⟩, "") := rfl
theorem ee_123_189 {d : Nat} {h : aH} {l0 l1 l3 : Value} {x : Nat} {st : List Value} : go d 123 189 [l0, l1, .ref x, l3] st h = go d 123 190 [l0, l1, .ref x, l3] (.ref x :: st) h := go_plain (q := (190, [l0, l1, .ref x, l3], (.ref x :: st), h)) ke_123_189 rfl
theorem ee_123_189N {d : Nat} {h : aH} {l0 l1 l3 : Value} {st : List Value} : go d 123 189 [l0, l1, .null, l3] st h = go d 123 190 [l0, l1, .null, l3] (.null :: st) h := go_plain (q := (190, [l0, l1, .null, l3], (.null :: st), h)) ke_123_189 rfl
set_option maxRecDepth 20000 in
theorem ke_123_190 : alook 123 190 = some (190, .aload_n 0, 1, (0, 0, 0, 0, 0), ⟨"", "", ""⟩, "") := rfl
theorem ee_123_190 {d : Nat} {h : aH} {l1 l2 l3 : Value} {x : Nat} {st : List Value} : go d 123 190 [.ref x, l1, l2, l3] st h = go d 123 191 [.ref x, l1, l2, l3] (.ref x :: st) h := go_plain (q := (191, [.ref x, l1, l2, l3], (.ref x :: st), h)) ke_123_190 rfl
theorem ee_123_190N {d : Nat} {h : aH} {l1 l2 l3 : Value} {st : List Value} : go d 123 190 [.null, l1, l2, l3] st h = go d 123 191 [.null, l1, l2, l3] (.null :: st) h := go_plain (q := (191, [.null, l1, l2, l3], (.null :: st), h)) ke_123_190 rfl
set_option maxRecDepth 20000 in
theorem ke_123_191 : alook 123 191 = some (191, .iload_n 3, 1, (0, 0, 0, 0, 0), ⟨"", "", ""⟩, "") := rfl
theorem ee_123_191 {d : Nat} {h : aH} {l0 l1 l2 : Value} {x : Int32} {st : List Value} : go d 123 191 [l0, l1, l2, .int x] st h = go d 123 192 [l0, l1, l2, .int x] (.int x :: st) h := go_plain (q := (192, [l0, l1, l2, .int x], (.int x :: st), h)) ke_123_191 rfl
set_option maxRecDepth 20000 in
theorem ke_123_192 : alook 123 192 = some (192, .iconst 1, 1, (0, 0, 0, 0, 0), ⟨"", "", ""⟩, "") := rfl
theorem ee_123_192 {d : Nat} {h : aH} {ls st : List Value} : go d 123 192 ls st h = go d 123 193 ls (.int 1 :: st) h := go_plain (q := (193, ls, (.int 1 :: st), h)) ke_123_192 rfl
set_option maxRecDepth 20000 in
theorem ke_123_193 : alook 123 193 = some (193, .iadd, 1, (0, 0, 0, 0, 0), ⟨"", "", ""⟩, "") := rfl
theorem ee_123_193 {d : Nat} {h : aH} {ls st : List Value} {x y : Int32} : go d 123 193 ls (.int y :: .int x :: st) h = go d 123 194 ls (.int (x + y) :: st) h := go_plain (q := (194, ls, (.int (x + y) :: st), h)) ke_123_193 rfl
set_option maxRecDepth 20000 in
theorem ke_123_194 : alook 123 194 = some (194, .iaload, 1, (0, 0, 0, 0, 0), ⟨"", "", ""⟩, "") := rfl
theorem ee_123_194 {d : Nat} {ls st : List Value} {h : aH} {r : Nat} {i : Int32} : go d 123 194 ls (.int i :: .ref r :: st) h = (ia h r i).bind fun z => go d 123 195 ls (.int z :: st) h := go_iald ke_123_194
set_option maxRecDepth 20000 in
theorem ke_123_195 : alook 123 195 = some (195, .invokevirtual 26, 3, (1, 8, 75, 8, 75), ⟨"WordHidesModel", "at", "(I)I"⟩, "") := rfl
theorem ee_123_195 {d : Nat} {ls : List Value} {h : aH} {i0 : Int32} {r1 : Nat} {i2 : Int32} : go (d + 1) 123 195 ls [.int i0, .ref r1, .int i2] h = if isC h r1 8 = true then (go d 75 0 [.ref r1, .int i0] [] h).bind (fun q => go (d + 1) 123 198 ls (q.1.toList ++ [.int i2]) q.2) else none := go_cv1 (as := [.int i0]) (rest := [.int i2]) (L := [.ref r1, .int i0]) ke_123_195 rfl rfl rfl
set_option maxRecDepth 20000 in
theorem ke_123_198 : alook 123 198 = some (198, .if_icmp .eq 423, 3, (621, 0, 0, 0, 0), ⟨"", "", ""⟩, "") := rfl
theorem ee_123_198 {d : Nat} {ls st : List Value} {h : aH} {x y : Int32} : go d 123 198 ls (.int y :: .int x :: st) h = if x = y then go d 123 621 ls st h else go d 123 201 ls st h := go_ci (go_if2 (tg := 621) (q := 201) (f := fun x y => decide (x = y)) ke_123_198 rfl)
set_option maxRecDepth 20000 in
theorem ke_123_201 : alook 123 201 = some (201, .iconst 0, 1, (0, 0, 0, 0, 0), ⟨"", "", ""⟩, "") := rfl
theorem ee_123_201 {d : Nat} {h : aH} {ls st : List Value} : go d 123 201 ls st h = go d 123 202 ls (.int 0 :: st) h := go_plain (q := (202, ls, (.int 0 :: st), h)) ke_123_201 rfl
set_option maxRecDepth 20000 in
theorem ke_123_202 : alook 123 202 = some (202, .ireturn, 1, (1, 0, 0, 0, 0), ⟨"", "", ""⟩, "") := rfl
theorem ee_123_202 {d : Nat} {ls : List Value} {h : aH} : go d 123 202 ls [.int 0] h = some (some (.int 0), h) := go_zret0 ke_123_202
theorem ee_123_202T {d : Nat} {ls : List Value} {h : aH} : go d 123 202 ls [.int 1] h = some (some (.int 1), h) := go_zret1 ke_123_202
set_option maxRecDepth 20000 in
theorem ke_123_203 : alook 123 203 = some (203, .aload_n 1, 1, (0, 0, 0, 0, 0), ⟨"", "", ""⟩, "") := rfl
theorem ee_123_203 {d : Nat} {h : aH} {l0 l2 l3 : Value} {x : Nat} {st : List Value} : go d 123 203 [l0, .ref x, l2, l3] st h = go d 123 204 [l0, .ref x, l2, l3] (.ref x :: st) h := go_plain (q := (204, [l0, .ref x, l2, l3], (.ref x :: st), h)) ke_123_203 rfl
theorem ee_123_203N {d : Nat} {h : aH} {l0 l2 l3 : Value} {st : List Value} : go d 123 203 [l0, .null, l2, l3] st h = go d 123 204 [l0, .null, l2, l3] (.null :: st) h := go_plain (q := (204, [l0, .null, l2, l3], (.null :: st), h)) ke_123_203 rfl
set_option maxRecDepth 20000 in
theorem ke_123_204 : alook 123 204 = some (204, .aload_n 0, 1, (0, 0, 0, 0, 0), ⟨"", "", ""⟩, "") := rfl
theorem ee_123_204 {d : Nat} {h : aH} {l1 l2 l3 : Value} {x : Nat} {st : List Value} : go d 123 204 [.ref x, l1, l2, l3] st h = go d 123 205 [.ref x, l1, l2, l3] (.ref x :: st) h := go_plain (q := (205, [.ref x, l1, l2, l3], (.ref x :: st), h)) ke_123_204 rfl
theorem ee_123_204N {d : Nat} {h : aH} {l1 l2 l3 : Value} {st : List Value} : go d 123 204 [.null, l1, l2, l3] st h = go d 123 205 [.null, l1, l2, l3] (.null :: st) h := go_plain (q := (205, [.null, l1, l2, l3], (.null :: st), h)) ke_123_204 rfl
set_option maxRecDepth 20000 in
theorem ke_123_205 : alook 123 205 = some (205, .iload_n 3, 1, (0, 0, 0, 0, 0), ⟨"", "", ""⟩, "") := rfl
theorem ee_123_205 {d : Nat} {h : aH} {l0 l1 l2 : Value} {x : Int32} {st : List Value} : go d 123 205 [l0, l1, l2, .int x] st h = go d 123 206 [l0, l1, l2, .int x] (.int x :: st) h := go_plain (q := (206, [l0, l1, l2, .int x], (.int x :: st), h)) ke_123_205 rfl
set_option maxRecDepth 20000 in
theorem ke_123_206 : alook 123 206 = some (206, .iconst 1, 1, (0, 0, 0, 0, 0), ⟨"", "", ""⟩, "") := rfl
theorem ee_123_206 {d : Nat} {h : aH} {ls st : List Value} : go d 123 206 ls st h = go d 123 207 ls (.int 1 :: st) h := go_plain (q := (207, ls, (.int 1 :: st), h)) ke_123_206 rfl
set_option maxRecDepth 20000 in
theorem ke_123_207 : alook 123 207 = some (207, .iadd, 1, (0, 0, 0, 0, 0), ⟨"", "", ""⟩, "") := rfl
theorem ee_123_207 {d : Nat} {h : aH} {ls st : List Value} {x y : Int32} : go d 123 207 ls (.int y :: .int x :: st) h = go d 123 208 ls (.int (x + y) :: st) h := go_plain (q := (208, ls, (.int (x + y) :: st), h)) ke_123_207 rfl
set_option maxRecDepth 20000 in
theorem ke_123_208 : alook 123 208 = some (208, .iaload, 1, (0, 0, 0, 0, 0), ⟨"", "", ""⟩, "") := rfl
theorem ee_123_208 {d : Nat} {ls st : List Value} {h : aH} {r : Nat} {i : Int32} : go d 123 208 ls (.int i :: .ref r :: st) h = (ia h r i).bind fun z => go d 123 209 ls (.int z :: st) h := go_iald ke_123_208
set_option maxRecDepth 20000 in
theorem ke_123_209 : alook 123 209 = some (209, .invokevirtual 27, 3, (1, 7, 44, 7, 44), ⟨"WordHides", "say", "(I)I"⟩, "") := rfl
theorem ee_123_209 {d : Nat} {ls : List Value} {h : aH} {i0 : Int32} {r1 : Nat} : go (d + 1) 123 209 ls [.int i0, .ref r1] h = if isC h r1 7 = true then (go d 44 0 [.ref r1, .int i0] [] h).bind (fun q => go (d + 1) 123 212 ls (q.1.toList ++ []) q.2) else none := go_cv1 (as := [.int i0]) (rest := []) (L := [.ref r1, .int i0]) ke_123_209 rfl rfl rfl
set_option maxRecDepth 20000 in
theorem ke_123_212 : alook 123 212 = some (212, .aload_n 2, 1, (0, 0, 0, 0, 0), ⟨"", "", ""⟩, "") := rfl
theorem ee_123_212 {d : Nat} {h : aH} {l0 l1 l3 : Value} {x : Nat} {st : List Value} : go d 123 212 [l0, l1, .ref x, l3] st h = go d 123 213 [l0, l1, .ref x, l3] (.ref x :: st) h := go_plain (q := (213, [l0, l1, .ref x, l3], (.ref x :: st), h)) ke_123_212 rfl
theorem ee_123_212N {d : Nat} {h : aH} {l0 l1 l3 : Value} {st : List Value} : go d 123 212 [l0, l1, .null, l3] st h = go d 123 213 [l0, l1, .null, l3] (.null :: st) h := go_plain (q := (213, [l0, l1, .null, l3], (.null :: st), h)) ke_123_212 rfl
set_option maxRecDepth 20000 in
theorem ke_123_213 : alook 123 213 = some (213, .aload_n 0, 1, (0, 0, 0, 0, 0), ⟨"", "", ""⟩, "") := rfl
theorem ee_123_213 {d : Nat} {h : aH} {l1 l2 l3 : Value} {x : Nat} {st : List Value} : go d 123 213 [.ref x, l1, l2, l3] st h = go d 123 214 [.ref x, l1, l2, l3] (.ref x :: st) h := go_plain (q := (214, [.ref x, l1, l2, l3], (.ref x :: st), h)) ke_123_213 rfl
theorem ee_123_213N {d : Nat} {h : aH} {l1 l2 l3 : Value} {st : List Value} : go d 123 213 [.null, l1, l2, l3] st h = go d 123 214 [.null, l1, l2, l3] (.null :: st) h := go_plain (q := (214, [.null, l1, l2, l3], (.null :: st), h)) ke_123_213 rfl
set_option maxRecDepth 20000 in
theorem ke_123_214 : alook 123 214 = some (214, .iload_n 3, 1, (0, 0, 0, 0, 0), ⟨"", "", ""⟩, "") := rfl
theorem ee_123_214 {d : Nat} {h : aH} {l0 l1 l2 : Value} {x : Int32} {st : List Value} : go d 123 214 [l0, l1, l2, .int x] st h = go d 123 215 [l0, l1, l2, .int x] (.int x :: st) h := go_plain (q := (215, [l0, l1, l2, .int x], (.int x :: st), h)) ke_123_214 rfl
set_option maxRecDepth 20000 in
theorem ke_123_215 : alook 123 215 = some (215, .iconst 1, 1, (0, 0, 0, 0, 0), ⟨"", "", ""⟩, "") := rfl
theorem ee_123_215 {d : Nat} {h : aH} {ls st : List Value} : go d 123 215 ls st h = go d 123 216 ls (.int 1 :: st) h := go_plain (q := (216, ls, (.int 1 :: st), h)) ke_123_215 rfl
set_option maxRecDepth 20000 in
theorem ke_123_216 : alook 123 216 = some (216, .iadd, 1, (0, 0, 0, 0, 0), ⟨"", "", ""⟩, "") := rfl
theorem ee_123_216 {d : Nat} {h : aH} {ls st : List Value} {x y : Int32} : go d 123 216 ls (.int y :: .int x :: st) h = go d 123 217 ls (.int (x + y) :: st) h := go_plain (q := (217, ls, (.int (x + y) :: st), h)) ke_123_216 rfl
set_option maxRecDepth 20000 in
theorem ke_123_217 : alook 123 217 = some (217, .iaload, 1, (0, 0, 0, 0, 0), ⟨"", "", ""⟩, "") := rfl
theorem ee_123_217 {d : Nat} {ls st : List Value} {h : aH} {r : Nat} {i : Int32} : go d 123 217 ls (.int i :: .ref r :: st) h = (ia h r i).bind fun z => go d 123 218 ls (.int z :: st) h := go_iald ke_123_217
set_option maxRecDepth 20000 in
theorem ke_123_218 : alook 123 218 = some (218, .invokevirtual 30, 3, (1, 8, 76, 8, 76), ⟨"WordHidesModel", "say", "(I)I"⟩, "") := rfl
theorem ee_123_218 {d : Nat} {ls : List Value} {h : aH} {i0 : Int32} {r1 : Nat} {i2 : Int32} : go (d + 1) 123 218 ls [.int i0, .ref r1, .int i2] h = if isC h r1 8 = true then (go d 76 0 [.ref r1, .int i0] [] h).bind (fun q => go (d + 1) 123 221 ls (q.1.toList ++ [.int i2]) q.2) else none := go_cv1 (as := [.int i0]) (rest := [.int i2]) (L := [.ref r1, .int i0]) ke_123_218 rfl rfl rfl
set_option maxRecDepth 20000 in
theorem ke_123_221 : alook 123 221 = some (221, .if_icmp .eq 400, 3, (621, 0, 0, 0, 0), ⟨"", "", ""⟩, "") := rfl
theorem ee_123_221 {d : Nat} {ls st : List Value} {h : aH} {x y : Int32} : go d 123 221 ls (.int y :: .int x :: st) h = if x = y then go d 123 621 ls st h else go d 123 224 ls st h := go_ci (go_if2 (tg := 621) (q := 224) (f := fun x y => decide (x = y)) ke_123_221 rfl)
set_option maxRecDepth 20000 in
theorem ke_123_224 : alook 123 224 = some (224, .iconst 0, 1, (0, 0, 0, 0, 0), ⟨"", "", ""⟩, "") := rfl
theorem ee_123_224 {d : Nat} {h : aH} {ls st : List Value} : go d 123 224 ls st h = go d 123 225 ls (.int 0 :: st) h := go_plain (q := (225, ls, (.int 0 :: st), h)) ke_123_224 rfl
set_option maxRecDepth 20000 in
theorem ke_123_225 : alook 123 225 = some (225, .ireturn, 1, (1, 0, 0, 0, 0), ⟨"", "", ""⟩, "") := rfl
theorem ee_123_225 {d : Nat} {ls : List Value} {h : aH} : go d 123 225 ls [.int 0] h = some (some (.int 0), h) := go_zret0 ke_123_225
theorem ee_123_225T {d : Nat} {ls : List Value} {h : aH} : go d 123 225 ls [.int 1] h = some (some (.int 1), h) := go_zret1 ke_123_225
set_option maxRecDepth 20000 in
theorem ke_123_226 : alook 123 226 = some (226, .aload_n 1, 1, (0, 0, 0, 0, 0), ⟨"", "", ""⟩, "") := rfl
theorem ee_123_226 {d : Nat} {h : aH} {l0 l2 l3 : Value} {x : Nat} {st : List Value} : go d 123 226 [l0, .ref x, l2, l3] st h = go d 123 227 [l0, .ref x, l2, l3] (.ref x :: st) h := go_plain (q := (227, [l0, .ref x, l2, l3], (.ref x :: st), h)) ke_123_226 rfl
theorem ee_123_226N {d : Nat} {h : aH} {l0 l2 l3 : Value} {st : List Value} : go d 123 226 [l0, .null, l2, l3] st h = go d 123 227 [l0, .null, l2, l3] (.null :: st) h := go_plain (q := (227, [l0, .null, l2, l3], (.null :: st), h)) ke_123_226 rfl
set_option maxRecDepth 20000 in
theorem ke_123_227 : alook 123 227 = some (227, .invokevirtual 31, 3, (0, 7, 45, 7, 45), ⟨"WordHides", "wipe", "()I"⟩, "") := rfl
theorem ee_123_227 {d : Nat} {ls : List Value} {h : aH} {r0 : Nat} : go (d + 1) 123 227 ls [.ref r0] h = if isC h r0 7 = true then (go d 45 0 [.ref r0, aU] [] h).bind (fun q => go (d + 1) 123 230 ls (q.1.toList ++ []) q.2) else none := go_cv1 (as := []) (rest := []) (L := [.ref r0, aU]) ke_123_227 rfl rfl rfl
set_option maxRecDepth 20000 in
theorem ke_123_230 : alook 123 230 = some (230, .aload_n 2, 1, (0, 0, 0, 0, 0), ⟨"", "", ""⟩, "") := rfl
theorem ee_123_230 {d : Nat} {h : aH} {l0 l1 l3 : Value} {x : Nat} {st : List Value} : go d 123 230 [l0, l1, .ref x, l3] st h = go d 123 231 [l0, l1, .ref x, l3] (.ref x :: st) h := go_plain (q := (231, [l0, l1, .ref x, l3], (.ref x :: st), h)) ke_123_230 rfl
theorem ee_123_230N {d : Nat} {h : aH} {l0 l1 l3 : Value} {st : List Value} : go d 123 230 [l0, l1, .null, l3] st h = go d 123 231 [l0, l1, .null, l3] (.null :: st) h := go_plain (q := (231, [l0, l1, .null, l3], (.null :: st), h)) ke_123_230 rfl
set_option maxRecDepth 20000 in
theorem ke_123_231 : alook 123 231 = some (231, .invokevirtual 35, 3, (0, 8, 77, 8, 77), ⟨"WordHidesModel", "wipe", "()I"⟩, "") := rfl
theorem ee_123_231 {d : Nat} {ls : List Value} {h : aH} {r0 : Nat} {i1 : Int32} : go (d + 1) 123 231 ls [.ref r0, .int i1] h = if isC h r0 8 = true then (go d 77 0 [.ref r0, aU] [] h).bind (fun q => go (d + 1) 123 234 ls (q.1.toList ++ [.int i1]) q.2) else none := go_cv1 (as := []) (rest := [.int i1]) (L := [.ref r0, aU]) ke_123_231 rfl rfl rfl
set_option maxRecDepth 20000 in
theorem ke_123_234 : alook 123 234 = some (234, .if_icmp .eq 387, 3, (621, 0, 0, 0, 0), ⟨"", "", ""⟩, "") := rfl
theorem ee_123_234 {d : Nat} {ls st : List Value} {h : aH} {x y : Int32} : go d 123 234 ls (.int y :: .int x :: st) h = if x = y then go d 123 621 ls st h else go d 123 237 ls st h := go_ci (go_if2 (tg := 621) (q := 237) (f := fun x y => decide (x = y)) ke_123_234 rfl)
set_option maxRecDepth 20000 in
theorem ke_123_237 : alook 123 237 = some (237, .iconst 0, 1, (0, 0, 0, 0, 0), ⟨"", "", ""⟩, "") := rfl
theorem ee_123_237 {d : Nat} {h : aH} {ls st : List Value} : go d 123 237 ls st h = go d 123 238 ls (.int 0 :: st) h := go_plain (q := (238, ls, (.int 0 :: st), h)) ke_123_237 rfl
set_option maxRecDepth 20000 in
theorem ke_123_238 : alook 123 238 = some (238, .ireturn, 1, (1, 0, 0, 0, 0), ⟨"", "", ""⟩, "") := rfl
theorem ee_123_238 {d : Nat} {ls : List Value} {h : aH} : go d 123 238 ls [.int 0] h = some (some (.int 0), h) := go_zret0 ke_123_238
theorem ee_123_238T {d : Nat} {ls : List Value} {h : aH} : go d 123 238 ls [.int 1] h = some (some (.int 1), h) := go_zret1 ke_123_238
set_option maxRecDepth 20000 in
theorem ke_123_239 : alook 123 239 = some (239, .aload_n 1, 1, (0, 0, 0, 0, 0), ⟨"", "", ""⟩, "") := rfl
theorem ee_123_239 {d : Nat} {h : aH} {l0 l2 l3 : Value} {x : Nat} {st : List Value} : go d 123 239 [l0, .ref x, l2, l3] st h = go d 123 240 [l0, .ref x, l2, l3] (.ref x :: st) h := go_plain (q := (240, [l0, .ref x, l2, l3], (.ref x :: st), h)) ke_123_239 rfl
theorem ee_123_239N {d : Nat} {h : aH} {l0 l2 l3 : Value} {st : List Value} : go d 123 239 [l0, .null, l2, l3] st h = go d 123 240 [l0, .null, l2, l3] (.null :: st) h := go_plain (q := (240, [l0, .null, l2, l3], (.null :: st), h)) ke_123_239 rfl
set_option maxRecDepth 20000 in
theorem ke_123_240 : alook 123 240 = some (240, .aload_n 0, 1, (0, 0, 0, 0, 0), ⟨"", "", ""⟩, "") := rfl
theorem ee_123_240 {d : Nat} {h : aH} {l1 l2 l3 : Value} {x : Nat} {st : List Value} : go d 123 240 [.ref x, l1, l2, l3] st h = go d 123 241 [.ref x, l1, l2, l3] (.ref x :: st) h := go_plain (q := (241, [.ref x, l1, l2, l3], (.ref x :: st), h)) ke_123_240 rfl
theorem ee_123_240N {d : Nat} {h : aH} {l1 l2 l3 : Value} {st : List Value} : go d 123 240 [.null, l1, l2, l3] st h = go d 123 241 [.null, l1, l2, l3] (.null :: st) h := go_plain (q := (241, [.null, l1, l2, l3], (.null :: st), h)) ke_123_240 rfl
set_option maxRecDepth 20000 in
theorem ke_123_241 : alook 123 241 = some (241, .iload_n 3, 1, (0, 0, 0, 0, 0), ⟨"", "", ""⟩, "") := rfl
theorem ee_123_241 {d : Nat} {h : aH} {l0 l1 l2 : Value} {x : Int32} {st : List Value} : go d 123 241 [l0, l1, l2, .int x] st h = go d 123 242 [l0, l1, l2, .int x] (.int x :: st) h := go_plain (q := (242, [l0, l1, l2, .int x], (.int x :: st), h)) ke_123_241 rfl
set_option maxRecDepth 20000 in
theorem ke_123_242 : alook 123 242 = some (242, .iconst 1, 1, (0, 0, 0, 0, 0), ⟨"", "", ""⟩, "") := rfl
theorem ee_123_242 {d : Nat} {h : aH} {ls st : List Value} : go d 123 242 ls st h = go d 123 243 ls (.int 1 :: st) h := go_plain (q := (243, ls, (.int 1 :: st), h)) ke_123_242 rfl
set_option maxRecDepth 20000 in
theorem ke_123_243 : alook 123 243 = some (243, .iadd, 1, (0, 0, 0, 0, 0), ⟨"", "", ""⟩, "") := rfl
theorem ee_123_243 {d : Nat} {h : aH} {ls st : List Value} {x y : Int32} : go d 123 243 ls (.int y :: .int x :: st) h = go d 123 244 ls (.int (x + y) :: st) h := go_plain (q := (244, ls, (.int (x + y) :: st), h)) ke_123_243 rfl
set_option maxRecDepth 20000 in
theorem ke_123_244 : alook 123 244 = some (244, .iaload, 1, (0, 0, 0, 0, 0), ⟨"", "", ""⟩, "") := rfl
theorem ee_123_244 {d : Nat} {ls st : List Value} {h : aH} {r : Nat} {i : Int32} : go d 123 244 ls (.int i :: .ref r :: st) h = (ia h r i).bind fun z => go d 123 245 ls (.int z :: st) h := go_iald ke_123_244
set_option maxRecDepth 20000 in
theorem ke_123_245 : alook 123 245 = some (245, .invokevirtual 36, 3, (1, 7, 46, 7, 46), ⟨"WordHides", "take", "(I)I"⟩, "") := rfl
theorem ee_123_245 {d : Nat} {ls : List Value} {h : aH} {i0 : Int32} {r1 : Nat} : go (d + 1) 123 245 ls [.int i0, .ref r1] h = if isC h r1 7 = true then (go d 46 0 [.ref r1, .int i0, aU] [] h).bind (fun q => go (d + 1) 123 248 ls (q.1.toList ++ []) q.2) else none := go_cv1 (as := [.int i0]) (rest := []) (L := [.ref r1, .int i0, aU]) ke_123_245 rfl rfl rfl
set_option maxRecDepth 20000 in
theorem ke_123_248 : alook 123 248 = some (248, .aload_n 2, 1, (0, 0, 0, 0, 0), ⟨"", "", ""⟩, "") := rfl
theorem ee_123_248 {d : Nat} {h : aH} {l0 l1 l3 : Value} {x : Nat} {st : List Value} : go d 123 248 [l0, l1, .ref x, l3] st h = go d 123 249 [l0, l1, .ref x, l3] (.ref x :: st) h := go_plain (q := (249, [l0, l1, .ref x, l3], (.ref x :: st), h)) ke_123_248 rfl
theorem ee_123_248N {d : Nat} {h : aH} {l0 l1 l3 : Value} {st : List Value} : go d 123 248 [l0, l1, .null, l3] st h = go d 123 249 [l0, l1, .null, l3] (.null :: st) h := go_plain (q := (249, [l0, l1, .null, l3], (.null :: st), h)) ke_123_248 rfl
set_option maxRecDepth 20000 in
theorem ke_123_249 : alook 123 249 = some (249, .aload_n 0, 1, (0, 0, 0, 0, 0), ⟨"", "", ""⟩, "") := rfl
theorem ee_123_249 {d : Nat} {h : aH} {l1 l2 l3 : Value} {x : Nat} {st : List Value} : go d 123 249 [.ref x, l1, l2, l3] st h = go d 123 250 [.ref x, l1, l2, l3] (.ref x :: st) h := go_plain (q := (250, [.ref x, l1, l2, l3], (.ref x :: st), h)) ke_123_249 rfl
theorem ee_123_249N {d : Nat} {h : aH} {l1 l2 l3 : Value} {st : List Value} : go d 123 249 [.null, l1, l2, l3] st h = go d 123 250 [.null, l1, l2, l3] (.null :: st) h := go_plain (q := (250, [.null, l1, l2, l3], (.null :: st), h)) ke_123_249 rfl
set_option maxRecDepth 20000 in
theorem ke_123_250 : alook 123 250 = some (250, .iload_n 3, 1, (0, 0, 0, 0, 0), ⟨"", "", ""⟩, "") := rfl
theorem ee_123_250 {d : Nat} {h : aH} {l0 l1 l2 : Value} {x : Int32} {st : List Value} : go d 123 250 [l0, l1, l2, .int x] st h = go d 123 251 [l0, l1, l2, .int x] (.int x :: st) h := go_plain (q := (251, [l0, l1, l2, .int x], (.int x :: st), h)) ke_123_250 rfl
set_option maxRecDepth 20000 in
theorem ke_123_251 : alook 123 251 = some (251, .iconst 1, 1, (0, 0, 0, 0, 0), ⟨"", "", ""⟩, "") := rfl
theorem ee_123_251 {d : Nat} {h : aH} {ls st : List Value} : go d 123 251 ls st h = go d 123 252 ls (.int 1 :: st) h := go_plain (q := (252, ls, (.int 1 :: st), h)) ke_123_251 rfl
set_option maxRecDepth 20000 in
theorem ke_123_252 : alook 123 252 = some (252, .iadd, 1, (0, 0, 0, 0, 0), ⟨"", "", ""⟩, "") := rfl
theorem ee_123_252 {d : Nat} {h : aH} {ls st : List Value} {x y : Int32} : go d 123 252 ls (.int y :: .int x :: st) h = go d 123 253 ls (.int (x + y) :: st) h := go_plain (q := (253, ls, (.int (x + y) :: st), h)) ke_123_252 rfl
set_option maxRecDepth 20000 in
theorem ke_123_253 : alook 123 253 = some (253, .iaload, 1, (0, 0, 0, 0, 0), ⟨"", "", ""⟩, "") := rfl
theorem ee_123_253 {d : Nat} {ls st : List Value} {h : aH} {r : Nat} {i : Int32} : go d 123 253 ls (.int i :: .ref r :: st) h = (ia h r i).bind fun z => go d 123 254 ls (.int z :: st) h := go_iald ke_123_253
set_option maxRecDepth 20000 in
theorem ke_123_254 : alook 123 254 = some (254, .invokevirtual 39, 3, (1, 8, 79, 8, 79), ⟨"WordHidesModel", "take", "(I)I"⟩, "") := rfl
theorem ee_123_254 {d : Nat} {ls : List Value} {h : aH} {i0 : Int32} {r1 : Nat} {i2 : Int32} : go (d + 1) 123 254 ls [.int i0, .ref r1, .int i2] h = if isC h r1 8 = true then (go d 79 0 [.ref r1, .int i0, aU, aU] [] h).bind (fun q => go (d + 1) 123 257 ls (q.1.toList ++ [.int i2]) q.2) else none := go_cv1 (as := [.int i0]) (rest := [.int i2]) (L := [.ref r1, .int i0, aU, aU]) ke_123_254 rfl rfl rfl
set_option maxRecDepth 20000 in
theorem ke_123_257 : alook 123 257 = some (257, .if_icmp .eq 364, 3, (621, 0, 0, 0, 0), ⟨"", "", ""⟩, "") := rfl
theorem ee_123_257 {d : Nat} {ls st : List Value} {h : aH} {x y : Int32} : go d 123 257 ls (.int y :: .int x :: st) h = if x = y then go d 123 621 ls st h else go d 123 260 ls st h := go_ci (go_if2 (tg := 621) (q := 260) (f := fun x y => decide (x = y)) ke_123_257 rfl)
set_option maxRecDepth 20000 in
theorem ke_123_260 : alook 123 260 = some (260, .iconst 0, 1, (0, 0, 0, 0, 0), ⟨"", "", ""⟩, "") := rfl
theorem ee_123_260 {d : Nat} {h : aH} {ls st : List Value} : go d 123 260 ls st h = go d 123 261 ls (.int 0 :: st) h := go_plain (q := (261, ls, (.int 0 :: st), h)) ke_123_260 rfl
set_option maxRecDepth 20000 in
theorem ke_123_261 : alook 123 261 = some (261, .ireturn, 1, (1, 0, 0, 0, 0), ⟨"", "", ""⟩, "") := rfl
theorem ee_123_261 {d : Nat} {ls : List Value} {h : aH} : go d 123 261 ls [.int 0] h = some (some (.int 0), h) := go_zret0 ke_123_261
theorem ee_123_261T {d : Nat} {ls : List Value} {h : aH} : go d 123 261 ls [.int 1] h = some (some (.int 1), h) := go_zret1 ke_123_261
set_option maxRecDepth 20000 in
theorem ke_123_262 : alook 123 262 = some (262, .aload_n 1, 1, (0, 0, 0, 0, 0), ⟨"", "", ""⟩, "") := rfl
theorem ee_123_262 {d : Nat} {h : aH} {l0 l2 l3 : Value} {x : Nat} {st : List Value} : go d 123 262 [l0, .ref x, l2, l3] st h = go d 123 263 [l0, .ref x, l2, l3] (.ref x :: st) h := go_plain (q := (263, [l0, .ref x, l2, l3], (.ref x :: st), h)) ke_123_262 rfl
theorem ee_123_262N {d : Nat} {h : aH} {l0 l2 l3 : Value} {st : List Value} : go d 123 262 [l0, .null, l2, l3] st h = go d 123 263 [l0, .null, l2, l3] (.null :: st) h := go_plain (q := (263, [l0, .null, l2, l3], (.null :: st), h)) ke_123_262 rfl
set_option maxRecDepth 20000 in
theorem ke_123_263 : alook 123 263 = some (263, .aload_n 0, 1, (0, 0, 0, 0, 0), ⟨"", "", ""⟩, "") := rfl
theorem ee_123_263 {d : Nat} {h : aH} {l1 l2 l3 : Value} {x : Nat} {st : List Value} : go d 123 263 [.ref x, l1, l2, l3] st h = go d 123 264 [.ref x, l1, l2, l3] (.ref x :: st) h := go_plain (q := (264, [.ref x, l1, l2, l3], (.ref x :: st), h)) ke_123_263 rfl
theorem ee_123_263N {d : Nat} {h : aH} {l1 l2 l3 : Value} {st : List Value} : go d 123 263 [.null, l1, l2, l3] st h = go d 123 264 [.null, l1, l2, l3] (.null :: st) h := go_plain (q := (264, [.null, l1, l2, l3], (.null :: st), h)) ke_123_263 rfl
set_option maxRecDepth 20000 in
theorem ke_123_264 : alook 123 264 = some (264, .iload_n 3, 1, (0, 0, 0, 0, 0), ⟨"", "", ""⟩, "") := rfl
theorem ee_123_264 {d : Nat} {h : aH} {l0 l1 l2 : Value} {x : Int32} {st : List Value} : go d 123 264 [l0, l1, l2, .int x] st h = go d 123 265 [l0, l1, l2, .int x] (.int x :: st) h := go_plain (q := (265, [l0, l1, l2, .int x], (.int x :: st), h)) ke_123_264 rfl
set_option maxRecDepth 20000 in
theorem ke_123_265 : alook 123 265 = some (265, .iconst 1, 1, (0, 0, 0, 0, 0), ⟨"", "", ""⟩, "") := rfl
theorem ee_123_265 {d : Nat} {h : aH} {ls st : List Value} : go d 123 265 ls st h = go d 123 266 ls (.int 1 :: st) h := go_plain (q := (266, ls, (.int 1 :: st), h)) ke_123_265 rfl
set_option maxRecDepth 20000 in
theorem ke_123_266 : alook 123 266 = some (266, .iadd, 1, (0, 0, 0, 0, 0), ⟨"", "", ""⟩, "") := rfl
theorem ee_123_266 {d : Nat} {h : aH} {ls st : List Value} {x y : Int32} : go d 123 266 ls (.int y :: .int x :: st) h = go d 123 267 ls (.int (x + y) :: st) h := go_plain (q := (267, ls, (.int (x + y) :: st), h)) ke_123_266 rfl
set_option maxRecDepth 20000 in
theorem ke_123_267 : alook 123 267 = some (267, .iaload, 1, (0, 0, 0, 0, 0), ⟨"", "", ""⟩, "") := rfl
theorem ee_123_267 {d : Nat} {ls st : List Value} {h : aH} {r : Nat} {i : Int32} : go d 123 267 ls (.int i :: .ref r :: st) h = (ia h r i).bind fun z => go d 123 268 ls (.int z :: st) h := go_iald ke_123_267
set_option maxRecDepth 20000 in
theorem ke_123_268 : alook 123 268 = some (268, .invokevirtual 40, 3, (1, 7, 47, 7, 47), ⟨"WordHides", "drop", "(I)I"⟩, "") := rfl
theorem ee_123_268 {d : Nat} {ls : List Value} {h : aH} {i0 : Int32} {r1 : Nat} : go (d + 1) 123 268 ls [.int i0, .ref r1] h = if isC h r1 7 = true then (go d 47 0 [.ref r1, .int i0, aU] [] h).bind (fun q => go (d + 1) 123 271 ls (q.1.toList ++ []) q.2) else none := go_cv1 (as := [.int i0]) (rest := []) (L := [.ref r1, .int i0, aU]) ke_123_268 rfl rfl rfl
set_option maxRecDepth 20000 in
theorem ke_123_271 : alook 123 271 = some (271, .aload_n 2, 1, (0, 0, 0, 0, 0), ⟨"", "", ""⟩, "") := rfl
theorem ee_123_271 {d : Nat} {h : aH} {l0 l1 l3 : Value} {x : Nat} {st : List Value} : go d 123 271 [l0, l1, .ref x, l3] st h = go d 123 272 [l0, l1, .ref x, l3] (.ref x :: st) h := go_plain (q := (272, [l0, l1, .ref x, l3], (.ref x :: st), h)) ke_123_271 rfl
theorem ee_123_271N {d : Nat} {h : aH} {l0 l1 l3 : Value} {st : List Value} : go d 123 271 [l0, l1, .null, l3] st h = go d 123 272 [l0, l1, .null, l3] (.null :: st) h := go_plain (q := (272, [l0, l1, .null, l3], (.null :: st), h)) ke_123_271 rfl
set_option maxRecDepth 20000 in
theorem ke_123_272 : alook 123 272 = some (272, .aload_n 0, 1, (0, 0, 0, 0, 0), ⟨"", "", ""⟩, "") := rfl
theorem ee_123_272 {d : Nat} {h : aH} {l1 l2 l3 : Value} {x : Nat} {st : List Value} : go d 123 272 [.ref x, l1, l2, l3] st h = go d 123 273 [.ref x, l1, l2, l3] (.ref x :: st) h := go_plain (q := (273, [.ref x, l1, l2, l3], (.ref x :: st), h)) ke_123_272 rfl
theorem ee_123_272N {d : Nat} {h : aH} {l1 l2 l3 : Value} {st : List Value} : go d 123 272 [.null, l1, l2, l3] st h = go d 123 273 [.null, l1, l2, l3] (.null :: st) h := go_plain (q := (273, [.null, l1, l2, l3], (.null :: st), h)) ke_123_272 rfl
set_option maxRecDepth 20000 in
theorem ke_123_273 : alook 123 273 = some (273, .iload_n 3, 1, (0, 0, 0, 0, 0), ⟨"", "", ""⟩, "") := rfl
theorem ee_123_273 {d : Nat} {h : aH} {l0 l1 l2 : Value} {x : Int32} {st : List Value} : go d 123 273 [l0, l1, l2, .int x] st h = go d 123 274 [l0, l1, l2, .int x] (.int x :: st) h := go_plain (q := (274, [l0, l1, l2, .int x], (.int x :: st), h)) ke_123_273 rfl
set_option maxRecDepth 20000 in
theorem ke_123_274 : alook 123 274 = some (274, .iconst 1, 1, (0, 0, 0, 0, 0), ⟨"", "", ""⟩, "") := rfl
theorem ee_123_274 {d : Nat} {h : aH} {ls st : List Value} : go d 123 274 ls st h = go d 123 275 ls (.int 1 :: st) h := go_plain (q := (275, ls, (.int 1 :: st), h)) ke_123_274 rfl
set_option maxRecDepth 20000 in
theorem ke_123_275 : alook 123 275 = some (275, .iadd, 1, (0, 0, 0, 0, 0), ⟨"", "", ""⟩, "") := rfl
theorem ee_123_275 {d : Nat} {h : aH} {ls st : List Value} {x y : Int32} : go d 123 275 ls (.int y :: .int x :: st) h = go d 123 276 ls (.int (x + y) :: st) h := go_plain (q := (276, ls, (.int (x + y) :: st), h)) ke_123_275 rfl
set_option maxRecDepth 20000 in
theorem ke_123_276 : alook 123 276 = some (276, .iaload, 1, (0, 0, 0, 0, 0), ⟨"", "", ""⟩, "") := rfl
theorem ee_123_276 {d : Nat} {ls st : List Value} {h : aH} {r : Nat} {i : Int32} : go d 123 276 ls (.int i :: .ref r :: st) h = (ia h r i).bind fun z => go d 123 277 ls (.int z :: st) h := go_iald ke_123_276
set_option maxRecDepth 20000 in
theorem ke_123_277 : alook 123 277 = some (277, .invokevirtual 43, 3, (1, 8, 80, 8, 80), ⟨"WordHidesModel", "drop", "(I)I"⟩, "") := rfl
theorem ee_123_277 {d : Nat} {ls : List Value} {h : aH} {i0 : Int32} {r1 : Nat} {i2 : Int32} : go (d + 1) 123 277 ls [.int i0, .ref r1, .int i2] h = if isC h r1 8 = true then (go d 80 0 [.ref r1, .int i0, aU] [] h).bind (fun q => go (d + 1) 123 280 ls (q.1.toList ++ [.int i2]) q.2) else none := go_cv1 (as := [.int i0]) (rest := [.int i2]) (L := [.ref r1, .int i0, aU]) ke_123_277 rfl rfl rfl
set_option maxRecDepth 20000 in
theorem ke_123_280 : alook 123 280 = some (280, .if_icmp .eq 341, 3, (621, 0, 0, 0, 0), ⟨"", "", ""⟩, "") := rfl
theorem ee_123_280 {d : Nat} {ls st : List Value} {h : aH} {x y : Int32} : go d 123 280 ls (.int y :: .int x :: st) h = if x = y then go d 123 621 ls st h else go d 123 283 ls st h := go_ci (go_if2 (tg := 621) (q := 283) (f := fun x y => decide (x = y)) ke_123_280 rfl)
set_option maxRecDepth 20000 in
theorem ke_123_283 : alook 123 283 = some (283, .iconst 0, 1, (0, 0, 0, 0, 0), ⟨"", "", ""⟩, "") := rfl
theorem ee_123_283 {d : Nat} {h : aH} {ls st : List Value} : go d 123 283 ls st h = go d 123 284 ls (.int 0 :: st) h := go_plain (q := (284, ls, (.int 0 :: st), h)) ke_123_283 rfl
set_option maxRecDepth 20000 in
theorem ke_123_284 : alook 123 284 = some (284, .ireturn, 1, (1, 0, 0, 0, 0), ⟨"", "", ""⟩, "") := rfl
theorem ee_123_284 {d : Nat} {ls : List Value} {h : aH} : go d 123 284 ls [.int 0] h = some (some (.int 0), h) := go_zret0 ke_123_284
theorem ee_123_284T {d : Nat} {ls : List Value} {h : aH} : go d 123 284 ls [.int 1] h = some (some (.int 1), h) := go_zret1 ke_123_284
set_option maxRecDepth 20000 in
theorem ke_123_285 : alook 123 285 = some (285, .aload_n 1, 1, (0, 0, 0, 0, 0), ⟨"", "", ""⟩, "") := rfl
theorem ee_123_285 {d : Nat} {h : aH} {l0 l2 l3 : Value} {x : Nat} {st : List Value} : go d 123 285 [l0, .ref x, l2, l3] st h = go d 123 286 [l0, .ref x, l2, l3] (.ref x :: st) h := go_plain (q := (286, [l0, .ref x, l2, l3], (.ref x :: st), h)) ke_123_285 rfl
theorem ee_123_285N {d : Nat} {h : aH} {l0 l2 l3 : Value} {st : List Value} : go d 123 285 [l0, .null, l2, l3] st h = go d 123 286 [l0, .null, l2, l3] (.null :: st) h := go_plain (q := (286, [l0, .null, l2, l3], (.null :: st), h)) ke_123_285 rfl
set_option maxRecDepth 20000 in
theorem ke_123_286 : alook 123 286 = some (286, .invokevirtual 44, 3, (0, 7, 48, 7, 48), ⟨"WordHides", "fill", "()I"⟩, "") := rfl
theorem ee_123_286 {d : Nat} {ls : List Value} {h : aH} {r0 : Nat} : go (d + 1) 123 286 ls [.ref r0] h = if isC h r0 7 = true then (go d 48 0 [.ref r0, aU, aU] [] h).bind (fun q => go (d + 1) 123 289 ls (q.1.toList ++ []) q.2) else none := go_cv1 (as := []) (rest := []) (L := [.ref r0, aU, aU]) ke_123_286 rfl rfl rfl
set_option maxRecDepth 20000 in
theorem ke_123_289 : alook 123 289 = some (289, .aload_n 2, 1, (0, 0, 0, 0, 0), ⟨"", "", ""⟩, "") := rfl
theorem ee_123_289 {d : Nat} {h : aH} {l0 l1 l3 : Value} {x : Nat} {st : List Value} : go d 123 289 [l0, l1, .ref x, l3] st h = go d 123 290 [l0, l1, .ref x, l3] (.ref x :: st) h := go_plain (q := (290, [l0, l1, .ref x, l3], (.ref x :: st), h)) ke_123_289 rfl
theorem ee_123_289N {d : Nat} {h : aH} {l0 l1 l3 : Value} {st : List Value} : go d 123 289 [l0, l1, .null, l3] st h = go d 123 290 [l0, l1, .null, l3] (.null :: st) h := go_plain (q := (290, [l0, l1, .null, l3], (.null :: st), h)) ke_123_289 rfl
set_option maxRecDepth 20000 in
theorem ke_123_290 : alook 123 290 = some (290, .invokevirtual 47, 3, (0, 8, 81, 8, 81), ⟨"WordHidesModel", "fill", "()I"⟩, "") := rfl
theorem ee_123_290 {d : Nat} {ls : List Value} {h : aH} {r0 : Nat} {i1 : Int32} : go (d + 1) 123 290 ls [.ref r0, .int i1] h = if isC h r0 8 = true then (go d 81 0 [.ref r0, aU, aU] [] h).bind (fun q => go (d + 1) 123 293 ls (q.1.toList ++ [.int i1]) q.2) else none := go_cv1 (as := []) (rest := [.int i1]) (L := [.ref r0, aU, aU]) ke_123_290 rfl rfl rfl
set_option maxRecDepth 20000 in
theorem ke_123_293 : alook 123 293 = some (293, .if_icmp .eq 328, 3, (621, 0, 0, 0, 0), ⟨"", "", ""⟩, "") := rfl
theorem ee_123_293 {d : Nat} {ls st : List Value} {h : aH} {x y : Int32} : go d 123 293 ls (.int y :: .int x :: st) h = if x = y then go d 123 621 ls st h else go d 123 296 ls st h := go_ci (go_if2 (tg := 621) (q := 296) (f := fun x y => decide (x = y)) ke_123_293 rfl)
set_option maxRecDepth 20000 in
theorem ke_123_296 : alook 123 296 = some (296, .iconst 0, 1, (0, 0, 0, 0, 0), ⟨"", "", ""⟩, "") := rfl
theorem ee_123_296 {d : Nat} {h : aH} {ls st : List Value} : go d 123 296 ls st h = go d 123 297 ls (.int 0 :: st) h := go_plain (q := (297, ls, (.int 0 :: st), h)) ke_123_296 rfl
set_option maxRecDepth 20000 in
theorem ke_123_297 : alook 123 297 = some (297, .ireturn, 1, (1, 0, 0, 0, 0), ⟨"", "", ""⟩, "") := rfl
theorem ee_123_297 {d : Nat} {ls : List Value} {h : aH} : go d 123 297 ls [.int 0] h = some (some (.int 0), h) := go_zret0 ke_123_297
theorem ee_123_297T {d : Nat} {ls : List Value} {h : aH} : go d 123 297 ls [.int 1] h = some (some (.int 1), h) := go_zret1 ke_123_297
set_option maxRecDepth 20000 in
theorem ke_123_298 : alook 123 298 = some (298, .aload_n 1, 1, (0, 0, 0, 0, 0), ⟨"", "", ""⟩, "") := rfl
theorem ee_123_298 {d : Nat} {h : aH} {l0 l2 l3 : Value} {x : Nat} {st : List Value} : go d 123 298 [l0, .ref x, l2, l3] st h = go d 123 299 [l0, .ref x, l2, l3] (.ref x :: st) h := go_plain (q := (299, [l0, .ref x, l2, l3], (.ref x :: st), h)) ke_123_298 rfl
theorem ee_123_298N {d : Nat} {h : aH} {l0 l2 l3 : Value} {st : List Value} : go d 123 298 [l0, .null, l2, l3] st h = go d 123 299 [l0, .null, l2, l3] (.null :: st) h := go_plain (q := (299, [l0, .null, l2, l3], (.null :: st), h)) ke_123_298 rfl
set_option maxRecDepth 20000 in
theorem ke_123_299 : alook 123 299 = some (299, .aload_n 0, 1, (0, 0, 0, 0, 0), ⟨"", "", ""⟩, "") := rfl
theorem ee_123_299 {d : Nat} {h : aH} {l1 l2 l3 : Value} {x : Nat} {st : List Value} : go d 123 299 [.ref x, l1, l2, l3] st h = go d 123 300 [.ref x, l1, l2, l3] (.ref x :: st) h := go_plain (q := (300, [.ref x, l1, l2, l3], (.ref x :: st), h)) ke_123_299 rfl
theorem ee_123_299N {d : Nat} {h : aH} {l1 l2 l3 : Value} {st : List Value} : go d 123 299 [.null, l1, l2, l3] st h = go d 123 300 [.null, l1, l2, l3] (.null :: st) h := go_plain (q := (300, [.null, l1, l2, l3], (.null :: st), h)) ke_123_299 rfl
set_option maxRecDepth 20000 in
theorem ke_123_300 : alook 123 300 = some (300, .iload_n 3, 1, (0, 0, 0, 0, 0), ⟨"", "", ""⟩, "") := rfl
theorem ee_123_300 {d : Nat} {h : aH} {l0 l1 l2 : Value} {x : Int32} {st : List Value} : go d 123 300 [l0, l1, l2, .int x] st h = go d 123 301 [l0, l1, l2, .int x] (.int x :: st) h := go_plain (q := (301, [l0, l1, l2, .int x], (.int x :: st), h)) ke_123_300 rfl
set_option maxRecDepth 20000 in
theorem ke_123_301 : alook 123 301 = some (301, .iconst 1, 1, (0, 0, 0, 0, 0), ⟨"", "", ""⟩, "") := rfl
theorem ee_123_301 {d : Nat} {h : aH} {ls st : List Value} : go d 123 301 ls st h = go d 123 302 ls (.int 1 :: st) h := go_plain (q := (302, ls, (.int 1 :: st), h)) ke_123_301 rfl
set_option maxRecDepth 20000 in
theorem ke_123_302 : alook 123 302 = some (302, .iadd, 1, (0, 0, 0, 0, 0), ⟨"", "", ""⟩, "") := rfl
theorem ee_123_302 {d : Nat} {h : aH} {ls st : List Value} {x y : Int32} : go d 123 302 ls (.int y :: .int x :: st) h = go d 123 303 ls (.int (x + y) :: st) h := go_plain (q := (303, ls, (.int (x + y) :: st), h)) ke_123_302 rfl
set_option maxRecDepth 20000 in
theorem ke_123_303 : alook 123 303 = some (303, .iaload, 1, (0, 0, 0, 0, 0), ⟨"", "", ""⟩, "") := rfl
theorem ee_123_303 {d : Nat} {ls st : List Value} {h : aH} {r : Nat} {i : Int32} : go d 123 303 ls (.int i :: .ref r :: st) h = (ia h r i).bind fun z => go d 123 304 ls (.int z :: st) h := go_iald ke_123_303
set_option maxRecDepth 20000 in
theorem ke_123_304 : alook 123 304 = some (304, .aload_n 0, 1, (0, 0, 0, 0, 0), ⟨"", "", ""⟩, "") := rfl
theorem ee_123_304 {d : Nat} {h : aH} {l1 l2 l3 : Value} {x : Nat} {st : List Value} : go d 123 304 [.ref x, l1, l2, l3] st h = go d 123 305 [.ref x, l1, l2, l3] (.ref x :: st) h := go_plain (q := (305, [.ref x, l1, l2, l3], (.ref x :: st), h)) ke_123_304 rfl
theorem ee_123_304N {d : Nat} {h : aH} {l1 l2 l3 : Value} {st : List Value} : go d 123 304 [.null, l1, l2, l3] st h = go d 123 305 [.null, l1, l2, l3] (.null :: st) h := go_plain (q := (305, [.null, l1, l2, l3], (.null :: st), h)) ke_123_304 rfl
set_option maxRecDepth 20000 in
theorem ke_123_305 : alook 123 305 = some (305, .iload_n 3, 1, (0, 0, 0, 0, 0), ⟨"", "", ""⟩, "") := rfl
theorem ee_123_305 {d : Nat} {h : aH} {l0 l1 l2 : Value} {x : Int32} {st : List Value} : go d 123 305 [l0, l1, l2, .int x] st h = go d 123 306 [l0, l1, l2, .int x] (.int x :: st) h := go_plain (q := (306, [l0, l1, l2, .int x], (.int x :: st), h)) ke_123_305 rfl
set_option maxRecDepth 20000 in
theorem ke_123_306 : alook 123 306 = some (306, .iconst 2, 1, (0, 0, 0, 0, 0), ⟨"", "", ""⟩, "") := rfl
theorem ee_123_306 {d : Nat} {h : aH} {ls st : List Value} : go d 123 306 ls st h = go d 123 307 ls (.int 2 :: st) h := go_plain (q := (307, ls, (.int 2 :: st), h)) ke_123_306 rfl
set_option maxRecDepth 20000 in
theorem ke_123_307 : alook 123 307 = some (307, .iadd, 1, (0, 0, 0, 0, 0), ⟨"", "", ""⟩, "") := rfl
theorem ee_123_307 {d : Nat} {h : aH} {ls st : List Value} {x y : Int32} : go d 123 307 ls (.int y :: .int x :: st) h = go d 123 308 ls (.int (x + y) :: st) h := go_plain (q := (308, ls, (.int (x + y) :: st), h)) ke_123_307 rfl
set_option maxRecDepth 20000 in
theorem ke_123_308 : alook 123 308 = some (308, .iaload, 1, (0, 0, 0, 0, 0), ⟨"", "", ""⟩, "") := rfl
theorem ee_123_308 {d : Nat} {ls st : List Value} {h : aH} {r : Nat} {i : Int32} : go d 123 308 ls (.int i :: .ref r :: st) h = (ia h r i).bind fun z => go d 123 309 ls (.int z :: st) h := go_iald ke_123_308
set_option maxRecDepth 20000 in
theorem ke_123_309 : alook 123 309 = some (309, .aload_n 0, 1, (0, 0, 0, 0, 0), ⟨"", "", ""⟩, "") := rfl
theorem ee_123_309 {d : Nat} {h : aH} {l1 l2 l3 : Value} {x : Nat} {st : List Value} : go d 123 309 [.ref x, l1, l2, l3] st h = go d 123 310 [.ref x, l1, l2, l3] (.ref x :: st) h := go_plain (q := (310, [.ref x, l1, l2, l3], (.ref x :: st), h)) ke_123_309 rfl
theorem ee_123_309N {d : Nat} {h : aH} {l1 l2 l3 : Value} {st : List Value} : go d 123 309 [.null, l1, l2, l3] st h = go d 123 310 [.null, l1, l2, l3] (.null :: st) h := go_plain (q := (310, [.null, l1, l2, l3], (.null :: st), h)) ke_123_309 rfl
set_option maxRecDepth 20000 in
theorem ke_123_310 : alook 123 310 = some (310, .iload_n 3, 1, (0, 0, 0, 0, 0), ⟨"", "", ""⟩, "") := rfl
theorem ee_123_310 {d : Nat} {h : aH} {l0 l1 l2 : Value} {x : Int32} {st : List Value} : go d 123 310 [l0, l1, l2, .int x] st h = go d 123 311 [l0, l1, l2, .int x] (.int x :: st) h := go_plain (q := (311, [l0, l1, l2, .int x], (.int x :: st), h)) ke_123_310 rfl
set_option maxRecDepth 20000 in
theorem ke_123_311 : alook 123 311 = some (311, .iconst 3, 1, (0, 0, 0, 0, 0), ⟨"", "", ""⟩, "") := rfl
theorem ee_123_311 {d : Nat} {h : aH} {ls st : List Value} : go d 123 311 ls st h = go d 123 312 ls (.int 3 :: st) h := go_plain (q := (312, ls, (.int 3 :: st), h)) ke_123_311 rfl
set_option maxRecDepth 20000 in
theorem ke_123_312 : alook 123 312 = some (312, .iadd, 1, (0, 0, 0, 0, 0), ⟨"", "", ""⟩, "") := rfl
theorem ee_123_312 {d : Nat} {h : aH} {ls st : List Value} {x y : Int32} : go d 123 312 ls (.int y :: .int x :: st) h = go d 123 313 ls (.int (x + y) :: st) h := go_plain (q := (313, ls, (.int (x + y) :: st), h)) ke_123_312 rfl
set_option maxRecDepth 20000 in
theorem ke_123_313 : alook 123 313 = some (313, .iaload, 1, (0, 0, 0, 0, 0), ⟨"", "", ""⟩, "") := rfl
theorem ee_123_313 {d : Nat} {ls st : List Value} {h : aH} {r : Nat} {i : Int32} : go d 123 313 ls (.int i :: .ref r :: st) h = (ia h r i).bind fun z => go d 123 314 ls (.int z :: st) h := go_iald ke_123_313
set_option maxRecDepth 20000 in
theorem ke_123_314 : alook 123 314 = some (314, .invokevirtual 48, 3, (3, 7, 49, 7, 49), ⟨"WordHides", "letter", "(III)I"⟩, "") := rfl
theorem ee_123_314 {d : Nat} {ls : List Value} {h : aH} {i0 : Int32} {i1 : Int32} {i2 : Int32} {r3 : Nat} : go (d + 1) 123 314 ls [.int i0, .int i1, .int i2, .ref r3] h = if isC h r3 7 = true then (go d 49 0 [.ref r3, .int i2, .int i1, .int i0, aU] [] h).bind (fun q => go (d + 1) 123 317 ls (q.1.toList ++ []) q.2) else none := go_cv1 (as := [.int i2, .int i1, .int i0]) (rest := []) (L := [.ref r3, .int i2, .int i1, .int i0, aU]) ke_123_314 rfl rfl rfl
set_option maxRecDepth 20000 in
theorem ke_123_317 : alook 123 317 = some (317, .aload_n 2, 1, (0, 0, 0, 0, 0), ⟨"", "", ""⟩, "") := rfl
theorem ee_123_317 {d : Nat} {h : aH} {l0 l1 l3 : Value} {x : Nat} {st : List Value} : go d 123 317 [l0, l1, .ref x, l3] st h = go d 123 318 [l0, l1, .ref x, l3] (.ref x :: st) h := go_plain (q := (318, [l0, l1, .ref x, l3], (.ref x :: st), h)) ke_123_317 rfl
theorem ee_123_317N {d : Nat} {h : aH} {l0 l1 l3 : Value} {st : List Value} : go d 123 317 [l0, l1, .null, l3] st h = go d 123 318 [l0, l1, .null, l3] (.null :: st) h := go_plain (q := (318, [l0, l1, .null, l3], (.null :: st), h)) ke_123_317 rfl
set_option maxRecDepth 20000 in
theorem ke_123_318 : alook 123 318 = some (318, .aload_n 0, 1, (0, 0, 0, 0, 0), ⟨"", "", ""⟩, "") := rfl
theorem ee_123_318 {d : Nat} {h : aH} {l1 l2 l3 : Value} {x : Nat} {st : List Value} : go d 123 318 [.ref x, l1, l2, l3] st h = go d 123 319 [.ref x, l1, l2, l3] (.ref x :: st) h := go_plain (q := (319, [.ref x, l1, l2, l3], (.ref x :: st), h)) ke_123_318 rfl
theorem ee_123_318N {d : Nat} {h : aH} {l1 l2 l3 : Value} {st : List Value} : go d 123 318 [.null, l1, l2, l3] st h = go d 123 319 [.null, l1, l2, l3] (.null :: st) h := go_plain (q := (319, [.null, l1, l2, l3], (.null :: st), h)) ke_123_318 rfl
set_option maxRecDepth 20000 in
theorem ke_123_319 : alook 123 319 = some (319, .iload_n 3, 1, (0, 0, 0, 0, 0), ⟨"", "", ""⟩, "") := rfl
theorem ee_123_319 {d : Nat} {h : aH} {l0 l1 l2 : Value} {x : Int32} {st : List Value} : go d 123 319 [l0, l1, l2, .int x] st h = go d 123 320 [l0, l1, l2, .int x] (.int x :: st) h := go_plain (q := (320, [l0, l1, l2, .int x], (.int x :: st), h)) ke_123_319 rfl
set_option maxRecDepth 20000 in
theorem ke_123_320 : alook 123 320 = some (320, .iconst 1, 1, (0, 0, 0, 0, 0), ⟨"", "", ""⟩, "") := rfl
theorem ee_123_320 {d : Nat} {h : aH} {ls st : List Value} : go d 123 320 ls st h = go d 123 321 ls (.int 1 :: st) h := go_plain (q := (321, ls, (.int 1 :: st), h)) ke_123_320 rfl
set_option maxRecDepth 20000 in
theorem ke_123_321 : alook 123 321 = some (321, .iadd, 1, (0, 0, 0, 0, 0), ⟨"", "", ""⟩, "") := rfl
theorem ee_123_321 {d : Nat} {h : aH} {ls st : List Value} {x y : Int32} : go d 123 321 ls (.int y :: .int x :: st) h = go d 123 322 ls (.int (x + y) :: st) h := go_plain (q := (322, ls, (.int (x + y) :: st), h)) ke_123_321 rfl
set_option maxRecDepth 20000 in
theorem ke_123_322 : alook 123 322 = some (322, .iaload, 1, (0, 0, 0, 0, 0), ⟨"", "", ""⟩, "") := rfl
theorem ee_123_322 {d : Nat} {ls st : List Value} {h : aH} {r : Nat} {i : Int32} : go d 123 322 ls (.int i :: .ref r :: st) h = (ia h r i).bind fun z => go d 123 323 ls (.int z :: st) h := go_iald ke_123_322
set_option maxRecDepth 20000 in
theorem ke_123_323 : alook 123 323 = some (323, .aload_n 0, 1, (0, 0, 0, 0, 0), ⟨"", "", ""⟩, "") := rfl
theorem ee_123_323 {d : Nat} {h : aH} {l1 l2 l3 : Value} {x : Nat} {st : List Value} : go d 123 323 [.ref x, l1, l2, l3] st h = go d 123 324 [.ref x, l1, l2, l3] (.ref x :: st) h := go_plain (q := (324, [.ref x, l1, l2, l3], (.ref x :: st), h)) ke_123_323 rfl
theorem ee_123_323N {d : Nat} {h : aH} {l1 l2 l3 : Value} {st : List Value} : go d 123 323 [.null, l1, l2, l3] st h = go d 123 324 [.null, l1, l2, l3] (.null :: st) h := go_plain (q := (324, [.null, l1, l2, l3], (.null :: st), h)) ke_123_323 rfl
set_option maxRecDepth 20000 in
theorem ke_123_324 : alook 123 324 = some (324, .iload_n 3, 1, (0, 0, 0, 0, 0), ⟨"", "", ""⟩, "") := rfl
theorem ee_123_324 {d : Nat} {h : aH} {l0 l1 l2 : Value} {x : Int32} {st : List Value} : go d 123 324 [l0, l1, l2, .int x] st h = go d 123 325 [l0, l1, l2, .int x] (.int x :: st) h := go_plain (q := (325, [l0, l1, l2, .int x], (.int x :: st), h)) ke_123_324 rfl
set_option maxRecDepth 20000 in
theorem ke_123_325 : alook 123 325 = some (325, .iconst 2, 1, (0, 0, 0, 0, 0), ⟨"", "", ""⟩, "") := rfl
theorem ee_123_325 {d : Nat} {h : aH} {ls st : List Value} : go d 123 325 ls st h = go d 123 326 ls (.int 2 :: st) h := go_plain (q := (326, ls, (.int 2 :: st), h)) ke_123_325 rfl
set_option maxRecDepth 20000 in
theorem ke_123_326 : alook 123 326 = some (326, .iadd, 1, (0, 0, 0, 0, 0), ⟨"", "", ""⟩, "") := rfl
theorem ee_123_326 {d : Nat} {h : aH} {ls st : List Value} {x y : Int32} : go d 123 326 ls (.int y :: .int x :: st) h = go d 123 327 ls (.int (x + y) :: st) h := go_plain (q := (327, ls, (.int (x + y) :: st), h)) ke_123_326 rfl
set_option maxRecDepth 20000 in
theorem ke_123_327 : alook 123 327 = some (327, .iaload, 1, (0, 0, 0, 0, 0), ⟨"", "", ""⟩, "") := rfl
theorem ee_123_327 {d : Nat} {ls st : List Value} {h : aH} {r : Nat} {i : Int32} : go d 123 327 ls (.int i :: .ref r :: st) h = (ia h r i).bind fun z => go d 123 328 ls (.int z :: st) h := go_iald ke_123_327
set_option maxRecDepth 20000 in
theorem ke_123_328 : alook 123 328 = some (328, .aload_n 0, 1, (0, 0, 0, 0, 0), ⟨"", "", ""⟩, "") := rfl
theorem ee_123_328 {d : Nat} {h : aH} {l1 l2 l3 : Value} {x : Nat} {st : List Value} : go d 123 328 [.ref x, l1, l2, l3] st h = go d 123 329 [.ref x, l1, l2, l3] (.ref x :: st) h := go_plain (q := (329, [.ref x, l1, l2, l3], (.ref x :: st), h)) ke_123_328 rfl
theorem ee_123_328N {d : Nat} {h : aH} {l1 l2 l3 : Value} {st : List Value} : go d 123 328 [.null, l1, l2, l3] st h = go d 123 329 [.null, l1, l2, l3] (.null :: st) h := go_plain (q := (329, [.null, l1, l2, l3], (.null :: st), h)) ke_123_328 rfl
set_option maxRecDepth 20000 in
theorem ke_123_329 : alook 123 329 = some (329, .iload_n 3, 1, (0, 0, 0, 0, 0), ⟨"", "", ""⟩, "") := rfl
theorem ee_123_329 {d : Nat} {h : aH} {l0 l1 l2 : Value} {x : Int32} {st : List Value} : go d 123 329 [l0, l1, l2, .int x] st h = go d 123 330 [l0, l1, l2, .int x] (.int x :: st) h := go_plain (q := (330, [l0, l1, l2, .int x], (.int x :: st), h)) ke_123_329 rfl
set_option maxRecDepth 20000 in
theorem ke_123_330 : alook 123 330 = some (330, .iconst 3, 1, (0, 0, 0, 0, 0), ⟨"", "", ""⟩, "") := rfl
theorem ee_123_330 {d : Nat} {h : aH} {ls st : List Value} : go d 123 330 ls st h = go d 123 331 ls (.int 3 :: st) h := go_plain (q := (331, ls, (.int 3 :: st), h)) ke_123_330 rfl
set_option maxRecDepth 20000 in
theorem ke_123_331 : alook 123 331 = some (331, .iadd, 1, (0, 0, 0, 0, 0), ⟨"", "", ""⟩, "") := rfl
theorem ee_123_331 {d : Nat} {h : aH} {ls st : List Value} {x y : Int32} : go d 123 331 ls (.int y :: .int x :: st) h = go d 123 332 ls (.int (x + y) :: st) h := go_plain (q := (332, ls, (.int (x + y) :: st), h)) ke_123_331 rfl
set_option maxRecDepth 20000 in
theorem ke_123_332 : alook 123 332 = some (332, .iaload, 1, (0, 0, 0, 0, 0), ⟨"", "", ""⟩, "") := rfl
theorem ee_123_332 {d : Nat} {ls st : List Value} {h : aH} {r : Nat} {i : Int32} : go d 123 332 ls (.int i :: .ref r :: st) h = (ia h r i).bind fun z => go d 123 333 ls (.int z :: st) h := go_iald ke_123_332
set_option maxRecDepth 20000 in
theorem ke_123_333 : alook 123 333 = some (333, .invokevirtual 52, 3, (3, 8, 82, 8, 82), ⟨"WordHidesModel", "letter", "(III)I"⟩, "") := rfl
theorem ee_123_333 {d : Nat} {ls : List Value} {h : aH} {i0 : Int32} {i1 : Int32} {i2 : Int32} {r3 : Nat} {i4 : Int32} : go (d + 1) 123 333 ls [.int i0, .int i1, .int i2, .ref r3, .int i4] h = if isC h r3 8 = true then (go d 82 0 [.ref r3, .int i2, .int i1, .int i0] [] h).bind (fun q => go (d + 1) 123 336 ls (q.1.toList ++ [.int i4]) q.2) else none := go_cv1 (as := [.int i2, .int i1, .int i0]) (rest := [.int i4]) (L := [.ref r3, .int i2, .int i1, .int i0]) ke_123_333 rfl rfl rfl
set_option maxRecDepth 20000 in
theorem ke_123_336 : alook 123 336 = some (336, .if_icmp .eq 285, 3, (621, 0, 0, 0, 0), ⟨"", "", ""⟩, "") := rfl
theorem ee_123_336 {d : Nat} {ls st : List Value} {h : aH} {x y : Int32} : go d 123 336 ls (.int y :: .int x :: st) h = if x = y then go d 123 621 ls st h else go d 123 339 ls st h := go_ci (go_if2 (tg := 621) (q := 339) (f := fun x y => decide (x = y)) ke_123_336 rfl)
set_option maxRecDepth 20000 in
theorem ke_123_339 : alook 123 339 = some (339, .iconst 0, 1, (0, 0, 0, 0, 0), ⟨"", "", ""⟩, "") := rfl
theorem ee_123_339 {d : Nat} {h : aH} {ls st : List Value} : go d 123 339 ls st h = go d 123 340 ls (.int 0 :: st) h := go_plain (q := (340, ls, (.int 0 :: st), h)) ke_123_339 rfl
set_option maxRecDepth 20000 in
theorem ke_123_340 : alook 123 340 = some (340, .ireturn, 1, (1, 0, 0, 0, 0), ⟨"", "", ""⟩, "") := rfl
theorem ee_123_340 {d : Nat} {ls : List Value} {h : aH} : go d 123 340 ls [.int 0] h = some (some (.int 0), h) := go_zret0 ke_123_340
theorem ee_123_340T {d : Nat} {ls : List Value} {h : aH} : go d 123 340 ls [.int 1] h = some (some (.int 1), h) := go_zret1 ke_123_340
set_option maxRecDepth 20000 in
theorem ke_123_341 : alook 123 341 = some (341, .aload_n 1, 1, (0, 0, 0, 0, 0), ⟨"", "", ""⟩, "") := rfl
theorem ee_123_341 {d : Nat} {h : aH} {l0 l2 l3 : Value} {x : Nat} {st : List Value} : go d 123 341 [l0, .ref x, l2, l3] st h = go d 123 342 [l0, .ref x, l2, l3] (.ref x :: st) h := go_plain (q := (342, [l0, .ref x, l2, l3], (.ref x :: st), h)) ke_123_341 rfl
theorem ee_123_341N {d : Nat} {h : aH} {l0 l2 l3 : Value} {st : List Value} : go d 123 341 [l0, .null, l2, l3] st h = go d 123 342 [l0, .null, l2, l3] (.null :: st) h := go_plain (q := (342, [l0, .null, l2, l3], (.null :: st), h)) ke_123_341 rfl
set_option maxRecDepth 20000 in
theorem ke_123_342 : alook 123 342 = some (342, .aload_n 0, 1, (0, 0, 0, 0, 0), ⟨"", "", ""⟩, "") := rfl
theorem ee_123_342 {d : Nat} {h : aH} {l1 l2 l3 : Value} {x : Nat} {st : List Value} : go d 123 342 [.ref x, l1, l2, l3] st h = go d 123 343 [.ref x, l1, l2, l3] (.ref x :: st) h := go_plain (q := (343, [.ref x, l1, l2, l3], (.ref x :: st), h)) ke_123_342 rfl
theorem ee_123_342N {d : Nat} {h : aH} {l1 l2 l3 : Value} {st : List Value} : go d 123 342 [.null, l1, l2, l3] st h = go d 123 343 [.null, l1, l2, l3] (.null :: st) h := go_plain (q := (343, [.null, l1, l2, l3], (.null :: st), h)) ke_123_342 rfl
set_option maxRecDepth 20000 in
theorem ke_123_343 : alook 123 343 = some (343, .iload_n 3, 1, (0, 0, 0, 0, 0), ⟨"", "", ""⟩, "") := rfl
theorem ee_123_343 {d : Nat} {h : aH} {l0 l1 l2 : Value} {x : Int32} {st : List Value} : go d 123 343 [l0, l1, l2, .int x] st h = go d 123 344 [l0, l1, l2, .int x] (.int x :: st) h := go_plain (q := (344, [l0, l1, l2, .int x], (.int x :: st), h)) ke_123_343 rfl
set_option maxRecDepth 20000 in
theorem ke_123_344 : alook 123 344 = some (344, .iconst 1, 1, (0, 0, 0, 0, 0), ⟨"", "", ""⟩, "") := rfl
theorem ee_123_344 {d : Nat} {h : aH} {ls st : List Value} : go d 123 344 ls st h = go d 123 345 ls (.int 1 :: st) h := go_plain (q := (345, ls, (.int 1 :: st), h)) ke_123_344 rfl
set_option maxRecDepth 20000 in
theorem ke_123_345 : alook 123 345 = some (345, .iadd, 1, (0, 0, 0, 0, 0), ⟨"", "", ""⟩, "") := rfl
theorem ee_123_345 {d : Nat} {h : aH} {ls st : List Value} {x y : Int32} : go d 123 345 ls (.int y :: .int x :: st) h = go d 123 346 ls (.int (x + y) :: st) h := go_plain (q := (346, ls, (.int (x + y) :: st), h)) ke_123_345 rfl
set_option maxRecDepth 20000 in
theorem ke_123_346 : alook 123 346 = some (346, .iaload, 1, (0, 0, 0, 0, 0), ⟨"", "", ""⟩, "") := rfl
theorem ee_123_346 {d : Nat} {ls st : List Value} {h : aH} {r : Nat} {i : Int32} : go d 123 346 ls (.int i :: .ref r :: st) h = (ia h r i).bind fun z => go d 123 347 ls (.int z :: st) h := go_iald ke_123_346
set_option maxRecDepth 20000 in
theorem ke_123_347 : alook 123 347 = some (347, .aload_n 0, 1, (0, 0, 0, 0, 0), ⟨"", "", ""⟩, "") := rfl
theorem ee_123_347 {d : Nat} {h : aH} {l1 l2 l3 : Value} {x : Nat} {st : List Value} : go d 123 347 [.ref x, l1, l2, l3] st h = go d 123 348 [.ref x, l1, l2, l3] (.ref x :: st) h := go_plain (q := (348, [.ref x, l1, l2, l3], (.ref x :: st), h)) ke_123_347 rfl
theorem ee_123_347N {d : Nat} {h : aH} {l1 l2 l3 : Value} {st : List Value} : go d 123 347 [.null, l1, l2, l3] st h = go d 123 348 [.null, l1, l2, l3] (.null :: st) h := go_plain (q := (348, [.null, l1, l2, l3], (.null :: st), h)) ke_123_347 rfl
set_option maxRecDepth 20000 in
theorem ke_123_348 : alook 123 348 = some (348, .iload_n 3, 1, (0, 0, 0, 0, 0), ⟨"", "", ""⟩, "") := rfl
theorem ee_123_348 {d : Nat} {h : aH} {l0 l1 l2 : Value} {x : Int32} {st : List Value} : go d 123 348 [l0, l1, l2, .int x] st h = go d 123 349 [l0, l1, l2, .int x] (.int x :: st) h := go_plain (q := (349, [l0, l1, l2, .int x], (.int x :: st), h)) ke_123_348 rfl
set_option maxRecDepth 20000 in
theorem ke_123_349 : alook 123 349 = some (349, .iconst 2, 1, (0, 0, 0, 0, 0), ⟨"", "", ""⟩, "") := rfl
theorem ee_123_349 {d : Nat} {h : aH} {ls st : List Value} : go d 123 349 ls st h = go d 123 350 ls (.int 2 :: st) h := go_plain (q := (350, ls, (.int 2 :: st), h)) ke_123_349 rfl
set_option maxRecDepth 20000 in
theorem ke_123_350 : alook 123 350 = some (350, .iadd, 1, (0, 0, 0, 0, 0), ⟨"", "", ""⟩, "") := rfl
theorem ee_123_350 {d : Nat} {h : aH} {ls st : List Value} {x y : Int32} : go d 123 350 ls (.int y :: .int x :: st) h = go d 123 351 ls (.int (x + y) :: st) h := go_plain (q := (351, ls, (.int (x + y) :: st), h)) ke_123_350 rfl
set_option maxRecDepth 20000 in
theorem ke_123_351 : alook 123 351 = some (351, .iaload, 1, (0, 0, 0, 0, 0), ⟨"", "", ""⟩, "") := rfl
theorem ee_123_351 {d : Nat} {ls st : List Value} {h : aH} {r : Nat} {i : Int32} : go d 123 351 ls (.int i :: .ref r :: st) h = (ia h r i).bind fun z => go d 123 352 ls (.int z :: st) h := go_iald ke_123_351
set_option maxRecDepth 20000 in
theorem ke_123_352 : alook 123 352 = some (352, .aload_n 0, 1, (0, 0, 0, 0, 0), ⟨"", "", ""⟩, "") := rfl
theorem ee_123_352 {d : Nat} {h : aH} {l1 l2 l3 : Value} {x : Nat} {st : List Value} : go d 123 352 [.ref x, l1, l2, l3] st h = go d 123 353 [.ref x, l1, l2, l3] (.ref x :: st) h := go_plain (q := (353, [.ref x, l1, l2, l3], (.ref x :: st), h)) ke_123_352 rfl
theorem ee_123_352N {d : Nat} {h : aH} {l1 l2 l3 : Value} {st : List Value} : go d 123 352 [.null, l1, l2, l3] st h = go d 123 353 [.null, l1, l2, l3] (.null :: st) h := go_plain (q := (353, [.null, l1, l2, l3], (.null :: st), h)) ke_123_352 rfl
set_option maxRecDepth 20000 in
theorem ke_123_353 : alook 123 353 = some (353, .iload_n 3, 1, (0, 0, 0, 0, 0), ⟨"", "", ""⟩, "") := rfl
theorem ee_123_353 {d : Nat} {h : aH} {l0 l1 l2 : Value} {x : Int32} {st : List Value} : go d 123 353 [l0, l1, l2, .int x] st h = go d 123 354 [l0, l1, l2, .int x] (.int x :: st) h := go_plain (q := (354, [l0, l1, l2, .int x], (.int x :: st), h)) ke_123_353 rfl
set_option maxRecDepth 20000 in
theorem ke_123_354 : alook 123 354 = some (354, .iconst 3, 1, (0, 0, 0, 0, 0), ⟨"", "", ""⟩, "") := rfl
theorem ee_123_354 {d : Nat} {h : aH} {ls st : List Value} : go d 123 354 ls st h = go d 123 355 ls (.int 3 :: st) h := go_plain (q := (355, ls, (.int 3 :: st), h)) ke_123_354 rfl
set_option maxRecDepth 20000 in
theorem ke_123_355 : alook 123 355 = some (355, .iadd, 1, (0, 0, 0, 0, 0), ⟨"", "", ""⟩, "") := rfl
theorem ee_123_355 {d : Nat} {h : aH} {ls st : List Value} {x y : Int32} : go d 123 355 ls (.int y :: .int x :: st) h = go d 123 356 ls (.int (x + y) :: st) h := go_plain (q := (356, ls, (.int (x + y) :: st), h)) ke_123_355 rfl
set_option maxRecDepth 20000 in
theorem ke_123_356 : alook 123 356 = some (356, .iaload, 1, (0, 0, 0, 0, 0), ⟨"", "", ""⟩, "") := rfl
theorem ee_123_356 {d : Nat} {ls st : List Value} {h : aH} {r : Nat} {i : Int32} : go d 123 356 ls (.int i :: .ref r :: st) h = (ia h r i).bind fun z => go d 123 357 ls (.int z :: st) h := go_iald ke_123_356
set_option maxRecDepth 20000 in
theorem ke_123_357 : alook 123 357 = some (357, .invokevirtual 53, 3, (3, 7, 50, 7, 50), ⟨"WordHides", "stands", "(III)I"⟩, "") := rfl
theorem ee_123_357 {d : Nat} {ls : List Value} {h : aH} {i0 : Int32} {i1 : Int32} {i2 : Int32} {r3 : Nat} : go (d + 1) 123 357 ls [.int i0, .int i1, .int i2, .ref r3] h = if isC h r3 7 = true then (go d 50 0 [.ref r3, .int i2, .int i1, .int i0, aU] [] h).bind (fun q => go (d + 1) 123 360 ls (q.1.toList ++ []) q.2) else none := go_cv1 (as := [.int i2, .int i1, .int i0]) (rest := []) (L := [.ref r3, .int i2, .int i1, .int i0, aU]) ke_123_357 rfl rfl rfl
set_option maxRecDepth 20000 in
theorem ke_123_360 : alook 123 360 = some (360, .aload_n 2, 1, (0, 0, 0, 0, 0), ⟨"", "", ""⟩, "") := rfl
theorem ee_123_360 {d : Nat} {h : aH} {l0 l1 l3 : Value} {x : Nat} {st : List Value} : go d 123 360 [l0, l1, .ref x, l3] st h = go d 123 361 [l0, l1, .ref x, l3] (.ref x :: st) h := go_plain (q := (361, [l0, l1, .ref x, l3], (.ref x :: st), h)) ke_123_360 rfl
theorem ee_123_360N {d : Nat} {h : aH} {l0 l1 l3 : Value} {st : List Value} : go d 123 360 [l0, l1, .null, l3] st h = go d 123 361 [l0, l1, .null, l3] (.null :: st) h := go_plain (q := (361, [l0, l1, .null, l3], (.null :: st), h)) ke_123_360 rfl
set_option maxRecDepth 20000 in
theorem ke_123_361 : alook 123 361 = some (361, .aload_n 0, 1, (0, 0, 0, 0, 0), ⟨"", "", ""⟩, "") := rfl
theorem ee_123_361 {d : Nat} {h : aH} {l1 l2 l3 : Value} {x : Nat} {st : List Value} : go d 123 361 [.ref x, l1, l2, l3] st h = go d 123 362 [.ref x, l1, l2, l3] (.ref x :: st) h := go_plain (q := (362, [.ref x, l1, l2, l3], (.ref x :: st), h)) ke_123_361 rfl
theorem ee_123_361N {d : Nat} {h : aH} {l1 l2 l3 : Value} {st : List Value} : go d 123 361 [.null, l1, l2, l3] st h = go d 123 362 [.null, l1, l2, l3] (.null :: st) h := go_plain (q := (362, [.null, l1, l2, l3], (.null :: st), h)) ke_123_361 rfl
set_option maxRecDepth 20000 in
theorem ke_123_362 : alook 123 362 = some (362, .iload_n 3, 1, (0, 0, 0, 0, 0), ⟨"", "", ""⟩, "") := rfl
theorem ee_123_362 {d : Nat} {h : aH} {l0 l1 l2 : Value} {x : Int32} {st : List Value} : go d 123 362 [l0, l1, l2, .int x] st h = go d 123 363 [l0, l1, l2, .int x] (.int x :: st) h := go_plain (q := (363, [l0, l1, l2, .int x], (.int x :: st), h)) ke_123_362 rfl
set_option maxRecDepth 20000 in
theorem ke_123_363 : alook 123 363 = some (363, .iconst 1, 1, (0, 0, 0, 0, 0), ⟨"", "", ""⟩, "") := rfl
theorem ee_123_363 {d : Nat} {h : aH} {ls st : List Value} : go d 123 363 ls st h = go d 123 364 ls (.int 1 :: st) h := go_plain (q := (364, ls, (.int 1 :: st), h)) ke_123_363 rfl
set_option maxRecDepth 20000 in
theorem ke_123_364 : alook 123 364 = some (364, .iadd, 1, (0, 0, 0, 0, 0), ⟨"", "", ""⟩, "") := rfl
theorem ee_123_364 {d : Nat} {h : aH} {ls st : List Value} {x y : Int32} : go d 123 364 ls (.int y :: .int x :: st) h = go d 123 365 ls (.int (x + y) :: st) h := go_plain (q := (365, ls, (.int (x + y) :: st), h)) ke_123_364 rfl
set_option maxRecDepth 20000 in
theorem ke_123_365 : alook 123 365 = some (365, .iaload, 1, (0, 0, 0, 0, 0), ⟨"", "", ""⟩, "") := rfl
theorem ee_123_365 {d : Nat} {ls st : List Value} {h : aH} {r : Nat} {i : Int32} : go d 123 365 ls (.int i :: .ref r :: st) h = (ia h r i).bind fun z => go d 123 366 ls (.int z :: st) h := go_iald ke_123_365
set_option maxRecDepth 20000 in
theorem ke_123_366 : alook 123 366 = some (366, .aload_n 0, 1, (0, 0, 0, 0, 0), ⟨"", "", ""⟩, "") := rfl
theorem ee_123_366 {d : Nat} {h : aH} {l1 l2 l3 : Value} {x : Nat} {st : List Value} : go d 123 366 [.ref x, l1, l2, l3] st h = go d 123 367 [.ref x, l1, l2, l3] (.ref x :: st) h := go_plain (q := (367, [.ref x, l1, l2, l3], (.ref x :: st), h)) ke_123_366 rfl
theorem ee_123_366N {d : Nat} {h : aH} {l1 l2 l3 : Value} {st : List Value} : go d 123 366 [.null, l1, l2, l3] st h = go d 123 367 [.null, l1, l2, l3] (.null :: st) h := go_plain (q := (367, [.null, l1, l2, l3], (.null :: st), h)) ke_123_366 rfl
set_option maxRecDepth 20000 in
theorem ke_123_367 : alook 123 367 = some (367, .iload_n 3, 1, (0, 0, 0, 0, 0), ⟨"", "", ""⟩, "") := rfl
theorem ee_123_367 {d : Nat} {h : aH} {l0 l1 l2 : Value} {x : Int32} {st : List Value} : go d 123 367 [l0, l1, l2, .int x] st h = go d 123 368 [l0, l1, l2, .int x] (.int x :: st) h := go_plain (q := (368, [l0, l1, l2, .int x], (.int x :: st), h)) ke_123_367 rfl
set_option maxRecDepth 20000 in
theorem ke_123_368 : alook 123 368 = some (368, .iconst 2, 1, (0, 0, 0, 0, 0), ⟨"", "", ""⟩, "") := rfl
theorem ee_123_368 {d : Nat} {h : aH} {ls st : List Value} : go d 123 368 ls st h = go d 123 369 ls (.int 2 :: st) h := go_plain (q := (369, ls, (.int 2 :: st), h)) ke_123_368 rfl
set_option maxRecDepth 20000 in
theorem ke_123_369 : alook 123 369 = some (369, .iadd, 1, (0, 0, 0, 0, 0), ⟨"", "", ""⟩, "") := rfl
theorem ee_123_369 {d : Nat} {h : aH} {ls st : List Value} {x y : Int32} : go d 123 369 ls (.int y :: .int x :: st) h = go d 123 370 ls (.int (x + y) :: st) h := go_plain (q := (370, ls, (.int (x + y) :: st), h)) ke_123_369 rfl
set_option maxRecDepth 20000 in
theorem ke_123_370 : alook 123 370 = some (370, .iaload, 1, (0, 0, 0, 0, 0), ⟨"", "", ""⟩, "") := rfl
theorem ee_123_370 {d : Nat} {ls st : List Value} {h : aH} {r : Nat} {i : Int32} : go d 123 370 ls (.int i :: .ref r :: st) h = (ia h r i).bind fun z => go d 123 371 ls (.int z :: st) h := go_iald ke_123_370
set_option maxRecDepth 20000 in
theorem ke_123_371 : alook 123 371 = some (371, .aload_n 0, 1, (0, 0, 0, 0, 0), ⟨"", "", ""⟩, "") := rfl
theorem ee_123_371 {d : Nat} {h : aH} {l1 l2 l3 : Value} {x : Nat} {st : List Value} : go d 123 371 [.ref x, l1, l2, l3] st h = go d 123 372 [.ref x, l1, l2, l3] (.ref x :: st) h := go_plain (q := (372, [.ref x, l1, l2, l3], (.ref x :: st), h)) ke_123_371 rfl
theorem ee_123_371N {d : Nat} {h : aH} {l1 l2 l3 : Value} {st : List Value} : go d 123 371 [.null, l1, l2, l3] st h = go d 123 372 [.null, l1, l2, l3] (.null :: st) h := go_plain (q := (372, [.null, l1, l2, l3], (.null :: st), h)) ke_123_371 rfl
set_option maxRecDepth 20000 in
theorem ke_123_372 : alook 123 372 = some (372, .iload_n 3, 1, (0, 0, 0, 0, 0), ⟨"", "", ""⟩, "") := rfl
theorem ee_123_372 {d : Nat} {h : aH} {l0 l1 l2 : Value} {x : Int32} {st : List Value} : go d 123 372 [l0, l1, l2, .int x] st h = go d 123 373 [l0, l1, l2, .int x] (.int x :: st) h := go_plain (q := (373, [l0, l1, l2, .int x], (.int x :: st), h)) ke_123_372 rfl
set_option maxRecDepth 20000 in
theorem ke_123_373 : alook 123 373 = some (373, .iconst 3, 1, (0, 0, 0, 0, 0), ⟨"", "", ""⟩, "") := rfl
theorem ee_123_373 {d : Nat} {h : aH} {ls st : List Value} : go d 123 373 ls st h = go d 123 374 ls (.int 3 :: st) h := go_plain (q := (374, ls, (.int 3 :: st), h)) ke_123_373 rfl
set_option maxRecDepth 20000 in
theorem ke_123_374 : alook 123 374 = some (374, .iadd, 1, (0, 0, 0, 0, 0), ⟨"", "", ""⟩, "") := rfl
theorem ee_123_374 {d : Nat} {h : aH} {ls st : List Value} {x y : Int32} : go d 123 374 ls (.int y :: .int x :: st) h = go d 123 375 ls (.int (x + y) :: st) h := go_plain (q := (375, ls, (.int (x + y) :: st), h)) ke_123_374 rfl
set_option maxRecDepth 20000 in
theorem ke_123_375 : alook 123 375 = some (375, .iaload, 1, (0, 0, 0, 0, 0), ⟨"", "", ""⟩, "") := rfl
theorem ee_123_375 {d : Nat} {ls st : List Value} {h : aH} {r : Nat} {i : Int32} : go d 123 375 ls (.int i :: .ref r :: st) h = (ia h r i).bind fun z => go d 123 376 ls (.int z :: st) h := go_iald ke_123_375
set_option maxRecDepth 20000 in
theorem ke_123_376 : alook 123 376 = some (376, .invokevirtual 56, 3, (3, 8, 94, 8, 94), ⟨"WordHidesModel", "stands", "(III)I"⟩, "") := rfl
theorem ee_123_376 {d : Nat} {ls : List Value} {h : aH} {i0 : Int32} {i1 : Int32} {i2 : Int32} {r3 : Nat} {i4 : Int32} : go (d + 1) 123 376 ls [.int i0, .int i1, .int i2, .ref r3, .int i4] h = if isC h r3 8 = true then (go d 94 0 [.ref r3, .int i2, .int i1, .int i0, aU, aU] [] h).bind (fun q => go (d + 1) 123 379 ls (q.1.toList ++ [.int i4]) q.2) else none := go_cv1 (as := [.int i2, .int i1, .int i0]) (rest := [.int i4]) (L := [.ref r3, .int i2, .int i1, .int i0, aU, aU]) ke_123_376 rfl rfl rfl
set_option maxRecDepth 20000 in
theorem ke_123_379 : alook 123 379 = some (379, .if_icmp .eq 242, 3, (621, 0, 0, 0, 0), ⟨"", "", ""⟩, "") := rfl
theorem ee_123_379 {d : Nat} {ls st : List Value} {h : aH} {x y : Int32} : go d 123 379 ls (.int y :: .int x :: st) h = if x = y then go d 123 621 ls st h else go d 123 382 ls st h := go_ci (go_if2 (tg := 621) (q := 382) (f := fun x y => decide (x = y)) ke_123_379 rfl)
set_option maxRecDepth 20000 in
theorem ke_123_382 : alook 123 382 = some (382, .iconst 0, 1, (0, 0, 0, 0, 0), ⟨"", "", ""⟩, "") := rfl
theorem ee_123_382 {d : Nat} {h : aH} {ls st : List Value} : go d 123 382 ls st h = go d 123 383 ls (.int 0 :: st) h := go_plain (q := (383, ls, (.int 0 :: st), h)) ke_123_382 rfl
set_option maxRecDepth 20000 in
theorem ke_123_383 : alook 123 383 = some (383, .ireturn, 1, (1, 0, 0, 0, 0), ⟨"", "", ""⟩, "") := rfl
theorem ee_123_383 {d : Nat} {ls : List Value} {h : aH} : go d 123 383 ls [.int 0] h = some (some (.int 0), h) := go_zret0 ke_123_383
theorem ee_123_383T {d : Nat} {ls : List Value} {h : aH} : go d 123 383 ls [.int 1] h = some (some (.int 1), h) := go_zret1 ke_123_383
set_option maxRecDepth 20000 in
theorem ke_123_384 : alook 123 384 = some (384, .aload_n 1, 1, (0, 0, 0, 0, 0), ⟨"", "", ""⟩, "") := rfl
theorem ee_123_384 {d : Nat} {h : aH} {l0 l2 l3 : Value} {x : Nat} {st : List Value} : go d 123 384 [l0, .ref x, l2, l3] st h = go d 123 385 [l0, .ref x, l2, l3] (.ref x :: st) h := go_plain (q := (385, [l0, .ref x, l2, l3], (.ref x :: st), h)) ke_123_384 rfl
theorem ee_123_384N {d : Nat} {h : aH} {l0 l2 l3 : Value} {st : List Value} : go d 123 384 [l0, .null, l2, l3] st h = go d 123 385 [l0, .null, l2, l3] (.null :: st) h := go_plain (q := (385, [l0, .null, l2, l3], (.null :: st), h)) ke_123_384 rfl
set_option maxRecDepth 20000 in
theorem ke_123_385 : alook 123 385 = some (385, .aload_n 0, 1, (0, 0, 0, 0, 0), ⟨"", "", ""⟩, "") := rfl
theorem ee_123_385 {d : Nat} {h : aH} {l1 l2 l3 : Value} {x : Nat} {st : List Value} : go d 123 385 [.ref x, l1, l2, l3] st h = go d 123 386 [.ref x, l1, l2, l3] (.ref x :: st) h := go_plain (q := (386, [.ref x, l1, l2, l3], (.ref x :: st), h)) ke_123_385 rfl
theorem ee_123_385N {d : Nat} {h : aH} {l1 l2 l3 : Value} {st : List Value} : go d 123 385 [.null, l1, l2, l3] st h = go d 123 386 [.null, l1, l2, l3] (.null :: st) h := go_plain (q := (386, [.null, l1, l2, l3], (.null :: st), h)) ke_123_385 rfl
set_option maxRecDepth 20000 in
theorem ke_123_386 : alook 123 386 = some (386, .iload_n 3, 1, (0, 0, 0, 0, 0), ⟨"", "", ""⟩, "") := rfl
theorem ee_123_386 {d : Nat} {h : aH} {l0 l1 l2 : Value} {x : Int32} {st : List Value} : go d 123 386 [l0, l1, l2, .int x] st h = go d 123 387 [l0, l1, l2, .int x] (.int x :: st) h := go_plain (q := (387, [l0, l1, l2, .int x], (.int x :: st), h)) ke_123_386 rfl
set_option maxRecDepth 20000 in
theorem ke_123_387 : alook 123 387 = some (387, .iconst 1, 1, (0, 0, 0, 0, 0), ⟨"", "", ""⟩, "") := rfl
theorem ee_123_387 {d : Nat} {h : aH} {ls st : List Value} : go d 123 387 ls st h = go d 123 388 ls (.int 1 :: st) h := go_plain (q := (388, ls, (.int 1 :: st), h)) ke_123_387 rfl
set_option maxRecDepth 20000 in
theorem ke_123_388 : alook 123 388 = some (388, .iadd, 1, (0, 0, 0, 0, 0), ⟨"", "", ""⟩, "") := rfl
theorem ee_123_388 {d : Nat} {h : aH} {ls st : List Value} {x y : Int32} : go d 123 388 ls (.int y :: .int x :: st) h = go d 123 389 ls (.int (x + y) :: st) h := go_plain (q := (389, ls, (.int (x + y) :: st), h)) ke_123_388 rfl
set_option maxRecDepth 20000 in
theorem ke_123_389 : alook 123 389 = some (389, .iaload, 1, (0, 0, 0, 0, 0), ⟨"", "", ""⟩, "") := rfl
theorem ee_123_389 {d : Nat} {ls st : List Value} {h : aH} {r : Nat} {i : Int32} : go d 123 389 ls (.int i :: .ref r :: st) h = (ia h r i).bind fun z => go d 123 390 ls (.int z :: st) h := go_iald ke_123_389
set_option maxRecDepth 20000 in
theorem ke_123_390 : alook 123 390 = some (390, .aload_n 0, 1, (0, 0, 0, 0, 0), ⟨"", "", ""⟩, "") := rfl
theorem ee_123_390 {d : Nat} {h : aH} {l1 l2 l3 : Value} {x : Nat} {st : List Value} : go d 123 390 [.ref x, l1, l2, l3] st h = go d 123 391 [.ref x, l1, l2, l3] (.ref x :: st) h := go_plain (q := (391, [.ref x, l1, l2, l3], (.ref x :: st), h)) ke_123_390 rfl
theorem ee_123_390N {d : Nat} {h : aH} {l1 l2 l3 : Value} {st : List Value} : go d 123 390 [.null, l1, l2, l3] st h = go d 123 391 [.null, l1, l2, l3] (.null :: st) h := go_plain (q := (391, [.null, l1, l2, l3], (.null :: st), h)) ke_123_390 rfl
set_option maxRecDepth 20000 in
theorem ke_123_391 : alook 123 391 = some (391, .iload_n 3, 1, (0, 0, 0, 0, 0), ⟨"", "", ""⟩, "") := rfl
theorem ee_123_391 {d : Nat} {h : aH} {l0 l1 l2 : Value} {x : Int32} {st : List Value} : go d 123 391 [l0, l1, l2, .int x] st h = go d 123 392 [l0, l1, l2, .int x] (.int x :: st) h := go_plain (q := (392, [l0, l1, l2, .int x], (.int x :: st), h)) ke_123_391 rfl
set_option maxRecDepth 20000 in
theorem ke_123_392 : alook 123 392 = some (392, .iconst 2, 1, (0, 0, 0, 0, 0), ⟨"", "", ""⟩, "") := rfl
theorem ee_123_392 {d : Nat} {h : aH} {ls st : List Value} : go d 123 392 ls st h = go d 123 393 ls (.int 2 :: st) h := go_plain (q := (393, ls, (.int 2 :: st), h)) ke_123_392 rfl
set_option maxRecDepth 20000 in
theorem ke_123_393 : alook 123 393 = some (393, .iadd, 1, (0, 0, 0, 0, 0), ⟨"", "", ""⟩, "") := rfl
theorem ee_123_393 {d : Nat} {h : aH} {ls st : List Value} {x y : Int32} : go d 123 393 ls (.int y :: .int x :: st) h = go d 123 394 ls (.int (x + y) :: st) h := go_plain (q := (394, ls, (.int (x + y) :: st), h)) ke_123_393 rfl
set_option maxRecDepth 20000 in
theorem ke_123_394 : alook 123 394 = some (394, .iaload, 1, (0, 0, 0, 0, 0), ⟨"", "", ""⟩, "") := rfl
theorem ee_123_394 {d : Nat} {ls st : List Value} {h : aH} {r : Nat} {i : Int32} : go d 123 394 ls (.int i :: .ref r :: st) h = (ia h r i).bind fun z => go d 123 395 ls (.int z :: st) h := go_iald ke_123_394
set_option maxRecDepth 20000 in
theorem ke_123_395 : alook 123 395 = some (395, .invokevirtual 57, 3, (2, 7, 51, 7, 51), ⟨"WordHides", "put", "(II)I"⟩, "") := rfl
theorem ee_123_395 {d : Nat} {ls : List Value} {h : aH} {i0 : Int32} {i1 : Int32} {r2 : Nat} : go (d + 1) 123 395 ls [.int i0, .int i1, .ref r2] h = if isC h r2 7 = true then (go d 51 0 [.ref r2, .int i1, .int i0, aU, aU] [] h).bind (fun q => go (d + 1) 123 398 ls (q.1.toList ++ []) q.2) else none := go_cv1 (as := [.int i1, .int i0]) (rest := []) (L := [.ref r2, .int i1, .int i0, aU, aU]) ke_123_395 rfl rfl rfl
set_option maxRecDepth 20000 in
theorem ke_123_398 : alook 123 398 = some (398, .aload_n 2, 1, (0, 0, 0, 0, 0), ⟨"", "", ""⟩, "") := rfl
theorem ee_123_398 {d : Nat} {h : aH} {l0 l1 l3 : Value} {x : Nat} {st : List Value} : go d 123 398 [l0, l1, .ref x, l3] st h = go d 123 399 [l0, l1, .ref x, l3] (.ref x :: st) h := go_plain (q := (399, [l0, l1, .ref x, l3], (.ref x :: st), h)) ke_123_398 rfl
theorem ee_123_398N {d : Nat} {h : aH} {l0 l1 l3 : Value} {st : List Value} : go d 123 398 [l0, l1, .null, l3] st h = go d 123 399 [l0, l1, .null, l3] (.null :: st) h := go_plain (q := (399, [l0, l1, .null, l3], (.null :: st), h)) ke_123_398 rfl
set_option maxRecDepth 20000 in
theorem ke_123_399 : alook 123 399 = some (399, .aload_n 0, 1, (0, 0, 0, 0, 0), ⟨"", "", ""⟩, "") := rfl
theorem ee_123_399 {d : Nat} {h : aH} {l1 l2 l3 : Value} {x : Nat} {st : List Value} : go d 123 399 [.ref x, l1, l2, l3] st h = go d 123 400 [.ref x, l1, l2, l3] (.ref x :: st) h := go_plain (q := (400, [.ref x, l1, l2, l3], (.ref x :: st), h)) ke_123_399 rfl
theorem ee_123_399N {d : Nat} {h : aH} {l1 l2 l3 : Value} {st : List Value} : go d 123 399 [.null, l1, l2, l3] st h = go d 123 400 [.null, l1, l2, l3] (.null :: st) h := go_plain (q := (400, [.null, l1, l2, l3], (.null :: st), h)) ke_123_399 rfl
set_option maxRecDepth 20000 in
theorem ke_123_400 : alook 123 400 = some (400, .iload_n 3, 1, (0, 0, 0, 0, 0), ⟨"", "", ""⟩, "") := rfl
theorem ee_123_400 {d : Nat} {h : aH} {l0 l1 l2 : Value} {x : Int32} {st : List Value} : go d 123 400 [l0, l1, l2, .int x] st h = go d 123 401 [l0, l1, l2, .int x] (.int x :: st) h := go_plain (q := (401, [l0, l1, l2, .int x], (.int x :: st), h)) ke_123_400 rfl
set_option maxRecDepth 20000 in
theorem ke_123_401 : alook 123 401 = some (401, .iconst 1, 1, (0, 0, 0, 0, 0), ⟨"", "", ""⟩, "") := rfl
theorem ee_123_401 {d : Nat} {h : aH} {ls st : List Value} : go d 123 401 ls st h = go d 123 402 ls (.int 1 :: st) h := go_plain (q := (402, ls, (.int 1 :: st), h)) ke_123_401 rfl
set_option maxRecDepth 20000 in
theorem ke_123_402 : alook 123 402 = some (402, .iadd, 1, (0, 0, 0, 0, 0), ⟨"", "", ""⟩, "") := rfl
theorem ee_123_402 {d : Nat} {h : aH} {ls st : List Value} {x y : Int32} : go d 123 402 ls (.int y :: .int x :: st) h = go d 123 403 ls (.int (x + y) :: st) h := go_plain (q := (403, ls, (.int (x + y) :: st), h)) ke_123_402 rfl
set_option maxRecDepth 20000 in
theorem ke_123_403 : alook 123 403 = some (403, .iaload, 1, (0, 0, 0, 0, 0), ⟨"", "", ""⟩, "") := rfl
theorem ee_123_403 {d : Nat} {ls st : List Value} {h : aH} {r : Nat} {i : Int32} : go d 123 403 ls (.int i :: .ref r :: st) h = (ia h r i).bind fun z => go d 123 404 ls (.int z :: st) h := go_iald ke_123_403
set_option maxRecDepth 20000 in
theorem ke_123_404 : alook 123 404 = some (404, .aload_n 0, 1, (0, 0, 0, 0, 0), ⟨"", "", ""⟩, "") := rfl
theorem ee_123_404 {d : Nat} {h : aH} {l1 l2 l3 : Value} {x : Nat} {st : List Value} : go d 123 404 [.ref x, l1, l2, l3] st h = go d 123 405 [.ref x, l1, l2, l3] (.ref x :: st) h := go_plain (q := (405, [.ref x, l1, l2, l3], (.ref x :: st), h)) ke_123_404 rfl
theorem ee_123_404N {d : Nat} {h : aH} {l1 l2 l3 : Value} {st : List Value} : go d 123 404 [.null, l1, l2, l3] st h = go d 123 405 [.null, l1, l2, l3] (.null :: st) h := go_plain (q := (405, [.null, l1, l2, l3], (.null :: st), h)) ke_123_404 rfl
set_option maxRecDepth 20000 in
theorem ke_123_405 : alook 123 405 = some (405, .iload_n 3, 1, (0, 0, 0, 0, 0), ⟨"", "", ""⟩, "") := rfl
theorem ee_123_405 {d : Nat} {h : aH} {l0 l1 l2 : Value} {x : Int32} {st : List Value} : go d 123 405 [l0, l1, l2, .int x] st h = go d 123 406 [l0, l1, l2, .int x] (.int x :: st) h := go_plain (q := (406, [l0, l1, l2, .int x], (.int x :: st), h)) ke_123_405 rfl
set_option maxRecDepth 20000 in
theorem ke_123_406 : alook 123 406 = some (406, .iconst 2, 1, (0, 0, 0, 0, 0), ⟨"", "", ""⟩, "") := rfl
theorem ee_123_406 {d : Nat} {h : aH} {ls st : List Value} : go d 123 406 ls st h = go d 123 407 ls (.int 2 :: st) h := go_plain (q := (407, ls, (.int 2 :: st), h)) ke_123_406 rfl
set_option maxRecDepth 20000 in
theorem ke_123_407 : alook 123 407 = some (407, .iadd, 1, (0, 0, 0, 0, 0), ⟨"", "", ""⟩, "") := rfl
theorem ee_123_407 {d : Nat} {h : aH} {ls st : List Value} {x y : Int32} : go d 123 407 ls (.int y :: .int x :: st) h = go d 123 408 ls (.int (x + y) :: st) h := go_plain (q := (408, ls, (.int (x + y) :: st), h)) ke_123_407 rfl
set_option maxRecDepth 20000 in
theorem ke_123_408 : alook 123 408 = some (408, .iaload, 1, (0, 0, 0, 0, 0), ⟨"", "", ""⟩, "") := rfl
theorem ee_123_408 {d : Nat} {ls st : List Value} {h : aH} {r : Nat} {i : Int32} : go d 123 408 ls (.int i :: .ref r :: st) h = (ia h r i).bind fun z => go d 123 409 ls (.int z :: st) h := go_iald ke_123_408
set_option maxRecDepth 20000 in
theorem ke_123_409 : alook 123 409 = some (409, .invokevirtual 60, 3, (2, 8, 96, 8, 96), ⟨"WordHidesModel", "put", "(II)I"⟩, "") := rfl
theorem ee_123_409 {d : Nat} {ls : List Value} {h : aH} {i0 : Int32} {i1 : Int32} {r2 : Nat} {i3 : Int32} : go (d + 1) 123 409 ls [.int i0, .int i1, .ref r2, .int i3] h = if isC h r2 8 = true then (go d 96 0 [.ref r2, .int i1, .int i0, aU, aU, aU] [] h).bind (fun q => go (d + 1) 123 412 ls (q.1.toList ++ [.int i3]) q.2) else none := go_cv1 (as := [.int i1, .int i0]) (rest := [.int i3]) (L := [.ref r2, .int i1, .int i0, aU, aU, aU]) ke_123_409 rfl rfl rfl
set_option maxRecDepth 20000 in
theorem ke_123_412 : alook 123 412 = some (412, .if_icmp .eq 209, 3, (621, 0, 0, 0, 0), ⟨"", "", ""⟩, "") := rfl
theorem ee_123_412 {d : Nat} {ls st : List Value} {h : aH} {x y : Int32} : go d 123 412 ls (.int y :: .int x :: st) h = if x = y then go d 123 621 ls st h else go d 123 415 ls st h := go_ci (go_if2 (tg := 621) (q := 415) (f := fun x y => decide (x = y)) ke_123_412 rfl)
set_option maxRecDepth 20000 in
theorem ke_123_415 : alook 123 415 = some (415, .iconst 0, 1, (0, 0, 0, 0, 0), ⟨"", "", ""⟩, "") := rfl
theorem ee_123_415 {d : Nat} {h : aH} {ls st : List Value} : go d 123 415 ls st h = go d 123 416 ls (.int 0 :: st) h := go_plain (q := (416, ls, (.int 0 :: st), h)) ke_123_415 rfl
set_option maxRecDepth 20000 in
theorem ke_123_416 : alook 123 416 = some (416, .ireturn, 1, (1, 0, 0, 0, 0), ⟨"", "", ""⟩, "") := rfl
theorem ee_123_416 {d : Nat} {ls : List Value} {h : aH} : go d 123 416 ls [.int 0] h = some (some (.int 0), h) := go_zret0 ke_123_416
theorem ee_123_416T {d : Nat} {ls : List Value} {h : aH} : go d 123 416 ls [.int 1] h = some (some (.int 1), h) := go_zret1 ke_123_416
set_option maxRecDepth 20000 in
theorem ke_123_417 : alook 123 417 = some (417, .aload_n 1, 1, (0, 0, 0, 0, 0), ⟨"", "", ""⟩, "") := rfl
theorem ee_123_417 {d : Nat} {h : aH} {l0 l2 l3 : Value} {x : Nat} {st : List Value} : go d 123 417 [l0, .ref x, l2, l3] st h = go d 123 418 [l0, .ref x, l2, l3] (.ref x :: st) h := go_plain (q := (418, [l0, .ref x, l2, l3], (.ref x :: st), h)) ke_123_417 rfl
theorem ee_123_417N {d : Nat} {h : aH} {l0 l2 l3 : Value} {st : List Value} : go d 123 417 [l0, .null, l2, l3] st h = go d 123 418 [l0, .null, l2, l3] (.null :: st) h := go_plain (q := (418, [l0, .null, l2, l3], (.null :: st), h)) ke_123_417 rfl
set_option maxRecDepth 20000 in
theorem ke_123_418 : alook 123 418 = some (418, .aload_n 0, 1, (0, 0, 0, 0, 0), ⟨"", "", ""⟩, "") := rfl
theorem ee_123_418 {d : Nat} {h : aH} {l1 l2 l3 : Value} {x : Nat} {st : List Value} : go d 123 418 [.ref x, l1, l2, l3] st h = go d 123 419 [.ref x, l1, l2, l3] (.ref x :: st) h := go_plain (q := (419, [.ref x, l1, l2, l3], (.ref x :: st), h)) ke_123_418 rfl
theorem ee_123_418N {d : Nat} {h : aH} {l1 l2 l3 : Value} {st : List Value} : go d 123 418 [.null, l1, l2, l3] st h = go d 123 419 [.null, l1, l2, l3] (.null :: st) h := go_plain (q := (419, [.null, l1, l2, l3], (.null :: st), h)) ke_123_418 rfl
set_option maxRecDepth 20000 in
theorem ke_123_419 : alook 123 419 = some (419, .iload_n 3, 1, (0, 0, 0, 0, 0), ⟨"", "", ""⟩, "") := rfl
theorem ee_123_419 {d : Nat} {h : aH} {l0 l1 l2 : Value} {x : Int32} {st : List Value} : go d 123 419 [l0, l1, l2, .int x] st h = go d 123 420 [l0, l1, l2, .int x] (.int x :: st) h := go_plain (q := (420, [l0, l1, l2, .int x], (.int x :: st), h)) ke_123_419 rfl
set_option maxRecDepth 20000 in
theorem ke_123_420 : alook 123 420 = some (420, .iconst 1, 1, (0, 0, 0, 0, 0), ⟨"", "", ""⟩, "") := rfl
theorem ee_123_420 {d : Nat} {h : aH} {ls st : List Value} : go d 123 420 ls st h = go d 123 421 ls (.int 1 :: st) h := go_plain (q := (421, ls, (.int 1 :: st), h)) ke_123_420 rfl
set_option maxRecDepth 20000 in
theorem ke_123_421 : alook 123 421 = some (421, .iadd, 1, (0, 0, 0, 0, 0), ⟨"", "", ""⟩, "") := rfl
theorem ee_123_421 {d : Nat} {h : aH} {ls st : List Value} {x y : Int32} : go d 123 421 ls (.int y :: .int x :: st) h = go d 123 422 ls (.int (x + y) :: st) h := go_plain (q := (422, ls, (.int (x + y) :: st), h)) ke_123_421 rfl
set_option maxRecDepth 20000 in
theorem ke_123_422 : alook 123 422 = some (422, .iaload, 1, (0, 0, 0, 0, 0), ⟨"", "", ""⟩, "") := rfl
theorem ee_123_422 {d : Nat} {ls st : List Value} {h : aH} {r : Nat} {i : Int32} : go d 123 422 ls (.int i :: .ref r :: st) h = (ia h r i).bind fun z => go d 123 423 ls (.int z :: st) h := go_iald ke_123_422
set_option maxRecDepth 20000 in
theorem ke_123_423 : alook 123 423 = some (423, .aload_n 0, 1, (0, 0, 0, 0, 0), ⟨"", "", ""⟩, "") := rfl
theorem ee_123_423 {d : Nat} {h : aH} {l1 l2 l3 : Value} {x : Nat} {st : List Value} : go d 123 423 [.ref x, l1, l2, l3] st h = go d 123 424 [.ref x, l1, l2, l3] (.ref x :: st) h := go_plain (q := (424, [.ref x, l1, l2, l3], (.ref x :: st), h)) ke_123_423 rfl
theorem ee_123_423N {d : Nat} {h : aH} {l1 l2 l3 : Value} {st : List Value} : go d 123 423 [.null, l1, l2, l3] st h = go d 123 424 [.null, l1, l2, l3] (.null :: st) h := go_plain (q := (424, [.null, l1, l2, l3], (.null :: st), h)) ke_123_423 rfl
set_option maxRecDepth 20000 in
theorem ke_123_424 : alook 123 424 = some (424, .iload_n 3, 1, (0, 0, 0, 0, 0), ⟨"", "", ""⟩, "") := rfl
theorem ee_123_424 {d : Nat} {h : aH} {l0 l1 l2 : Value} {x : Int32} {st : List Value} : go d 123 424 [l0, l1, l2, .int x] st h = go d 123 425 [l0, l1, l2, .int x] (.int x :: st) h := go_plain (q := (425, [l0, l1, l2, .int x], (.int x :: st), h)) ke_123_424 rfl
set_option maxRecDepth 20000 in
theorem ke_123_425 : alook 123 425 = some (425, .iconst 2, 1, (0, 0, 0, 0, 0), ⟨"", "", ""⟩, "") := rfl
theorem ee_123_425 {d : Nat} {h : aH} {ls st : List Value} : go d 123 425 ls st h = go d 123 426 ls (.int 2 :: st) h := go_plain (q := (426, ls, (.int 2 :: st), h)) ke_123_425 rfl
set_option maxRecDepth 20000 in
theorem ke_123_426 : alook 123 426 = some (426, .iadd, 1, (0, 0, 0, 0, 0), ⟨"", "", ""⟩, "") := rfl
theorem ee_123_426 {d : Nat} {h : aH} {ls st : List Value} {x y : Int32} : go d 123 426 ls (.int y :: .int x :: st) h = go d 123 427 ls (.int (x + y) :: st) h := go_plain (q := (427, ls, (.int (x + y) :: st), h)) ke_123_426 rfl
set_option maxRecDepth 20000 in
theorem ke_123_427 : alook 123 427 = some (427, .iaload, 1, (0, 0, 0, 0, 0), ⟨"", "", ""⟩, "") := rfl
theorem ee_123_427 {d : Nat} {ls st : List Value} {h : aH} {r : Nat} {i : Int32} : go d 123 427 ls (.int i :: .ref r :: st) h = (ia h r i).bind fun z => go d 123 428 ls (.int z :: st) h := go_iald ke_123_427
set_option maxRecDepth 20000 in
theorem ke_123_428 : alook 123 428 = some (428, .invokevirtual 61, 3, (2, 7, 52, 7, 52), ⟨"WordHides", "fits", "(II)I"⟩, "") := rfl
theorem ee_123_428 {d : Nat} {ls : List Value} {h : aH} {i0 : Int32} {i1 : Int32} {r2 : Nat} : go (d + 1) 123 428 ls [.int i0, .int i1, .ref r2] h = if isC h r2 7 = true then (go d 52 0 [.ref r2, .int i1, .int i0, aU, aU, aU, aU] [] h).bind (fun q => go (d + 1) 123 431 ls (q.1.toList ++ []) q.2) else none := go_cv1 (as := [.int i1, .int i0]) (rest := []) (L := [.ref r2, .int i1, .int i0, aU, aU, aU, aU]) ke_123_428 rfl rfl rfl
set_option maxRecDepth 20000 in
theorem ke_123_431 : alook 123 431 = some (431, .aload_n 2, 1, (0, 0, 0, 0, 0), ⟨"", "", ""⟩, "") := rfl
theorem ee_123_431 {d : Nat} {h : aH} {l0 l1 l3 : Value} {x : Nat} {st : List Value} : go d 123 431 [l0, l1, .ref x, l3] st h = go d 123 432 [l0, l1, .ref x, l3] (.ref x :: st) h := go_plain (q := (432, [l0, l1, .ref x, l3], (.ref x :: st), h)) ke_123_431 rfl
theorem ee_123_431N {d : Nat} {h : aH} {l0 l1 l3 : Value} {st : List Value} : go d 123 431 [l0, l1, .null, l3] st h = go d 123 432 [l0, l1, .null, l3] (.null :: st) h := go_plain (q := (432, [l0, l1, .null, l3], (.null :: st), h)) ke_123_431 rfl
set_option maxRecDepth 20000 in
theorem ke_123_432 : alook 123 432 = some (432, .aload_n 0, 1, (0, 0, 0, 0, 0), ⟨"", "", ""⟩, "") := rfl
theorem ee_123_432 {d : Nat} {h : aH} {l1 l2 l3 : Value} {x : Nat} {st : List Value} : go d 123 432 [.ref x, l1, l2, l3] st h = go d 123 433 [.ref x, l1, l2, l3] (.ref x :: st) h := go_plain (q := (433, [.ref x, l1, l2, l3], (.ref x :: st), h)) ke_123_432 rfl
theorem ee_123_432N {d : Nat} {h : aH} {l1 l2 l3 : Value} {st : List Value} : go d 123 432 [.null, l1, l2, l3] st h = go d 123 433 [.null, l1, l2, l3] (.null :: st) h := go_plain (q := (433, [.null, l1, l2, l3], (.null :: st), h)) ke_123_432 rfl
set_option maxRecDepth 20000 in
theorem ke_123_433 : alook 123 433 = some (433, .iload_n 3, 1, (0, 0, 0, 0, 0), ⟨"", "", ""⟩, "") := rfl
theorem ee_123_433 {d : Nat} {h : aH} {l0 l1 l2 : Value} {x : Int32} {st : List Value} : go d 123 433 [l0, l1, l2, .int x] st h = go d 123 434 [l0, l1, l2, .int x] (.int x :: st) h := go_plain (q := (434, [l0, l1, l2, .int x], (.int x :: st), h)) ke_123_433 rfl
set_option maxRecDepth 20000 in
theorem ke_123_434 : alook 123 434 = some (434, .iconst 1, 1, (0, 0, 0, 0, 0), ⟨"", "", ""⟩, "") := rfl
theorem ee_123_434 {d : Nat} {h : aH} {ls st : List Value} : go d 123 434 ls st h = go d 123 435 ls (.int 1 :: st) h := go_plain (q := (435, ls, (.int 1 :: st), h)) ke_123_434 rfl
set_option maxRecDepth 20000 in
theorem ke_123_435 : alook 123 435 = some (435, .iadd, 1, (0, 0, 0, 0, 0), ⟨"", "", ""⟩, "") := rfl
theorem ee_123_435 {d : Nat} {h : aH} {ls st : List Value} {x y : Int32} : go d 123 435 ls (.int y :: .int x :: st) h = go d 123 436 ls (.int (x + y) :: st) h := go_plain (q := (436, ls, (.int (x + y) :: st), h)) ke_123_435 rfl
set_option maxRecDepth 20000 in
theorem ke_123_436 : alook 123 436 = some (436, .iaload, 1, (0, 0, 0, 0, 0), ⟨"", "", ""⟩, "") := rfl
theorem ee_123_436 {d : Nat} {ls st : List Value} {h : aH} {r : Nat} {i : Int32} : go d 123 436 ls (.int i :: .ref r :: st) h = (ia h r i).bind fun z => go d 123 437 ls (.int z :: st) h := go_iald ke_123_436
set_option maxRecDepth 20000 in
theorem ke_123_437 : alook 123 437 = some (437, .aload_n 0, 1, (0, 0, 0, 0, 0), ⟨"", "", ""⟩, "") := rfl
theorem ee_123_437 {d : Nat} {h : aH} {l1 l2 l3 : Value} {x : Nat} {st : List Value} : go d 123 437 [.ref x, l1, l2, l3] st h = go d 123 438 [.ref x, l1, l2, l3] (.ref x :: st) h := go_plain (q := (438, [.ref x, l1, l2, l3], (.ref x :: st), h)) ke_123_437 rfl
theorem ee_123_437N {d : Nat} {h : aH} {l1 l2 l3 : Value} {st : List Value} : go d 123 437 [.null, l1, l2, l3] st h = go d 123 438 [.null, l1, l2, l3] (.null :: st) h := go_plain (q := (438, [.null, l1, l2, l3], (.null :: st), h)) ke_123_437 rfl
set_option maxRecDepth 20000 in
theorem ke_123_438 : alook 123 438 = some (438, .iload_n 3, 1, (0, 0, 0, 0, 0), ⟨"", "", ""⟩, "") := rfl
theorem ee_123_438 {d : Nat} {h : aH} {l0 l1 l2 : Value} {x : Int32} {st : List Value} : go d 123 438 [l0, l1, l2, .int x] st h = go d 123 439 [l0, l1, l2, .int x] (.int x :: st) h := go_plain (q := (439, [l0, l1, l2, .int x], (.int x :: st), h)) ke_123_438 rfl
set_option maxRecDepth 20000 in
theorem ke_123_439 : alook 123 439 = some (439, .iconst 2, 1, (0, 0, 0, 0, 0), ⟨"", "", ""⟩, "") := rfl
theorem ee_123_439 {d : Nat} {h : aH} {ls st : List Value} : go d 123 439 ls st h = go d 123 440 ls (.int 2 :: st) h := go_plain (q := (440, ls, (.int 2 :: st), h)) ke_123_439 rfl
set_option maxRecDepth 20000 in
theorem ke_123_440 : alook 123 440 = some (440, .iadd, 1, (0, 0, 0, 0, 0), ⟨"", "", ""⟩, "") := rfl
theorem ee_123_440 {d : Nat} {h : aH} {ls st : List Value} {x y : Int32} : go d 123 440 ls (.int y :: .int x :: st) h = go d 123 441 ls (.int (x + y) :: st) h := go_plain (q := (441, ls, (.int (x + y) :: st), h)) ke_123_440 rfl
set_option maxRecDepth 20000 in
theorem ke_123_441 : alook 123 441 = some (441, .iaload, 1, (0, 0, 0, 0, 0), ⟨"", "", ""⟩, "") := rfl
theorem ee_123_441 {d : Nat} {ls st : List Value} {h : aH} {r : Nat} {i : Int32} : go d 123 441 ls (.int i :: .ref r :: st) h = (ia h r i).bind fun z => go d 123 442 ls (.int z :: st) h := go_iald ke_123_441
set_option maxRecDepth 20000 in
theorem ke_123_442 : alook 123 442 = some (442, .invokevirtual 64, 3, (2, 8, 97, 8, 97), ⟨"WordHidesModel", "fits", "(II)I"⟩, "") := rfl
theorem ee_123_442 {d : Nat} {ls : List Value} {h : aH} {i0 : Int32} {i1 : Int32} {r2 : Nat} {i3 : Int32} : go (d + 1) 123 442 ls [.int i0, .int i1, .ref r2, .int i3] h = if isC h r2 8 = true then (go d 97 0 [.ref r2, .int i1, .int i0, aU, aU] [] h).bind (fun q => go (d + 1) 123 445 ls (q.1.toList ++ [.int i3]) q.2) else none := go_cv1 (as := [.int i1, .int i0]) (rest := [.int i3]) (L := [.ref r2, .int i1, .int i0, aU, aU]) ke_123_442 rfl rfl rfl
set_option maxRecDepth 20000 in
theorem ke_123_445 : alook 123 445 = some (445, .if_icmp .eq 176, 3, (621, 0, 0, 0, 0), ⟨"", "", ""⟩, "") := rfl
theorem ee_123_445 {d : Nat} {ls st : List Value} {h : aH} {x y : Int32} : go d 123 445 ls (.int y :: .int x :: st) h = if x = y then go d 123 621 ls st h else go d 123 448 ls st h := go_ci (go_if2 (tg := 621) (q := 448) (f := fun x y => decide (x = y)) ke_123_445 rfl)
set_option maxRecDepth 20000 in
theorem ke_123_448 : alook 123 448 = some (448, .iconst 0, 1, (0, 0, 0, 0, 0), ⟨"", "", ""⟩, "") := rfl
theorem ee_123_448 {d : Nat} {h : aH} {ls st : List Value} : go d 123 448 ls st h = go d 123 449 ls (.int 0 :: st) h := go_plain (q := (449, ls, (.int 0 :: st), h)) ke_123_448 rfl
set_option maxRecDepth 20000 in
theorem ke_123_449 : alook 123 449 = some (449, .ireturn, 1, (1, 0, 0, 0, 0), ⟨"", "", ""⟩, "") := rfl
theorem ee_123_449 {d : Nat} {ls : List Value} {h : aH} : go d 123 449 ls [.int 0] h = some (some (.int 0), h) := go_zret0 ke_123_449
theorem ee_123_449T {d : Nat} {ls : List Value} {h : aH} : go d 123 449 ls [.int 1] h = some (some (.int 1), h) := go_zret1 ke_123_449
set_option maxRecDepth 20000 in
theorem ke_123_450 : alook 123 450 = some (450, .aload_n 1, 1, (0, 0, 0, 0, 0), ⟨"", "", ""⟩, "") := rfl
theorem ee_123_450 {d : Nat} {h : aH} {l0 l2 l3 : Value} {x : Nat} {st : List Value} : go d 123 450 [l0, .ref x, l2, l3] st h = go d 123 451 [l0, .ref x, l2, l3] (.ref x :: st) h := go_plain (q := (451, [l0, .ref x, l2, l3], (.ref x :: st), h)) ke_123_450 rfl
theorem ee_123_450N {d : Nat} {h : aH} {l0 l2 l3 : Value} {st : List Value} : go d 123 450 [l0, .null, l2, l3] st h = go d 123 451 [l0, .null, l2, l3] (.null :: st) h := go_plain (q := (451, [l0, .null, l2, l3], (.null :: st), h)) ke_123_450 rfl
set_option maxRecDepth 20000 in
theorem ke_123_451 : alook 123 451 = some (451, .aload_n 0, 1, (0, 0, 0, 0, 0), ⟨"", "", ""⟩, "") := rfl
theorem ee_123_451 {d : Nat} {h : aH} {l1 l2 l3 : Value} {x : Nat} {st : List Value} : go d 123 451 [.ref x, l1, l2, l3] st h = go d 123 452 [.ref x, l1, l2, l3] (.ref x :: st) h := go_plain (q := (452, [.ref x, l1, l2, l3], (.ref x :: st), h)) ke_123_451 rfl
theorem ee_123_451N {d : Nat} {h : aH} {l1 l2 l3 : Value} {st : List Value} : go d 123 451 [.null, l1, l2, l3] st h = go d 123 452 [.null, l1, l2, l3] (.null :: st) h := go_plain (q := (452, [.null, l1, l2, l3], (.null :: st), h)) ke_123_451 rfl
set_option maxRecDepth 20000 in
theorem ke_123_452 : alook 123 452 = some (452, .iload_n 3, 1, (0, 0, 0, 0, 0), ⟨"", "", ""⟩, "") := rfl
theorem ee_123_452 {d : Nat} {h : aH} {l0 l1 l2 : Value} {x : Int32} {st : List Value} : go d 123 452 [l0, l1, l2, .int x] st h = go d 123 453 [l0, l1, l2, .int x] (.int x :: st) h := go_plain (q := (453, [l0, l1, l2, .int x], (.int x :: st), h)) ke_123_452 rfl
set_option maxRecDepth 20000 in
theorem ke_123_453 : alook 123 453 = some (453, .iconst 1, 1, (0, 0, 0, 0, 0), ⟨"", "", ""⟩, "") := rfl
theorem ee_123_453 {d : Nat} {h : aH} {ls st : List Value} : go d 123 453 ls st h = go d 123 454 ls (.int 1 :: st) h := go_plain (q := (454, ls, (.int 1 :: st), h)) ke_123_453 rfl
set_option maxRecDepth 20000 in
theorem ke_123_454 : alook 123 454 = some (454, .iadd, 1, (0, 0, 0, 0, 0), ⟨"", "", ""⟩, "") := rfl
theorem ee_123_454 {d : Nat} {h : aH} {ls st : List Value} {x y : Int32} : go d 123 454 ls (.int y :: .int x :: st) h = go d 123 455 ls (.int (x + y) :: st) h := go_plain (q := (455, ls, (.int (x + y) :: st), h)) ke_123_454 rfl
set_option maxRecDepth 20000 in
theorem ke_123_455 : alook 123 455 = some (455, .iaload, 1, (0, 0, 0, 0, 0), ⟨"", "", ""⟩, "") := rfl
theorem ee_123_455 {d : Nat} {ls st : List Value} {h : aH} {r : Nat} {i : Int32} : go d 123 455 ls (.int i :: .ref r :: st) h = (ia h r i).bind fun z => go d 123 456 ls (.int z :: st) h := go_iald ke_123_455
set_option maxRecDepth 20000 in
theorem ke_123_456 : alook 123 456 = some (456, .invokevirtual 65, 3, (1, 7, 53, 7, 53), ⟨"WordHides", "most", "(I)I"⟩, "") := rfl
theorem ee_123_456 {d : Nat} {ls : List Value} {h : aH} {i0 : Int32} {r1 : Nat} : go (d + 1) 123 456 ls [.int i0, .ref r1] h = if isC h r1 7 = true then (go d 53 0 [.ref r1, .int i0, aU] [] h).bind (fun q => go (d + 1) 123 459 ls (q.1.toList ++ []) q.2) else none := go_cv1 (as := [.int i0]) (rest := []) (L := [.ref r1, .int i0, aU]) ke_123_456 rfl rfl rfl
set_option maxRecDepth 20000 in
theorem ke_123_459 : alook 123 459 = some (459, .aload_n 2, 1, (0, 0, 0, 0, 0), ⟨"", "", ""⟩, "") := rfl
theorem ee_123_459 {d : Nat} {h : aH} {l0 l1 l3 : Value} {x : Nat} {st : List Value} : go d 123 459 [l0, l1, .ref x, l3] st h = go d 123 460 [l0, l1, .ref x, l3] (.ref x :: st) h := go_plain (q := (460, [l0, l1, .ref x, l3], (.ref x :: st), h)) ke_123_459 rfl
theorem ee_123_459N {d : Nat} {h : aH} {l0 l1 l3 : Value} {st : List Value} : go d 123 459 [l0, l1, .null, l3] st h = go d 123 460 [l0, l1, .null, l3] (.null :: st) h := go_plain (q := (460, [l0, l1, .null, l3], (.null :: st), h)) ke_123_459 rfl
set_option maxRecDepth 20000 in
theorem ke_123_460 : alook 123 460 = some (460, .aload_n 0, 1, (0, 0, 0, 0, 0), ⟨"", "", ""⟩, "") := rfl
theorem ee_123_460 {d : Nat} {h : aH} {l1 l2 l3 : Value} {x : Nat} {st : List Value} : go d 123 460 [.ref x, l1, l2, l3] st h = go d 123 461 [.ref x, l1, l2, l3] (.ref x :: st) h := go_plain (q := (461, [.ref x, l1, l2, l3], (.ref x :: st), h)) ke_123_460 rfl
theorem ee_123_460N {d : Nat} {h : aH} {l1 l2 l3 : Value} {st : List Value} : go d 123 460 [.null, l1, l2, l3] st h = go d 123 461 [.null, l1, l2, l3] (.null :: st) h := go_plain (q := (461, [.null, l1, l2, l3], (.null :: st), h)) ke_123_460 rfl
set_option maxRecDepth 20000 in
theorem ke_123_461 : alook 123 461 = some (461, .iload_n 3, 1, (0, 0, 0, 0, 0), ⟨"", "", ""⟩, "") := rfl
theorem ee_123_461 {d : Nat} {h : aH} {l0 l1 l2 : Value} {x : Int32} {st : List Value} : go d 123 461 [l0, l1, l2, .int x] st h = go d 123 462 [l0, l1, l2, .int x] (.int x :: st) h := go_plain (q := (462, [l0, l1, l2, .int x], (.int x :: st), h)) ke_123_461 rfl
set_option maxRecDepth 20000 in
theorem ke_123_462 : alook 123 462 = some (462, .iconst 1, 1, (0, 0, 0, 0, 0), ⟨"", "", ""⟩, "") := rfl
theorem ee_123_462 {d : Nat} {h : aH} {ls st : List Value} : go d 123 462 ls st h = go d 123 463 ls (.int 1 :: st) h := go_plain (q := (463, ls, (.int 1 :: st), h)) ke_123_462 rfl
set_option maxRecDepth 20000 in
theorem ke_123_463 : alook 123 463 = some (463, .iadd, 1, (0, 0, 0, 0, 0), ⟨"", "", ""⟩, "") := rfl
theorem ee_123_463 {d : Nat} {h : aH} {ls st : List Value} {x y : Int32} : go d 123 463 ls (.int y :: .int x :: st) h = go d 123 464 ls (.int (x + y) :: st) h := go_plain (q := (464, ls, (.int (x + y) :: st), h)) ke_123_463 rfl
set_option maxRecDepth 20000 in
theorem ke_123_464 : alook 123 464 = some (464, .iaload, 1, (0, 0, 0, 0, 0), ⟨"", "", ""⟩, "") := rfl
theorem ee_123_464 {d : Nat} {ls st : List Value} {h : aH} {r : Nat} {i : Int32} : go d 123 464 ls (.int i :: .ref r :: st) h = (ia h r i).bind fun z => go d 123 465 ls (.int z :: st) h := go_iald ke_123_464
set_option maxRecDepth 20000 in
theorem ke_123_465 : alook 123 465 = some (465, .invokevirtual 68, 3, (1, 8, 105, 8, 105), ⟨"WordHidesModel", "most", "(I)I"⟩, "") := rfl
theorem ee_123_465 {d : Nat} {ls : List Value} {h : aH} {i0 : Int32} {r1 : Nat} {i2 : Int32} : go (d + 1) 123 465 ls [.int i0, .ref r1, .int i2] h = if isC h r1 8 = true then (go d 105 0 [.ref r1, .int i0] [] h).bind (fun q => go (d + 1) 123 468 ls (q.1.toList ++ [.int i2]) q.2) else none := go_cv1 (as := [.int i0]) (rest := [.int i2]) (L := [.ref r1, .int i0]) ke_123_465 rfl rfl rfl
set_option maxRecDepth 20000 in
theorem ke_123_468 : alook 123 468 = some (468, .if_icmp .eq 153, 3, (621, 0, 0, 0, 0), ⟨"", "", ""⟩, "") := rfl
theorem ee_123_468 {d : Nat} {ls st : List Value} {h : aH} {x y : Int32} : go d 123 468 ls (.int y :: .int x :: st) h = if x = y then go d 123 621 ls st h else go d 123 471 ls st h := go_ci (go_if2 (tg := 621) (q := 471) (f := fun x y => decide (x = y)) ke_123_468 rfl)
set_option maxRecDepth 20000 in
theorem ke_123_471 : alook 123 471 = some (471, .iconst 0, 1, (0, 0, 0, 0, 0), ⟨"", "", ""⟩, "") := rfl
theorem ee_123_471 {d : Nat} {h : aH} {ls st : List Value} : go d 123 471 ls st h = go d 123 472 ls (.int 0 :: st) h := go_plain (q := (472, ls, (.int 0 :: st), h)) ke_123_471 rfl
set_option maxRecDepth 20000 in
theorem ke_123_472 : alook 123 472 = some (472, .ireturn, 1, (1, 0, 0, 0, 0), ⟨"", "", ""⟩, "") := rfl
theorem ee_123_472 {d : Nat} {ls : List Value} {h : aH} : go d 123 472 ls [.int 0] h = some (some (.int 0), h) := go_zret0 ke_123_472
theorem ee_123_472T {d : Nat} {ls : List Value} {h : aH} : go d 123 472 ls [.int 1] h = some (some (.int 1), h) := go_zret1 ke_123_472
set_option maxRecDepth 20000 in
theorem ke_123_473 : alook 123 473 = some (473, .aload_n 1, 1, (0, 0, 0, 0, 0), ⟨"", "", ""⟩, "") := rfl
theorem ee_123_473 {d : Nat} {h : aH} {l0 l2 l3 : Value} {x : Nat} {st : List Value} : go d 123 473 [l0, .ref x, l2, l3] st h = go d 123 474 [l0, .ref x, l2, l3] (.ref x :: st) h := go_plain (q := (474, [l0, .ref x, l2, l3], (.ref x :: st), h)) ke_123_473 rfl
theorem ee_123_473N {d : Nat} {h : aH} {l0 l2 l3 : Value} {st : List Value} : go d 123 473 [l0, .null, l2, l3] st h = go d 123 474 [l0, .null, l2, l3] (.null :: st) h := go_plain (q := (474, [l0, .null, l2, l3], (.null :: st), h)) ke_123_473 rfl
set_option maxRecDepth 20000 in
theorem ke_123_474 : alook 123 474 = some (474, .aload_n 0, 1, (0, 0, 0, 0, 0), ⟨"", "", ""⟩, "") := rfl
theorem ee_123_474 {d : Nat} {h : aH} {l1 l2 l3 : Value} {x : Nat} {st : List Value} : go d 123 474 [.ref x, l1, l2, l3] st h = go d 123 475 [.ref x, l1, l2, l3] (.ref x :: st) h := go_plain (q := (475, [.ref x, l1, l2, l3], (.ref x :: st), h)) ke_123_474 rfl
theorem ee_123_474N {d : Nat} {h : aH} {l1 l2 l3 : Value} {st : List Value} : go d 123 474 [.null, l1, l2, l3] st h = go d 123 475 [.null, l1, l2, l3] (.null :: st) h := go_plain (q := (475, [.null, l1, l2, l3], (.null :: st), h)) ke_123_474 rfl
set_option maxRecDepth 20000 in
theorem ke_123_475 : alook 123 475 = some (475, .iload_n 3, 1, (0, 0, 0, 0, 0), ⟨"", "", ""⟩, "") := rfl
theorem ee_123_475 {d : Nat} {h : aH} {l0 l1 l2 : Value} {x : Int32} {st : List Value} : go d 123 475 [l0, l1, l2, .int x] st h = go d 123 476 [l0, l1, l2, .int x] (.int x :: st) h := go_plain (q := (476, [l0, l1, l2, .int x], (.int x :: st), h)) ke_123_475 rfl
set_option maxRecDepth 20000 in
theorem ke_123_476 : alook 123 476 = some (476, .iconst 1, 1, (0, 0, 0, 0, 0), ⟨"", "", ""⟩, "") := rfl
theorem ee_123_476 {d : Nat} {h : aH} {ls st : List Value} : go d 123 476 ls st h = go d 123 477 ls (.int 1 :: st) h := go_plain (q := (477, ls, (.int 1 :: st), h)) ke_123_476 rfl
set_option maxRecDepth 20000 in
theorem ke_123_477 : alook 123 477 = some (477, .iadd, 1, (0, 0, 0, 0, 0), ⟨"", "", ""⟩, "") := rfl
theorem ee_123_477 {d : Nat} {h : aH} {ls st : List Value} {x y : Int32} : go d 123 477 ls (.int y :: .int x :: st) h = go d 123 478 ls (.int (x + y) :: st) h := go_plain (q := (478, ls, (.int (x + y) :: st), h)) ke_123_477 rfl
set_option maxRecDepth 20000 in
theorem ke_123_478 : alook 123 478 = some (478, .iaload, 1, (0, 0, 0, 0, 0), ⟨"", "", ""⟩, "") := rfl
theorem ee_123_478 {d : Nat} {ls st : List Value} {h : aH} {r : Nat} {i : Int32} : go d 123 478 ls (.int i :: .ref r :: st) h = (ia h r i).bind fun z => go d 123 479 ls (.int z :: st) h := go_iald ke_123_478
set_option maxRecDepth 20000 in
theorem ke_123_479 : alook 123 479 = some (479, .aload_n 0, 1, (0, 0, 0, 0, 0), ⟨"", "", ""⟩, "") := rfl
theorem ee_123_479 {d : Nat} {h : aH} {l1 l2 l3 : Value} {x : Nat} {st : List Value} : go d 123 479 [.ref x, l1, l2, l3] st h = go d 123 480 [.ref x, l1, l2, l3] (.ref x :: st) h := go_plain (q := (480, [.ref x, l1, l2, l3], (.ref x :: st), h)) ke_123_479 rfl
theorem ee_123_479N {d : Nat} {h : aH} {l1 l2 l3 : Value} {st : List Value} : go d 123 479 [.null, l1, l2, l3] st h = go d 123 480 [.null, l1, l2, l3] (.null :: st) h := go_plain (q := (480, [.null, l1, l2, l3], (.null :: st), h)) ke_123_479 rfl
set_option maxRecDepth 20000 in
theorem ke_123_480 : alook 123 480 = some (480, .iload_n 3, 1, (0, 0, 0, 0, 0), ⟨"", "", ""⟩, "") := rfl
theorem ee_123_480 {d : Nat} {h : aH} {l0 l1 l2 : Value} {x : Int32} {st : List Value} : go d 123 480 [l0, l1, l2, .int x] st h = go d 123 481 [l0, l1, l2, .int x] (.int x :: st) h := go_plain (q := (481, [l0, l1, l2, .int x], (.int x :: st), h)) ke_123_480 rfl
set_option maxRecDepth 20000 in
theorem ke_123_481 : alook 123 481 = some (481, .iconst 2, 1, (0, 0, 0, 0, 0), ⟨"", "", ""⟩, "") := rfl
theorem ee_123_481 {d : Nat} {h : aH} {ls st : List Value} : go d 123 481 ls st h = go d 123 482 ls (.int 2 :: st) h := go_plain (q := (482, ls, (.int 2 :: st), h)) ke_123_481 rfl
set_option maxRecDepth 20000 in
theorem ke_123_482 : alook 123 482 = some (482, .iadd, 1, (0, 0, 0, 0, 0), ⟨"", "", ""⟩, "") := rfl
theorem ee_123_482 {d : Nat} {h : aH} {ls st : List Value} {x y : Int32} : go d 123 482 ls (.int y :: .int x :: st) h = go d 123 483 ls (.int (x + y) :: st) h := go_plain (q := (483, ls, (.int (x + y) :: st), h)) ke_123_482 rfl
set_option maxRecDepth 20000 in
theorem ke_123_483 : alook 123 483 = some (483, .iaload, 1, (0, 0, 0, 0, 0), ⟨"", "", ""⟩, "") := rfl
theorem ee_123_483 {d : Nat} {ls st : List Value} {h : aH} {r : Nat} {i : Int32} : go d 123 483 ls (.int i :: .ref r :: st) h = (ia h r i).bind fun z => go d 123 484 ls (.int z :: st) h := go_iald ke_123_483
set_option maxRecDepth 20000 in
theorem ke_123_484 : alook 123 484 = some (484, .aload_n 0, 1, (0, 0, 0, 0, 0), ⟨"", "", ""⟩, "") := rfl
theorem ee_123_484 {d : Nat} {h : aH} {l1 l2 l3 : Value} {x : Nat} {st : List Value} : go d 123 484 [.ref x, l1, l2, l3] st h = go d 123 485 [.ref x, l1, l2, l3] (.ref x :: st) h := go_plain (q := (485, [.ref x, l1, l2, l3], (.ref x :: st), h)) ke_123_484 rfl
theorem ee_123_484N {d : Nat} {h : aH} {l1 l2 l3 : Value} {st : List Value} : go d 123 484 [.null, l1, l2, l3] st h = go d 123 485 [.null, l1, l2, l3] (.null :: st) h := go_plain (q := (485, [.null, l1, l2, l3], (.null :: st), h)) ke_123_484 rfl
set_option maxRecDepth 20000 in
theorem ke_123_485 : alook 123 485 = some (485, .iload_n 3, 1, (0, 0, 0, 0, 0), ⟨"", "", ""⟩, "") := rfl
theorem ee_123_485 {d : Nat} {h : aH} {l0 l1 l2 : Value} {x : Int32} {st : List Value} : go d 123 485 [l0, l1, l2, .int x] st h = go d 123 486 [l0, l1, l2, .int x] (.int x :: st) h := go_plain (q := (486, [l0, l1, l2, .int x], (.int x :: st), h)) ke_123_485 rfl
set_option maxRecDepth 20000 in
theorem ke_123_486 : alook 123 486 = some (486, .iconst 3, 1, (0, 0, 0, 0, 0), ⟨"", "", ""⟩, "") := rfl
theorem ee_123_486 {d : Nat} {h : aH} {ls st : List Value} : go d 123 486 ls st h = go d 123 487 ls (.int 3 :: st) h := go_plain (q := (487, ls, (.int 3 :: st), h)) ke_123_486 rfl
set_option maxRecDepth 20000 in
theorem ke_123_487 : alook 123 487 = some (487, .iadd, 1, (0, 0, 0, 0, 0), ⟨"", "", ""⟩, "") := rfl
theorem ee_123_487 {d : Nat} {h : aH} {ls st : List Value} {x y : Int32} : go d 123 487 ls (.int y :: .int x :: st) h = go d 123 488 ls (.int (x + y) :: st) h := go_plain (q := (488, ls, (.int (x + y) :: st), h)) ke_123_487 rfl
set_option maxRecDepth 20000 in
theorem ke_123_488 : alook 123 488 = some (488, .iaload, 1, (0, 0, 0, 0, 0), ⟨"", "", ""⟩, "") := rfl
theorem ee_123_488 {d : Nat} {ls st : List Value} {h : aH} {r : Nat} {i : Int32} : go d 123 488 ls (.int i :: .ref r :: st) h = (ia h r i).bind fun z => go d 123 489 ls (.int z :: st) h := go_iald ke_123_488
set_option maxRecDepth 20000 in
theorem ke_123_489 : alook 123 489 = some (489, .invokevirtual 69, 3, (3, 7, 54, 7, 54), ⟨"WordHides", "covers", "(III)I"⟩, "") := rfl
theorem ee_123_489 {d : Nat} {ls : List Value} {h : aH} {i0 : Int32} {i1 : Int32} {i2 : Int32} {r3 : Nat} : go (d + 1) 123 489 ls [.int i0, .int i1, .int i2, .ref r3] h = if isC h r3 7 = true then (go d 54 0 [.ref r3, .int i2, .int i1, .int i0, aU, aU, aU, aU, aU, aU] [] h).bind (fun q => go (d + 1) 123 492 ls (q.1.toList ++ []) q.2) else none := go_cv1 (as := [.int i2, .int i1, .int i0]) (rest := []) (L := [.ref r3, .int i2, .int i1, .int i0, aU, aU, aU, aU, aU, aU]) ke_123_489 rfl rfl rfl
set_option maxRecDepth 20000 in
theorem ke_123_492 : alook 123 492 = some (492, .aload_n 2, 1, (0, 0, 0, 0, 0), ⟨"", "", ""⟩, "") := rfl
theorem ee_123_492 {d : Nat} {h : aH} {l0 l1 l3 : Value} {x : Nat} {st : List Value} : go d 123 492 [l0, l1, .ref x, l3] st h = go d 123 493 [l0, l1, .ref x, l3] (.ref x :: st) h := go_plain (q := (493, [l0, l1, .ref x, l3], (.ref x :: st), h)) ke_123_492 rfl
theorem ee_123_492N {d : Nat} {h : aH} {l0 l1 l3 : Value} {st : List Value} : go d 123 492 [l0, l1, .null, l3] st h = go d 123 493 [l0, l1, .null, l3] (.null :: st) h := go_plain (q := (493, [l0, l1, .null, l3], (.null :: st), h)) ke_123_492 rfl
set_option maxRecDepth 20000 in
theorem ke_123_493 : alook 123 493 = some (493, .aload_n 0, 1, (0, 0, 0, 0, 0), ⟨"", "", ""⟩, "") := rfl
theorem ee_123_493 {d : Nat} {h : aH} {l1 l2 l3 : Value} {x : Nat} {st : List Value} : go d 123 493 [.ref x, l1, l2, l3] st h = go d 123 494 [.ref x, l1, l2, l3] (.ref x :: st) h := go_plain (q := (494, [.ref x, l1, l2, l3], (.ref x :: st), h)) ke_123_493 rfl
theorem ee_123_493N {d : Nat} {h : aH} {l1 l2 l3 : Value} {st : List Value} : go d 123 493 [.null, l1, l2, l3] st h = go d 123 494 [.null, l1, l2, l3] (.null :: st) h := go_plain (q := (494, [.null, l1, l2, l3], (.null :: st), h)) ke_123_493 rfl
set_option maxRecDepth 20000 in
theorem ke_123_494 : alook 123 494 = some (494, .iload_n 3, 1, (0, 0, 0, 0, 0), ⟨"", "", ""⟩, "") := rfl
theorem ee_123_494 {d : Nat} {h : aH} {l0 l1 l2 : Value} {x : Int32} {st : List Value} : go d 123 494 [l0, l1, l2, .int x] st h = go d 123 495 [l0, l1, l2, .int x] (.int x :: st) h := go_plain (q := (495, [l0, l1, l2, .int x], (.int x :: st), h)) ke_123_494 rfl
set_option maxRecDepth 20000 in
theorem ke_123_495 : alook 123 495 = some (495, .iconst 1, 1, (0, 0, 0, 0, 0), ⟨"", "", ""⟩, "") := rfl
theorem ee_123_495 {d : Nat} {h : aH} {ls st : List Value} : go d 123 495 ls st h = go d 123 496 ls (.int 1 :: st) h := go_plain (q := (496, ls, (.int 1 :: st), h)) ke_123_495 rfl
set_option maxRecDepth 20000 in
theorem ke_123_496 : alook 123 496 = some (496, .iadd, 1, (0, 0, 0, 0, 0), ⟨"", "", ""⟩, "") := rfl
theorem ee_123_496 {d : Nat} {h : aH} {ls st : List Value} {x y : Int32} : go d 123 496 ls (.int y :: .int x :: st) h = go d 123 497 ls (.int (x + y) :: st) h := go_plain (q := (497, ls, (.int (x + y) :: st), h)) ke_123_496 rfl
set_option maxRecDepth 20000 in
theorem ke_123_497 : alook 123 497 = some (497, .iaload, 1, (0, 0, 0, 0, 0), ⟨"", "", ""⟩, "") := rfl
theorem ee_123_497 {d : Nat} {ls st : List Value} {h : aH} {r : Nat} {i : Int32} : go d 123 497 ls (.int i :: .ref r :: st) h = (ia h r i).bind fun z => go d 123 498 ls (.int z :: st) h := go_iald ke_123_497
set_option maxRecDepth 20000 in
theorem ke_123_498 : alook 123 498 = some (498, .aload_n 0, 1, (0, 0, 0, 0, 0), ⟨"", "", ""⟩, "") := rfl
theorem ee_123_498 {d : Nat} {h : aH} {l1 l2 l3 : Value} {x : Nat} {st : List Value} : go d 123 498 [.ref x, l1, l2, l3] st h = go d 123 499 [.ref x, l1, l2, l3] (.ref x :: st) h := go_plain (q := (499, [.ref x, l1, l2, l3], (.ref x :: st), h)) ke_123_498 rfl
theorem ee_123_498N {d : Nat} {h : aH} {l1 l2 l3 : Value} {st : List Value} : go d 123 498 [.null, l1, l2, l3] st h = go d 123 499 [.null, l1, l2, l3] (.null :: st) h := go_plain (q := (499, [.null, l1, l2, l3], (.null :: st), h)) ke_123_498 rfl
set_option maxRecDepth 20000 in
theorem ke_123_499 : alook 123 499 = some (499, .iload_n 3, 1, (0, 0, 0, 0, 0), ⟨"", "", ""⟩, "") := rfl
theorem ee_123_499 {d : Nat} {h : aH} {l0 l1 l2 : Value} {x : Int32} {st : List Value} : go d 123 499 [l0, l1, l2, .int x] st h = go d 123 500 [l0, l1, l2, .int x] (.int x :: st) h := go_plain (q := (500, [l0, l1, l2, .int x], (.int x :: st), h)) ke_123_499 rfl
set_option maxRecDepth 20000 in
theorem ke_123_500 : alook 123 500 = some (500, .iconst 2, 1, (0, 0, 0, 0, 0), ⟨"", "", ""⟩, "") := rfl
theorem ee_123_500 {d : Nat} {h : aH} {ls st : List Value} : go d 123 500 ls st h = go d 123 501 ls (.int 2 :: st) h := go_plain (q := (501, ls, (.int 2 :: st), h)) ke_123_500 rfl
set_option maxRecDepth 20000 in
theorem ke_123_501 : alook 123 501 = some (501, .iadd, 1, (0, 0, 0, 0, 0), ⟨"", "", ""⟩, "") := rfl
theorem ee_123_501 {d : Nat} {h : aH} {ls st : List Value} {x y : Int32} : go d 123 501 ls (.int y :: .int x :: st) h = go d 123 502 ls (.int (x + y) :: st) h := go_plain (q := (502, ls, (.int (x + y) :: st), h)) ke_123_501 rfl
set_option maxRecDepth 20000 in
theorem ke_123_502 : alook 123 502 = some (502, .iaload, 1, (0, 0, 0, 0, 0), ⟨"", "", ""⟩, "") := rfl
theorem ee_123_502 {d : Nat} {ls st : List Value} {h : aH} {r : Nat} {i : Int32} : go d 123 502 ls (.int i :: .ref r :: st) h = (ia h r i).bind fun z => go d 123 503 ls (.int z :: st) h := go_iald ke_123_502
set_option maxRecDepth 20000 in
theorem ke_123_503 : alook 123 503 = some (503, .aload_n 0, 1, (0, 0, 0, 0, 0), ⟨"", "", ""⟩, "") := rfl
theorem ee_123_503 {d : Nat} {h : aH} {l1 l2 l3 : Value} {x : Nat} {st : List Value} : go d 123 503 [.ref x, l1, l2, l3] st h = go d 123 504 [.ref x, l1, l2, l3] (.ref x :: st) h := go_plain (q := (504, [.ref x, l1, l2, l3], (.ref x :: st), h)) ke_123_503 rfl
theorem ee_123_503N {d : Nat} {h : aH} {l1 l2 l3 : Value} {st : List Value} : go d 123 503 [.null, l1, l2, l3] st h = go d 123 504 [.null, l1, l2, l3] (.null :: st) h := go_plain (q := (504, [.null, l1, l2, l3], (.null :: st), h)) ke_123_503 rfl
set_option maxRecDepth 20000 in
theorem ke_123_504 : alook 123 504 = some (504, .iload_n 3, 1, (0, 0, 0, 0, 0), ⟨"", "", ""⟩, "") := rfl
theorem ee_123_504 {d : Nat} {h : aH} {l0 l1 l2 : Value} {x : Int32} {st : List Value} : go d 123 504 [l0, l1, l2, .int x] st h = go d 123 505 [l0, l1, l2, .int x] (.int x :: st) h := go_plain (q := (505, [l0, l1, l2, .int x], (.int x :: st), h)) ke_123_504 rfl
set_option maxRecDepth 20000 in
theorem ke_123_505 : alook 123 505 = some (505, .iconst 3, 1, (0, 0, 0, 0, 0), ⟨"", "", ""⟩, "") := rfl
theorem ee_123_505 {d : Nat} {h : aH} {ls st : List Value} : go d 123 505 ls st h = go d 123 506 ls (.int 3 :: st) h := go_plain (q := (506, ls, (.int 3 :: st), h)) ke_123_505 rfl
set_option maxRecDepth 20000 in
theorem ke_123_506 : alook 123 506 = some (506, .iadd, 1, (0, 0, 0, 0, 0), ⟨"", "", ""⟩, "") := rfl
theorem ee_123_506 {d : Nat} {h : aH} {ls st : List Value} {x y : Int32} : go d 123 506 ls (.int y :: .int x :: st) h = go d 123 507 ls (.int (x + y) :: st) h := go_plain (q := (507, ls, (.int (x + y) :: st), h)) ke_123_506 rfl
set_option maxRecDepth 20000 in
theorem ke_123_507 : alook 123 507 = some (507, .iaload, 1, (0, 0, 0, 0, 0), ⟨"", "", ""⟩, "") := rfl
theorem ee_123_507 {d : Nat} {ls st : List Value} {h : aH} {r : Nat} {i : Int32} : go d 123 507 ls (.int i :: .ref r :: st) h = (ia h r i).bind fun z => go d 123 508 ls (.int z :: st) h := go_iald ke_123_507
set_option maxRecDepth 20000 in
theorem ke_123_508 : alook 123 508 = some (508, .invokevirtual 72, 3, (3, 8, 107, 8, 107), ⟨"WordHidesModel", "covers", "(III)I"⟩, "") := rfl
theorem ee_123_508 {d : Nat} {ls : List Value} {h : aH} {i0 : Int32} {i1 : Int32} {i2 : Int32} {r3 : Nat} {i4 : Int32} : go (d + 1) 123 508 ls [.int i0, .int i1, .int i2, .ref r3, .int i4] h = if isC h r3 8 = true then (go d 107 0 [.ref r3, .int i2, .int i1, .int i0] [] h).bind (fun q => go (d + 1) 123 511 ls (q.1.toList ++ [.int i4]) q.2) else none := go_cv1 (as := [.int i2, .int i1, .int i0]) (rest := [.int i4]) (L := [.ref r3, .int i2, .int i1, .int i0]) ke_123_508 rfl rfl rfl
set_option maxRecDepth 20000 in
theorem ke_123_511 : alook 123 511 = some (511, .if_icmp .eq 110, 3, (621, 0, 0, 0, 0), ⟨"", "", ""⟩, "") := rfl
theorem ee_123_511 {d : Nat} {ls st : List Value} {h : aH} {x y : Int32} : go d 123 511 ls (.int y :: .int x :: st) h = if x = y then go d 123 621 ls st h else go d 123 514 ls st h := go_ci (go_if2 (tg := 621) (q := 514) (f := fun x y => decide (x = y)) ke_123_511 rfl)
set_option maxRecDepth 20000 in
theorem ke_123_514 : alook 123 514 = some (514, .iconst 0, 1, (0, 0, 0, 0, 0), ⟨"", "", ""⟩, "") := rfl
theorem ee_123_514 {d : Nat} {h : aH} {ls st : List Value} : go d 123 514 ls st h = go d 123 515 ls (.int 0 :: st) h := go_plain (q := (515, ls, (.int 0 :: st), h)) ke_123_514 rfl
set_option maxRecDepth 20000 in
theorem ke_123_515 : alook 123 515 = some (515, .ireturn, 1, (1, 0, 0, 0, 0), ⟨"", "", ""⟩, "") := rfl
theorem ee_123_515 {d : Nat} {ls : List Value} {h : aH} : go d 123 515 ls [.int 0] h = some (some (.int 0), h) := go_zret0 ke_123_515
theorem ee_123_515T {d : Nat} {ls : List Value} {h : aH} : go d 123 515 ls [.int 1] h = some (some (.int 1), h) := go_zret1 ke_123_515
set_option maxRecDepth 20000 in
theorem ke_123_516 : alook 123 516 = some (516, .aload_n 1, 1, (0, 0, 0, 0, 0), ⟨"", "", ""⟩, "") := rfl
theorem ee_123_516 {d : Nat} {h : aH} {l0 l2 l3 : Value} {x : Nat} {st : List Value} : go d 123 516 [l0, .ref x, l2, l3] st h = go d 123 517 [l0, .ref x, l2, l3] (.ref x :: st) h := go_plain (q := (517, [l0, .ref x, l2, l3], (.ref x :: st), h)) ke_123_516 rfl
theorem ee_123_516N {d : Nat} {h : aH} {l0 l2 l3 : Value} {st : List Value} : go d 123 516 [l0, .null, l2, l3] st h = go d 123 517 [l0, .null, l2, l3] (.null :: st) h := go_plain (q := (517, [l0, .null, l2, l3], (.null :: st), h)) ke_123_516 rfl
set_option maxRecDepth 20000 in
theorem ke_123_517 : alook 123 517 = some (517, .aload_n 0, 1, (0, 0, 0, 0, 0), ⟨"", "", ""⟩, "") := rfl
theorem ee_123_517 {d : Nat} {h : aH} {l1 l2 l3 : Value} {x : Nat} {st : List Value} : go d 123 517 [.ref x, l1, l2, l3] st h = go d 123 518 [.ref x, l1, l2, l3] (.ref x :: st) h := go_plain (q := (518, [.ref x, l1, l2, l3], (.ref x :: st), h)) ke_123_517 rfl
theorem ee_123_517N {d : Nat} {h : aH} {l1 l2 l3 : Value} {st : List Value} : go d 123 517 [.null, l1, l2, l3] st h = go d 123 518 [.null, l1, l2, l3] (.null :: st) h := go_plain (q := (518, [.null, l1, l2, l3], (.null :: st), h)) ke_123_517 rfl
set_option maxRecDepth 20000 in
theorem ke_123_518 : alook 123 518 = some (518, .iload_n 3, 1, (0, 0, 0, 0, 0), ⟨"", "", ""⟩, "") := rfl
theorem ee_123_518 {d : Nat} {h : aH} {l0 l1 l2 : Value} {x : Int32} {st : List Value} : go d 123 518 [l0, l1, l2, .int x] st h = go d 123 519 [l0, l1, l2, .int x] (.int x :: st) h := go_plain (q := (519, [l0, l1, l2, .int x], (.int x :: st), h)) ke_123_518 rfl
set_option maxRecDepth 20000 in
theorem ke_123_519 : alook 123 519 = some (519, .iconst 1, 1, (0, 0, 0, 0, 0), ⟨"", "", ""⟩, "") := rfl
theorem ee_123_519 {d : Nat} {h : aH} {ls st : List Value} : go d 123 519 ls st h = go d 123 520 ls (.int 1 :: st) h := go_plain (q := (520, ls, (.int 1 :: st), h)) ke_123_519 rfl
set_option maxRecDepth 20000 in
theorem ke_123_520 : alook 123 520 = some (520, .iadd, 1, (0, 0, 0, 0, 0), ⟨"", "", ""⟩, "") := rfl
theorem ee_123_520 {d : Nat} {h : aH} {ls st : List Value} {x y : Int32} : go d 123 520 ls (.int y :: .int x :: st) h = go d 123 521 ls (.int (x + y) :: st) h := go_plain (q := (521, ls, (.int (x + y) :: st), h)) ke_123_520 rfl
set_option maxRecDepth 20000 in
theorem ke_123_521 : alook 123 521 = some (521, .iaload, 1, (0, 0, 0, 0, 0), ⟨"", "", ""⟩, "") := rfl
theorem ee_123_521 {d : Nat} {ls st : List Value} {h : aH} {r : Nat} {i : Int32} : go d 123 521 ls (.int i :: .ref r :: st) h = (ia h r i).bind fun z => go d 123 522 ls (.int z :: st) h := go_iald ke_123_521
set_option maxRecDepth 20000 in
theorem ke_123_522 : alook 123 522 = some (522, .invokevirtual 73, 3, (1, 7, 55, 7, 55), ⟨"WordHides", "good", "(I)I"⟩, "") := rfl
theorem ee_123_522 {d : Nat} {ls : List Value} {h : aH} {i0 : Int32} {r1 : Nat} : go (d + 1) 123 522 ls [.int i0, .ref r1] h = if isC h r1 7 = true then (go d 55 0 [.ref r1, .int i0, aU, aU, aU] [] h).bind (fun q => go (d + 1) 123 525 ls (q.1.toList ++ []) q.2) else none := go_cv1 (as := [.int i0]) (rest := []) (L := [.ref r1, .int i0, aU, aU, aU]) ke_123_522 rfl rfl rfl
set_option maxRecDepth 20000 in
theorem ke_123_525 : alook 123 525 = some (525, .aload_n 2, 1, (0, 0, 0, 0, 0), ⟨"", "", ""⟩, "") := rfl
theorem ee_123_525 {d : Nat} {h : aH} {l0 l1 l3 : Value} {x : Nat} {st : List Value} : go d 123 525 [l0, l1, .ref x, l3] st h = go d 123 526 [l0, l1, .ref x, l3] (.ref x :: st) h := go_plain (q := (526, [l0, l1, .ref x, l3], (.ref x :: st), h)) ke_123_525 rfl
theorem ee_123_525N {d : Nat} {h : aH} {l0 l1 l3 : Value} {st : List Value} : go d 123 525 [l0, l1, .null, l3] st h = go d 123 526 [l0, l1, .null, l3] (.null :: st) h := go_plain (q := (526, [l0, l1, .null, l3], (.null :: st), h)) ke_123_525 rfl
set_option maxRecDepth 20000 in
theorem ke_123_526 : alook 123 526 = some (526, .aload_n 0, 1, (0, 0, 0, 0, 0), ⟨"", "", ""⟩, "") := rfl
theorem ee_123_526 {d : Nat} {h : aH} {l1 l2 l3 : Value} {x : Nat} {st : List Value} : go d 123 526 [.ref x, l1, l2, l3] st h = go d 123 527 [.ref x, l1, l2, l3] (.ref x :: st) h := go_plain (q := (527, [.ref x, l1, l2, l3], (.ref x :: st), h)) ke_123_526 rfl
theorem ee_123_526N {d : Nat} {h : aH} {l1 l2 l3 : Value} {st : List Value} : go d 123 526 [.null, l1, l2, l3] st h = go d 123 527 [.null, l1, l2, l3] (.null :: st) h := go_plain (q := (527, [.null, l1, l2, l3], (.null :: st), h)) ke_123_526 rfl
set_option maxRecDepth 20000 in
theorem ke_123_527 : alook 123 527 = some (527, .iload_n 3, 1, (0, 0, 0, 0, 0), ⟨"", "", ""⟩, "") := rfl
theorem ee_123_527 {d : Nat} {h : aH} {l0 l1 l2 : Value} {x : Int32} {st : List Value} : go d 123 527 [l0, l1, l2, .int x] st h = go d 123 528 [l0, l1, l2, .int x] (.int x :: st) h := go_plain (q := (528, [l0, l1, l2, .int x], (.int x :: st), h)) ke_123_527 rfl
set_option maxRecDepth 20000 in
theorem ke_123_528 : alook 123 528 = some (528, .iconst 1, 1, (0, 0, 0, 0, 0), ⟨"", "", ""⟩, "") := rfl
theorem ee_123_528 {d : Nat} {h : aH} {ls st : List Value} : go d 123 528 ls st h = go d 123 529 ls (.int 1 :: st) h := go_plain (q := (529, ls, (.int 1 :: st), h)) ke_123_528 rfl
set_option maxRecDepth 20000 in
theorem ke_123_529 : alook 123 529 = some (529, .iadd, 1, (0, 0, 0, 0, 0), ⟨"", "", ""⟩, "") := rfl
theorem ee_123_529 {d : Nat} {h : aH} {ls st : List Value} {x y : Int32} : go d 123 529 ls (.int y :: .int x :: st) h = go d 123 530 ls (.int (x + y) :: st) h := go_plain (q := (530, ls, (.int (x + y) :: st), h)) ke_123_529 rfl
set_option maxRecDepth 20000 in
theorem ke_123_530 : alook 123 530 = some (530, .iaload, 1, (0, 0, 0, 0, 0), ⟨"", "", ""⟩, "") := rfl
theorem ee_123_530 {d : Nat} {ls st : List Value} {h : aH} {r : Nat} {i : Int32} : go d 123 530 ls (.int i :: .ref r :: st) h = (ia h r i).bind fun z => go d 123 531 ls (.int z :: st) h := go_iald ke_123_530
set_option maxRecDepth 20000 in
theorem ke_123_531 : alook 123 531 = some (531, .invokevirtual 76, 3, (1, 8, 112, 8, 112), ⟨"WordHidesModel", "good", "(I)I"⟩, "") := rfl
theorem ee_123_531 {d : Nat} {ls : List Value} {h : aH} {i0 : Int32} {r1 : Nat} {i2 : Int32} : go (d + 1) 123 531 ls [.int i0, .ref r1, .int i2] h = if isC h r1 8 = true then (go d 112 0 [.ref r1, .int i0] [] h).bind (fun q => go (d + 1) 123 534 ls (q.1.toList ++ [.int i2]) q.2) else none := go_cv1 (as := [.int i0]) (rest := [.int i2]) (L := [.ref r1, .int i0]) ke_123_531 rfl rfl rfl
set_option maxRecDepth 20000 in
theorem ke_123_534 : alook 123 534 = some (534, .if_icmp .eq 87, 3, (621, 0, 0, 0, 0), ⟨"", "", ""⟩, "") := rfl
theorem ee_123_534 {d : Nat} {ls st : List Value} {h : aH} {x y : Int32} : go d 123 534 ls (.int y :: .int x :: st) h = if x = y then go d 123 621 ls st h else go d 123 537 ls st h := go_ci (go_if2 (tg := 621) (q := 537) (f := fun x y => decide (x = y)) ke_123_534 rfl)
set_option maxRecDepth 20000 in
theorem ke_123_537 : alook 123 537 = some (537, .iconst 0, 1, (0, 0, 0, 0, 0), ⟨"", "", ""⟩, "") := rfl
theorem ee_123_537 {d : Nat} {h : aH} {ls st : List Value} : go d 123 537 ls st h = go d 123 538 ls (.int 0 :: st) h := go_plain (q := (538, ls, (.int 0 :: st), h)) ke_123_537 rfl
set_option maxRecDepth 20000 in
theorem ke_123_538 : alook 123 538 = some (538, .ireturn, 1, (1, 0, 0, 0, 0), ⟨"", "", ""⟩, "") := rfl
theorem ee_123_538 {d : Nat} {ls : List Value} {h : aH} : go d 123 538 ls [.int 0] h = some (some (.int 0), h) := go_zret0 ke_123_538
theorem ee_123_538T {d : Nat} {ls : List Value} {h : aH} : go d 123 538 ls [.int 1] h = some (some (.int 1), h) := go_zret1 ke_123_538
set_option maxRecDepth 20000 in
theorem ke_123_539 : alook 123 539 = some (539, .aload_n 1, 1, (0, 0, 0, 0, 0), ⟨"", "", ""⟩, "") := rfl
theorem ee_123_539 {d : Nat} {h : aH} {l0 l2 l3 : Value} {x : Nat} {st : List Value} : go d 123 539 [l0, .ref x, l2, l3] st h = go d 123 540 [l0, .ref x, l2, l3] (.ref x :: st) h := go_plain (q := (540, [l0, .ref x, l2, l3], (.ref x :: st), h)) ke_123_539 rfl
theorem ee_123_539N {d : Nat} {h : aH} {l0 l2 l3 : Value} {st : List Value} : go d 123 539 [l0, .null, l2, l3] st h = go d 123 540 [l0, .null, l2, l3] (.null :: st) h := go_plain (q := (540, [l0, .null, l2, l3], (.null :: st), h)) ke_123_539 rfl
set_option maxRecDepth 20000 in
theorem ke_123_540 : alook 123 540 = some (540, .invokevirtual 77, 3, (0, 7, 56, 7, 56), ⟨"WordHides", "hide", "()I"⟩, "") := rfl
theorem ee_123_540 {d : Nat} {ls : List Value} {h : aH} {r0 : Nat} : go (d + 1) 123 540 ls [.ref r0] h = if isC h r0 7 = true then (go d 56 0 [.ref r0] [] h).bind (fun q => go (d + 1) 123 543 ls (q.1.toList ++ []) q.2) else none := go_cv1 (as := []) (rest := []) (L := [.ref r0]) ke_123_540 rfl rfl rfl
set_option maxRecDepth 20000 in
theorem ke_123_543 : alook 123 543 = some (543, .aload_n 2, 1, (0, 0, 0, 0, 0), ⟨"", "", ""⟩, "") := rfl
theorem ee_123_543 {d : Nat} {h : aH} {l0 l1 l3 : Value} {x : Nat} {st : List Value} : go d 123 543 [l0, l1, .ref x, l3] st h = go d 123 544 [l0, l1, .ref x, l3] (.ref x :: st) h := go_plain (q := (544, [l0, l1, .ref x, l3], (.ref x :: st), h)) ke_123_543 rfl
theorem ee_123_543N {d : Nat} {h : aH} {l0 l1 l3 : Value} {st : List Value} : go d 123 543 [l0, l1, .null, l3] st h = go d 123 544 [l0, l1, .null, l3] (.null :: st) h := go_plain (q := (544, [l0, l1, .null, l3], (.null :: st), h)) ke_123_543 rfl
set_option maxRecDepth 20000 in
theorem ke_123_544 : alook 123 544 = some (544, .invokevirtual 80, 3, (0, 8, 113, 8, 113), ⟨"WordHidesModel", "hide", "()I"⟩, "") := rfl
theorem ee_123_544 {d : Nat} {ls : List Value} {h : aH} {r0 : Nat} {i1 : Int32} : go (d + 1) 123 544 ls [.ref r0, .int i1] h = if isC h r0 8 = true then (go d 113 0 [.ref r0, aU, aU] [] h).bind (fun q => go (d + 1) 123 547 ls (q.1.toList ++ [.int i1]) q.2) else none := go_cv1 (as := []) (rest := [.int i1]) (L := [.ref r0, aU, aU]) ke_123_544 rfl rfl rfl
set_option maxRecDepth 20000 in
theorem ke_123_547 : alook 123 547 = some (547, .if_icmp .eq 74, 3, (621, 0, 0, 0, 0), ⟨"", "", ""⟩, "") := rfl
theorem ee_123_547 {d : Nat} {ls st : List Value} {h : aH} {x y : Int32} : go d 123 547 ls (.int y :: .int x :: st) h = if x = y then go d 123 621 ls st h else go d 123 550 ls st h := go_ci (go_if2 (tg := 621) (q := 550) (f := fun x y => decide (x = y)) ke_123_547 rfl)
set_option maxRecDepth 20000 in
theorem ke_123_550 : alook 123 550 = some (550, .iconst 0, 1, (0, 0, 0, 0, 0), ⟨"", "", ""⟩, "") := rfl
theorem ee_123_550 {d : Nat} {h : aH} {ls st : List Value} : go d 123 550 ls st h = go d 123 551 ls (.int 0 :: st) h := go_plain (q := (551, ls, (.int 0 :: st), h)) ke_123_550 rfl
set_option maxRecDepth 20000 in
theorem ke_123_551 : alook 123 551 = some (551, .ireturn, 1, (1, 0, 0, 0, 0), ⟨"", "", ""⟩, "") := rfl
theorem ee_123_551 {d : Nat} {ls : List Value} {h : aH} : go d 123 551 ls [.int 0] h = some (some (.int 0), h) := go_zret0 ke_123_551
theorem ee_123_551T {d : Nat} {ls : List Value} {h : aH} : go d 123 551 ls [.int 1] h = some (some (.int 1), h) := go_zret1 ke_123_551
set_option maxRecDepth 20000 in
theorem ke_123_552 : alook 123 552 = some (552, .aload_n 1, 1, (0, 0, 0, 0, 0), ⟨"", "", ""⟩, "") := rfl
theorem ee_123_552 {d : Nat} {h : aH} {l0 l2 l3 : Value} {x : Nat} {st : List Value} : go d 123 552 [l0, .ref x, l2, l3] st h = go d 123 553 [l0, .ref x, l2, l3] (.ref x :: st) h := go_plain (q := (553, [l0, .ref x, l2, l3], (.ref x :: st), h)) ke_123_552 rfl
theorem ee_123_552N {d : Nat} {h : aH} {l0 l2 l3 : Value} {st : List Value} : go d 123 552 [l0, .null, l2, l3] st h = go d 123 553 [l0, .null, l2, l3] (.null :: st) h := go_plain (q := (553, [l0, .null, l2, l3], (.null :: st), h)) ke_123_552 rfl
set_option maxRecDepth 20000 in
theorem ke_123_553 : alook 123 553 = some (553, .aload_n 0, 1, (0, 0, 0, 0, 0), ⟨"", "", ""⟩, "") := rfl
theorem ee_123_553 {d : Nat} {h : aH} {l1 l2 l3 : Value} {x : Nat} {st : List Value} : go d 123 553 [.ref x, l1, l2, l3] st h = go d 123 554 [.ref x, l1, l2, l3] (.ref x :: st) h := go_plain (q := (554, [.ref x, l1, l2, l3], (.ref x :: st), h)) ke_123_553 rfl
theorem ee_123_553N {d : Nat} {h : aH} {l1 l2 l3 : Value} {st : List Value} : go d 123 553 [.null, l1, l2, l3] st h = go d 123 554 [.null, l1, l2, l3] (.null :: st) h := go_plain (q := (554, [.null, l1, l2, l3], (.null :: st), h)) ke_123_553 rfl
set_option maxRecDepth 20000 in
theorem ke_123_554 : alook 123 554 = some (554, .iload_n 3, 1, (0, 0, 0, 0, 0), ⟨"", "", ""⟩, "") := rfl
theorem ee_123_554 {d : Nat} {h : aH} {l0 l1 l2 : Value} {x : Int32} {st : List Value} : go d 123 554 [l0, l1, l2, .int x] st h = go d 123 555 [l0, l1, l2, .int x] (.int x :: st) h := go_plain (q := (555, [l0, l1, l2, .int x], (.int x :: st), h)) ke_123_554 rfl
set_option maxRecDepth 20000 in
theorem ke_123_555 : alook 123 555 = some (555, .iconst 1, 1, (0, 0, 0, 0, 0), ⟨"", "", ""⟩, "") := rfl
theorem ee_123_555 {d : Nat} {h : aH} {ls st : List Value} : go d 123 555 ls st h = go d 123 556 ls (.int 1 :: st) h := go_plain (q := (556, ls, (.int 1 :: st), h)) ke_123_555 rfl
set_option maxRecDepth 20000 in
theorem ke_123_556 : alook 123 556 = some (556, .iadd, 1, (0, 0, 0, 0, 0), ⟨"", "", ""⟩, "") := rfl
theorem ee_123_556 {d : Nat} {h : aH} {ls st : List Value} {x y : Int32} : go d 123 556 ls (.int y :: .int x :: st) h = go d 123 557 ls (.int (x + y) :: st) h := go_plain (q := (557, ls, (.int (x + y) :: st), h)) ke_123_556 rfl
set_option maxRecDepth 20000 in
theorem ke_123_557 : alook 123 557 = some (557, .iaload, 1, (0, 0, 0, 0, 0), ⟨"", "", ""⟩, "") := rfl
theorem ee_123_557 {d : Nat} {ls st : List Value} {h : aH} {r : Nat} {i : Int32} : go d 123 557 ls (.int i :: .ref r :: st) h = (ia h r i).bind fun z => go d 123 558 ls (.int z :: st) h := go_iald ke_123_557
set_option maxRecDepth 20000 in
theorem ke_123_558 : alook 123 558 = some (558, .invokevirtual 81, 3, (1, 7, 57, 7, 57), ⟨"WordHides", "image", "(I)I"⟩, "") := rfl
theorem ee_123_558 {d : Nat} {ls : List Value} {h : aH} {i0 : Int32} {r1 : Nat} : go (d + 1) 123 558 ls [.int i0, .ref r1] h = if isC h r1 7 = true then (go d 57 0 [.ref r1, .int i0] [] h).bind (fun q => go (d + 1) 123 561 ls (q.1.toList ++ []) q.2) else none := go_cv1 (as := [.int i0]) (rest := []) (L := [.ref r1, .int i0]) ke_123_558 rfl rfl rfl
set_option maxRecDepth 20000 in
theorem ke_123_561 : alook 123 561 = some (561, .aload_n 2, 1, (0, 0, 0, 0, 0), ⟨"", "", ""⟩, "") := rfl
theorem ee_123_561 {d : Nat} {h : aH} {l0 l1 l3 : Value} {x : Nat} {st : List Value} : go d 123 561 [l0, l1, .ref x, l3] st h = go d 123 562 [l0, l1, .ref x, l3] (.ref x :: st) h := go_plain (q := (562, [l0, l1, .ref x, l3], (.ref x :: st), h)) ke_123_561 rfl
theorem ee_123_561N {d : Nat} {h : aH} {l0 l1 l3 : Value} {st : List Value} : go d 123 561 [l0, l1, .null, l3] st h = go d 123 562 [l0, l1, .null, l3] (.null :: st) h := go_plain (q := (562, [l0, l1, .null, l3], (.null :: st), h)) ke_123_561 rfl
set_option maxRecDepth 20000 in
theorem ke_123_562 : alook 123 562 = some (562, .aload_n 0, 1, (0, 0, 0, 0, 0), ⟨"", "", ""⟩, "") := rfl
theorem ee_123_562 {d : Nat} {h : aH} {l1 l2 l3 : Value} {x : Nat} {st : List Value} : go d 123 562 [.ref x, l1, l2, l3] st h = go d 123 563 [.ref x, l1, l2, l3] (.ref x :: st) h := go_plain (q := (563, [.ref x, l1, l2, l3], (.ref x :: st), h)) ke_123_562 rfl
theorem ee_123_562N {d : Nat} {h : aH} {l1 l2 l3 : Value} {st : List Value} : go d 123 562 [.null, l1, l2, l3] st h = go d 123 563 [.null, l1, l2, l3] (.null :: st) h := go_plain (q := (563, [.null, l1, l2, l3], (.null :: st), h)) ke_123_562 rfl
set_option maxRecDepth 20000 in
theorem ke_123_563 : alook 123 563 = some (563, .iload_n 3, 1, (0, 0, 0, 0, 0), ⟨"", "", ""⟩, "") := rfl
theorem ee_123_563 {d : Nat} {h : aH} {l0 l1 l2 : Value} {x : Int32} {st : List Value} : go d 123 563 [l0, l1, l2, .int x] st h = go d 123 564 [l0, l1, l2, .int x] (.int x :: st) h := go_plain (q := (564, [l0, l1, l2, .int x], (.int x :: st), h)) ke_123_563 rfl
set_option maxRecDepth 20000 in
theorem ke_123_564 : alook 123 564 = some (564, .iconst 1, 1, (0, 0, 0, 0, 0), ⟨"", "", ""⟩, "") := rfl
theorem ee_123_564 {d : Nat} {h : aH} {ls st : List Value} : go d 123 564 ls st h = go d 123 565 ls (.int 1 :: st) h := go_plain (q := (565, ls, (.int 1 :: st), h)) ke_123_564 rfl
set_option maxRecDepth 20000 in
theorem ke_123_565 : alook 123 565 = some (565, .iadd, 1, (0, 0, 0, 0, 0), ⟨"", "", ""⟩, "") := rfl
theorem ee_123_565 {d : Nat} {h : aH} {ls st : List Value} {x y : Int32} : go d 123 565 ls (.int y :: .int x :: st) h = go d 123 566 ls (.int (x + y) :: st) h := go_plain (q := (566, ls, (.int (x + y) :: st), h)) ke_123_565 rfl
set_option maxRecDepth 20000 in
theorem ke_123_566 : alook 123 566 = some (566, .iaload, 1, (0, 0, 0, 0, 0), ⟨"", "", ""⟩, "") := rfl
theorem ee_123_566 {d : Nat} {ls st : List Value} {h : aH} {r : Nat} {i : Int32} : go d 123 566 ls (.int i :: .ref r :: st) h = (ia h r i).bind fun z => go d 123 567 ls (.int z :: st) h := go_iald ke_123_566
set_option maxRecDepth 20000 in
theorem ke_123_567 : alook 123 567 = some (567, .invokevirtual 84, 3, (1, 8, 114, 8, 114), ⟨"WordHidesModel", "image", "(I)I"⟩, "") := rfl
theorem ee_123_567 {d : Nat} {ls : List Value} {h : aH} {i0 : Int32} {r1 : Nat} {i2 : Int32} : go (d + 1) 123 567 ls [.int i0, .ref r1, .int i2] h = if isC h r1 8 = true then (go d 114 0 [.ref r1, .int i0, aU] [] h).bind (fun q => go (d + 1) 123 570 ls (q.1.toList ++ [.int i2]) q.2) else none := go_cv1 (as := [.int i0]) (rest := [.int i2]) (L := [.ref r1, .int i0, aU]) ke_123_567 rfl rfl rfl
set_option maxRecDepth 20000 in
theorem ke_123_570 : alook 123 570 = some (570, .if_icmp .eq 51, 3, (621, 0, 0, 0, 0), ⟨"", "", ""⟩, "") := rfl
theorem ee_123_570 {d : Nat} {ls st : List Value} {h : aH} {x y : Int32} : go d 123 570 ls (.int y :: .int x :: st) h = if x = y then go d 123 621 ls st h else go d 123 573 ls st h := go_ci (go_if2 (tg := 621) (q := 573) (f := fun x y => decide (x = y)) ke_123_570 rfl)
set_option maxRecDepth 20000 in
theorem ke_123_573 : alook 123 573 = some (573, .iconst 0, 1, (0, 0, 0, 0, 0), ⟨"", "", ""⟩, "") := rfl
theorem ee_123_573 {d : Nat} {h : aH} {ls st : List Value} : go d 123 573 ls st h = go d 123 574 ls (.int 0 :: st) h := go_plain (q := (574, ls, (.int 0 :: st), h)) ke_123_573 rfl
set_option maxRecDepth 20000 in
theorem ke_123_574 : alook 123 574 = some (574, .ireturn, 1, (1, 0, 0, 0, 0), ⟨"", "", ""⟩, "") := rfl
theorem ee_123_574 {d : Nat} {ls : List Value} {h : aH} : go d 123 574 ls [.int 0] h = some (some (.int 0), h) := go_zret0 ke_123_574
theorem ee_123_574T {d : Nat} {ls : List Value} {h : aH} : go d 123 574 ls [.int 1] h = some (some (.int 1), h) := go_zret1 ke_123_574
set_option maxRecDepth 20000 in
theorem ke_123_575 : alook 123 575 = some (575, .aload_n 1, 1, (0, 0, 0, 0, 0), ⟨"", "", ""⟩, "") := rfl
theorem ee_123_575 {d : Nat} {h : aH} {l0 l2 l3 : Value} {x : Nat} {st : List Value} : go d 123 575 [l0, .ref x, l2, l3] st h = go d 123 576 [l0, .ref x, l2, l3] (.ref x :: st) h := go_plain (q := (576, [l0, .ref x, l2, l3], (.ref x :: st), h)) ke_123_575 rfl
theorem ee_123_575N {d : Nat} {h : aH} {l0 l2 l3 : Value} {st : List Value} : go d 123 575 [l0, .null, l2, l3] st h = go d 123 576 [l0, .null, l2, l3] (.null :: st) h := go_plain (q := (576, [l0, .null, l2, l3], (.null :: st), h)) ke_123_575 rfl
set_option maxRecDepth 20000 in
theorem ke_123_576 : alook 123 576 = some (576, .aload_n 0, 1, (0, 0, 0, 0, 0), ⟨"", "", ""⟩, "") := rfl
theorem ee_123_576 {d : Nat} {h : aH} {l1 l2 l3 : Value} {x : Nat} {st : List Value} : go d 123 576 [.ref x, l1, l2, l3] st h = go d 123 577 [.ref x, l1, l2, l3] (.ref x :: st) h := go_plain (q := (577, [.ref x, l1, l2, l3], (.ref x :: st), h)) ke_123_576 rfl
theorem ee_123_576N {d : Nat} {h : aH} {l1 l2 l3 : Value} {st : List Value} : go d 123 576 [.null, l1, l2, l3] st h = go d 123 577 [.null, l1, l2, l3] (.null :: st) h := go_plain (q := (577, [.null, l1, l2, l3], (.null :: st), h)) ke_123_576 rfl
set_option maxRecDepth 20000 in
theorem ke_123_577 : alook 123 577 = some (577, .iload_n 3, 1, (0, 0, 0, 0, 0), ⟨"", "", ""⟩, "") := rfl
theorem ee_123_577 {d : Nat} {h : aH} {l0 l1 l2 : Value} {x : Int32} {st : List Value} : go d 123 577 [l0, l1, l2, .int x] st h = go d 123 578 [l0, l1, l2, .int x] (.int x :: st) h := go_plain (q := (578, [l0, l1, l2, .int x], (.int x :: st), h)) ke_123_577 rfl
set_option maxRecDepth 20000 in
theorem ke_123_578 : alook 123 578 = some (578, .iconst 1, 1, (0, 0, 0, 0, 0), ⟨"", "", ""⟩, "") := rfl
theorem ee_123_578 {d : Nat} {h : aH} {ls st : List Value} : go d 123 578 ls st h = go d 123 579 ls (.int 1 :: st) h := go_plain (q := (579, ls, (.int 1 :: st), h)) ke_123_578 rfl
set_option maxRecDepth 20000 in
theorem ke_123_579 : alook 123 579 = some (579, .iadd, 1, (0, 0, 0, 0, 0), ⟨"", "", ""⟩, "") := rfl
theorem ee_123_579 {d : Nat} {h : aH} {ls st : List Value} {x y : Int32} : go d 123 579 ls (.int y :: .int x :: st) h = go d 123 580 ls (.int (x + y) :: st) h := go_plain (q := (580, ls, (.int (x + y) :: st), h)) ke_123_579 rfl
set_option maxRecDepth 20000 in
theorem ke_123_580 : alook 123 580 = some (580, .iaload, 1, (0, 0, 0, 0, 0), ⟨"", "", ""⟩, "") := rfl
theorem ee_123_580 {d : Nat} {ls st : List Value} {h : aH} {r : Nat} {i : Int32} : go d 123 580 ls (.int i :: .ref r :: st) h = (ia h r i).bind fun z => go d 123 581 ls (.int z :: st) h := go_iald ke_123_580
set_option maxRecDepth 20000 in
theorem ke_123_581 : alook 123 581 = some (581, .invokevirtual 85, 3, (1, 7, 58, 7, 58), ⟨"WordHides", "restore", "(I)I"⟩, "") := rfl
theorem ee_123_581 {d : Nat} {ls : List Value} {h : aH} {i0 : Int32} {r1 : Nat} : go (d + 1) 123 581 ls [.int i0, .ref r1] h = if isC h r1 7 = true then (go d 58 0 [.ref r1, .int i0] [] h).bind (fun q => go (d + 1) 123 584 ls (q.1.toList ++ []) q.2) else none := go_cv1 (as := [.int i0]) (rest := []) (L := [.ref r1, .int i0]) ke_123_581 rfl rfl rfl
set_option maxRecDepth 20000 in
theorem ke_123_584 : alook 123 584 = some (584, .aload_n 2, 1, (0, 0, 0, 0, 0), ⟨"", "", ""⟩, "") := rfl
theorem ee_123_584 {d : Nat} {h : aH} {l0 l1 l3 : Value} {x : Nat} {st : List Value} : go d 123 584 [l0, l1, .ref x, l3] st h = go d 123 585 [l0, l1, .ref x, l3] (.ref x :: st) h := go_plain (q := (585, [l0, l1, .ref x, l3], (.ref x :: st), h)) ke_123_584 rfl
theorem ee_123_584N {d : Nat} {h : aH} {l0 l1 l3 : Value} {st : List Value} : go d 123 584 [l0, l1, .null, l3] st h = go d 123 585 [l0, l1, .null, l3] (.null :: st) h := go_plain (q := (585, [l0, l1, .null, l3], (.null :: st), h)) ke_123_584 rfl
set_option maxRecDepth 20000 in
theorem ke_123_585 : alook 123 585 = some (585, .aload_n 0, 1, (0, 0, 0, 0, 0), ⟨"", "", ""⟩, "") := rfl
theorem ee_123_585 {d : Nat} {h : aH} {l1 l2 l3 : Value} {x : Nat} {st : List Value} : go d 123 585 [.ref x, l1, l2, l3] st h = go d 123 586 [.ref x, l1, l2, l3] (.ref x :: st) h := go_plain (q := (586, [.ref x, l1, l2, l3], (.ref x :: st), h)) ke_123_585 rfl
theorem ee_123_585N {d : Nat} {h : aH} {l1 l2 l3 : Value} {st : List Value} : go d 123 585 [.null, l1, l2, l3] st h = go d 123 586 [.null, l1, l2, l3] (.null :: st) h := go_plain (q := (586, [.null, l1, l2, l3], (.null :: st), h)) ke_123_585 rfl
set_option maxRecDepth 20000 in
theorem ke_123_586 : alook 123 586 = some (586, .iload_n 3, 1, (0, 0, 0, 0, 0), ⟨"", "", ""⟩, "") := rfl
theorem ee_123_586 {d : Nat} {h : aH} {l0 l1 l2 : Value} {x : Int32} {st : List Value} : go d 123 586 [l0, l1, l2, .int x] st h = go d 123 587 [l0, l1, l2, .int x] (.int x :: st) h := go_plain (q := (587, [l0, l1, l2, .int x], (.int x :: st), h)) ke_123_586 rfl
set_option maxRecDepth 20000 in
theorem ke_123_587 : alook 123 587 = some (587, .iconst 1, 1, (0, 0, 0, 0, 0), ⟨"", "", ""⟩, "") := rfl
theorem ee_123_587 {d : Nat} {h : aH} {ls st : List Value} : go d 123 587 ls st h = go d 123 588 ls (.int 1 :: st) h := go_plain (q := (588, ls, (.int 1 :: st), h)) ke_123_587 rfl
set_option maxRecDepth 20000 in
theorem ke_123_588 : alook 123 588 = some (588, .iadd, 1, (0, 0, 0, 0, 0), ⟨"", "", ""⟩, "") := rfl
theorem ee_123_588 {d : Nat} {h : aH} {ls st : List Value} {x y : Int32} : go d 123 588 ls (.int y :: .int x :: st) h = go d 123 589 ls (.int (x + y) :: st) h := go_plain (q := (589, ls, (.int (x + y) :: st), h)) ke_123_588 rfl
set_option maxRecDepth 20000 in
theorem ke_123_589 : alook 123 589 = some (589, .iaload, 1, (0, 0, 0, 0, 0), ⟨"", "", ""⟩, "") := rfl
theorem ee_123_589 {d : Nat} {ls st : List Value} {h : aH} {r : Nat} {i : Int32} : go d 123 589 ls (.int i :: .ref r :: st) h = (ia h r i).bind fun z => go d 123 590 ls (.int z :: st) h := go_iald ke_123_589
set_option maxRecDepth 20000 in
theorem ke_123_590 : alook 123 590 = some (590, .invokevirtual 88, 3, (1, 8, 115, 8, 115), ⟨"WordHidesModel", "restore", "(I)I"⟩, "") := rfl
theorem ee_123_590 {d : Nat} {ls : List Value} {h : aH} {i0 : Int32} {r1 : Nat} {i2 : Int32} : go (d + 1) 123 590 ls [.int i0, .ref r1, .int i2] h = if isC h r1 8 = true then (go d 115 0 [.ref r1, .int i0, aU] [] h).bind (fun q => go (d + 1) 123 593 ls (q.1.toList ++ [.int i2]) q.2) else none := go_cv1 (as := [.int i0]) (rest := [.int i2]) (L := [.ref r1, .int i0, aU]) ke_123_590 rfl rfl rfl
set_option maxRecDepth 20000 in
theorem ke_123_593 : alook 123 593 = some (593, .if_icmp .eq 28, 3, (621, 0, 0, 0, 0), ⟨"", "", ""⟩, "") := rfl
theorem ee_123_593 {d : Nat} {ls st : List Value} {h : aH} {x y : Int32} : go d 123 593 ls (.int y :: .int x :: st) h = if x = y then go d 123 621 ls st h else go d 123 596 ls st h := go_ci (go_if2 (tg := 621) (q := 596) (f := fun x y => decide (x = y)) ke_123_593 rfl)
set_option maxRecDepth 20000 in
theorem ke_123_596 : alook 123 596 = some (596, .iconst 0, 1, (0, 0, 0, 0, 0), ⟨"", "", ""⟩, "") := rfl
theorem ee_123_596 {d : Nat} {h : aH} {ls st : List Value} : go d 123 596 ls st h = go d 123 597 ls (.int 0 :: st) h := go_plain (q := (597, ls, (.int 0 :: st), h)) ke_123_596 rfl
set_option maxRecDepth 20000 in
theorem ke_123_597 : alook 123 597 = some (597, .ireturn, 1, (1, 0, 0, 0, 0), ⟨"", "", ""⟩, "") := rfl
theorem ee_123_597 {d : Nat} {ls : List Value} {h : aH} : go d 123 597 ls [.int 0] h = some (some (.int 0), h) := go_zret0 ke_123_597
theorem ee_123_597T {d : Nat} {ls : List Value} {h : aH} : go d 123 597 ls [.int 1] h = some (some (.int 1), h) := go_zret1 ke_123_597
set_option maxRecDepth 20000 in
theorem ke_123_598 : alook 123 598 = some (598, .aload_n 1, 1, (0, 0, 0, 0, 0), ⟨"", "", ""⟩, "") := rfl
theorem ee_123_598 {d : Nat} {h : aH} {l0 l2 l3 : Value} {x : Nat} {st : List Value} : go d 123 598 [l0, .ref x, l2, l3] st h = go d 123 599 [l0, .ref x, l2, l3] (.ref x :: st) h := go_plain (q := (599, [l0, .ref x, l2, l3], (.ref x :: st), h)) ke_123_598 rfl
theorem ee_123_598N {d : Nat} {h : aH} {l0 l2 l3 : Value} {st : List Value} : go d 123 598 [l0, .null, l2, l3] st h = go d 123 599 [l0, .null, l2, l3] (.null :: st) h := go_plain (q := (599, [l0, .null, l2, l3], (.null :: st), h)) ke_123_598 rfl
set_option maxRecDepth 20000 in
theorem ke_123_599 : alook 123 599 = some (599, .aload_n 0, 1, (0, 0, 0, 0, 0), ⟨"", "", ""⟩, "") := rfl
theorem ee_123_599 {d : Nat} {h : aH} {l1 l2 l3 : Value} {x : Nat} {st : List Value} : go d 123 599 [.ref x, l1, l2, l3] st h = go d 123 600 [.ref x, l1, l2, l3] (.ref x :: st) h := go_plain (q := (600, [.ref x, l1, l2, l3], (.ref x :: st), h)) ke_123_599 rfl
theorem ee_123_599N {d : Nat} {h : aH} {l1 l2 l3 : Value} {st : List Value} : go d 123 599 [.null, l1, l2, l3] st h = go d 123 600 [.null, l1, l2, l3] (.null :: st) h := go_plain (q := (600, [.null, l1, l2, l3], (.null :: st), h)) ke_123_599 rfl
set_option maxRecDepth 20000 in
theorem ke_123_600 : alook 123 600 = some (600, .iload_n 3, 1, (0, 0, 0, 0, 0), ⟨"", "", ""⟩, "") := rfl
theorem ee_123_600 {d : Nat} {h : aH} {l0 l1 l2 : Value} {x : Int32} {st : List Value} : go d 123 600 [l0, l1, l2, .int x] st h = go d 123 601 [l0, l1, l2, .int x] (.int x :: st) h := go_plain (q := (601, [l0, l1, l2, .int x], (.int x :: st), h)) ke_123_600 rfl
set_option maxRecDepth 20000 in
theorem ke_123_601 : alook 123 601 = some (601, .iconst 1, 1, (0, 0, 0, 0, 0), ⟨"", "", ""⟩, "") := rfl
theorem ee_123_601 {d : Nat} {h : aH} {ls st : List Value} : go d 123 601 ls st h = go d 123 602 ls (.int 1 :: st) h := go_plain (q := (602, ls, (.int 1 :: st), h)) ke_123_601 rfl
set_option maxRecDepth 20000 in
theorem ke_123_602 : alook 123 602 = some (602, .iadd, 1, (0, 0, 0, 0, 0), ⟨"", "", ""⟩, "") := rfl
theorem ee_123_602 {d : Nat} {h : aH} {ls st : List Value} {x y : Int32} : go d 123 602 ls (.int y :: .int x :: st) h = go d 123 603 ls (.int (x + y) :: st) h := go_plain (q := (603, ls, (.int (x + y) :: st), h)) ke_123_602 rfl
set_option maxRecDepth 20000 in
theorem ke_123_603 : alook 123 603 = some (603, .iaload, 1, (0, 0, 0, 0, 0), ⟨"", "", ""⟩, "") := rfl
theorem ee_123_603 {d : Nat} {ls st : List Value} {h : aH} {r : Nat} {i : Int32} : go d 123 603 ls (.int i :: .ref r :: st) h = (ia h r i).bind fun z => go d 123 604 ls (.int z :: st) h := go_iald ke_123_603
set_option maxRecDepth 20000 in
theorem ke_123_604 : alook 123 604 = some (604, .invokevirtual 89, 3, (1, 7, 59, 7, 59), ⟨"WordHides", "count", "(I)I"⟩, "") := rfl
theorem ee_123_604 {d : Nat} {ls : List Value} {h : aH} {i0 : Int32} {r1 : Nat} : go (d + 1) 123 604 ls [.int i0, .ref r1] h = if isC h r1 7 = true then (go d 59 0 [.ref r1, .int i0] [] h).bind (fun q => go (d + 1) 123 607 ls (q.1.toList ++ []) q.2) else none := go_cv1 (as := [.int i0]) (rest := []) (L := [.ref r1, .int i0]) ke_123_604 rfl rfl rfl
set_option maxRecDepth 20000 in
theorem ke_123_607 : alook 123 607 = some (607, .aload_n 2, 1, (0, 0, 0, 0, 0), ⟨"", "", ""⟩, "") := rfl
theorem ee_123_607 {d : Nat} {h : aH} {l0 l1 l3 : Value} {x : Nat} {st : List Value} : go d 123 607 [l0, l1, .ref x, l3] st h = go d 123 608 [l0, l1, .ref x, l3] (.ref x :: st) h := go_plain (q := (608, [l0, l1, .ref x, l3], (.ref x :: st), h)) ke_123_607 rfl
theorem ee_123_607N {d : Nat} {h : aH} {l0 l1 l3 : Value} {st : List Value} : go d 123 607 [l0, l1, .null, l3] st h = go d 123 608 [l0, l1, .null, l3] (.null :: st) h := go_plain (q := (608, [l0, l1, .null, l3], (.null :: st), h)) ke_123_607 rfl
set_option maxRecDepth 20000 in
theorem ke_123_608 : alook 123 608 = some (608, .aload_n 0, 1, (0, 0, 0, 0, 0), ⟨"", "", ""⟩, "") := rfl
theorem ee_123_608 {d : Nat} {h : aH} {l1 l2 l3 : Value} {x : Nat} {st : List Value} : go d 123 608 [.ref x, l1, l2, l3] st h = go d 123 609 [.ref x, l1, l2, l3] (.ref x :: st) h := go_plain (q := (609, [.ref x, l1, l2, l3], (.ref x :: st), h)) ke_123_608 rfl
theorem ee_123_608N {d : Nat} {h : aH} {l1 l2 l3 : Value} {st : List Value} : go d 123 608 [.null, l1, l2, l3] st h = go d 123 609 [.null, l1, l2, l3] (.null :: st) h := go_plain (q := (609, [.null, l1, l2, l3], (.null :: st), h)) ke_123_608 rfl
set_option maxRecDepth 20000 in
theorem ke_123_609 : alook 123 609 = some (609, .iload_n 3, 1, (0, 0, 0, 0, 0), ⟨"", "", ""⟩, "") := rfl
theorem ee_123_609 {d : Nat} {h : aH} {l0 l1 l2 : Value} {x : Int32} {st : List Value} : go d 123 609 [l0, l1, l2, .int x] st h = go d 123 610 [l0, l1, l2, .int x] (.int x :: st) h := go_plain (q := (610, [l0, l1, l2, .int x], (.int x :: st), h)) ke_123_609 rfl
set_option maxRecDepth 20000 in
theorem ke_123_610 : alook 123 610 = some (610, .iconst 1, 1, (0, 0, 0, 0, 0), ⟨"", "", ""⟩, "") := rfl
theorem ee_123_610 {d : Nat} {h : aH} {ls st : List Value} : go d 123 610 ls st h = go d 123 611 ls (.int 1 :: st) h := go_plain (q := (611, ls, (.int 1 :: st), h)) ke_123_610 rfl
set_option maxRecDepth 20000 in
theorem ke_123_611 : alook 123 611 = some (611, .iadd, 1, (0, 0, 0, 0, 0), ⟨"", "", ""⟩, "") := rfl
theorem ee_123_611 {d : Nat} {h : aH} {ls st : List Value} {x y : Int32} : go d 123 611 ls (.int y :: .int x :: st) h = go d 123 612 ls (.int (x + y) :: st) h := go_plain (q := (612, ls, (.int (x + y) :: st), h)) ke_123_611 rfl
set_option maxRecDepth 20000 in
theorem ke_123_612 : alook 123 612 = some (612, .iaload, 1, (0, 0, 0, 0, 0), ⟨"", "", ""⟩, "") := rfl
theorem ee_123_612 {d : Nat} {ls st : List Value} {h : aH} {r : Nat} {i : Int32} : go d 123 612 ls (.int i :: .ref r :: st) h = (ia h r i).bind fun z => go d 123 613 ls (.int z :: st) h := go_iald ke_123_612
set_option maxRecDepth 20000 in
theorem ke_123_613 : alook 123 613 = some (613, .invokevirtual 92, 3, (1, 8, 118, 8, 118), ⟨"WordHidesModel", "count", "(I)I"⟩, "") := rfl
theorem ee_123_613 {d : Nat} {ls : List Value} {h : aH} {i0 : Int32} {r1 : Nat} {i2 : Int32} : go (d + 1) 123 613 ls [.int i0, .ref r1, .int i2] h = if isC h r1 8 = true then (go d 118 0 [.ref r1, .int i0] [] h).bind (fun q => go (d + 1) 123 616 ls (q.1.toList ++ [.int i2]) q.2) else none := go_cv1 (as := [.int i0]) (rest := [.int i2]) (L := [.ref r1, .int i0]) ke_123_613 rfl rfl rfl
set_option maxRecDepth 20000 in
theorem ke_123_616 : alook 123 616 = some (616, .if_icmp .eq 5, 3, (621, 0, 0, 0, 0), ⟨"", "", ""⟩, "") := rfl
theorem ee_123_616 {d : Nat} {ls st : List Value} {h : aH} {x y : Int32} : go d 123 616 ls (.int y :: .int x :: st) h = if x = y then go d 123 621 ls st h else go d 123 619 ls st h := go_ci (go_if2 (tg := 621) (q := 619) (f := fun x y => decide (x = y)) ke_123_616 rfl)
set_option maxRecDepth 20000 in
theorem ke_123_619 : alook 123 619 = some (619, .iconst 0, 1, (0, 0, 0, 0, 0), ⟨"", "", ""⟩, "") := rfl
theorem ee_123_619 {d : Nat} {h : aH} {ls st : List Value} : go d 123 619 ls st h = go d 123 620 ls (.int 0 :: st) h := go_plain (q := (620, ls, (.int 0 :: st), h)) ke_123_619 rfl
set_option maxRecDepth 20000 in
theorem ke_123_620 : alook 123 620 = some (620, .ireturn, 1, (1, 0, 0, 0, 0), ⟨"", "", ""⟩, "") := rfl
theorem ee_123_620 {d : Nat} {ls : List Value} {h : aH} : go d 123 620 ls [.int 0] h = some (some (.int 0), h) := go_zret0 ke_123_620
theorem ee_123_620T {d : Nat} {ls : List Value} {h : aH} : go d 123 620 ls [.int 1] h = some (some (.int 1), h) := go_zret1 ke_123_620
set_option maxRecDepth 20000 in
theorem ke_123_621 : alook 123 621 = some (621, .iinc 3 4, 3, (0, 0, 0, 0, 0), ⟨"", "", ""⟩, "") := rfl
theorem ee_123_621 {d : Nat} {h : aH} {l0 l1 l2 : Value} {x : Int32} {st : List Value} : go d 123 621 [l0, l1, l2, .int x] st h = go d 123 624 [l0, l1, l2, .int (x + 4)] st h := go_plain (q := (624, [l0, l1, l2, .int (x + 4)], st, h)) ke_123_621 rfl
set_option maxRecDepth 20000 in
theorem ke_123_624 : alook 123 624 = some (624, .goto (-606), 3, (18, 0, 0, 0, 0), ⟨"", "", ""⟩, "") := rfl
theorem ee_123_624 {d : Nat} {h : aH} {ls st : List Value} : go d 123 624 ls st h = go d 123 18 ls st h := go_plain (q := (18, ls, st, h)) ke_123_624 rfl
set_option maxRecDepth 20000 in
theorem ke_123_627 : alook 123 627 = some (627, .iconst 1, 1, (0, 0, 0, 0, 0), ⟨"", "", ""⟩, "") := rfl
theorem ee_123_627 {d : Nat} {h : aH} {ls st : List Value} : go d 123 627 ls st h = go d 123 628 ls (.int 1 :: st) h := go_plain (q := (628, ls, (.int 1 :: st), h)) ke_123_627 rfl
set_option maxRecDepth 20000 in
theorem ke_123_628 : alook 123 628 = some (628, .ireturn, 1, (1, 0, 0, 0, 0), ⟨"", "", ""⟩, "") := rfl
theorem ee_123_628 {d : Nat} {ls : List Value} {h : aH} : go d 123 628 ls [.int 0] h = some (some (.int 0), h) := go_zret0 ke_123_628
theorem ee_123_628T {d : Nat} {ls : List Value} {h : aH} : go d 123 628 ls [.int 1] h = some (some (.int 1), h) := go_zret1 ke_123_628
