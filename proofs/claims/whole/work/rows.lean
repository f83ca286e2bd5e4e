section
-- ===== PART A: goes FIRST, ahead of the names: the tables' words, and 'selects' of the private methods out of them =====
/-- a private method of a class that the tables say can be made, by its rows of tables_1 -/
def lw_okq (q : MethodName × Nat) : Prop := (q.1.cls ≠ "java/lang/invoke/MethodHandle" ∧ q.1.cls ≠ "java/lang/invoke/VarHandle") ∧ Cond.instantiable q.1.cls q.2 ∈ tables_1 ∧ Cond.privateMethod q.1 ∈ tables_1 ∧ Cond.instanceMethod q.1 ∈ tables_1
theorem lw_p0 : lw_okq (⟨"WordHides$Lattice", "measureReaches", "(II)V"⟩, 5) := ⟨⟨by decide +kernel, by decide +kernel⟩, List.mem_of_getElem? (i := 24) (by decide +kernel), List.mem_of_getElem? (i := 34) (by decide +kernel), List.mem_of_getElem? (i := 35) (by decide +kernel)⟩
theorem lw_p1 : lw_okq (⟨"WordHides$Lattice", "runOf", "(II)I"⟩, 5) := ⟨⟨by decide +kernel, by decide +kernel⟩, List.mem_of_getElem? (i := 24) (by decide +kernel), List.mem_of_getElem? (i := 38) (by decide +kernel), List.mem_of_getElem? (i := 39) (by decide +kernel)⟩
theorem lw_p2 : lw_okq (⟨"WordHides", "forgetLayings", "()V"⟩, 9) := ⟨⟨by decide +kernel, by decide +kernel⟩, List.mem_of_getElem? (i := 16) (by decide +kernel), List.mem_of_getElem? (i := 290) (by decide +kernel), List.mem_of_getElem? (i := 291) (by decide +kernel)⟩
theorem lw_p3 : lw_okq (⟨"WordHides", "listOf", "(I)LWordHides$TextList;"⟩, 9) := ⟨⟨by decide +kernel, by decide +kernel⟩, List.mem_of_getElem? (i := 16) (by decide +kernel), List.mem_of_getElem? (i := 325) (by decide +kernel), List.mem_of_getElem? (i := 326) (by decide +kernel)⟩
theorem lw_p4 : lw_okq (⟨"WordHides$Square", "showsAt", "(LWordHides$Text;I)Z"⟩, 2) := ⟨⟨by decide +kernel, by decide +kernel⟩, List.mem_of_getElem? (i := 118) (by decide +kernel), List.mem_of_getElem? (i := 366) (by decide +kernel), List.mem_of_getElem? (i := 367) (by decide +kernel)⟩
theorem lw_p5 : lw_okq (⟨"WordHides$GoodSearch", "isSpoiled", "(LWordHides$Square;)Z"⟩, 10) := ⟨⟨by decide +kernel, by decide +kernel⟩, List.mem_of_getElem? (i := 224) (by decide +kernel), List.mem_of_getElem? (i := 447) (by decide +kernel), List.mem_of_getElem? (i := 448) (by decide +kernel)⟩
theorem lw_p6 : lw_okq (⟨"WordHidesModel", "isCell", "(I)Z"⟩, 13) := ⟨⟨by decide +kernel, by decide +kernel⟩, List.mem_of_getElem? (i := 535) (by decide +kernel), List.mem_of_getElem? (i := 593) (by decide +kernel), List.mem_of_getElem? (i := 594) (by decide +kernel)⟩
theorem lw_p7 : lw_okq (⟨"WordHidesModel", "cells", "()I"⟩, 13) := ⟨⟨by decide +kernel, by decide +kernel⟩, List.mem_of_getElem? (i := 535) (by decide +kernel), List.mem_of_getElem? (i := 597) (by decide +kernel), List.mem_of_getElem? (i := 598) (by decide +kernel)⟩
theorem lw_p8 : lw_okq (⟨"WordHidesModel", "takeRest", "()I"⟩, 13) := ⟨⟨by decide +kernel, by decide +kernel⟩, List.mem_of_getElem? (i := 535) (by decide +kernel), List.mem_of_getElem? (i := 620) (by decide +kernel), List.mem_of_getElem? (i := 621) (by decide +kernel)⟩
theorem lw_p9 : lw_okq (⟨"WordHidesModel", "isWord", "(II)Z"⟩, 13) := ⟨⟨by decide +kernel, by decide +kernel⟩, List.mem_of_getElem? (i := 535) (by decide +kernel), List.mem_of_getElem? (i := 636) (by decide +kernel), List.mem_of_getElem? (i := 637) (by decide +kernel)⟩
theorem lw_p10 : lw_okq (⟨"WordHidesModel", "longOf", "(II)I"⟩, 13) := ⟨⟨by decide +kernel, by decide +kernel⟩, List.mem_of_getElem? (i := 535) (by decide +kernel), List.mem_of_getElem? (i := 640) (by decide +kernel), List.mem_of_getElem? (i := 641) (by decide +kernel)⟩
theorem lw_p11 : lw_okq (⟨"WordHidesModel", "letterOf", "(III)I"⟩, 13) := ⟨⟨by decide +kernel, by decide +kernel⟩, List.mem_of_getElem? (i := 535) (by decide +kernel), List.mem_of_getElem? (i := 644) (by decide +kernel), List.mem_of_getElem? (i := 645) (by decide +kernel)⟩
theorem lw_p12 : lw_okq (⟨"WordHidesModel", "begin", "()V"⟩, 13) := ⟨⟨by decide +kernel, by decide +kernel⟩, List.mem_of_getElem? (i := 535) (by decide +kernel), List.mem_of_getElem? (i := 652) (by decide +kernel), List.mem_of_getElem? (i := 653) (by decide +kernel)⟩
theorem lw_p13 : lw_okq (⟨"WordHidesModel", "standsIn", "(IIII)Z"⟩, 13) := ⟨⟨by decide +kernel, by decide +kernel⟩, List.mem_of_getElem? (i := 535) (by decide +kernel), List.mem_of_getElem? (i := 656) (by decide +kernel), List.mem_of_getElem? (i := 657) (by decide +kernel)⟩
theorem lw_p14 : lw_okq (⟨"WordHidesModel", "canLie", "(II)Z"⟩, 13) := ⟨⟨by decide +kernel, by decide +kernel⟩, List.mem_of_getElem? (i := 535) (by decide +kernel), List.mem_of_getElem? (i := 660) (by decide +kernel), List.mem_of_getElem? (i := 661) (by decide +kernel)⟩
theorem lw_p15 : lw_okq (⟨"WordHidesModel", "cellAt", "(II)I"⟩, 13) := ⟨⟨by decide +kernel, by decide +kernel⟩, List.mem_of_getElem? (i := 535) (by decide +kernel), List.mem_of_getElem? (i := 664) (by decide +kernel), List.mem_of_getElem? (i := 665) (by decide +kernel)⟩
def lw_privs_1 : List (MethodName × Nat) := [(⟨"WordHides$Lattice", "measureReaches", "(II)V"⟩, 5), (⟨"WordHides$Lattice", "runOf", "(II)I"⟩, 5), (⟨"WordHides", "forgetLayings", "()V"⟩, 9), (⟨"WordHides", "listOf", "(I)LWordHides$TextList;"⟩, 9), (⟨"WordHides$Square", "showsAt", "(LWordHides$Text;I)Z"⟩, 2), (⟨"WordHides$GoodSearch", "isSpoiled", "(LWordHides$Square;)Z"⟩, 10), (⟨"WordHidesModel", "isCell", "(I)Z"⟩, 13), (⟨"WordHidesModel", "cells", "()I"⟩, 13), (⟨"WordHidesModel", "takeRest", "()I"⟩, 13), (⟨"WordHidesModel", "isWord", "(II)Z"⟩, 13), (⟨"WordHidesModel", "longOf", "(II)I"⟩, 13), (⟨"WordHidesModel", "letterOf", "(III)I"⟩, 13), (⟨"WordHidesModel", "begin", "()V"⟩, 13), (⟨"WordHidesModel", "standsIn", "(IIII)Z"⟩, 13), (⟨"WordHidesModel", "canLie", "(II)Z"⟩, 13), (⟨"WordHidesModel", "cellAt", "(II)I"⟩, 13)]
theorem lw_r1 : ∀ q ∈ lw_privs_1, lw_okq q := List.forall_mem_cons.mpr ⟨lw_p0, List.forall_mem_cons.mpr ⟨lw_p1, List.forall_mem_cons.mpr ⟨lw_p2, List.forall_mem_cons.mpr ⟨lw_p3, List.forall_mem_cons.mpr ⟨lw_p4, List.forall_mem_cons.mpr ⟨lw_p5, List.forall_mem_cons.mpr ⟨lw_p6, List.forall_mem_cons.mpr ⟨lw_p7, List.forall_mem_cons.mpr ⟨lw_p8, List.forall_mem_cons.mpr ⟨lw_p9, List.forall_mem_cons.mpr ⟨lw_p10, List.forall_mem_cons.mpr ⟨lw_p11, List.forall_mem_cons.mpr ⟨lw_p12, List.forall_mem_cons.mpr ⟨lw_p13, List.forall_mem_cons.mpr ⟨lw_p14, List.forall_mem_cons.mpr ⟨lw_p15, fun _ h => absurd h List.not_mem_nil⟩⟩⟩⟩⟩⟩⟩⟩⟩⟩⟩⟩⟩⟩⟩⟩
theorem lw_p16 : lw_okq (⟨"WordHidesModel", "isPlace", "(I)Z"⟩, 13) := ⟨⟨by decide +kernel, by decide +kernel⟩, List.mem_of_getElem? (i := 535) (by decide +kernel), List.mem_of_getElem? (i := 678) (by decide +kernel), List.mem_of_getElem? (i := 679) (by decide +kernel)⟩
theorem lw_p17 : lw_okq (⟨"WordHidesModel", "canPut", "(II)Z"⟩, 13) := ⟨⟨by decide +kernel, by decide +kernel⟩, List.mem_of_getElem? (i := 535) (by decide +kernel), List.mem_of_getElem? (i := 682) (by decide +kernel), List.mem_of_getElem? (i := 683) (by decide +kernel)⟩
theorem lw_p18 : lw_okq (⟨"WordHidesModel", "goThrough", "(Z)V"⟩, 13) := ⟨⟨by decide +kernel, by decide +kernel⟩, List.mem_of_getElem? (i := 535) (by decide +kernel), List.mem_of_getElem? (i := 694) (by decide +kernel), List.mem_of_getElem? (i := 695) (by decide +kernel)⟩
theorem lw_p19 : lw_okq (⟨"WordHidesModel", "placesOf", "(I)I"⟩, 13) := ⟨⟨by decide +kernel, by decide +kernel⟩, List.mem_of_getElem? (i := 535) (by decide +kernel), List.mem_of_getElem? (i := 698) (by decide +kernel), List.mem_of_getElem? (i := 699) (by decide +kernel)⟩
theorem lw_p20 : lw_okq (⟨"WordHidesModel", "layStep", "(II)Z"⟩, 13) := ⟨⟨by decide +kernel, by decide +kernel⟩, List.mem_of_getElem? (i := 535) (by decide +kernel), List.mem_of_getElem? (i := 702) (by decide +kernel), List.mem_of_getElem? (i := 703) (by decide +kernel)⟩
theorem lw_p21 : lw_okq (⟨"WordHidesModel", "copyStep", "(I)V"⟩, 13) := ⟨⟨by decide +kernel, by decide +kernel⟩, List.mem_of_getElem? (i := 535) (by decide +kernel), List.mem_of_getElem? (i := 706) (by decide +kernel), List.mem_of_getElem? (i := 707) (by decide +kernel)⟩
theorem lw_p22 : lw_okq (⟨"WordHidesModel", "layWord", "(II)Z"⟩, 13) := ⟨⟨by decide +kernel, by decide +kernel⟩, List.mem_of_getElem? (i := 535) (by decide +kernel), List.mem_of_getElem? (i := 710) (by decide +kernel), List.mem_of_getElem? (i := 711) (by decide +kernel)⟩
theorem lw_p23 : lw_okq (⟨"WordHidesModel", "goLast", "(II)V"⟩, 13) := ⟨⟨by decide +kernel, by decide +kernel⟩, List.mem_of_getElem? (i := 535) (by decide +kernel), List.mem_of_getElem? (i := 714) (by decide +kernel), List.mem_of_getElem? (i := 715) (by decide +kernel)⟩
theorem lw_p24 : lw_okq (⟨"WordHidesModel", "see", "(III)V"⟩, 13) := ⟨⟨by decide +kernel, by decide +kernel⟩, List.mem_of_getElem? (i := 535) (by decide +kernel), List.mem_of_getElem? (i := 718) (by decide +kernel), List.mem_of_getElem? (i := 719) (by decide +kernel)⟩
theorem lw_p25 : lw_okq (⟨"WordHidesModel", "isGood", "()Z"⟩, 13) := ⟨⟨by decide +kernel, by decide +kernel⟩, List.mem_of_getElem? (i := 535) (by decide +kernel), List.mem_of_getElem? (i := 722) (by decide +kernel), List.mem_of_getElem? (i := 723) (by decide +kernel)⟩
theorem lw_p26 : lw_okq (⟨"WordHidesModel", "fillRest", "()I"⟩, 13) := ⟨⟨by decide +kernel, by decide +kernel⟩, List.mem_of_getElem? (i := 535) (by decide +kernel), List.mem_of_getElem? (i := 726) (by decide +kernel), List.mem_of_getElem? (i := 727) (by decide +kernel)⟩
theorem lw_p27 : lw_okq (⟨"WordHidesModel", "timesIn", "(III)I"⟩, 13) := ⟨⟨by decide +kernel, by decide +kernel⟩, List.mem_of_getElem? (i := 535) (by decide +kernel), List.mem_of_getElem? (i := 730) (by decide +kernel), List.mem_of_getElem? (i := 731) (by decide +kernel)⟩
theorem lw_p28 : lw_okq (⟨"WordHidesModel", "isSame", "(I)Z"⟩, 13) := ⟨⟨by decide +kernel, by decide +kernel⟩, List.mem_of_getElem? (i := 535) (by decide +kernel), List.mem_of_getElem? (i := 734) (by decide +kernel), List.mem_of_getElem? (i := 735) (by decide +kernel)⟩
theorem lw_p29 : lw_okq (⟨"WordHidesModel", "keep", "(III)V"⟩, 13) := ⟨⟨by decide +kernel, by decide +kernel⟩, List.mem_of_getElem? (i := 535) (by decide +kernel), List.mem_of_getElem? (i := 738) (by decide +kernel), List.mem_of_getElem? (i := 739) (by decide +kernel)⟩
theorem lw_p30 : lw_okq (⟨"WordHidesModel", "crossed", "()I"⟩, 13) := ⟨⟨by decide +kernel, by decide +kernel⟩, List.mem_of_getElem? (i := 535) (by decide +kernel), List.mem_of_getElem? (i := 742) (by decide +kernel), List.mem_of_getElem? (i := 743) (by decide +kernel)⟩
theorem lw_p31 : lw_okq (⟨"WordHidesModel", "placeTold", "(IZ)I"⟩, 13) := ⟨⟨by decide +kernel, by decide +kernel⟩, List.mem_of_getElem? (i := 535) (by decide +kernel), List.mem_of_getElem? (i := 746) (by decide +kernel), List.mem_of_getElem? (i := 747) (by decide +kernel)⟩
def lw_privs_2 : List (MethodName × Nat) := [(⟨"WordHidesModel", "isPlace", "(I)Z"⟩, 13), (⟨"WordHidesModel", "canPut", "(II)Z"⟩, 13), (⟨"WordHidesModel", "goThrough", "(Z)V"⟩, 13), (⟨"WordHidesModel", "placesOf", "(I)I"⟩, 13), (⟨"WordHidesModel", "layStep", "(II)Z"⟩, 13), (⟨"WordHidesModel", "copyStep", "(I)V"⟩, 13), (⟨"WordHidesModel", "layWord", "(II)Z"⟩, 13), (⟨"WordHidesModel", "goLast", "(II)V"⟩, 13), (⟨"WordHidesModel", "see", "(III)V"⟩, 13), (⟨"WordHidesModel", "isGood", "()Z"⟩, 13), (⟨"WordHidesModel", "fillRest", "()I"⟩, 13), (⟨"WordHidesModel", "timesIn", "(III)I"⟩, 13), (⟨"WordHidesModel", "isSame", "(I)Z"⟩, 13), (⟨"WordHidesModel", "keep", "(III)V"⟩, 13), (⟨"WordHidesModel", "crossed", "()I"⟩, 13), (⟨"WordHidesModel", "placeTold", "(IZ)I"⟩, 13)]
theorem lw_r2 : ∀ q ∈ lw_privs_2, lw_okq q := List.forall_mem_cons.mpr ⟨lw_p16, List.forall_mem_cons.mpr ⟨lw_p17, List.forall_mem_cons.mpr ⟨lw_p18, List.forall_mem_cons.mpr ⟨lw_p19, List.forall_mem_cons.mpr ⟨lw_p20, List.forall_mem_cons.mpr ⟨lw_p21, List.forall_mem_cons.mpr ⟨lw_p22, List.forall_mem_cons.mpr ⟨lw_p23, List.forall_mem_cons.mpr ⟨lw_p24, List.forall_mem_cons.mpr ⟨lw_p25, List.forall_mem_cons.mpr ⟨lw_p26, List.forall_mem_cons.mpr ⟨lw_p27, List.forall_mem_cons.mpr ⟨lw_p28, List.forall_mem_cons.mpr ⟨lw_p29, List.forall_mem_cons.mpr ⟨lw_p30, List.forall_mem_cons.mpr ⟨lw_p31, fun _ h => absurd h List.not_mem_nil⟩⟩⟩⟩⟩⟩⟩⟩⟩⟩⟩⟩⟩⟩⟩⟩
theorem lw_p32 : lw_okq (⟨"WordHidesModel", "areNone", "(III)Z"⟩, 13) := ⟨⟨by decide +kernel, by decide +kernel⟩, List.mem_of_getElem? (i := 535) (by decide +kernel), List.mem_of_getElem? (i := 754) (by decide +kernel), List.mem_of_getElem? (i := 755) (by decide +kernel)⟩
theorem lw_p33 : lw_okq (⟨"WordHidesModel", "covered", "()I"⟩, 13) := ⟨⟨by decide +kernel, by decide +kernel⟩, List.mem_of_getElem? (i := 535) (by decide +kernel), List.mem_of_getElem? (i := 758) (by decide +kernel), List.mem_of_getElem? (i := 759) (by decide +kernel)⟩
theorem lw_p34 : lw_okq (⟨"WordHidesModel", "fillFirst", "()I"⟩, 13) := ⟨⟨by decide +kernel, by decide +kernel⟩, List.mem_of_getElem? (i := 535) (by decide +kernel), List.mem_of_getElem? (i := 766) (by decide +kernel), List.mem_of_getElem? (i := 767) (by decide +kernel)⟩
theorem lw_p35 : lw_okq (⟨"WordHidesModel", "empties", "()I"⟩, 13) := ⟨⟨by decide +kernel, by decide +kernel⟩, List.mem_of_getElem? (i := 535) (by decide +kernel), List.mem_of_getElem? (i := 786) (by decide +kernel), List.mem_of_getElem? (i := 787) (by decide +kernel)⟩
theorem lw_p36 : lw_okq (⟨"WordHidesModel", "letters", "()I"⟩, 13) := ⟨⟨by decide +kernel, by decide +kernel⟩, List.mem_of_getElem? (i := 535) (by decide +kernel), List.mem_of_getElem? (i := 790) (by decide +kernel), List.mem_of_getElem? (i := 791) (by decide +kernel)⟩
def lw_privs_3 : List (MethodName × Nat) := [(⟨"WordHidesModel", "areNone", "(III)Z"⟩, 13), (⟨"WordHidesModel", "covered", "()I"⟩, 13), (⟨"WordHidesModel", "fillFirst", "()I"⟩, 13), (⟨"WordHidesModel", "empties", "()I"⟩, 13), (⟨"WordHidesModel", "letters", "()I"⟩, 13)]
theorem lw_r3 : ∀ q ∈ lw_privs_3, lw_okq q := List.forall_mem_cons.mpr ⟨lw_p32, List.forall_mem_cons.mpr ⟨lw_p33, List.forall_mem_cons.mpr ⟨lw_p34, List.forall_mem_cons.mpr ⟨lw_p35, List.forall_mem_cons.mpr ⟨lw_p36, fun _ h => absurd h List.not_mem_nil⟩⟩⟩⟩⟩
def lw_privs : List (MethodName × Nat) := lw_privs_1 ++ (lw_privs_2 ++ (lw_privs_3))
def lw_tbl : List Cond := k2_sels lw_privs ++ tables_1
theorem lw_privs_ok : ∀ q ∈ lw_privs, lw_okq q := by
  show ∀ q ∈ lw_privs_1 ++ (lw_privs_2 ++ (lw_privs_3)), lw_okq q
  exact List.forall_mem_append.mpr ⟨lw_r1, List.forall_mem_append.mpr ⟨lw_r2, lw_r3⟩⟩

def RX0 : String := "WordHides$Board"
def TX0 : u_T := fun k => match k with
  | 0 => ("WordHides$Board", "square", "LWordHides$Square;", true)
  | 1 => ("WordHides$Board", "words", "LWordHides$TextList;", true)
  | 2 => ("WordHides$Board", "barred", "LWordHides$TextList;", true)
  | _ => ("WordHides$Board", "rest", "LWordHides$Text;", true)
def RX1 : String := "WordHides$CrossedSearch"
def TX1 : u_T := fun k => match k with
  | 0 => ("WordHides$Search", "board", "LWordHides$Board;", true)
  | 1 => ("WordHides$Search", "laid", "LWordHides$Square;", true)
  | 2 => ("WordHides$Search", "places", "[I", true)
  | 3 => ("WordHides$Search", "cellSets", "[I", true)
  | 4 => ("WordHides$Search", "firstPlaces", "[I", true)
  | 5 => ("WordHides$Search", "total", "I", false)
  | 6 => ("WordHides$Search", "known", "Z", false)
  | 7 => ("WordHides$CrossedSearch", "mostCrossed", "I", false)
  | _ => ("WordHides$CrossedSearch", "withMost", "I", false)
def RX2 : String := "WordHides$GoodSearch"
def TX2 : u_T := fun k => match k with
  | 0 => ("WordHides$Search", "board", "LWordHides$Board;", true)
  | 1 => ("WordHides$Search", "laid", "LWordHides$Square;", true)
  | 2 => ("WordHides$Search", "places", "[I", true)
  | 3 => ("WordHides$Search", "cellSets", "[I", true)
  | 4 => ("WordHides$Search", "firstPlaces", "[I", true)
  | 5 => ("WordHides$Search", "total", "I", false)
  | 6 => ("WordHides$Search", "known", "Z", false)
  | 7 => ("WordHides$GoodSearch", "filled", "LWordHides$Square;", true)
  | 8 => ("WordHides$GoodSearch", "firstFilled", "LWordHides$Square;", true)
  | _ => ("WordHides$GoodSearch", "firstFromRest", "I", false)
def RX3 : String := "WordHides$Lattice"
def TX3 : u_T := fun k => match k with
  | 0 => ("WordHides$Lattice", "side", "I", true)
  | 1 => ("WordHides$Lattice", "cellCount", "I", true)
  | 2 => ("WordHides$Lattice", "placeCount", "I", true)
  | 3 => ("WordHides$Lattice", "steps", "[I", true)
  | _ => ("WordHides$Lattice", "reaches", "[I", true)
def RX4 : String := "WordHides$Search"
def TX4 : u_T := fun k => match k with
  | _ => ("", "", "", false)
def RX5 : String := "WordHides$Square"
def TX5 : u_T := fun k => match k with
  | 0 => ("WordHides$Square", "cells", "[I", true)
  | _ => ("WordHides$Square", "lattice", "LWordHides$Lattice;", false)
def RX6 : String := "WordHides$Text"
def TX6 : u_T := fun k => match k with
  | 0 => ("WordHides$Text", "letters", "[I", true)
  | _ => ("WordHides$Text", "size", "I", false)
def RX7 : String := "WordHides$TextList"
def TX7 : u_T := fun k => match k with
  | 0 => ("WordHides$TextList", "texts", "[LWordHides$Text;", true)
  | _ => ("WordHides$TextList", "size", "I", false)
def RX8 : String := "WordHides"
def TX8 : u_T := fun k => match k with
  | 0 => ("WordHides", "smallLattice", "LWordHides$Lattice;", true)
  | 1 => ("WordHides", "largeLattice", "LWordHides$Lattice;", true)
  | 2 => ("WordHides", "board", "LWordHides$Board;", true)
  | 3 => ("WordHides", "images", "[LWordHides$Board;", true)
  | 4 => ("WordHides", "pad", "LWordHides$Text;", true)
  | 5 => ("WordHides", "trial", "LWordHides$Square;", true)
  | 6 => ("WordHides", "crossedSearch", "LWordHides$CrossedSearch;", true)
  | 7 => ("WordHides", "goodSearch", "LWordHides$GoodSearch;", true)
  | _ => ("WordHides", "keptImages", "I", false)
def RX9 : String := "WordHidesModel"
def TX9 : u_T := fun k => match k with
  | 0 => ("WordHidesModel", "state", "[I", true)
  | 1 => ("WordHidesModel", "images", "[I", true)
  | 2 => ("WordHidesModel", "isKept", "[Z", true)
  | 3 => ("WordHidesModel", "pad", "[I", true)
  | 4 => ("WordHidesModel", "said", "I", false)
  | 5 => ("WordHidesModel", "square", "[I", true)
  | 6 => ("WordHidesModel", "cover", "[I", true)
  | 7 => ("WordHidesModel", "layings", "I", false)
  | 8 => ("WordHidesModel", "mostCrossed", "I", false)
  | 9 => ("WordHidesModel", "asMany", "I", false)
  | 10 => ("WordHidesModel", "goods", "I", false)
  | 11 => ("WordHidesModel", "firstPlace", "[I", true)
  | _ => ("WordHidesModel", "isForGood", "Z", false)
abbrev vwCl : List vw_C := [(RX0, TX0, 4), (RX1, TX1, 9), (RX2, TX2, 10), (RX3, TX3, 5), (RX5, TX5, 2), (RX6, TX6, 2), (RX7, TX7, 2), (RX8, TX8, 9), (RX9, TX9, 13)]
end
section
/-! the program: a method is its name, code, locals, answer, number of arguments (with the receiver), entries; an entry is pc, instruction, length, numbers, name, class -/
abbrev wE : Type := Nat × Instr × Nat × (Nat × Nat × Nat × Nat × Nat) × MethodName × String
abbrev wM : Type := MethodName × ByteArray × Nat × Option FieldType × Nat × List wE
def pX0_init : wM := (⟨"WordHides$Board", "<init>", "(LWordHides$Lattice;)V"⟩, prog_2_method_1_code, 2, none, 2, [
  (0, .aload_n 0, 1, (0, 0, 0, 0, 0), ⟨"", "", ""⟩, ""),
  (1, .invokespecial 3, 3, (0, 0, 0, 0, 1), ⟨"java/lang/Object", "<init>", "()V"⟩, ""),
  (4, .aload_n 0, 1, (0, 0, 0, 0, 0), ⟨"", "", ""⟩, ""),
  (5, .new 9, 3, (6, 2, 0, 0, 0), ⟨"", "", ""⟩, ""),
  (8, .dup, 1, (0, 0, 0, 0, 0), ⟨"", "", ""⟩, ""),
  (9, .getstatic 11, 3, (3, 1, 0, 0, 0), ⟨"WordHides", "MOST_LETTERS", "[I"⟩, "WordHides"),
  (12, .iconst 0, 1, (0, 0, 0, 0, 0), ⟨"", "", ""⟩, ""),
  (13, .iaload, 1, (0, 0, 0, 0, 0), ⟨"", "", ""⟩, ""),
  (14, .invokespecial 15, 3, (1, 0, 36, 0, 0), ⟨"WordHides$TextList", "<init>", "(I)V"⟩, ""),
  (17, .putfield 18, 3, (1, 0, 0, 2, 0), ⟨"", "", ""⟩, "WordHides$Board"),
  (20, .aload_n 0, 1, (0, 0, 0, 0, 0), ⟨"", "", ""⟩, ""),
  (21, .new 9, 3, (6, 2, 0, 0, 0), ⟨"", "", ""⟩, ""),
  (24, .dup, 1, (0, 0, 0, 0, 0), ⟨"", "", ""⟩, ""),
  (25, .getstatic 11, 3, (3, 1, 0, 0, 0), ⟨"WordHides", "MOST_LETTERS", "[I"⟩, "WordHides"),
  (28, .iconst 1, 1, (0, 0, 0, 0, 0), ⟨"", "", ""⟩, ""),
  (29, .iaload, 1, (0, 0, 0, 0, 0), ⟨"", "", ""⟩, ""),
  (30, .invokespecial 15, 3, (1, 0, 36, 0, 0), ⟨"WordHides$TextList", "<init>", "(I)V"⟩, ""),
  (33, .putfield 24, 3, (2, 0, 0, 2, 0), ⟨"", "", ""⟩, "WordHides$Board"),
  (36, .aload_n 0, 1, (0, 0, 0, 0, 0), ⟨"", "", ""⟩, ""),
  (37, .new 27, 3, (5, 2, 0, 0, 0), ⟨"", "", ""⟩, ""),
  (40, .dup, 1, (0, 0, 0, 0, 0), ⟨"", "", ""⟩, ""),
  (41, .getstatic 11, 3, (3, 1, 0, 0, 0), ⟨"WordHides", "MOST_LETTERS", "[I"⟩, "WordHides"),
  (44, .iconst 2, 1, (0, 0, 0, 0, 0), ⟨"", "", ""⟩, ""),
  (45, .iaload, 1, (0, 0, 0, 0, 0), ⟨"", "", ""⟩, ""),
  (46, .invokespecial 29, 3, (1, 0, 32, 0, 0), ⟨"WordHides$Text", "<init>", "(I)V"⟩, ""),
  (49, .putfield 30, 3, (3, 0, 0, 2, 0), ⟨"", "", ""⟩, "WordHides$Board"),
  (52, .aload_n 0, 1, (0, 0, 0, 0, 0), ⟨"", "", ""⟩, ""),
  (53, .new 34, 3, (4, 2, 0, 0, 0), ⟨"", "", ""⟩, ""),
  (56, .dup, 1, (0, 0, 0, 0, 0), ⟨"", "", ""⟩, ""),
  (57, .aload_n 1, 1, (0, 0, 0, 0, 0), ⟨"", "", ""⟩, ""),
  (58, .invokespecial 36, 3, (1, 0, 21, 0, 0), ⟨"WordHides$Square", "<init>", "(LWordHides$Lattice;)V"⟩, ""),
  (61, .putfield 39, 3, (0, 0, 0, 2, 0), ⟨"", "", ""⟩, "WordHides$Board"),
  (64, .aload_n 0, 1, (0, 0, 0, 0, 0), ⟨"", "", ""⟩, ""),
  (65, .getfield 30, 3, (3, 0, 0, 2, 0), ⟨"", "", ""⟩, "WordHides$Board"),
  (68, .bipush 120, 2, (0, 0, 0, 0, 0), ⟨"", "", ""⟩, ""),
  (70, .invokevirtual 43, 3, (1, 5, 33, 5, 33), ⟨"WordHides$Text", "append", "(I)V"⟩, ""),
  (73, .return_, 1, (0, 0, 0, 0, 0), ⟨"", "", ""⟩, "")])
def pX0_copyFrom : wM := (⟨"WordHides$Board", "copyFrom", "(LWordHides$Board;)V"⟩, prog_2_method_2_code, 2, none, 2, [
  (0, .aload_n 0, 1, (0, 0, 0, 0, 0), ⟨"", "", ""⟩, ""),
  (1, .getfield 39, 3, (0, 0, 0, 2, 0), ⟨"", "", ""⟩, "WordHides$Board"),
  (4, .aload_n 1, 1, (0, 0, 0, 0, 0), ⟨"", "", ""⟩, ""),
  (5, .getfield 39, 3, (0, 0, 0, 2, 0), ⟨"", "", ""⟩, "WordHides$Board"),
  (8, .invokevirtual 46, 3, (1, 4, 23, 4, 23), ⟨"WordHides$Square", "copyFrom", "(LWordHides$Square;)V"⟩, ""),
  (11, .aload_n 0, 1, (0, 0, 0, 0, 0), ⟨"", "", ""⟩, ""),
  (12, .getfield 18, 3, (1, 0, 0, 2, 0), ⟨"", "", ""⟩, "WordHides$Board"),
  (15, .aload_n 1, 1, (0, 0, 0, 0, 0), ⟨"", "", ""⟩, ""),
  (16, .getfield 18, 3, (1, 0, 0, 2, 0), ⟨"", "", ""⟩, "WordHides$Board"),
  (19, .invokevirtual 50, 3, (1, 6, 39, 6, 39), ⟨"WordHides$TextList", "copyFrom", "(LWordHides$TextList;)V"⟩, ""),
  (22, .aload_n 0, 1, (0, 0, 0, 0, 0), ⟨"", "", ""⟩, ""),
  (23, .getfield 24, 3, (2, 0, 0, 2, 0), ⟨"", "", ""⟩, "WordHides$Board"),
  (26, .aload_n 1, 1, (0, 0, 0, 0, 0), ⟨"", "", ""⟩, ""),
  (27, .getfield 24, 3, (2, 0, 0, 2, 0), ⟨"", "", ""⟩, "WordHides$Board"),
  (30, .invokevirtual 50, 3, (1, 6, 39, 6, 39), ⟨"WordHides$TextList", "copyFrom", "(LWordHides$TextList;)V"⟩, ""),
  (33, .aload_n 0, 1, (0, 0, 0, 0, 0), ⟨"", "", ""⟩, ""),
  (34, .getfield 30, 3, (3, 0, 0, 2, 0), ⟨"", "", ""⟩, "WordHides$Board"),
  (37, .aload_n 1, 1, (0, 0, 0, 0, 0), ⟨"", "", ""⟩, ""),
  (38, .getfield 30, 3, (3, 0, 0, 2, 0), ⟨"", "", ""⟩, "WordHides$Board"),
  (41, .invokevirtual 53, 3, (1, 5, 34, 5, 34), ⟨"WordHides$Text", "copyFrom", "(LWordHides$Text;)V"⟩, ""),
  (44, .return_, 1, (0, 0, 0, 0, 0), ⟨"", "", ""⟩, "")])
def pX1_init : wM := (⟨"WordHides$CrossedSearch", "<init>", "(LWordHides$Board;)V"⟩, prog_3_method_1_code, 2, none, 2, [
  (0, .aload_n 0, 1, (0, 0, 0, 0, 0), ⟨"", "", ""⟩, ""),
  (1, .aload_n 1, 1, (0, 0, 0, 0, 0), ⟨"", "", ""⟩, ""),
  (2, .invokespecial 1, 3, (1, 0, 16, 0, 0), ⟨"WordHides$Search", "<init>", "(LWordHides$Board;)V"⟩, ""),
  (5, .aload_n 0, 1, (0, 0, 0, 0, 0), ⟨"", "", ""⟩, ""),
  (6, .iconst 0, 1, (0, 0, 0, 0, 0), ⟨"", "", ""⟩, ""),
  (7, .putfield 7, 3, (7, 1, 1, 0, 0), ⟨"", "", ""⟩, "WordHides$CrossedSearch"),
  (10, .aload_n 0, 1, (0, 0, 0, 0, 0), ⟨"", "", ""⟩, ""),
  (11, .iconst 0, 1, (0, 0, 0, 0, 0), ⟨"", "", ""⟩, ""),
  (12, .putfield 13, 3, (8, 1, 1, 0, 0), ⟨"", "", ""⟩, "WordHides$CrossedSearch"),
  (15, .return_, 1, (0, 0, 0, 0, 0), ⟨"", "", ""⟩, "")])
def pX1_hasHope : wM := (⟨"WordHides$CrossedSearch", "hasHope", "()Z"⟩, prog_3_method_2_code, 1, (some .boolean), 1, [
  (0, .iconst 1, 1, (0, 0, 0, 0, 0), ⟨"", "", ""⟩, ""),
  (1, .ireturn, 1, (1, 0, 0, 0, 0), ⟨"", "", ""⟩, "")])
def pX1_meetLaying : wM := (⟨"WordHides$CrossedSearch", "meetLaying", "()V"⟩, prog_3_method_3_code, 2, none, 1, [
  (0, .aload_n 0, 1, (0, 0, 0, 0, 0), ⟨"", "", ""⟩, ""),
  (1, .getfield 16, 3, (3, 1, 1, 2, 0), ⟨"", "", ""⟩, "WordHides$CrossedSearch"),
  (4, .iconst 0, 1, (0, 0, 0, 0, 0), ⟨"", "", ""⟩, ""),
  (5, .iaload, 1, (0, 0, 0, 0, 0), ⟨"", "", ""⟩, ""),
  (6, .aload_n 0, 1, (0, 0, 0, 0, 0), ⟨"", "", ""⟩, ""),
  (7, .getfield 16, 3, (3, 1, 1, 2, 0), ⟨"", "", ""⟩, "WordHides$CrossedSearch"),
  (10, .iconst 1, 1, (0, 0, 0, 0, 0), ⟨"", "", ""⟩, ""),
  (11, .iaload, 1, (0, 0, 0, 0, 0), ⟨"", "", ""⟩, ""),
  (12, .iand, 1, (0, 0, 0, 0, 0), ⟨"", "", ""⟩, ""),
  (13, .aload_n 0, 1, (0, 0, 0, 0, 0), ⟨"", "", ""⟩, ""),
  (14, .getfield 16, 3, (3, 1, 1, 2, 0), ⟨"", "", ""⟩, "WordHides$CrossedSearch"),
  (17, .iconst 0, 1, (0, 0, 0, 0, 0), ⟨"", "", ""⟩, ""),
  (18, .iaload, 1, (0, 0, 0, 0, 0), ⟨"", "", ""⟩, ""),
  (19, .aload_n 0, 1, (0, 0, 0, 0, 0), ⟨"", "", ""⟩, ""),
  (20, .getfield 16, 3, (3, 1, 1, 2, 0), ⟨"", "", ""⟩, "WordHides$CrossedSearch"),
  (23, .iconst 2, 1, (0, 0, 0, 0, 0), ⟨"", "", ""⟩, ""),
  (24, .iaload, 1, (0, 0, 0, 0, 0), ⟨"", "", ""⟩, ""),
  (25, .iand, 1, (0, 0, 0, 0, 0), ⟨"", "", ""⟩, ""),
  (26, .ior, 1, (0, 0, 0, 0, 0), ⟨"", "", ""⟩, ""),
  (27, .aload_n 0, 1, (0, 0, 0, 0, 0), ⟨"", "", ""⟩, ""),
  (28, .getfield 16, 3, (3, 1, 1, 2, 0), ⟨"", "", ""⟩, "WordHides$CrossedSearch"),
  (31, .iconst 1, 1, (0, 0, 0, 0, 0), ⟨"", "", ""⟩, ""),
  (32, .iaload, 1, (0, 0, 0, 0, 0), ⟨"", "", ""⟩, ""),
  (33, .aload_n 0, 1, (0, 0, 0, 0, 0), ⟨"", "", ""⟩, ""),
  (34, .getfield 16, 3, (3, 1, 1, 2, 0), ⟨"", "", ""⟩, "WordHides$CrossedSearch"),
  (37, .iconst 2, 1, (0, 0, 0, 0, 0), ⟨"", "", ""⟩, ""),
  (38, .iaload, 1, (0, 0, 0, 0, 0), ⟨"", "", ""⟩, ""),
  (39, .iand, 1, (0, 0, 0, 0, 0), ⟨"", "", ""⟩, ""),
  (40, .ior, 1, (0, 0, 0, 0, 0), ⟨"", "", ""⟩, ""),
  (41, .invokestatic 20, 3, (1, 0, 119, 0, 0), ⟨"java/lang/Integer", "bitCount", "(I)I"⟩, ""),
  (44, .istore_n 1, 1, (0, 0, 0, 0, 0), ⟨"", "", ""⟩, ""),
  (45, .aload_n 0, 1, (0, 0, 0, 0, 0), ⟨"", "", ""⟩, ""),
  (46, .getfield 26, 3, (5, 1, 1, 0, 0), ⟨"", "", ""⟩, "WordHides$CrossedSearch"),
  (49, .ifCond .eq 11, 3, (60, 0, 0, 0, 0), ⟨"", "", ""⟩, ""),
  (52, .iload_n 1, 1, (0, 0, 0, 0, 0), ⟨"", "", ""⟩, ""),
  (53, .aload_n 0, 1, (0, 0, 0, 0, 0), ⟨"", "", ""⟩, ""),
  (54, .getfield 7, 3, (7, 1, 1, 0, 0), ⟨"", "", ""⟩, "WordHides$CrossedSearch"),
  (57, .if_icmp .le 17, 3, (74, 0, 0, 0, 0), ⟨"", "", ""⟩, ""),
  (60, .aload_n 0, 1, (0, 0, 0, 0, 0), ⟨"", "", ""⟩, ""),
  (61, .iload_n 1, 1, (0, 0, 0, 0, 0), ⟨"", "", ""⟩, ""),
  (62, .putfield 7, 3, (7, 1, 1, 0, 0), ⟨"", "", ""⟩, "WordHides$CrossedSearch"),
  (65, .aload_n 0, 1, (0, 0, 0, 0, 0), ⟨"", "", ""⟩, ""),
  (66, .iconst 0, 1, (0, 0, 0, 0, 0), ⟨"", "", ""⟩, ""),
  (67, .putfield 13, 3, (8, 1, 1, 0, 0), ⟨"", "", ""⟩, "WordHides$CrossedSearch"),
  (70, .aload_n 0, 1, (0, 0, 0, 0, 0), ⟨"", "", ""⟩, ""),
  (71, .invokevirtual 29, 3, (0, 1, 19, 1, 19), ⟨"WordHides$CrossedSearch", "keepPlaces", "()V"⟩, "WordHides$Search"),
  (74, .iload_n 1, 1, (0, 0, 0, 0, 0), ⟨"", "", ""⟩, ""),
  (75, .aload_n 0, 1, (0, 0, 0, 0, 0), ⟨"", "", ""⟩, ""),
  (76, .getfield 7, 3, (7, 1, 1, 0, 0), ⟨"", "", ""⟩, "WordHides$CrossedSearch"),
  (79, .if_icmp .ne 13, 3, (92, 0, 0, 0, 0), ⟨"", "", ""⟩, ""),
  (82, .aload_n 0, 1, (0, 0, 0, 0, 0), ⟨"", "", ""⟩, ""),
  (83, .dup, 1, (0, 0, 0, 0, 0), ⟨"", "", ""⟩, ""),
  (84, .getfield 13, 3, (8, 1, 1, 0, 0), ⟨"", "", ""⟩, "WordHides$CrossedSearch"),
  (87, .iconst 1, 1, (0, 0, 0, 0, 0), ⟨"", "", ""⟩, ""),
  (88, .iadd, 1, (0, 0, 0, 0, 0), ⟨"", "", ""⟩, ""),
  (89, .putfield 13, 3, (8, 1, 1, 0, 0), ⟨"", "", ""⟩, "WordHides$CrossedSearch"),
  (92, .aload_n 0, 1, (0, 0, 0, 0, 0), ⟨"", "", ""⟩, ""),
  (93, .dup, 1, (0, 0, 0, 0, 0), ⟨"", "", ""⟩, ""),
  (94, .getfield 26, 3, (5, 1, 1, 0, 0), ⟨"", "", ""⟩, "WordHides$CrossedSearch"),
  (97, .iconst 1, 1, (0, 0, 0, 0, 0), ⟨"", "", ""⟩, ""),
  (98, .iadd, 1, (0, 0, 0, 0, 0), ⟨"", "", ""⟩, ""),
  (99, .putfield 26, 3, (5, 1, 1, 0, 0), ⟨"", "", ""⟩, "WordHides$CrossedSearch"),
  (102, .return_, 1, (0, 0, 0, 0, 0), ⟨"", "", ""⟩, "")])
def pX2_init : wM := (⟨"WordHides$GoodSearch", "<init>", "(LWordHides$Board;)V"⟩, prog_4_method_1_code, 2, none, 2, [
  (0, .aload_n 0, 1, (0, 0, 0, 0, 0), ⟨"", "", ""⟩, ""),
  (1, .aload_n 1, 1, (0, 0, 0, 0, 0), ⟨"", "", ""⟩, ""),
  (2, .invokespecial 3, 3, (1, 0, 16, 0, 0), ⟨"WordHides$Search", "<init>", "(LWordHides$Board;)V"⟩, ""),
  (5, .aload_n 0, 1, (0, 0, 0, 0, 0), ⟨"", "", ""⟩, ""),
  (6, .iconst 0, 1, (0, 0, 0, 0, 0), ⟨"", "", ""⟩, ""),
  (7, .putfield 9, 3, (9, 2, 2, 0, 0), ⟨"", "", ""⟩, "WordHides$GoodSearch"),
  (10, .aload_n 0, 1, (0, 0, 0, 0, 0), ⟨"", "", ""⟩, ""),
  (11, .new 15, 3, (4, 2, 0, 0, 0), ⟨"", "", ""⟩, ""),
  (14, .dup, 1, (0, 0, 0, 0, 0), ⟨"", "", ""⟩, ""),
  (15, .aload_n 1, 1, (0, 0, 0, 0, 0), ⟨"", "", ""⟩, ""),
  (16, .getfield 17, 3, (0, 0, 0, 2, 0), ⟨"", "", ""⟩, "WordHides$Board"),
  (19, .getfield 23, 3, (1, 4, 4, 2, 0), ⟨"", "", ""⟩, "WordHides$Square"),
  (22, .invokespecial 27, 3, (1, 0, 21, 0, 0), ⟨"WordHides$Square", "<init>", "(LWordHides$Lattice;)V"⟩, ""),
  (25, .putfield 30, 3, (7, 2, 2, 2, 0), ⟨"", "", ""⟩, "WordHides$GoodSearch"),
  (28, .aload_n 0, 1, (0, 0, 0, 0, 0), ⟨"", "", ""⟩, ""),
  (29, .new 15, 3, (4, 2, 0, 0, 0), ⟨"", "", ""⟩, ""),
  (32, .dup, 1, (0, 0, 0, 0, 0), ⟨"", "", ""⟩, ""),
  (33, .aload_n 1, 1, (0, 0, 0, 0, 0), ⟨"", "", ""⟩, ""),
  (34, .getfield 17, 3, (0, 0, 0, 2, 0), ⟨"", "", ""⟩, "WordHides$Board"),
  (37, .getfield 23, 3, (1, 4, 4, 2, 0), ⟨"", "", ""⟩, "WordHides$Square"),
  (40, .invokespecial 27, 3, (1, 0, 21, 0, 0), ⟨"WordHides$Square", "<init>", "(LWordHides$Lattice;)V"⟩, ""),
  (43, .putfield 33, 3, (8, 2, 2, 2, 0), ⟨"", "", ""⟩, "WordHides$GoodSearch"),
  (46, .return_, 1, (0, 0, 0, 0, 0), ⟨"", "", ""⟩, "")])
def pX2_hasHope : wM := (⟨"WordHides$GoodSearch", "hasHope", "()Z"⟩, prog_4_method_2_code, 1, (some .boolean), 1, [
  (0, .aload_n 0, 1, (0, 0, 0, 0, 0), ⟨"", "", ""⟩, ""),
  (1, .aload_n 0, 1, (0, 0, 0, 0, 0), ⟨"", "", ""⟩, ""),
  (2, .getfield 36, 3, (1, 2, 2, 2, 0), ⟨"", "", ""⟩, "WordHides$GoodSearch"),
  (5, .invokevirtual 39, 3, (1, 2, 8, 2, 8), ⟨"WordHides$GoodSearch", "isSpoiled", "(LWordHides$Square;)Z"⟩, ""),
  (8, .ifCond .ne 7, 3, (15, 0, 0, 0, 0), ⟨"", "", ""⟩, ""),
  (11, .iconst 1, 1, (0, 0, 0, 0, 0), ⟨"", "", ""⟩, ""),
  (12, .goto 4, 3, (16, 0, 0, 0, 0), ⟨"", "", ""⟩, ""),
  (15, .iconst 0, 1, (0, 0, 0, 0, 0), ⟨"", "", ""⟩, ""),
  (16, .ireturn, 1, (1, 0, 0, 0, 0), ⟨"", "", ""⟩, "")])
def pX2_meetLaying : wM := (⟨"WordHides$GoodSearch", "meetLaying", "()V"⟩, prog_4_method_3_code, 2, none, 1, [
  (0, .aload_n 0, 1, (0, 0, 0, 0, 0), ⟨"", "", ""⟩, ""),
  (1, .getfield 30, 3, (7, 2, 2, 2, 0), ⟨"", "", ""⟩, "WordHides$GoodSearch"),
  (4, .aload_n 0, 1, (0, 0, 0, 0, 0), ⟨"", "", ""⟩, ""),
  (5, .getfield 36, 3, (1, 2, 2, 2, 0), ⟨"", "", ""⟩, "WordHides$GoodSearch"),
  (8, .invokevirtual 43, 3, (1, 4, 23, 4, 23), ⟨"WordHides$Square", "copyFrom", "(LWordHides$Square;)V"⟩, ""),
  (11, .aload_n 0, 1, (0, 0, 0, 0, 0), ⟨"", "", ""⟩, ""),
  (12, .getfield 30, 3, (7, 2, 2, 2, 0), ⟨"", "", ""⟩, "WordHides$GoodSearch"),
  (15, .aload_n 0, 1, (0, 0, 0, 0, 0), ⟨"", "", ""⟩, ""),
  (16, .getfield 47, 3, (0, 2, 2, 2, 0), ⟨"", "", ""⟩, "WordHides$GoodSearch"),
  (19, .getfield 51, 3, (3, 0, 0, 2, 0), ⟨"", "", ""⟩, "WordHides$Board"),
  (22, .invokevirtual 55, 3, (1, 4, 27, 4, 27), ⟨"WordHides$Square", "pour", "(LWordHides$Text;)I"⟩, ""),
  (25, .istore_n 1, 1, (0, 0, 0, 0, 0), ⟨"", "", ""⟩, ""),
  (26, .aload_n 0, 1, (0, 0, 0, 0, 0), ⟨"", "", ""⟩, ""),
  (27, .aload_n 0, 1, (0, 0, 0, 0, 0), ⟨"", "", ""⟩, ""),
  (28, .getfield 30, 3, (7, 2, 2, 2, 0), ⟨"", "", ""⟩, "WordHides$GoodSearch"),
  (31, .invokevirtual 39, 3, (1, 2, 8, 2, 8), ⟨"WordHides$GoodSearch", "isSpoiled", "(LWordHides$Square;)Z"⟩, ""),
  (34, .ifCond .eq 4, 3, (38, 0, 0, 0, 0), ⟨"", "", ""⟩, ""),
  (37, .return_, 1, (0, 0, 0, 0, 0), ⟨"", "", ""⟩, ""),
  (38, .aload_n 0, 1, (0, 0, 0, 0, 0), ⟨"", "", ""⟩, ""),
  (39, .getfield 59, 3, (5, 2, 2, 0, 0), ⟨"", "", ""⟩, "WordHides$GoodSearch"),
  (42, .ifCond .ne 23, 3, (65, 0, 0, 0, 0), ⟨"", "", ""⟩, ""),
  (45, .aload_n 0, 1, (0, 0, 0, 0, 0), ⟨"", "", ""⟩, ""),
  (46, .getfield 33, 3, (8, 2, 2, 2, 0), ⟨"", "", ""⟩, "WordHides$GoodSearch"),
  (49, .aload_n 0, 1, (0, 0, 0, 0, 0), ⟨"", "", ""⟩, ""),
  (50, .getfield 30, 3, (7, 2, 2, 2, 0), ⟨"", "", ""⟩, "WordHides$GoodSearch"),
  (53, .invokevirtual 43, 3, (1, 4, 23, 4, 23), ⟨"WordHides$Square", "copyFrom", "(LWordHides$Square;)V"⟩, ""),
  (56, .aload_n 0, 1, (0, 0, 0, 0, 0), ⟨"", "", ""⟩, ""),
  (57, .iload_n 1, 1, (0, 0, 0, 0, 0), ⟨"", "", ""⟩, ""),
  (58, .putfield 9, 3, (9, 2, 2, 0, 0), ⟨"", "", ""⟩, "WordHides$GoodSearch"),
  (61, .aload_n 0, 1, (0, 0, 0, 0, 0), ⟨"", "", ""⟩, ""),
  (62, .invokevirtual 62, 3, (0, 2, 19, 2, 19), ⟨"WordHides$GoodSearch", "keepPlaces", "()V"⟩, "WordHides$Search"),
  (65, .aload_n 0, 1, (0, 0, 0, 0, 0), ⟨"", "", ""⟩, ""),
  (66, .dup, 1, (0, 0, 0, 0, 0), ⟨"", "", ""⟩, ""),
  (67, .getfield 59, 3, (5, 2, 2, 0, 0), ⟨"", "", ""⟩, "WordHides$GoodSearch"),
  (70, .iconst 1, 1, (0, 0, 0, 0, 0), ⟨"", "", ""⟩, ""),
  (71, .iadd, 1, (0, 0, 0, 0, 0), ⟨"", "", ""⟩, ""),
  (72, .putfield 59, 3, (5, 2, 2, 0, 0), ⟨"", "", ""⟩, "WordHides$GoodSearch"),
  (75, .return_, 1, (0, 0, 0, 0, 0), ⟨"", "", ""⟩, "")])
def pX2_isSpoiled : wM := (⟨"WordHides$GoodSearch", "isSpoiled", "(LWordHides$Square;)Z"⟩, prog_4_method_4_code, 5, (some .boolean), 2, [
  (0, .iconst 0, 1, (0, 0, 0, 0, 0), ⟨"", "", ""⟩, ""),
  (1, .istore_n 2, 1, (0, 0, 0, 0, 0), ⟨"", "", ""⟩, ""),
  (2, .iload_n 2, 1, (0, 0, 0, 0, 0), ⟨"", "", ""⟩, ""),
  (3, .aload_n 0, 1, (0, 0, 0, 0, 0), ⟨"", "", ""⟩, ""),
  (4, .getfield 47, 3, (0, 2, 2, 2, 0), ⟨"", "", ""⟩, "WordHides$GoodSearch"),
  (7, .getfield 66, 3, (2, 0, 0, 2, 0), ⟨"", "", ""⟩, "WordHides$Board"),
  (10, .getfield 70, 3, (1, 6, 6, 0, 0), ⟨"", "", ""⟩, "WordHides$TextList"),
  (13, .if_icmp .ge 38, 3, (51, 0, 0, 0, 0), ⟨"", "", ""⟩, ""),
  (16, .iload_n 2, 1, (0, 0, 0, 0, 0), ⟨"", "", ""⟩, ""),
  (17, .iconst 3, 1, (0, 0, 0, 0, 0), ⟨"", "", ""⟩, ""),
  (18, .if_icmp .ge 33, 3, (51, 0, 0, 0, 0), ⟨"", "", ""⟩, ""),
  (21, .aload_n 1, 1, (0, 0, 0, 0, 0), ⟨"", "", ""⟩, ""),
  (22, .aload_n 0, 1, (0, 0, 0, 0, 0), ⟨"", "", ""⟩, ""),
  (23, .getfield 47, 3, (0, 2, 2, 2, 0), ⟨"", "", ""⟩, "WordHides$GoodSearch"),
  (26, .getfield 66, 3, (2, 0, 0, 2, 0), ⟨"", "", ""⟩, "WordHides$Board"),
  (29, .getfield 75, 3, (0, 6, 6, 2, 0), ⟨"", "", ""⟩, "WordHides$TextList"),
  (32, .iload_n 2, 1, (0, 0, 0, 0, 0), ⟨"", "", ""⟩, ""),
  (33, .aaload, 1, (0, 0, 0, 0, 0), ⟨"", "", ""⟩, ""),
  (34, .iconst 0, 1, (0, 0, 0, 0, 0), ⟨"", "", ""⟩, ""),
  (35, .invokevirtual 79, 3, (2, 4, 28, 4, 28), ⟨"WordHides$Square", "standing", "(LWordHides$Text;I)I"⟩, ""),
  (38, .bipush (-6), 2, (0, 0, 0, 0, 0), ⟨"", "", ""⟩, ""),
  (40, .if_icmp .eq 5, 3, (45, 0, 0, 0, 0), ⟨"", "", ""⟩, ""),
  (43, .iconst 1, 1, (0, 0, 0, 0, 0), ⟨"", "", ""⟩, ""),
  (44, .ireturn, 1, (1, 0, 0, 0, 0), ⟨"", "", ""⟩, ""),
  (45, .iinc 2 1, 3, (0, 0, 0, 0, 0), ⟨"", "", ""⟩, ""),
  (48, .goto (-46), 3, (2, 0, 0, 0, 0), ⟨"", "", ""⟩, ""),
  (51, .iconst 0, 1, (0, 0, 0, 0, 0), ⟨"", "", ""⟩, ""),
  (52, .istore_n 2, 1, (0, 0, 0, 0, 0), ⟨"", "", ""⟩, ""),
  (53, .iload_n 2, 1, (0, 0, 0, 0, 0), ⟨"", "", ""⟩, ""),
  (54, .aload_n 0, 1, (0, 0, 0, 0, 0), ⟨"", "", ""⟩, ""),
  (55, .getfield 47, 3, (0, 2, 2, 2, 0), ⟨"", "", ""⟩, "WordHides$GoodSearch"),
  (58, .getfield 83, 3, (1, 0, 0, 2, 0), ⟨"", "", ""⟩, "WordHides$Board"),
  (61, .getfield 70, 3, (1, 6, 6, 0, 0), ⟨"", "", ""⟩, "WordHides$TextList"),
  (64, .if_icmp .ge 55, 3, (119, 0, 0, 0, 0), ⟨"", "", ""⟩, ""),
  (67, .iload_n 2, 1, (0, 0, 0, 0, 0), ⟨"", "", ""⟩, ""),
  (68, .iconst 3, 1, (0, 0, 0, 0, 0), ⟨"", "", ""⟩, ""),
  (69, .if_icmp .ge 50, 3, (119, 0, 0, 0, 0), ⟨"", "", ""⟩, ""),
  (72, .aload_n 0, 1, (0, 0, 0, 0, 0), ⟨"", "", ""⟩, ""),
  (73, .getfield 47, 3, (0, 2, 2, 2, 0), ⟨"", "", ""⟩, "WordHides$GoodSearch"),
  (76, .getfield 83, 3, (1, 0, 0, 2, 0), ⟨"", "", ""⟩, "WordHides$Board"),
  (79, .getfield 75, 3, (0, 6, 6, 2, 0), ⟨"", "", ""⟩, "WordHides$TextList"),
  (82, .iload_n 2, 1, (0, 0, 0, 0, 0), ⟨"", "", ""⟩, ""),
  (83, .aaload, 1, (0, 0, 0, 0, 0), ⟨"", "", ""⟩, ""),
  (84, .astore_n 3, 1, (0, 0, 0, 0, 0), ⟨"", "", ""⟩, ""),
  (85, .aload_n 3, 1, (0, 0, 0, 0, 0), ⟨"", "", ""⟩, ""),
  (86, .invokevirtual 86, 3, (0, 5, 35, 5, 35), ⟨"WordHides$Text", "isSameFromEnd", "()Z"⟩, ""),
  (89, .ifCond .eq 7, 3, (96, 0, 0, 0, 0), ⟨"", "", ""⟩, ""),
  (92, .iconst 2, 1, (0, 0, 0, 0, 0), ⟨"", "", ""⟩, ""),
  (93, .goto 4, 3, (97, 0, 0, 0, 0), ⟨"", "", ""⟩, ""),
  (96, .iconst 1, 1, (0, 0, 0, 0, 0), ⟨"", "", ""⟩, ""),
  (97, .istore 4, 2, (0, 0, 0, 0, 0), ⟨"", "", ""⟩, ""),
  (99, .aload_n 1, 1, (0, 0, 0, 0, 0), ⟨"", "", ""⟩, ""),
  (100, .aload_n 3, 1, (0, 0, 0, 0, 0), ⟨"", "", ""⟩, ""),
  (101, .iload 4, 2, (0, 0, 0, 0, 0), ⟨"", "", ""⟩, ""),
  (103, .invokevirtual 79, 3, (2, 4, 28, 4, 28), ⟨"WordHides$Square", "standing", "(LWordHides$Text;I)I"⟩, ""),
  (106, .bipush (-6), 2, (0, 0, 0, 0, 0), ⟨"", "", ""⟩, ""),
  (108, .if_icmp .eq 5, 3, (113, 0, 0, 0, 0), ⟨"", "", ""⟩, ""),
  (111, .iconst 1, 1, (0, 0, 0, 0, 0), ⟨"", "", ""⟩, ""),
  (112, .ireturn, 1, (1, 0, 0, 0, 0), ⟨"", "", ""⟩, ""),
  (113, .iinc 2 1, 3, (0, 0, 0, 0, 0), ⟨"", "", ""⟩, ""),
  (116, .goto (-63), 3, (53, 0, 0, 0, 0), ⟨"", "", ""⟩, ""),
  (119, .iconst 0, 1, (0, 0, 0, 0, 0), ⟨"", "", ""⟩, ""),
  (120, .ireturn, 1, (1, 0, 0, 0, 0), ⟨"", "", ""⟩, "")])
def pX3_init : wM := (⟨"WordHides$Lattice", "<init>", "(I)V"⟩, prog_5_method_1_code, 4, none, 2, [
  (0, .aload_n 0, 1, (0, 0, 0, 0, 0), ⟨"", "", ""⟩, ""),
  (1, .invokespecial 3, 3, (0, 0, 0, 0, 1), ⟨"java/lang/Object", "<init>", "()V"⟩, ""),
  (4, .aload_n 0, 1, (0, 0, 0, 0, 0), ⟨"", "", ""⟩, ""),
  (5, .bipush 8, 2, (0, 0, 0, 0, 0), ⟨"", "", ""⟩, ""),
  (7, .newarray .int, 2, (0, 0, 0, 0, 0), ⟨"", "", ""⟩, ""),
  (9, .putfield 9, 3, (3, 3, 3, 2, 0), ⟨"", "", ""⟩, "WordHides$Lattice"),
  (12, .aload_n 0, 1, (0, 0, 0, 0, 0), ⟨"", "", ""⟩, ""),
  (13, .sipush 128, 3, (0, 0, 0, 0, 0), ⟨"", "", ""⟩, ""),
  (16, .newarray .int, 2, (0, 0, 0, 0, 0), ⟨"", "", ""⟩, ""),
  (18, .putfield 15, 3, (4, 3, 3, 2, 0), ⟨"", "", ""⟩, "WordHides$Lattice"),
  (21, .aload_n 0, 1, (0, 0, 0, 0, 0), ⟨"", "", ""⟩, ""),
  (22, .iload_n 1, 1, (0, 0, 0, 0, 0), ⟨"", "", ""⟩, ""),
  (23, .putfield 18, 3, (0, 3, 3, 0, 0), ⟨"", "", ""⟩, "WordHides$Lattice"),
  (26, .aload_n 0, 1, (0, 0, 0, 0, 0), ⟨"", "", ""⟩, ""),
  (27, .iload_n 1, 1, (0, 0, 0, 0, 0), ⟨"", "", ""⟩, ""),
  (28, .iload_n 1, 1, (0, 0, 0, 0, 0), ⟨"", "", ""⟩, ""),
  (29, .imul, 1, (0, 0, 0, 0, 0), ⟨"", "", ""⟩, ""),
  (30, .putfield 22, 3, (1, 3, 3, 0, 0), ⟨"", "", ""⟩, "WordHides$Lattice"),
  (33, .aload_n 0, 1, (0, 0, 0, 0, 0), ⟨"", "", ""⟩, ""),
  (34, .aload_n 0, 1, (0, 0, 0, 0, 0), ⟨"", "", ""⟩, ""),
  (35, .getfield 22, 3, (1, 3, 3, 0, 0), ⟨"", "", ""⟩, "WordHides$Lattice"),
  (38, .bipush 8, 2, (0, 0, 0, 0, 0), ⟨"", "", ""⟩, ""),
  (40, .imul, 1, (0, 0, 0, 0, 0), ⟨"", "", ""⟩, ""),
  (41, .putfield 25, 3, (2, 3, 3, 0, 0), ⟨"", "", ""⟩, "WordHides$Lattice"),
  (44, .iconst 0, 1, (0, 0, 0, 0, 0), ⟨"", "", ""⟩, ""),
  (45, .istore_n 2, 1, (0, 0, 0, 0, 0), ⟨"", "", ""⟩, ""),
  (46, .iload_n 2, 1, (0, 0, 0, 0, 0), ⟨"", "", ""⟩, ""),
  (47, .bipush 8, 2, (0, 0, 0, 0, 0), ⟨"", "", ""⟩, ""),
  (49, .if_icmp .ge 28, 3, (77, 0, 0, 0, 0), ⟨"", "", ""⟩, ""),
  (52, .aload_n 0, 1, (0, 0, 0, 0, 0), ⟨"", "", ""⟩, ""),
  (53, .getfield 9, 3, (3, 3, 3, 2, 0), ⟨"", "", ""⟩, "WordHides$Lattice"),
  (56, .iload_n 2, 1, (0, 0, 0, 0, 0), ⟨"", "", ""⟩, ""),
  (57, .getstatic 28, 3, (0, 1, 0, 0, 0), ⟨"WordHides", "ROW_STEPS", "[I"⟩, "WordHides"),
  (60, .iload_n 2, 1, (0, 0, 0, 0, 0), ⟨"", "", ""⟩, ""),
  (61, .iaload, 1, (0, 0, 0, 0, 0), ⟨"", "", ""⟩, ""),
  (62, .iload_n 1, 1, (0, 0, 0, 0, 0), ⟨"", "", ""⟩, ""),
  (63, .imul, 1, (0, 0, 0, 0, 0), ⟨"", "", ""⟩, ""),
  (64, .getstatic 31, 3, (1, 1, 0, 0, 0), ⟨"WordHides", "COLUMN_STEPS", "[I"⟩, "WordHides"),
  (67, .iload_n 2, 1, (0, 0, 0, 0, 0), ⟨"", "", ""⟩, ""),
  (68, .iaload, 1, (0, 0, 0, 0, 0), ⟨"", "", ""⟩, ""),
  (69, .iadd, 1, (0, 0, 0, 0, 0), ⟨"", "", ""⟩, ""),
  (70, .iastore, 1, (0, 0, 0, 0, 0), ⟨"", "", ""⟩, ""),
  (71, .iinc 2 1, 3, (0, 0, 0, 0, 0), ⟨"", "", ""⟩, ""),
  (74, .goto (-28), 3, (46, 0, 0, 0, 0), ⟨"", "", ""⟩, ""),
  (77, .iconst 0, 1, (0, 0, 0, 0, 0), ⟨"", "", ""⟩, ""),
  (78, .istore_n 2, 1, (0, 0, 0, 0, 0), ⟨"", "", ""⟩, ""),
  (79, .iload_n 2, 1, (0, 0, 0, 0, 0), ⟨"", "", ""⟩, ""),
  (80, .iload_n 1, 1, (0, 0, 0, 0, 0), ⟨"", "", ""⟩, ""),
  (81, .if_icmp .ge 28, 3, (109, 0, 0, 0, 0), ⟨"", "", ""⟩, ""),
  (84, .iconst 0, 1, (0, 0, 0, 0, 0), ⟨"", "", ""⟩, ""),
  (85, .istore_n 3, 1, (0, 0, 0, 0, 0), ⟨"", "", ""⟩, ""),
  (86, .iload_n 3, 1, (0, 0, 0, 0, 0), ⟨"", "", ""⟩, ""),
  (87, .iload_n 1, 1, (0, 0, 0, 0, 0), ⟨"", "", ""⟩, ""),
  (88, .if_icmp .ge 15, 3, (103, 0, 0, 0, 0), ⟨"", "", ""⟩, ""),
  (91, .aload_n 0, 1, (0, 0, 0, 0, 0), ⟨"", "", ""⟩, ""),
  (92, .iload_n 2, 1, (0, 0, 0, 0, 0), ⟨"", "", ""⟩, ""),
  (93, .iload_n 3, 1, (0, 0, 0, 0, 0), ⟨"", "", ""⟩, ""),
  (94, .invokevirtual 34, 3, (2, 3, 10, 3, 10), ⟨"WordHides$Lattice", "measureReaches", "(II)V"⟩, ""),
  (97, .iinc 3 1, 3, (0, 0, 0, 0, 0), ⟨"", "", ""⟩, ""),
  (100, .goto (-14), 3, (86, 0, 0, 0, 0), ⟨"", "", ""⟩, ""),
  (103, .iinc 2 1, 3, (0, 0, 0, 0, 0), ⟨"", "", ""⟩, ""),
  (106, .goto (-27), 3, (79, 0, 0, 0, 0), ⟨"", "", ""⟩, ""),
  (109, .return_, 1, (0, 0, 0, 0, 0), ⟨"", "", ""⟩, "")])
def pX3_measureReaches : wM := (⟨"WordHides$Lattice", "measureReaches", "(II)V"⟩, prog_5_method_2_code, 5, none, 3, [
  (0, .iload_n 1, 1, (0, 0, 0, 0, 0), ⟨"", "", ""⟩, ""),
  (1, .aload_n 0, 1, (0, 0, 0, 0, 0), ⟨"", "", ""⟩, ""),
  (2, .getfield 18, 3, (0, 3, 3, 0, 0), ⟨"", "", ""⟩, "WordHides$Lattice"),
  (5, .imul, 1, (0, 0, 0, 0, 0), ⟨"", "", ""⟩, ""),
  (6, .iload_n 2, 1, (0, 0, 0, 0, 0), ⟨"", "", ""⟩, ""),
  (7, .iadd, 1, (0, 0, 0, 0, 0), ⟨"", "", ""⟩, ""),
  (8, .bipush 8, 2, (0, 0, 0, 0, 0), ⟨"", "", ""⟩, ""),
  (10, .imul, 1, (0, 0, 0, 0, 0), ⟨"", "", ""⟩, ""),
  (11, .istore_n 3, 1, (0, 0, 0, 0, 0), ⟨"", "", ""⟩, ""),
  (12, .iconst 0, 1, (0, 0, 0, 0, 0), ⟨"", "", ""⟩, ""),
  (13, .istore 4, 2, (0, 0, 0, 0, 0), ⟨"", "", ""⟩, ""),
  (15, .iload 4, 2, (0, 0, 0, 0, 0), ⟨"", "", ""⟩, ""),
  (17, .bipush 8, 2, (0, 0, 0, 0, 0), ⟨"", "", ""⟩, ""),
  (19, .if_icmp .ge 55, 3, (74, 0, 0, 0, 0), ⟨"", "", ""⟩, ""),
  (22, .iload_n 3, 1, (0, 0, 0, 0, 0), ⟨"", "", ""⟩, ""),
  (23, .iload 4, 2, (0, 0, 0, 0, 0), ⟨"", "", ""⟩, ""),
  (25, .iadd, 1, (0, 0, 0, 0, 0), ⟨"", "", ""⟩, ""),
  (26, .aload_n 0, 1, (0, 0, 0, 0, 0), ⟨"", "", ""⟩, ""),
  (27, .getfield 15, 3, (4, 3, 3, 2, 0), ⟨"", "", ""⟩, "WordHides$Lattice"),
  (30, .arraylength, 1, (0, 0, 0, 0, 0), ⟨"", "", ""⟩, ""),
  (31, .if_icmp .ge 43, 3, (74, 0, 0, 0, 0), ⟨"", "", ""⟩, ""),
  (34, .aload_n 0, 1, (0, 0, 0, 0, 0), ⟨"", "", ""⟩, ""),
  (35, .getfield 15, 3, (4, 3, 3, 2, 0), ⟨"", "", ""⟩, "WordHides$Lattice"),
  (38, .iload_n 3, 1, (0, 0, 0, 0, 0), ⟨"", "", ""⟩, ""),
  (39, .iload 4, 2, (0, 0, 0, 0, 0), ⟨"", "", ""⟩, ""),
  (41, .iadd, 1, (0, 0, 0, 0, 0), ⟨"", "", ""⟩, ""),
  (42, .aload_n 0, 1, (0, 0, 0, 0, 0), ⟨"", "", ""⟩, ""),
  (43, .iload_n 1, 1, (0, 0, 0, 0, 0), ⟨"", "", ""⟩, ""),
  (44, .getstatic 28, 3, (0, 1, 0, 0, 0), ⟨"WordHides", "ROW_STEPS", "[I"⟩, "WordHides"),
  (47, .iload 4, 2, (0, 0, 0, 0, 0), ⟨"", "", ""⟩, ""),
  (49, .iaload, 1, (0, 0, 0, 0, 0), ⟨"", "", ""⟩, ""),
  (50, .invokevirtual 38, 3, (2, 3, 11, 3, 11), ⟨"WordHides$Lattice", "runOf", "(II)I"⟩, ""),
  (53, .aload_n 0, 1, (0, 0, 0, 0, 0), ⟨"", "", ""⟩, ""),
  (54, .iload_n 2, 1, (0, 0, 0, 0, 0), ⟨"", "", ""⟩, ""),
  (55, .getstatic 31, 3, (1, 1, 0, 0, 0), ⟨"WordHides", "COLUMN_STEPS", "[I"⟩, "WordHides"),
  (58, .iload 4, 2, (0, 0, 0, 0, 0), ⟨"", "", ""⟩, ""),
  (60, .iaload, 1, (0, 0, 0, 0, 0), ⟨"", "", ""⟩, ""),
  (61, .invokevirtual 38, 3, (2, 3, 11, 3, 11), ⟨"WordHides$Lattice", "runOf", "(II)I"⟩, ""),
  (64, .invokestatic 42, 3, (0, 0, 0, 0, 3), ⟨"java/lang/Math", "min", "(II)I"⟩, ""),
  (67, .iastore, 1, (0, 0, 0, 0, 0), ⟨"", "", ""⟩, ""),
  (68, .iinc 4 1, 3, (0, 0, 0, 0, 0), ⟨"", "", ""⟩, ""),
  (71, .goto (-56), 3, (15, 0, 0, 0, 0), ⟨"", "", ""⟩, ""),
  (74, .return_, 1, (0, 0, 0, 0, 0), ⟨"", "", ""⟩, "")])
def pX3_runOf : wM := (⟨"WordHides$Lattice", "runOf", "(II)I"⟩, prog_5_method_3_code, 3, (some .int), 3, [
  (0, .iload_n 2, 1, (0, 0, 0, 0, 0), ⟨"", "", ""⟩, ""),
  (1, .ifCond .ne 8, 3, (9, 0, 0, 0, 0), ⟨"", "", ""⟩, ""),
  (4, .aload_n 0, 1, (0, 0, 0, 0, 0), ⟨"", "", ""⟩, ""),
  (5, .getfield 18, 3, (0, 3, 3, 0, 0), ⟨"", "", ""⟩, "WordHides$Lattice"),
  (8, .ireturn, 1, (0, 0, 0, 0, 0), ⟨"", "", ""⟩, ""),
  (9, .iload_n 2, 1, (0, 0, 0, 0, 0), ⟨"", "", ""⟩, ""),
  (10, .ifCond .le 12, 3, (22, 0, 0, 0, 0), ⟨"", "", ""⟩, ""),
  (13, .aload_n 0, 1, (0, 0, 0, 0, 0), ⟨"", "", ""⟩, ""),
  (14, .getfield 18, 3, (0, 3, 3, 0, 0), ⟨"", "", ""⟩, "WordHides$Lattice"),
  (17, .iload_n 1, 1, (0, 0, 0, 0, 0), ⟨"", "", ""⟩, ""),
  (18, .isub, 1, (0, 0, 0, 0, 0), ⟨"", "", ""⟩, ""),
  (19, .goto 6, 3, (25, 0, 0, 0, 0), ⟨"", "", ""⟩, ""),
  (22, .iload_n 1, 1, (0, 0, 0, 0, 0), ⟨"", "", ""⟩, ""),
  (23, .iconst 1, 1, (0, 0, 0, 0, 0), ⟨"", "", ""⟩, ""),
  (24, .iadd, 1, (0, 0, 0, 0, 0), ⟨"", "", ""⟩, ""),
  (25, .ireturn, 1, (0, 0, 0, 0, 0), ⟨"", "", ""⟩, "")])
def pX3_hasCell : wM := (⟨"WordHides$Lattice", "hasCell", "(I)Z"⟩, prog_5_method_4_code, 2, (some .boolean), 2, [
  (0, .iload_n 1, 1, (0, 0, 0, 0, 0), ⟨"", "", ""⟩, ""),
  (1, .ifCond .lt 15, 3, (16, 0, 0, 0, 0), ⟨"", "", ""⟩, ""),
  (4, .iload_n 1, 1, (0, 0, 0, 0, 0), ⟨"", "", ""⟩, ""),
  (5, .aload_n 0, 1, (0, 0, 0, 0, 0), ⟨"", "", ""⟩, ""),
  (6, .getfield 22, 3, (1, 3, 3, 0, 0), ⟨"", "", ""⟩, "WordHides$Lattice"),
  (9, .if_icmp .ge 7, 3, (16, 0, 0, 0, 0), ⟨"", "", ""⟩, ""),
  (12, .iconst 1, 1, (0, 0, 0, 0, 0), ⟨"", "", ""⟩, ""),
  (13, .goto 4, 3, (17, 0, 0, 0, 0), ⟨"", "", ""⟩, ""),
  (16, .iconst 0, 1, (0, 0, 0, 0, 0), ⟨"", "", ""⟩, ""),
  (17, .ireturn, 1, (1, 0, 0, 0, 0), ⟨"", "", ""⟩, "")])
def pX3_hasPlace : wM := (⟨"WordHides$Lattice", "hasPlace", "(I)Z"⟩, prog_5_method_5_code, 2, (some .boolean), 2, [
  (0, .iload_n 1, 1, (0, 0, 0, 0, 0), ⟨"", "", ""⟩, ""),
  (1, .ifCond .lt 15, 3, (16, 0, 0, 0, 0), ⟨"", "", ""⟩, ""),
  (4, .iload_n 1, 1, (0, 0, 0, 0, 0), ⟨"", "", ""⟩, ""),
  (5, .aload_n 0, 1, (0, 0, 0, 0, 0), ⟨"", "", ""⟩, ""),
  (6, .getfield 25, 3, (2, 3, 3, 0, 0), ⟨"", "", ""⟩, "WordHides$Lattice"),
  (9, .if_icmp .ge 7, 3, (16, 0, 0, 0, 0), ⟨"", "", ""⟩, ""),
  (12, .iconst 1, 1, (0, 0, 0, 0, 0), ⟨"", "", ""⟩, ""),
  (13, .goto 4, 3, (17, 0, 0, 0, 0), ⟨"", "", ""⟩, ""),
  (16, .iconst 0, 1, (0, 0, 0, 0, 0), ⟨"", "", ""⟩, ""),
  (17, .ireturn, 1, (1, 0, 0, 0, 0), ⟨"", "", ""⟩, "")])
def pX3_holds : wM := (⟨"WordHides$Lattice", "holds", "(II)Z"⟩, prog_5_method_6_code, 3, (some .boolean), 3, [
  (0, .aload_n 0, 1, (0, 0, 0, 0, 0), ⟨"", "", ""⟩, ""),
  (1, .iload_n 1, 1, (0, 0, 0, 0, 0), ⟨"", "", ""⟩, ""),
  (2, .invokevirtual 47, 3, (1, 3, 13, 3, 13), ⟨"WordHides$Lattice", "hasPlace", "(I)Z"⟩, ""),
  (5, .ifCond .eq 17, 3, (22, 0, 0, 0, 0), ⟨"", "", ""⟩, ""),
  (8, .aload_n 0, 1, (0, 0, 0, 0, 0), ⟨"", "", ""⟩, ""),
  (9, .getfield 15, 3, (4, 3, 3, 2, 0), ⟨"", "", ""⟩, "WordHides$Lattice"),
  (12, .iload_n 1, 1, (0, 0, 0, 0, 0), ⟨"", "", ""⟩, ""),
  (13, .iaload, 1, (0, 0, 0, 0, 0), ⟨"", "", ""⟩, ""),
  (14, .iload_n 2, 1, (0, 0, 0, 0, 0), ⟨"", "", ""⟩, ""),
  (15, .if_icmp .lt 7, 3, (22, 0, 0, 0, 0), ⟨"", "", ""⟩, ""),
  (18, .iconst 1, 1, (0, 0, 0, 0, 0), ⟨"", "", ""⟩, ""),
  (19, .goto 4, 3, (23, 0, 0, 0, 0), ⟨"", "", ""⟩, ""),
  (22, .iconst 0, 1, (0, 0, 0, 0, 0), ⟨"", "", ""⟩, ""),
  (23, .ireturn, 1, (1, 0, 0, 0, 0), ⟨"", "", ""⟩, "")])
def pX3_cellSet : wM := (⟨"WordHides$Lattice", "cellSet", "(II)I"⟩, prog_5_method_7_code, 6, (some .int), 3, [
  (0, .iconst 0, 1, (0, 0, 0, 0, 0), ⟨"", "", ""⟩, ""),
  (1, .istore_n 3, 1, (0, 0, 0, 0, 0), ⟨"", "", ""⟩, ""),
  (2, .iload_n 1, 1, (0, 0, 0, 0, 0), ⟨"", "", ""⟩, ""),
  (3, .bipush 8, 2, (0, 0, 0, 0, 0), ⟨"", "", ""⟩, ""),
  (5, .idiv, 1, (0, 0, 0, 0, 0), ⟨"", "", ""⟩, ""),
  (6, .istore 4, 2, (0, 0, 0, 0, 0), ⟨"", "", ""⟩, ""),
  (8, .iconst 0, 1, (0, 0, 0, 0, 0), ⟨"", "", ""⟩, ""),
  (9, .istore 5, 2, (0, 0, 0, 0, 0), ⟨"", "", ""⟩, ""),
  (11, .iload 5, 2, (0, 0, 0, 0, 0), ⟨"", "", ""⟩, ""),
  (13, .iload_n 2, 1, (0, 0, 0, 0, 0), ⟨"", "", ""⟩, ""),
  (14, .if_icmp .ge 30, 3, (44, 0, 0, 0, 0), ⟨"", "", ""⟩, ""),
  (17, .iload_n 3, 1, (0, 0, 0, 0, 0), ⟨"", "", ""⟩, ""),
  (18, .iconst 1, 1, (0, 0, 0, 0, 0), ⟨"", "", ""⟩, ""),
  (19, .iload 4, 2, (0, 0, 0, 0, 0), ⟨"", "", ""⟩, ""),
  (21, .ishl, 1, (0, 0, 0, 0, 0), ⟨"", "", ""⟩, ""),
  (22, .ior, 1, (0, 0, 0, 0, 0), ⟨"", "", ""⟩, ""),
  (23, .istore_n 3, 1, (0, 0, 0, 0, 0), ⟨"", "", ""⟩, ""),
  (24, .iload 4, 2, (0, 0, 0, 0, 0), ⟨"", "", ""⟩, ""),
  (26, .aload_n 0, 1, (0, 0, 0, 0, 0), ⟨"", "", ""⟩, ""),
  (27, .getfield 9, 3, (3, 3, 3, 2, 0), ⟨"", "", ""⟩, "WordHides$Lattice"),
  (30, .iload_n 1, 1, (0, 0, 0, 0, 0), ⟨"", "", ""⟩, ""),
  (31, .bipush 8, 2, (0, 0, 0, 0, 0), ⟨"", "", ""⟩, ""),
  (33, .irem, 1, (0, 0, 0, 0, 0), ⟨"", "", ""⟩, ""),
  (34, .iaload, 1, (0, 0, 0, 0, 0), ⟨"", "", ""⟩, ""),
  (35, .iadd, 1, (0, 0, 0, 0, 0), ⟨"", "", ""⟩, ""),
  (36, .istore 4, 2, (0, 0, 0, 0, 0), ⟨"", "", ""⟩, ""),
  (38, .iinc 5 1, 3, (0, 0, 0, 0, 0), ⟨"", "", ""⟩, ""),
  (41, .goto (-30), 3, (11, 0, 0, 0, 0), ⟨"", "", ""⟩, ""),
  (44, .iload_n 3, 1, (0, 0, 0, 0, 0), ⟨"", "", ""⟩, ""),
  (45, .ireturn, 1, (0, 0, 0, 0, 0), ⟨"", "", ""⟩, "")])
def pX4_init : wM := (⟨"WordHides$Search", "<init>", "(LWordHides$Board;)V"⟩, prog_6_method_1_code, 2, none, 2, [
  (0, .aload_n 0, 1, (0, 0, 0, 0, 0), ⟨"", "", ""⟩, ""),
  (1, .invokespecial 3, 3, (0, 0, 0, 0, 1), ⟨"java/lang/Object", "<init>", "()V"⟩, ""),
  (4, .aload_n 0, 1, (0, 0, 0, 0, 0), ⟨"", "", ""⟩, ""),
  (5, .iconst 3, 1, (0, 0, 0, 0, 0), ⟨"", "", ""⟩, ""),
  (6, .newarray .int, 2, (0, 0, 0, 0, 0), ⟨"", "", ""⟩, ""),
  (8, .putfield 9, 3, (2, 1, 2, 2, 0), ⟨"", "", ""⟩, "WordHides$Search"),
  (11, .aload_n 0, 1, (0, 0, 0, 0, 0), ⟨"", "", ""⟩, ""),
  (12, .iconst 3, 1, (0, 0, 0, 0, 0), ⟨"", "", ""⟩, ""),
  (13, .newarray .int, 2, (0, 0, 0, 0, 0), ⟨"", "", ""⟩, ""),
  (15, .putfield 15, 3, (3, 1, 2, 2, 0), ⟨"", "", ""⟩, "WordHides$Search"),
  (18, .aload_n 0, 1, (0, 0, 0, 0, 0), ⟨"", "", ""⟩, ""),
  (19, .iconst 3, 1, (0, 0, 0, 0, 0), ⟨"", "", ""⟩, ""),
  (20, .newarray .int, 2, (0, 0, 0, 0, 0), ⟨"", "", ""⟩, ""),
  (22, .putfield 18, 3, (4, 1, 2, 2, 0), ⟨"", "", ""⟩, "WordHides$Search"),
  (25, .aload_n 0, 1, (0, 0, 0, 0, 0), ⟨"", "", ""⟩, ""),
  (26, .iconst 0, 1, (0, 0, 0, 0, 0), ⟨"", "", ""⟩, ""),
  (27, .putfield 21, 3, (5, 1, 2, 0, 0), ⟨"", "", ""⟩, "WordHides$Search"),
  (30, .aload_n 0, 1, (0, 0, 0, 0, 0), ⟨"", "", ""⟩, ""),
  (31, .iconst 0, 1, (0, 0, 0, 0, 0), ⟨"", "", ""⟩, ""),
  (32, .putfield 25, 3, (6, 1, 2, 1, 0), ⟨"", "", ""⟩, "WordHides$Search"),
  (35, .aload_n 0, 1, (0, 0, 0, 0, 0), ⟨"", "", ""⟩, ""),
  (36, .aload_n 1, 1, (0, 0, 0, 0, 0), ⟨"", "", ""⟩, ""),
  (37, .putfield 29, 3, (0, 1, 2, 2, 0), ⟨"", "", ""⟩, "WordHides$Search"),
  (40, .aload_n 0, 1, (0, 0, 0, 0, 0), ⟨"", "", ""⟩, ""),
  (41, .new 33, 3, (4, 2, 0, 0, 0), ⟨"", "", ""⟩, ""),
  (44, .dup, 1, (0, 0, 0, 0, 0), ⟨"", "", ""⟩, ""),
  (45, .aload_n 1, 1, (0, 0, 0, 0, 0), ⟨"", "", ""⟩, ""),
  (46, .getfield 35, 3, (0, 0, 0, 2, 0), ⟨"", "", ""⟩, "WordHides$Board"),
  (49, .getfield 41, 3, (1, 4, 4, 2, 0), ⟨"", "", ""⟩, "WordHides$Square"),
  (52, .invokespecial 45, 3, (1, 0, 21, 0, 0), ⟨"WordHides$Square", "<init>", "(LWordHides$Lattice;)V"⟩, ""),
  (55, .putfield 48, 3, (1, 1, 2, 2, 0), ⟨"", "", ""⟩, "WordHides$Search"),
  (58, .return_, 1, (0, 0, 0, 0, 0), ⟨"", "", ""⟩, "")])
def pX4_look : wM := (⟨"WordHides$Search", "look", "()V"⟩, prog_6_method_4_code, 1, none, 1, [
  (0, .aload_n 0, 1, (0, 0, 0, 0, 0), ⟨"", "", ""⟩, ""),
  (1, .getfield 25, 3, (6, 1, 2, 1, 0), ⟨"", "", ""⟩, "WordHides$Search"),
  (4, .ifCond .eq 4, 3, (8, 0, 0, 0, 0), ⟨"", "", ""⟩, ""),
  (7, .return_, 1, (0, 0, 0, 0, 0), ⟨"", "", ""⟩, ""),
  (8, .aload_n 0, 1, (0, 0, 0, 0, 0), ⟨"", "", ""⟩, ""),
  (9, .getfield 48, 3, (1, 1, 2, 2, 0), ⟨"", "", ""⟩, "WordHides$Search"),
  (12, .aload_n 0, 1, (0, 0, 0, 0, 0), ⟨"", "", ""⟩, ""),
  (13, .getfield 29, 3, (0, 1, 2, 2, 0), ⟨"", "", ""⟩, "WordHides$Search"),
  (16, .getfield 35, 3, (0, 0, 0, 2, 0), ⟨"", "", ""⟩, "WordHides$Board"),
  (19, .invokevirtual 51, 3, (1, 4, 23, 4, 23), ⟨"WordHides$Square", "copyFrom", "(LWordHides$Square;)V"⟩, ""),
  (22, .aload_n 0, 1, (0, 0, 0, 0, 0), ⟨"", "", ""⟩, ""),
  (23, .getfield 15, 3, (3, 1, 2, 2, 0), ⟨"", "", ""⟩, "WordHides$Search"),
  (26, .iconst 0, 1, (0, 0, 0, 0, 0), ⟨"", "", ""⟩, ""),
  (27, .invokestatic 55, 3, (2, 0, 122, 0, 0), ⟨"java/util/Arrays", "fill", "([II)V"⟩, ""),
  (30, .aload_n 0, 1, (0, 0, 0, 0, 0), ⟨"", "", ""⟩, ""),
  (31, .iconst 0, 1, (0, 0, 0, 0, 0), ⟨"", "", ""⟩, ""),
  (32, .putfield 21, 3, (5, 1, 2, 0, 0), ⟨"", "", ""⟩, "WordHides$Search"),
  (35, .aload_n 0, 1, (0, 0, 0, 0, 0), ⟨"", "", ""⟩, ""),
  (36, .iconst 0, 1, (0, 0, 0, 0, 0), ⟨"", "", ""⟩, ""),
  (37, .invokestatic 61, 3, (2, 0, 18, 0, 0), ⟨"WordHides$Search", "layFrom", "(LWordHides$Search;I)V"⟩, ""),
  (40, .aload_n 0, 1, (0, 0, 0, 0, 0), ⟨"", "", ""⟩, ""),
  (41, .iconst 1, 1, (0, 0, 0, 0, 0), ⟨"", "", ""⟩, ""),
  (42, .putfield 25, 3, (6, 1, 2, 1, 0), ⟨"", "", ""⟩, "WordHides$Search"),
  (45, .return_, 1, (0, 0, 0, 0, 0), ⟨"", "", ""⟩, "")])
def pX4_layFrom : wM := (⟨"WordHides$Search", "layFrom", "(LWordHides$Search;I)V"⟩, prog_6_method_5_code, 6, none, 2, [
  (0, .aload_n 0, 1, (0, 0, 0, 0, 0), ⟨"", "", ""⟩, ""),
  (1, .getfield 29, 3, (0, 1, 2, 2, 0), ⟨"", "", ""⟩, "WordHides$Search"),
  (4, .getfield 65, 3, (1, 0, 0, 2, 0), ⟨"", "", ""⟩, "WordHides$Board"),
  (7, .iload_n 1, 1, (0, 0, 0, 0, 0), ⟨"", "", ""⟩, ""),
  (8, .invokevirtual 69, 3, (1, 6, 37, 6, 37), ⟨"WordHides$TextList", "find", "(I)LWordHides$Text;"⟩, ""),
  (11, .astore_n 2, 1, (0, 0, 0, 0, 0), ⟨"", "", ""⟩, ""),
  (12, .aload_n 2, 1, (0, 0, 0, 0, 0), ⟨"", "", ""⟩, ""),
  (13, .ifnull 8, 3, (21, 0, 0, 0, 0), ⟨"", "", ""⟩, ""),
  (16, .iload_n 1, 1, (0, 0, 0, 0, 0), ⟨"", "", ""⟩, ""),
  (17, .iconst 3, 1, (0, 0, 0, 0, 0), ⟨"", "", ""⟩, ""),
  (18, .if_icmp .lt 8, 3, (26, 0, 0, 0, 0), ⟨"", "", ""⟩, ""),
  (21, .aload_n 0, 1, (0, 0, 0, 0, 0), ⟨"", "", ""⟩, ""),
  (22, .invokevirtual 75, 3, (0, 1, 4, 2, 7), ⟨"WordHides$Search", "meetLaying", "()V"⟩, "WordHides$Search"),
  (25, .return_, 1, (0, 0, 0, 0, 0), ⟨"", "", ""⟩, ""),
  (26, .aload_n 0, 1, (0, 0, 0, 0, 0), ⟨"", "", ""⟩, ""),
  (27, .invokevirtual 78, 3, (0, 1, 3, 2, 6), ⟨"WordHides$Search", "hasHope", "()Z"⟩, "WordHides$Search"),
  (30, .ifCond .ne 4, 3, (34, 0, 0, 0, 0), ⟨"", "", ""⟩, ""),
  (33, .return_, 1, (0, 0, 0, 0, 0), ⟨"", "", ""⟩, ""),
  (34, .aload_n 0, 1, (0, 0, 0, 0, 0), ⟨"", "", ""⟩, ""),
  (35, .getfield 48, 3, (1, 1, 2, 2, 0), ⟨"", "", ""⟩, "WordHides$Search"),
  (38, .astore_n 3, 1, (0, 0, 0, 0, 0), ⟨"", "", ""⟩, ""),
  (39, .iconst 0, 1, (0, 0, 0, 0, 0), ⟨"", "", ""⟩, ""),
  (40, .istore 4, 2, (0, 0, 0, 0, 0), ⟨"", "", ""⟩, ""),
  (42, .iload 4, 2, (0, 0, 0, 0, 0), ⟨"", "", ""⟩, ""),
  (44, .aload_n 3, 1, (0, 0, 0, 0, 0), ⟨"", "", ""⟩, ""),
  (45, .getfield 41, 3, (1, 4, 4, 2, 0), ⟨"", "", ""⟩, "WordHides$Square"),
  (48, .getfield 82, 3, (2, 3, 3, 0, 0), ⟨"", "", ""⟩, "WordHides$Lattice"),
  (51, .if_icmp .ge 68, 3, (119, 0, 0, 0, 0), ⟨"", "", ""⟩, ""),
  (54, .aload_n 3, 1, (0, 0, 0, 0, 0), ⟨"", "", ""⟩, ""),
  (55, .aload_n 2, 1, (0, 0, 0, 0, 0), ⟨"", "", ""⟩, ""),
  (56, .iload 4, 2, (0, 0, 0, 0, 0), ⟨"", "", ""⟩, ""),
  (58, .invokevirtual 87, 3, (2, 4, 24, 4, 24), ⟨"WordHides$Square", "accepts", "(LWordHides$Text;I)Z"⟩, ""),
  (61, .ifCond .eq 52, 3, (113, 0, 0, 0, 0), ⟨"", "", ""⟩, ""),
  (64, .aload_n 0, 1, (0, 0, 0, 0, 0), ⟨"", "", ""⟩, ""),
  (65, .getfield 9, 3, (2, 1, 2, 2, 0), ⟨"", "", ""⟩, "WordHides$Search"),
  (68, .iload_n 1, 1, (0, 0, 0, 0, 0), ⟨"", "", ""⟩, ""),
  (69, .iload 4, 2, (0, 0, 0, 0, 0), ⟨"", "", ""⟩, ""),
  (71, .iastore, 1, (0, 0, 0, 0, 0), ⟨"", "", ""⟩, ""),
  (72, .aload_n 0, 1, (0, 0, 0, 0, 0), ⟨"", "", ""⟩, ""),
  (73, .getfield 15, 3, (3, 1, 2, 2, 0), ⟨"", "", ""⟩, "WordHides$Search"),
  (76, .iload_n 1, 1, (0, 0, 0, 0, 0), ⟨"", "", ""⟩, ""),
  (77, .aload_n 3, 1, (0, 0, 0, 0, 0), ⟨"", "", ""⟩, ""),
  (78, .getfield 41, 3, (1, 4, 4, 2, 0), ⟨"", "", ""⟩, "WordHides$Square"),
  (81, .iload 4, 2, (0, 0, 0, 0, 0), ⟨"", "", ""⟩, ""),
  (83, .aload_n 2, 1, (0, 0, 0, 0, 0), ⟨"", "", ""⟩, ""),
  (84, .getfield 91, 3, (1, 5, 5, 0, 0), ⟨"", "", ""⟩, "WordHides$Text"),
  (87, .invokevirtual 96, 3, (2, 3, 15, 3, 15), ⟨"WordHides$Lattice", "cellSet", "(II)I"⟩, ""),
  (90, .iastore, 1, (0, 0, 0, 0, 0), ⟨"", "", ""⟩, ""),
  (91, .aload_n 3, 1, (0, 0, 0, 0, 0), ⟨"", "", ""⟩, ""),
  (92, .aload_n 2, 1, (0, 0, 0, 0, 0), ⟨"", "", ""⟩, ""),
  (93, .iload 4, 2, (0, 0, 0, 0, 0), ⟨"", "", ""⟩, ""),
  (95, .invokevirtual 100, 3, (2, 4, 25, 4, 25), ⟨"WordHides$Square", "lay", "(LWordHides$Text;I)I"⟩, ""),
  (98, .istore 5, 2, (0, 0, 0, 0, 0), ⟨"", "", ""⟩, ""),
  (100, .aload_n 0, 1, (0, 0, 0, 0, 0), ⟨"", "", ""⟩, ""),
  (101, .iload_n 1, 1, (0, 0, 0, 0, 0), ⟨"", "", ""⟩, ""),
  (102, .iconst 1, 1, (0, 0, 0, 0, 0), ⟨"", "", ""⟩, ""),
  (103, .iadd, 1, (0, 0, 0, 0, 0), ⟨"", "", ""⟩, ""),
  (104, .invokestatic 61, 3, (2, 0, 18, 0, 0), ⟨"WordHides$Search", "layFrom", "(LWordHides$Search;I)V"⟩, ""),
  (107, .aload_n 3, 1, (0, 0, 0, 0, 0), ⟨"", "", ""⟩, ""),
  (108, .iload 5, 2, (0, 0, 0, 0, 0), ⟨"", "", ""⟩, ""),
  (110, .invokevirtual 104, 3, (1, 4, 26, 4, 26), ⟨"WordHides$Square", "lift", "(I)V"⟩, ""),
  (113, .iinc 4 1, 3, (0, 0, 0, 0, 0), ⟨"", "", ""⟩, ""),
  (116, .goto (-74), 3, (42, 0, 0, 0, 0), ⟨"", "", ""⟩, ""),
  (119, .return_, 1, (0, 0, 0, 0, 0), ⟨"", "", ""⟩, "")])
def pX4_keepPlaces : wM := (⟨"WordHides$Search", "keepPlaces", "()V"⟩, prog_6_method_6_code, 1, none, 1, [
  (0, .aload_n 0, 1, (0, 0, 0, 0, 0), ⟨"", "", ""⟩, ""),
  (1, .getfield 9, 3, (2, 1, 2, 2, 0), ⟨"", "", ""⟩, "WordHides$Search"),
  (4, .iconst 0, 1, (0, 0, 0, 0, 0), ⟨"", "", ""⟩, ""),
  (5, .aload_n 0, 1, (0, 0, 0, 0, 0), ⟨"", "", ""⟩, ""),
  (6, .getfield 18, 3, (4, 1, 2, 2, 0), ⟨"", "", ""⟩, "WordHides$Search"),
  (9, .iconst 0, 1, (0, 0, 0, 0, 0), ⟨"", "", ""⟩, ""),
  (10, .iconst 3, 1, (0, 0, 0, 0, 0), ⟨"", "", ""⟩, ""),
  (11, .invokestatic 108, 3, (0, 0, 0, 0, 1), ⟨"java/lang/System", "arraycopy", "(Ljava/lang/Object;ILjava/lang/Object;II)V"⟩, ""),
  (14, .return_, 1, (0, 0, 0, 0, 0), ⟨"", "", ""⟩, "")])
def pX4_firstPlace : wM := (⟨"WordHides$Search", "firstPlace", "(I)I"⟩, prog_6_method_7_code, 2, (some .int), 2, [
  (0, .iload_n 1, 1, (0, 0, 0, 0, 0), ⟨"", "", ""⟩, ""),
  (1, .ifCond .lt 31, 3, (32, 0, 0, 0, 0), ⟨"", "", ""⟩, ""),
  (4, .iload_n 1, 1, (0, 0, 0, 0, 0), ⟨"", "", ""⟩, ""),
  (5, .aload_n 0, 1, (0, 0, 0, 0, 0), ⟨"", "", ""⟩, ""),
  (6, .getfield 29, 3, (0, 1, 2, 2, 0), ⟨"", "", ""⟩, "WordHides$Search"),
  (9, .getfield 65, 3, (1, 0, 0, 2, 0), ⟨"", "", ""⟩, "WordHides$Board"),
  (12, .getfield 114, 3, (1, 6, 6, 0, 0), ⟨"", "", ""⟩, "WordHides$TextList"),
  (15, .if_icmp .ge 17, 3, (32, 0, 0, 0, 0), ⟨"", "", ""⟩, ""),
  (18, .iload_n 1, 1, (0, 0, 0, 0, 0), ⟨"", "", ""⟩, ""),
  (19, .iconst 3, 1, (0, 0, 0, 0, 0), ⟨"", "", ""⟩, ""),
  (20, .if_icmp .ge 12, 3, (32, 0, 0, 0, 0), ⟨"", "", ""⟩, ""),
  (23, .aload_n 0, 1, (0, 0, 0, 0, 0), ⟨"", "", ""⟩, ""),
  (24, .getfield 18, 3, (4, 1, 2, 2, 0), ⟨"", "", ""⟩, "WordHides$Search"),
  (27, .iload_n 1, 1, (0, 0, 0, 0, 0), ⟨"", "", ""⟩, ""),
  (28, .iaload, 1, (0, 0, 0, 0, 0), ⟨"", "", ""⟩, ""),
  (29, .goto 5, 3, (34, 0, 0, 0, 0), ⟨"", "", ""⟩, ""),
  (32, .bipush (-6), 2, (0, 0, 0, 0, 0), ⟨"", "", ""⟩, ""),
  (34, .ireturn, 1, (0, 0, 0, 0, 0), ⟨"", "", ""⟩, "")])
def pX5_init : wM := (⟨"WordHides$Square", "<init>", "(LWordHides$Lattice;)V"⟩, prog_7_method_1_code, 2, none, 2, [
  (0, .aload_n 0, 1, (0, 0, 0, 0, 0), ⟨"", "", ""⟩, ""),
  (1, .invokespecial 3, 3, (0, 0, 0, 0, 1), ⟨"java/lang/Object", "<init>", "()V"⟩, ""),
  (4, .aload_n 0, 1, (0, 0, 0, 0, 0), ⟨"", "", ""⟩, ""),
  (5, .bipush 16, 2, (0, 0, 0, 0, 0), ⟨"", "", ""⟩, ""),
  (7, .newarray .int, 2, (0, 0, 0, 0, 0), ⟨"", "", ""⟩, ""),
  (9, .putfield 9, 3, (0, 4, 4, 2, 0), ⟨"", "", ""⟩, "WordHides$Square"),
  (12, .aload_n 0, 1, (0, 0, 0, 0, 0), ⟨"", "", ""⟩, ""),
  (13, .aload_n 1, 1, (0, 0, 0, 0, 0), ⟨"", "", ""⟩, ""),
  (14, .putfield 15, 3, (1, 4, 4, 2, 0), ⟨"", "", ""⟩, "WordHides$Square"),
  (17, .return_, 1, (0, 0, 0, 0, 0), ⟨"", "", ""⟩, "")])
def pX5_clear : wM := (⟨"WordHides$Square", "clear", "(LWordHides$Lattice;)V"⟩, prog_7_method_2_code, 2, none, 2, [
  (0, .aload_n 0, 1, (0, 0, 0, 0, 0), ⟨"", "", ""⟩, ""),
  (1, .aload_n 1, 1, (0, 0, 0, 0, 0), ⟨"", "", ""⟩, ""),
  (2, .putfield 15, 3, (1, 4, 4, 2, 0), ⟨"", "", ""⟩, "WordHides$Square"),
  (5, .aload_n 0, 1, (0, 0, 0, 0, 0), ⟨"", "", ""⟩, ""),
  (6, .getfield 9, 3, (0, 4, 4, 2, 0), ⟨"", "", ""⟩, "WordHides$Square"),
  (9, .iconst 0, 1, (0, 0, 0, 0, 0), ⟨"", "", ""⟩, ""),
  (10, .invokestatic 19, 3, (2, 0, 122, 0, 0), ⟨"java/util/Arrays", "fill", "([II)V"⟩, ""),
  (13, .return_, 1, (0, 0, 0, 0, 0), ⟨"", "", ""⟩, "")])
def pX5_copyFrom : wM := (⟨"WordHides$Square", "copyFrom", "(LWordHides$Square;)V"⟩, prog_7_method_3_code, 2, none, 2, [
  (0, .aload_n 0, 1, (0, 0, 0, 0, 0), ⟨"", "", ""⟩, ""),
  (1, .aload_n 1, 1, (0, 0, 0, 0, 0), ⟨"", "", ""⟩, ""),
  (2, .getfield 15, 3, (1, 4, 4, 2, 0), ⟨"", "", ""⟩, "WordHides$Square"),
  (5, .putfield 15, 3, (1, 4, 4, 2, 0), ⟨"", "", ""⟩, "WordHides$Square"),
  (8, .aload_n 1, 1, (0, 0, 0, 0, 0), ⟨"", "", ""⟩, ""),
  (9, .getfield 9, 3, (0, 4, 4, 2, 0), ⟨"", "", ""⟩, "WordHides$Square"),
  (12, .iconst 0, 1, (0, 0, 0, 0, 0), ⟨"", "", ""⟩, ""),
  (13, .aload_n 0, 1, (0, 0, 0, 0, 0), ⟨"", "", ""⟩, ""),
  (14, .getfield 9, 3, (0, 4, 4, 2, 0), ⟨"", "", ""⟩, "WordHides$Square"),
  (17, .iconst 0, 1, (0, 0, 0, 0, 0), ⟨"", "", ""⟩, ""),
  (18, .bipush 16, 2, (0, 0, 0, 0, 0), ⟨"", "", ""⟩, ""),
  (20, .invokestatic 25, 3, (0, 0, 0, 0, 1), ⟨"java/lang/System", "arraycopy", "(Ljava/lang/Object;ILjava/lang/Object;II)V"⟩, ""),
  (23, .return_, 1, (0, 0, 0, 0, 0), ⟨"", "", ""⟩, "")])
def pX5_accepts : wM := (⟨"WordHides$Square", "accepts", "(LWordHides$Text;I)Z"⟩, prog_7_method_4_code, 6, (some .boolean), 3, [
  (0, .aload_n 0, 1, (0, 0, 0, 0, 0), ⟨"", "", ""⟩, ""),
  (1, .getfield 15, 3, (1, 4, 4, 2, 0), ⟨"", "", ""⟩, "WordHides$Square"),
  (4, .iload_n 2, 1, (0, 0, 0, 0, 0), ⟨"", "", ""⟩, ""),
  (5, .aload_n 1, 1, (0, 0, 0, 0, 0), ⟨"", "", ""⟩, ""),
  (6, .getfield 31, 3, (1, 5, 5, 0, 0), ⟨"", "", ""⟩, "WordHides$Text"),
  (9, .invokevirtual 37, 3, (2, 3, 14, 3, 14), ⟨"WordHides$Lattice", "holds", "(II)Z"⟩, ""),
  (12, .ifCond .ne 5, 3, (17, 0, 0, 0, 0), ⟨"", "", ""⟩, ""),
  (15, .iconst 0, 1, (0, 0, 0, 0, 0), ⟨"", "", ""⟩, ""),
  (16, .ireturn, 1, (1, 0, 0, 0, 0), ⟨"", "", ""⟩, ""),
  (17, .aload_n 0, 1, (0, 0, 0, 0, 0), ⟨"", "", ""⟩, ""),
  (18, .getfield 15, 3, (1, 4, 4, 2, 0), ⟨"", "", ""⟩, "WordHides$Square"),
  (21, .getfield 43, 3, (3, 3, 3, 2, 0), ⟨"", "", ""⟩, "WordHides$Lattice"),
  (24, .iload_n 2, 1, (0, 0, 0, 0, 0), ⟨"", "", ""⟩, ""),
  (25, .bipush 8, 2, (0, 0, 0, 0, 0), ⟨"", "", ""⟩, ""),
  (27, .irem, 1, (0, 0, 0, 0, 0), ⟨"", "", ""⟩, ""),
  (28, .iaload, 1, (0, 0, 0, 0, 0), ⟨"", "", ""⟩, ""),
  (29, .istore_n 3, 1, (0, 0, 0, 0, 0), ⟨"", "", ""⟩, ""),
  (30, .iload_n 2, 1, (0, 0, 0, 0, 0), ⟨"", "", ""⟩, ""),
  (31, .bipush 8, 2, (0, 0, 0, 0, 0), ⟨"", "", ""⟩, ""),
  (33, .idiv, 1, (0, 0, 0, 0, 0), ⟨"", "", ""⟩, ""),
  (34, .istore 4, 2, (0, 0, 0, 0, 0), ⟨"", "", ""⟩, ""),
  (36, .iconst 0, 1, (0, 0, 0, 0, 0), ⟨"", "", ""⟩, ""),
  (37, .istore 5, 2, (0, 0, 0, 0, 0), ⟨"", "", ""⟩, ""),
  (39, .iload 5, 2, (0, 0, 0, 0, 0), ⟨"", "", ""⟩, ""),
  (41, .aload_n 1, 1, (0, 0, 0, 0, 0), ⟨"", "", ""⟩, ""),
  (42, .getfield 31, 3, (1, 5, 5, 0, 0), ⟨"", "", ""⟩, "WordHides$Text"),
  (45, .if_icmp .ge 44, 3, (89, 0, 0, 0, 0), ⟨"", "", ""⟩, ""),
  (48, .aload_n 0, 1, (0, 0, 0, 0, 0), ⟨"", "", ""⟩, ""),
  (49, .getfield 9, 3, (0, 4, 4, 2, 0), ⟨"", "", ""⟩, "WordHides$Square"),
  (52, .iload 4, 2, (0, 0, 0, 0, 0), ⟨"", "", ""⟩, ""),
  (54, .iaload, 1, (0, 0, 0, 0, 0), ⟨"", "", ""⟩, ""),
  (55, .aload_n 1, 1, (0, 0, 0, 0, 0), ⟨"", "", ""⟩, ""),
  (56, .getfield 46, 3, (0, 5, 5, 2, 0), ⟨"", "", ""⟩, "WordHides$Text"),
  (59, .iload 5, 2, (0, 0, 0, 0, 0), ⟨"", "", ""⟩, ""),
  (61, .iaload, 1, (0, 0, 0, 0, 0), ⟨"", "", ""⟩, ""),
  (62, .if_icmp .eq 15, 3, (77, 0, 0, 0, 0), ⟨"", "", ""⟩, ""),
  (65, .aload_n 0, 1, (0, 0, 0, 0, 0), ⟨"", "", ""⟩, ""),
  (66, .getfield 9, 3, (0, 4, 4, 2, 0), ⟨"", "", ""⟩, "WordHides$Square"),
  (69, .iload 4, 2, (0, 0, 0, 0, 0), ⟨"", "", ""⟩, ""),
  (71, .iaload, 1, (0, 0, 0, 0, 0), ⟨"", "", ""⟩, ""),
  (72, .ifCond .eq 5, 3, (77, 0, 0, 0, 0), ⟨"", "", ""⟩, ""),
  (75, .iconst 0, 1, (0, 0, 0, 0, 0), ⟨"", "", ""⟩, ""),
  (76, .ireturn, 1, (1, 0, 0, 0, 0), ⟨"", "", ""⟩, ""),
  (77, .iload 4, 2, (0, 0, 0, 0, 0), ⟨"", "", ""⟩, ""),
  (79, .iload_n 3, 1, (0, 0, 0, 0, 0), ⟨"", "", ""⟩, ""),
  (80, .iadd, 1, (0, 0, 0, 0, 0), ⟨"", "", ""⟩, ""),
  (81, .istore 4, 2, (0, 0, 0, 0, 0), ⟨"", "", ""⟩, ""),
  (83, .iinc 5 1, 3, (0, 0, 0, 0, 0), ⟨"", "", ""⟩, ""),
  (86, .goto (-47), 3, (39, 0, 0, 0, 0), ⟨"", "", ""⟩, ""),
  (89, .iconst 1, 1, (0, 0, 0, 0, 0), ⟨"", "", ""⟩, ""),
  (90, .ireturn, 1, (1, 0, 0, 0, 0), ⟨"", "", ""⟩, "")])
def pX5_lay : wM := (⟨"WordHides$Square", "lay", "(LWordHides$Text;I)I"⟩, prog_7_method_5_code, 7, (some .int), 3, [
  (0, .iconst 0, 1, (0, 0, 0, 0, 0), ⟨"", "", ""⟩, ""),
  (1, .istore_n 3, 1, (0, 0, 0, 0, 0), ⟨"", "", ""⟩, ""),
  (2, .aload_n 0, 1, (0, 0, 0, 0, 0), ⟨"", "", ""⟩, ""),
  (3, .getfield 15, 3, (1, 4, 4, 2, 0), ⟨"", "", ""⟩, "WordHides$Square"),
  (6, .getfield 43, 3, (3, 3, 3, 2, 0), ⟨"", "", ""⟩, "WordHides$Lattice"),
  (9, .iload_n 2, 1, (0, 0, 0, 0, 0), ⟨"", "", ""⟩, ""),
  (10, .bipush 8, 2, (0, 0, 0, 0, 0), ⟨"", "", ""⟩, ""),
  (12, .irem, 1, (0, 0, 0, 0, 0), ⟨"", "", ""⟩, ""),
  (13, .iaload, 1, (0, 0, 0, 0, 0), ⟨"", "", ""⟩, ""),
  (14, .istore 4, 2, (0, 0, 0, 0, 0), ⟨"", "", ""⟩, ""),
  (16, .iload_n 2, 1, (0, 0, 0, 0, 0), ⟨"", "", ""⟩, ""),
  (17, .bipush 8, 2, (0, 0, 0, 0, 0), ⟨"", "", ""⟩, ""),
  (19, .idiv, 1, (0, 0, 0, 0, 0), ⟨"", "", ""⟩, ""),
  (20, .istore 5, 2, (0, 0, 0, 0, 0), ⟨"", "", ""⟩, ""),
  (22, .iconst 0, 1, (0, 0, 0, 0, 0), ⟨"", "", ""⟩, ""),
  (23, .istore 6, 2, (0, 0, 0, 0, 0), ⟨"", "", ""⟩, ""),
  (25, .iload 6, 2, (0, 0, 0, 0, 0), ⟨"", "", ""⟩, ""),
  (27, .aload_n 1, 1, (0, 0, 0, 0, 0), ⟨"", "", ""⟩, ""),
  (28, .getfield 31, 3, (1, 5, 5, 0, 0), ⟨"", "", ""⟩, "WordHides$Text"),
  (31, .if_icmp .ge 47, 3, (78, 0, 0, 0, 0), ⟨"", "", ""⟩, ""),
  (34, .aload_n 0, 1, (0, 0, 0, 0, 0), ⟨"", "", ""⟩, ""),
  (35, .getfield 9, 3, (0, 4, 4, 2, 0), ⟨"", "", ""⟩, "WordHides$Square"),
  (38, .iload 5, 2, (0, 0, 0, 0, 0), ⟨"", "", ""⟩, ""),
  (40, .iaload, 1, (0, 0, 0, 0, 0), ⟨"", "", ""⟩, ""),
  (41, .ifCond .ne 24, 3, (65, 0, 0, 0, 0), ⟨"", "", ""⟩, ""),
  (44, .aload_n 0, 1, (0, 0, 0, 0, 0), ⟨"", "", ""⟩, ""),
  (45, .getfield 9, 3, (0, 4, 4, 2, 0), ⟨"", "", ""⟩, "WordHides$Square"),
  (48, .iload 5, 2, (0, 0, 0, 0, 0), ⟨"", "", ""⟩, ""),
  (50, .aload_n 1, 1, (0, 0, 0, 0, 0), ⟨"", "", ""⟩, ""),
  (51, .getfield 46, 3, (0, 5, 5, 2, 0), ⟨"", "", ""⟩, "WordHides$Text"),
  (54, .iload 6, 2, (0, 0, 0, 0, 0), ⟨"", "", ""⟩, ""),
  (56, .iaload, 1, (0, 0, 0, 0, 0), ⟨"", "", ""⟩, ""),
  (57, .iastore, 1, (0, 0, 0, 0, 0), ⟨"", "", ""⟩, ""),
  (58, .iload_n 3, 1, (0, 0, 0, 0, 0), ⟨"", "", ""⟩, ""),
  (59, .iconst 1, 1, (0, 0, 0, 0, 0), ⟨"", "", ""⟩, ""),
  (60, .iload 5, 2, (0, 0, 0, 0, 0), ⟨"", "", ""⟩, ""),
  (62, .ishl, 1, (0, 0, 0, 0, 0), ⟨"", "", ""⟩, ""),
  (63, .ior, 1, (0, 0, 0, 0, 0), ⟨"", "", ""⟩, ""),
  (64, .istore_n 3, 1, (0, 0, 0, 0, 0), ⟨"", "", ""⟩, ""),
  (65, .iload 5, 2, (0, 0, 0, 0, 0), ⟨"", "", ""⟩, ""),
  (67, .iload 4, 2, (0, 0, 0, 0, 0), ⟨"", "", ""⟩, ""),
  (69, .iadd, 1, (0, 0, 0, 0, 0), ⟨"", "", ""⟩, ""),
  (70, .istore 5, 2, (0, 0, 0, 0, 0), ⟨"", "", ""⟩, ""),
  (72, .iinc 6 1, 3, (0, 0, 0, 0, 0), ⟨"", "", ""⟩, ""),
  (75, .goto (-50), 3, (25, 0, 0, 0, 0), ⟨"", "", ""⟩, ""),
  (78, .iload_n 3, 1, (0, 0, 0, 0, 0), ⟨"", "", ""⟩, ""),
  (79, .ireturn, 1, (0, 0, 0, 0, 0), ⟨"", "", ""⟩, "")])
def pX5_lift : wM := (⟨"WordHides$Square", "lift", "(I)V"⟩, prog_7_method_6_code, 3, none, 2, [
  (0, .iconst 0, 1, (0, 0, 0, 0, 0), ⟨"", "", ""⟩, ""),
  (1, .istore_n 2, 1, (0, 0, 0, 0, 0), ⟨"", "", ""⟩, ""),
  (2, .iload_n 2, 1, (0, 0, 0, 0, 0), ⟨"", "", ""⟩, ""),
  (3, .bipush 16, 2, (0, 0, 0, 0, 0), ⟨"", "", ""⟩, ""),
  (5, .if_icmp .ge 24, 3, (29, 0, 0, 0, 0), ⟨"", "", ""⟩, ""),
  (8, .iload_n 1, 1, (0, 0, 0, 0, 0), ⟨"", "", ""⟩, ""),
  (9, .iload_n 2, 1, (0, 0, 0, 0, 0), ⟨"", "", ""⟩, ""),
  (10, .ishr, 1, (0, 0, 0, 0, 0), ⟨"", "", ""⟩, ""),
  (11, .iconst 1, 1, (0, 0, 0, 0, 0), ⟨"", "", ""⟩, ""),
  (12, .iand, 1, (0, 0, 0, 0, 0), ⟨"", "", ""⟩, ""),
  (13, .ifCond .eq 10, 3, (23, 0, 0, 0, 0), ⟨"", "", ""⟩, ""),
  (16, .aload_n 0, 1, (0, 0, 0, 0, 0), ⟨"", "", ""⟩, ""),
  (17, .getfield 9, 3, (0, 4, 4, 2, 0), ⟨"", "", ""⟩, "WordHides$Square"),
  (20, .iload_n 2, 1, (0, 0, 0, 0, 0), ⟨"", "", ""⟩, ""),
  (21, .iconst 0, 1, (0, 0, 0, 0, 0), ⟨"", "", ""⟩, ""),
  (22, .iastore, 1, (0, 0, 0, 0, 0), ⟨"", "", ""⟩, ""),
  (23, .iinc 2 1, 3, (0, 0, 0, 0, 0), ⟨"", "", ""⟩, ""),
  (26, .goto (-24), 3, (2, 0, 0, 0, 0), ⟨"", "", ""⟩, ""),
  (29, .return_, 1, (0, 0, 0, 0, 0), ⟨"", "", ""⟩, "")])
def pX5_pour : wM := (⟨"WordHides$Square", "pour", "(LWordHides$Text;)I"⟩, prog_7_method_7_code, 5, (some .int), 2, [
  (0, .iconst 0, 1, (0, 0, 0, 0, 0), ⟨"", "", ""⟩, ""),
  (1, .istore_n 2, 1, (0, 0, 0, 0, 0), ⟨"", "", ""⟩, ""),
  (2, .iconst 0, 1, (0, 0, 0, 0, 0), ⟨"", "", ""⟩, ""),
  (3, .istore_n 3, 1, (0, 0, 0, 0, 0), ⟨"", "", ""⟩, ""),
  (4, .iconst 0, 1, (0, 0, 0, 0, 0), ⟨"", "", ""⟩, ""),
  (5, .istore 4, 2, (0, 0, 0, 0, 0), ⟨"", "", ""⟩, ""),
  (7, .iload 4, 2, (0, 0, 0, 0, 0), ⟨"", "", ""⟩, ""),
  (9, .aload_n 0, 1, (0, 0, 0, 0, 0), ⟨"", "", ""⟩, ""),
  (10, .getfield 15, 3, (1, 4, 4, 2, 0), ⟨"", "", ""⟩, "WordHides$Square"),
  (13, .getfield 49, 3, (1, 3, 3, 0, 0), ⟨"", "", ""⟩, "WordHides$Lattice"),
  (16, .if_icmp .ge 53, 3, (69, 0, 0, 0, 0), ⟨"", "", ""⟩, ""),
  (19, .aload_n 0, 1, (0, 0, 0, 0, 0), ⟨"", "", ""⟩, ""),
  (20, .getfield 9, 3, (0, 4, 4, 2, 0), ⟨"", "", ""⟩, "WordHides$Square"),
  (23, .iload 4, 2, (0, 0, 0, 0, 0), ⟨"", "", ""⟩, ""),
  (25, .iaload, 1, (0, 0, 0, 0, 0), ⟨"", "", ""⟩, ""),
  (26, .ifCond .ne 37, 3, (63, 0, 0, 0, 0), ⟨"", "", ""⟩, ""),
  (29, .aload_n 0, 1, (0, 0, 0, 0, 0), ⟨"", "", ""⟩, ""),
  (30, .getfield 9, 3, (0, 4, 4, 2, 0), ⟨"", "", ""⟩, "WordHides$Square"),
  (33, .iload 4, 2, (0, 0, 0, 0, 0), ⟨"", "", ""⟩, ""),
  (35, .aload_n 1, 1, (0, 0, 0, 0, 0), ⟨"", "", ""⟩, ""),
  (36, .getfield 46, 3, (0, 5, 5, 2, 0), ⟨"", "", ""⟩, "WordHides$Text"),
  (39, .iload_n 3, 1, (0, 0, 0, 0, 0), ⟨"", "", ""⟩, ""),
  (40, .iaload, 1, (0, 0, 0, 0, 0), ⟨"", "", ""⟩, ""),
  (41, .iastore, 1, (0, 0, 0, 0, 0), ⟨"", "", ""⟩, ""),
  (42, .iload_n 3, 1, (0, 0, 0, 0, 0), ⟨"", "", ""⟩, ""),
  (43, .iconst 1, 1, (0, 0, 0, 0, 0), ⟨"", "", ""⟩, ""),
  (44, .iadd, 1, (0, 0, 0, 0, 0), ⟨"", "", ""⟩, ""),
  (45, .aload_n 1, 1, (0, 0, 0, 0, 0), ⟨"", "", ""⟩, ""),
  (46, .getfield 31, 3, (1, 5, 5, 0, 0), ⟨"", "", ""⟩, "WordHides$Text"),
  (49, .if_icmp .ge 9, 3, (58, 0, 0, 0, 0), ⟨"", "", ""⟩, ""),
  (52, .iload_n 3, 1, (0, 0, 0, 0, 0), ⟨"", "", ""⟩, ""),
  (53, .iconst 1, 1, (0, 0, 0, 0, 0), ⟨"", "", ""⟩, ""),
  (54, .iadd, 1, (0, 0, 0, 0, 0), ⟨"", "", ""⟩, ""),
  (55, .goto 4, 3, (59, 0, 0, 0, 0), ⟨"", "", ""⟩, ""),
  (58, .iconst 0, 1, (0, 0, 0, 0, 0), ⟨"", "", ""⟩, ""),
  (59, .istore_n 3, 1, (0, 0, 0, 0, 0), ⟨"", "", ""⟩, ""),
  (60, .iinc 2 1, 3, (0, 0, 0, 0, 0), ⟨"", "", ""⟩, ""),
  (63, .iinc 4 1, 3, (0, 0, 0, 0, 0), ⟨"", "", ""⟩, ""),
  (66, .goto (-59), 3, (7, 0, 0, 0, 0), ⟨"", "", ""⟩, ""),
  (69, .iload_n 2, 1, (0, 0, 0, 0, 0), ⟨"", "", ""⟩, ""),
  (70, .ireturn, 1, (0, 0, 0, 0, 0), ⟨"", "", ""⟩, "")])
def pX5_standing : wM := (⟨"WordHides$Square", "standing", "(LWordHides$Text;I)I"⟩, prog_7_method_8_code, 6, (some .int), 3, [
  (0, .iconst 0, 1, (0, 0, 0, 0, 0), ⟨"", "", ""⟩, ""),
  (1, .istore_n 3, 1, (0, 0, 0, 0, 0), ⟨"", "", ""⟩, ""),
  (2, .iconst 0, 1, (0, 0, 0, 0, 0), ⟨"", "", ""⟩, ""),
  (3, .istore 4, 2, (0, 0, 0, 0, 0), ⟨"", "", ""⟩, ""),
  (5, .iload 4, 2, (0, 0, 0, 0, 0), ⟨"", "", ""⟩, ""),
  (7, .aload_n 0, 1, (0, 0, 0, 0, 0), ⟨"", "", ""⟩, ""),
  (8, .getfield 15, 3, (1, 4, 4, 2, 0), ⟨"", "", ""⟩, "WordHides$Square"),
  (11, .getfield 49, 3, (1, 3, 3, 0, 0), ⟨"", "", ""⟩, "WordHides$Lattice"),
  (14, .if_icmp .ge 75, 3, (89, 0, 0, 0, 0), ⟨"", "", ""⟩, ""),
  (17, .aload_n 0, 1, (0, 0, 0, 0, 0), ⟨"", "", ""⟩, ""),
  (18, .getfield 9, 3, (0, 4, 4, 2, 0), ⟨"", "", ""⟩, "WordHides$Square"),
  (21, .iload 4, 2, (0, 0, 0, 0, 0), ⟨"", "", ""⟩, ""),
  (23, .iaload, 1, (0, 0, 0, 0, 0), ⟨"", "", ""⟩, ""),
  (24, .aload_n 1, 1, (0, 0, 0, 0, 0), ⟨"", "", ""⟩, ""),
  (25, .getfield 46, 3, (0, 5, 5, 2, 0), ⟨"", "", ""⟩, "WordHides$Text"),
  (28, .iconst 0, 1, (0, 0, 0, 0, 0), ⟨"", "", ""⟩, ""),
  (29, .iaload, 1, (0, 0, 0, 0, 0), ⟨"", "", ""⟩, ""),
  (30, .if_icmp .eq 6, 3, (36, 0, 0, 0, 0), ⟨"", "", ""⟩, ""),
  (33, .goto 50, 3, (83, 0, 0, 0, 0), ⟨"", "", ""⟩, ""),
  (36, .iload 4, 2, (0, 0, 0, 0, 0), ⟨"", "", ""⟩, ""),
  (38, .bipush 8, 2, (0, 0, 0, 0, 0), ⟨"", "", ""⟩, ""),
  (40, .imul, 1, (0, 0, 0, 0, 0), ⟨"", "", ""⟩, ""),
  (41, .istore 5, 2, (0, 0, 0, 0, 0), ⟨"", "", ""⟩, ""),
  (43, .iload 5, 2, (0, 0, 0, 0, 0), ⟨"", "", ""⟩, ""),
  (45, .iload 4, 2, (0, 0, 0, 0, 0), ⟨"", "", ""⟩, ""),
  (47, .bipush 8, 2, (0, 0, 0, 0, 0), ⟨"", "", ""⟩, ""),
  (49, .imul, 1, (0, 0, 0, 0, 0), ⟨"", "", ""⟩, ""),
  (50, .bipush 8, 2, (0, 0, 0, 0, 0), ⟨"", "", ""⟩, ""),
  (52, .iadd, 1, (0, 0, 0, 0, 0), ⟨"", "", ""⟩, ""),
  (53, .if_icmp .ge 30, 3, (83, 0, 0, 0, 0), ⟨"", "", ""⟩, ""),
  (56, .aload_n 0, 1, (0, 0, 0, 0, 0), ⟨"", "", ""⟩, ""),
  (57, .aload_n 1, 1, (0, 0, 0, 0, 0), ⟨"", "", ""⟩, ""),
  (58, .iload 5, 2, (0, 0, 0, 0, 0), ⟨"", "", ""⟩, ""),
  (60, .invokevirtual 52, 3, (2, 4, 29, 4, 29), ⟨"WordHides$Square", "showsAt", "(LWordHides$Text;I)Z"⟩, ""),
  (63, .ifCond .eq 14, 3, (77, 0, 0, 0, 0), ⟨"", "", ""⟩, ""),
  (66, .iload_n 3, 1, (0, 0, 0, 0, 0), ⟨"", "", ""⟩, ""),
  (67, .iload_n 2, 1, (0, 0, 0, 0, 0), ⟨"", "", ""⟩, ""),
  (68, .if_icmp .ne 6, 3, (74, 0, 0, 0, 0), ⟨"", "", ""⟩, ""),
  (71, .iload 5, 2, (0, 0, 0, 0, 0), ⟨"", "", ""⟩, ""),
  (73, .ireturn, 1, (0, 0, 0, 0, 0), ⟨"", "", ""⟩, ""),
  (74, .iinc 3 1, 3, (0, 0, 0, 0, 0), ⟨"", "", ""⟩, ""),
  (77, .iinc 5 1, 3, (0, 0, 0, 0, 0), ⟨"", "", ""⟩, ""),
  (80, .goto (-37), 3, (43, 0, 0, 0, 0), ⟨"", "", ""⟩, ""),
  (83, .iinc 4 1, 3, (0, 0, 0, 0, 0), ⟨"", "", ""⟩, ""),
  (86, .goto (-81), 3, (5, 0, 0, 0, 0), ⟨"", "", ""⟩, ""),
  (89, .iload_n 2, 1, (0, 0, 0, 0, 0), ⟨"", "", ""⟩, ""),
  (90, .iconst (-1), 1, (0, 0, 0, 0, 0), ⟨"", "", ""⟩, ""),
  (91, .if_icmp .ne 7, 3, (98, 0, 0, 0, 0), ⟨"", "", ""⟩, ""),
  (94, .iload_n 3, 1, (0, 0, 0, 0, 0), ⟨"", "", ""⟩, ""),
  (95, .goto 5, 3, (100, 0, 0, 0, 0), ⟨"", "", ""⟩, ""),
  (98, .bipush (-6), 2, (0, 0, 0, 0, 0), ⟨"", "", ""⟩, ""),
  (100, .ireturn, 1, (0, 0, 0, 0, 0), ⟨"", "", ""⟩, "")])
def pX5_showsAt : wM := (⟨"WordHides$Square", "showsAt", "(LWordHides$Text;I)Z"⟩, prog_7_method_9_code, 6, (some .boolean), 3, [
  (0, .aload_n 0, 1, (0, 0, 0, 0, 0), ⟨"", "", ""⟩, ""),
  (1, .getfield 15, 3, (1, 4, 4, 2, 0), ⟨"", "", ""⟩, "WordHides$Square"),
  (4, .getfield 56, 3, (4, 3, 3, 2, 0), ⟨"", "", ""⟩, "WordHides$Lattice"),
  (7, .iload_n 2, 1, (0, 0, 0, 0, 0), ⟨"", "", ""⟩, ""),
  (8, .iaload, 1, (0, 0, 0, 0, 0), ⟨"", "", ""⟩, ""),
  (9, .aload_n 1, 1, (0, 0, 0, 0, 0), ⟨"", "", ""⟩, ""),
  (10, .getfield 31, 3, (1, 5, 5, 0, 0), ⟨"", "", ""⟩, "WordHides$Text"),
  (13, .if_icmp .ge 5, 3, (18, 0, 0, 0, 0), ⟨"", "", ""⟩, ""),
  (16, .iconst 0, 1, (0, 0, 0, 0, 0), ⟨"", "", ""⟩, ""),
  (17, .ireturn, 1, (1, 0, 0, 0, 0), ⟨"", "", ""⟩, ""),
  (18, .aload_n 0, 1, (0, 0, 0, 0, 0), ⟨"", "", ""⟩, ""),
  (19, .getfield 15, 3, (1, 4, 4, 2, 0), ⟨"", "", ""⟩, "WordHides$Square"),
  (22, .getfield 43, 3, (3, 3, 3, 2, 0), ⟨"", "", ""⟩, "WordHides$Lattice"),
  (25, .iload_n 2, 1, (0, 0, 0, 0, 0), ⟨"", "", ""⟩, ""),
  (26, .bipush 8, 2, (0, 0, 0, 0, 0), ⟨"", "", ""⟩, ""),
  (28, .irem, 1, (0, 0, 0, 0, 0), ⟨"", "", ""⟩, ""),
  (29, .iaload, 1, (0, 0, 0, 0, 0), ⟨"", "", ""⟩, ""),
  (30, .istore_n 3, 1, (0, 0, 0, 0, 0), ⟨"", "", ""⟩, ""),
  (31, .iload_n 2, 1, (0, 0, 0, 0, 0), ⟨"", "", ""⟩, ""),
  (32, .bipush 8, 2, (0, 0, 0, 0, 0), ⟨"", "", ""⟩, ""),
  (34, .idiv, 1, (0, 0, 0, 0, 0), ⟨"", "", ""⟩, ""),
  (35, .istore 4, 2, (0, 0, 0, 0, 0), ⟨"", "", ""⟩, ""),
  (37, .iconst 0, 1, (0, 0, 0, 0, 0), ⟨"", "", ""⟩, ""),
  (38, .istore 5, 2, (0, 0, 0, 0, 0), ⟨"", "", ""⟩, ""),
  (40, .iload 5, 2, (0, 0, 0, 0, 0), ⟨"", "", ""⟩, ""),
  (42, .aload_n 1, 1, (0, 0, 0, 0, 0), ⟨"", "", ""⟩, ""),
  (43, .getfield 31, 3, (1, 5, 5, 0, 0), ⟨"", "", ""⟩, "WordHides$Text"),
  (46, .if_icmp .ge 34, 3, (80, 0, 0, 0, 0), ⟨"", "", ""⟩, ""),
  (49, .aload_n 0, 1, (0, 0, 0, 0, 0), ⟨"", "", ""⟩, ""),
  (50, .getfield 9, 3, (0, 4, 4, 2, 0), ⟨"", "", ""⟩, "WordHides$Square"),
  (53, .iload 4, 2, (0, 0, 0, 0, 0), ⟨"", "", ""⟩, ""),
  (55, .iaload, 1, (0, 0, 0, 0, 0), ⟨"", "", ""⟩, ""),
  (56, .aload_n 1, 1, (0, 0, 0, 0, 0), ⟨"", "", ""⟩, ""),
  (57, .getfield 46, 3, (0, 5, 5, 2, 0), ⟨"", "", ""⟩, "WordHides$Text"),
  (60, .iload 5, 2, (0, 0, 0, 0, 0), ⟨"", "", ""⟩, ""),
  (62, .iaload, 1, (0, 0, 0, 0, 0), ⟨"", "", ""⟩, ""),
  (63, .if_icmp .eq 5, 3, (68, 0, 0, 0, 0), ⟨"", "", ""⟩, ""),
  (66, .iconst 0, 1, (0, 0, 0, 0, 0), ⟨"", "", ""⟩, ""),
  (67, .ireturn, 1, (1, 0, 0, 0, 0), ⟨"", "", ""⟩, ""),
  (68, .iload 4, 2, (0, 0, 0, 0, 0), ⟨"", "", ""⟩, ""),
  (70, .iload_n 3, 1, (0, 0, 0, 0, 0), ⟨"", "", ""⟩, ""),
  (71, .iadd, 1, (0, 0, 0, 0, 0), ⟨"", "", ""⟩, ""),
  (72, .istore 4, 2, (0, 0, 0, 0, 0), ⟨"", "", ""⟩, ""),
  (74, .iinc 5 1, 3, (0, 0, 0, 0, 0), ⟨"", "", ""⟩, ""),
  (77, .goto (-37), 3, (40, 0, 0, 0, 0), ⟨"", "", ""⟩, ""),
  (80, .iconst 1, 1, (0, 0, 0, 0, 0), ⟨"", "", ""⟩, ""),
  (81, .ireturn, 1, (1, 0, 0, 0, 0), ⟨"", "", ""⟩, "")])
def pX5_emptyCells : wM := (⟨"WordHides$Square", "emptyCells", "()I"⟩, prog_7_method_10_code, 3, (some .int), 1, [
  (0, .iconst 0, 1, (0, 0, 0, 0, 0), ⟨"", "", ""⟩, ""),
  (1, .istore_n 1, 1, (0, 0, 0, 0, 0), ⟨"", "", ""⟩, ""),
  (2, .iconst 0, 1, (0, 0, 0, 0, 0), ⟨"", "", ""⟩, ""),
  (3, .istore_n 2, 1, (0, 0, 0, 0, 0), ⟨"", "", ""⟩, ""),
  (4, .iload_n 2, 1, (0, 0, 0, 0, 0), ⟨"", "", ""⟩, ""),
  (5, .aload_n 0, 1, (0, 0, 0, 0, 0), ⟨"", "", ""⟩, ""),
  (6, .getfield 15, 3, (1, 4, 4, 2, 0), ⟨"", "", ""⟩, "WordHides$Square"),
  (9, .getfield 49, 3, (1, 3, 3, 0, 0), ⟨"", "", ""⟩, "WordHides$Lattice"),
  (12, .if_icmp .ge 21, 3, (33, 0, 0, 0, 0), ⟨"", "", ""⟩, ""),
  (15, .aload_n 0, 1, (0, 0, 0, 0, 0), ⟨"", "", ""⟩, ""),
  (16, .getfield 9, 3, (0, 4, 4, 2, 0), ⟨"", "", ""⟩, "WordHides$Square"),
  (19, .iload_n 2, 1, (0, 0, 0, 0, 0), ⟨"", "", ""⟩, ""),
  (20, .iaload, 1, (0, 0, 0, 0, 0), ⟨"", "", ""⟩, ""),
  (21, .ifCond .ne 6, 3, (27, 0, 0, 0, 0), ⟨"", "", ""⟩, ""),
  (24, .iinc 1 1, 3, (0, 0, 0, 0, 0), ⟨"", "", ""⟩, ""),
  (27, .iinc 2 1, 3, (0, 0, 0, 0, 0), ⟨"", "", ""⟩, ""),
  (30, .goto (-26), 3, (4, 0, 0, 0, 0), ⟨"", "", ""⟩, ""),
  (33, .iload_n 1, 1, (0, 0, 0, 0, 0), ⟨"", "", ""⟩, ""),
  (34, .ireturn, 1, (0, 0, 0, 0, 0), ⟨"", "", ""⟩, "")])
def pX5_unlikeLetters : wM := (⟨"WordHides$Square", "unlikeLetters", "()I"⟩, prog_7_method_11_code, 3, (some .int), 1, [
  (0, .iconst 0, 1, (0, 0, 0, 0, 0), ⟨"", "", ""⟩, ""),
  (1, .istore_n 1, 1, (0, 0, 0, 0, 0), ⟨"", "", ""⟩, ""),
  (2, .iconst 0, 1, (0, 0, 0, 0, 0), ⟨"", "", ""⟩, ""),
  (3, .istore_n 2, 1, (0, 0, 0, 0, 0), ⟨"", "", ""⟩, ""),
  (4, .iload_n 2, 1, (0, 0, 0, 0, 0), ⟨"", "", ""⟩, ""),
  (5, .aload_n 0, 1, (0, 0, 0, 0, 0), ⟨"", "", ""⟩, ""),
  (6, .getfield 15, 3, (1, 4, 4, 2, 0), ⟨"", "", ""⟩, "WordHides$Square"),
  (9, .getfield 49, 3, (1, 3, 3, 0, 0), ⟨"", "", ""⟩, "WordHides$Lattice"),
  (12, .if_icmp .ge 32, 3, (44, 0, 0, 0, 0), ⟨"", "", ""⟩, ""),
  (15, .aload_n 0, 1, (0, 0, 0, 0, 0), ⟨"", "", ""⟩, ""),
  (16, .getfield 9, 3, (0, 4, 4, 2, 0), ⟨"", "", ""⟩, "WordHides$Square"),
  (19, .iload_n 2, 1, (0, 0, 0, 0, 0), ⟨"", "", ""⟩, ""),
  (20, .iaload, 1, (0, 0, 0, 0, 0), ⟨"", "", ""⟩, ""),
  (21, .ifCond .eq 17, 3, (38, 0, 0, 0, 0), ⟨"", "", ""⟩, ""),
  (24, .iload_n 1, 1, (0, 0, 0, 0, 0), ⟨"", "", ""⟩, ""),
  (25, .iconst 1, 1, (0, 0, 0, 0, 0), ⟨"", "", ""⟩, ""),
  (26, .aload_n 0, 1, (0, 0, 0, 0, 0), ⟨"", "", ""⟩, ""),
  (27, .getfield 9, 3, (0, 4, 4, 2, 0), ⟨"", "", ""⟩, "WordHides$Square"),
  (30, .iload_n 2, 1, (0, 0, 0, 0, 0), ⟨"", "", ""⟩, ""),
  (31, .iaload, 1, (0, 0, 0, 0, 0), ⟨"", "", ""⟩, ""),
  (32, .bipush 97, 2, (0, 0, 0, 0, 0), ⟨"", "", ""⟩, ""),
  (34, .isub, 1, (0, 0, 0, 0, 0), ⟨"", "", ""⟩, ""),
  (35, .ishl, 1, (0, 0, 0, 0, 0), ⟨"", "", ""⟩, ""),
  (36, .ior, 1, (0, 0, 0, 0, 0), ⟨"", "", ""⟩, ""),
  (37, .istore_n 1, 1, (0, 0, 0, 0, 0), ⟨"", "", ""⟩, ""),
  (38, .iinc 2 1, 3, (0, 0, 0, 0, 0), ⟨"", "", ""⟩, ""),
  (41, .goto (-37), 3, (4, 0, 0, 0, 0), ⟨"", "", ""⟩, ""),
  (44, .iload_n 1, 1, (0, 0, 0, 0, 0), ⟨"", "", ""⟩, ""),
  (45, .invokestatic 59, 3, (1, 0, 119, 0, 0), ⟨"java/lang/Integer", "bitCount", "(I)I"⟩, ""),
  (48, .ireturn, 1, (0, 0, 0, 0, 0), ⟨"", "", ""⟩, "")])
def pX6_init : wM := (⟨"WordHides$Text", "<init>", "(I)V"⟩, prog_8_method_1_code, 2, none, 2, [
  (0, .aload_n 0, 1, (0, 0, 0, 0, 0), ⟨"", "", ""⟩, ""),
  (1, .invokespecial 1, 3, (0, 0, 0, 0, 1), ⟨"java/lang/Object", "<init>", "()V"⟩, ""),
  (4, .aload_n 0, 1, (0, 0, 0, 0, 0), ⟨"", "", ""⟩, ""),
  (5, .iconst 0, 1, (0, 0, 0, 0, 0), ⟨"", "", ""⟩, ""),
  (6, .putfield 7, 3, (1, 5, 5, 0, 0), ⟨"", "", ""⟩, "WordHides$Text"),
  (9, .aload_n 0, 1, (0, 0, 0, 0, 0), ⟨"", "", ""⟩, ""),
  (10, .iload_n 1, 1, (0, 0, 0, 0, 0), ⟨"", "", ""⟩, ""),
  (11, .iconst 1, 1, (0, 0, 0, 0, 0), ⟨"", "", ""⟩, ""),
  (12, .invokestatic 13, 3, (0, 0, 0, 0, 2), ⟨"java/lang/Math", "max", "(II)I"⟩, ""),
  (15, .newarray .int, 2, (0, 0, 0, 0, 0), ⟨"", "", ""⟩, ""),
  (17, .putfield 19, 3, (0, 5, 5, 2, 0), ⟨"", "", ""⟩, "WordHides$Text"),
  (20, .return_, 1, (0, 0, 0, 0, 0), ⟨"", "", ""⟩, "")])
def pX6_append : wM := (⟨"WordHides$Text", "append", "(I)V"⟩, prog_8_method_2_code, 2, none, 2, [
  (0, .aload_n 0, 1, (0, 0, 0, 0, 0), ⟨"", "", ""⟩, ""),
  (1, .getfield 7, 3, (1, 5, 5, 0, 0), ⟨"", "", ""⟩, "WordHides$Text"),
  (4, .aload_n 0, 1, (0, 0, 0, 0, 0), ⟨"", "", ""⟩, ""),
  (5, .getfield 19, 3, (0, 5, 5, 2, 0), ⟨"", "", ""⟩, "WordHides$Text"),
  (8, .arraylength, 1, (0, 0, 0, 0, 0), ⟨"", "", ""⟩, ""),
  (9, .if_icmp .ge 23, 3, (32, 0, 0, 0, 0), ⟨"", "", ""⟩, ""),
  (12, .aload_n 0, 1, (0, 0, 0, 0, 0), ⟨"", "", ""⟩, ""),
  (13, .getfield 19, 3, (0, 5, 5, 2, 0), ⟨"", "", ""⟩, "WordHides$Text"),
  (16, .aload_n 0, 1, (0, 0, 0, 0, 0), ⟨"", "", ""⟩, ""),
  (17, .getfield 7, 3, (1, 5, 5, 0, 0), ⟨"", "", ""⟩, "WordHides$Text"),
  (20, .iload_n 1, 1, (0, 0, 0, 0, 0), ⟨"", "", ""⟩, ""),
  (21, .iastore, 1, (0, 0, 0, 0, 0), ⟨"", "", ""⟩, ""),
  (22, .aload_n 0, 1, (0, 0, 0, 0, 0), ⟨"", "", ""⟩, ""),
  (23, .dup, 1, (0, 0, 0, 0, 0), ⟨"", "", ""⟩, ""),
  (24, .getfield 7, 3, (1, 5, 5, 0, 0), ⟨"", "", ""⟩, "WordHides$Text"),
  (27, .iconst 1, 1, (0, 0, 0, 0, 0), ⟨"", "", ""⟩, ""),
  (28, .iadd, 1, (0, 0, 0, 0, 0), ⟨"", "", ""⟩, ""),
  (29, .putfield 7, 3, (1, 5, 5, 0, 0), ⟨"", "", ""⟩, "WordHides$Text"),
  (32, .return_, 1, (0, 0, 0, 0, 0), ⟨"", "", ""⟩, "")])
def pX6_copyFrom : wM := (⟨"WordHides$Text", "copyFrom", "(LWordHides$Text;)V"⟩, prog_8_method_3_code, 2, none, 2, [
  (0, .aload_n 0, 1, (0, 0, 0, 0, 0), ⟨"", "", ""⟩, ""),
  (1, .aload_n 1, 1, (0, 0, 0, 0, 0), ⟨"", "", ""⟩, ""),
  (2, .getfield 7, 3, (1, 5, 5, 0, 0), ⟨"", "", ""⟩, "WordHides$Text"),
  (5, .aload_n 0, 1, (0, 0, 0, 0, 0), ⟨"", "", ""⟩, ""),
  (6, .getfield 19, 3, (0, 5, 5, 2, 0), ⟨"", "", ""⟩, "WordHides$Text"),
  (9, .arraylength, 1, (0, 0, 0, 0, 0), ⟨"", "", ""⟩, ""),
  (10, .invokestatic 23, 3, (0, 0, 0, 0, 3), ⟨"java/lang/Math", "min", "(II)I"⟩, ""),
  (13, .putfield 7, 3, (1, 5, 5, 0, 0), ⟨"", "", ""⟩, "WordHides$Text"),
  (16, .aload_n 1, 1, (0, 0, 0, 0, 0), ⟨"", "", ""⟩, ""),
  (17, .getfield 19, 3, (0, 5, 5, 2, 0), ⟨"", "", ""⟩, "WordHides$Text"),
  (20, .iconst 0, 1, (0, 0, 0, 0, 0), ⟨"", "", ""⟩, ""),
  (21, .aload_n 0, 1, (0, 0, 0, 0, 0), ⟨"", "", ""⟩, ""),
  (22, .getfield 19, 3, (0, 5, 5, 2, 0), ⟨"", "", ""⟩, "WordHides$Text"),
  (25, .iconst 0, 1, (0, 0, 0, 0, 0), ⟨"", "", ""⟩, ""),
  (26, .aload_n 0, 1, (0, 0, 0, 0, 0), ⟨"", "", ""⟩, ""),
  (27, .getfield 7, 3, (1, 5, 5, 0, 0), ⟨"", "", ""⟩, "WordHides$Text"),
  (30, .invokestatic 26, 3, (0, 0, 0, 0, 1), ⟨"java/lang/System", "arraycopy", "(Ljava/lang/Object;ILjava/lang/Object;II)V"⟩, ""),
  (33, .return_, 1, (0, 0, 0, 0, 0), ⟨"", "", ""⟩, "")])
def pX6_isSameFromEnd : wM := (⟨"WordHides$Text", "isSameFromEnd", "()Z"⟩, prog_8_method_4_code, 2, (some .boolean), 1, [
  (0, .iconst 0, 1, (0, 0, 0, 0, 0), ⟨"", "", ""⟩, ""),
  (1, .istore_n 1, 1, (0, 0, 0, 0, 0), ⟨"", "", ""⟩, ""),
  (2, .iload_n 1, 1, (0, 0, 0, 0, 0), ⟨"", "", ""⟩, ""),
  (3, .aload_n 0, 1, (0, 0, 0, 0, 0), ⟨"", "", ""⟩, ""),
  (4, .getfield 7, 3, (1, 5, 5, 0, 0), ⟨"", "", ""⟩, "WordHides$Text"),
  (7, .if_icmp .ge 33, 3, (40, 0, 0, 0, 0), ⟨"", "", ""⟩, ""),
  (10, .aload_n 0, 1, (0, 0, 0, 0, 0), ⟨"", "", ""⟩, ""),
  (11, .getfield 19, 3, (0, 5, 5, 2, 0), ⟨"", "", ""⟩, "WordHides$Text"),
  (14, .iload_n 1, 1, (0, 0, 0, 0, 0), ⟨"", "", ""⟩, ""),
  (15, .iaload, 1, (0, 0, 0, 0, 0), ⟨"", "", ""⟩, ""),
  (16, .aload_n 0, 1, (0, 0, 0, 0, 0), ⟨"", "", ""⟩, ""),
  (17, .getfield 19, 3, (0, 5, 5, 2, 0), ⟨"", "", ""⟩, "WordHides$Text"),
  (20, .aload_n 0, 1, (0, 0, 0, 0, 0), ⟨"", "", ""⟩, ""),
  (21, .getfield 7, 3, (1, 5, 5, 0, 0), ⟨"", "", ""⟩, "WordHides$Text"),
  (24, .iconst 1, 1, (0, 0, 0, 0, 0), ⟨"", "", ""⟩, ""),
  (25, .isub, 1, (0, 0, 0, 0, 0), ⟨"", "", ""⟩, ""),
  (26, .iload_n 1, 1, (0, 0, 0, 0, 0), ⟨"", "", ""⟩, ""),
  (27, .isub, 1, (0, 0, 0, 0, 0), ⟨"", "", ""⟩, ""),
  (28, .iaload, 1, (0, 0, 0, 0, 0), ⟨"", "", ""⟩, ""),
  (29, .if_icmp .eq 5, 3, (34, 0, 0, 0, 0), ⟨"", "", ""⟩, ""),
  (32, .iconst 0, 1, (0, 0, 0, 0, 0), ⟨"", "", ""⟩, ""),
  (33, .ireturn, 1, (1, 0, 0, 0, 0), ⟨"", "", ""⟩, ""),
  (34, .iinc 1 1, 3, (0, 0, 0, 0, 0), ⟨"", "", ""⟩, ""),
  (37, .goto (-35), 3, (2, 0, 0, 0, 0), ⟨"", "", ""⟩, ""),
  (40, .iconst 1, 1, (0, 0, 0, 0, 0), ⟨"", "", ""⟩, ""),
  (41, .ireturn, 1, (1, 0, 0, 0, 0), ⟨"", "", ""⟩, "")])
def pX7_init : wM := (⟨"WordHides$TextList", "<init>", "(I)V"⟩, prog_9_method_1_code, 3, none, 2, [
  (0, .aload_n 0, 1, (0, 0, 0, 0, 0), ⟨"", "", ""⟩, ""),
  (1, .invokespecial 3, 3, (0, 0, 0, 0, 1), ⟨"java/lang/Object", "<init>", "()V"⟩, ""),
  (4, .aload_n 0, 1, (0, 0, 0, 0, 0), ⟨"", "", ""⟩, ""),
  (5, .iconst 3, 1, (0, 0, 0, 0, 0), ⟨"", "", ""⟩, ""),
  (6, .anewarray 9, 3, (5, 0, 0, 0, 0), ⟨"", "", ""⟩, "WordHides$Text"),
  (9, .putfield 11, 3, (0, 6, 6, 2, 0), ⟨"", "", ""⟩, "WordHides$TextList"),
  (12, .aload_n 0, 1, (0, 0, 0, 0, 0), ⟨"", "", ""⟩, ""),
  (13, .iconst 0, 1, (0, 0, 0, 0, 0), ⟨"", "", ""⟩, ""),
  (14, .putfield 17, 3, (1, 6, 6, 0, 0), ⟨"", "", ""⟩, "WordHides$TextList"),
  (17, .iconst 0, 1, (0, 0, 0, 0, 0), ⟨"", "", ""⟩, ""),
  (18, .istore_n 2, 1, (0, 0, 0, 0, 0), ⟨"", "", ""⟩, ""),
  (19, .iload_n 2, 1, (0, 0, 0, 0, 0), ⟨"", "", ""⟩, ""),
  (20, .iconst 3, 1, (0, 0, 0, 0, 0), ⟨"", "", ""⟩, ""),
  (21, .if_icmp .ge 23, 3, (44, 0, 0, 0, 0), ⟨"", "", ""⟩, ""),
  (24, .aload_n 0, 1, (0, 0, 0, 0, 0), ⟨"", "", ""⟩, ""),
  (25, .getfield 11, 3, (0, 6, 6, 2, 0), ⟨"", "", ""⟩, "WordHides$TextList"),
  (28, .iload_n 2, 1, (0, 0, 0, 0, 0), ⟨"", "", ""⟩, ""),
  (29, .new 9, 3, (5, 2, 0, 0, 0), ⟨"", "", ""⟩, ""),
  (32, .dup, 1, (0, 0, 0, 0, 0), ⟨"", "", ""⟩, ""),
  (33, .iload_n 1, 1, (0, 0, 0, 0, 0), ⟨"", "", ""⟩, ""),
  (34, .invokespecial 21, 3, (1, 0, 32, 0, 0), ⟨"WordHides$Text", "<init>", "(I)V"⟩, ""),
  (37, .aastore, 1, (0, 0, 0, 0, 0), ⟨"", "", ""⟩, ""),
  (38, .iinc 2 1, 3, (0, 0, 0, 0, 0), ⟨"", "", ""⟩, ""),
  (41, .goto (-22), 3, (19, 0, 0, 0, 0), ⟨"", "", ""⟩, ""),
  (44, .return_, 1, (0, 0, 0, 0, 0), ⟨"", "", ""⟩, "")])
def pX7_find : wM := (⟨"WordHides$TextList", "find", "(I)LWordHides$Text;"⟩, prog_9_method_2_code, 2, (some (.object "WordHides$Text")), 2, [
  (0, .iload_n 1, 1, (0, 0, 0, 0, 0), ⟨"", "", ""⟩, ""),
  (1, .ifCond .lt 25, 3, (26, 0, 0, 0, 0), ⟨"", "", ""⟩, ""),
  (4, .iload_n 1, 1, (0, 0, 0, 0, 0), ⟨"", "", ""⟩, ""),
  (5, .aload_n 0, 1, (0, 0, 0, 0, 0), ⟨"", "", ""⟩, ""),
  (6, .getfield 17, 3, (1, 6, 6, 0, 0), ⟨"", "", ""⟩, "WordHides$TextList"),
  (9, .if_icmp .ge 17, 3, (26, 0, 0, 0, 0), ⟨"", "", ""⟩, ""),
  (12, .iload_n 1, 1, (0, 0, 0, 0, 0), ⟨"", "", ""⟩, ""),
  (13, .iconst 3, 1, (0, 0, 0, 0, 0), ⟨"", "", ""⟩, ""),
  (14, .if_icmp .ge 12, 3, (26, 0, 0, 0, 0), ⟨"", "", ""⟩, ""),
  (17, .aload_n 0, 1, (0, 0, 0, 0, 0), ⟨"", "", ""⟩, ""),
  (18, .getfield 11, 3, (0, 6, 6, 2, 0), ⟨"", "", ""⟩, "WordHides$TextList"),
  (21, .iload_n 1, 1, (0, 0, 0, 0, 0), ⟨"", "", ""⟩, ""),
  (22, .aaload, 1, (0, 0, 0, 0, 0), ⟨"", "", ""⟩, ""),
  (23, .goto 4, 3, (27, 0, 0, 0, 0), ⟨"", "", ""⟩, ""),
  (26, .aconst_null, 1, (0, 0, 0, 0, 0), ⟨"", "", ""⟩, ""),
  (27, .areturn, 1, (0, 0, 0, 0, 0), ⟨"", "", ""⟩, "")])
def pX7_append : wM := (⟨"WordHides$TextList", "append", "(LWordHides$Text;)I"⟩, prog_9_method_3_code, 2, (some .int), 2, [
  (0, .aload_n 0, 1, (0, 0, 0, 0, 0), ⟨"", "", ""⟩, ""),
  (1, .getfield 17, 3, (1, 6, 6, 0, 0), ⟨"", "", ""⟩, "WordHides$TextList"),
  (4, .iconst 3, 1, (0, 0, 0, 0, 0), ⟨"", "", ""⟩, ""),
  (5, .if_icmp .lt 6, 3, (11, 0, 0, 0, 0), ⟨"", "", ""⟩, ""),
  (8, .bipush (-4), 2, (0, 0, 0, 0, 0), ⟨"", "", ""⟩, ""),
  (10, .ireturn, 1, (0, 0, 0, 0, 0), ⟨"", "", ""⟩, ""),
  (11, .aload_n 0, 1, (0, 0, 0, 0, 0), ⟨"", "", ""⟩, ""),
  (12, .getfield 11, 3, (0, 6, 6, 2, 0), ⟨"", "", ""⟩, "WordHides$TextList"),
  (15, .aload_n 0, 1, (0, 0, 0, 0, 0), ⟨"", "", ""⟩, ""),
  (16, .getfield 17, 3, (1, 6, 6, 0, 0), ⟨"", "", ""⟩, "WordHides$TextList"),
  (19, .aaload, 1, (0, 0, 0, 0, 0), ⟨"", "", ""⟩, ""),
  (20, .aload_n 1, 1, (0, 0, 0, 0, 0), ⟨"", "", ""⟩, ""),
  (21, .invokevirtual 24, 3, (1, 5, 34, 5, 34), ⟨"WordHides$Text", "copyFrom", "(LWordHides$Text;)V"⟩, ""),
  (24, .aload_n 0, 1, (0, 0, 0, 0, 0), ⟨"", "", ""⟩, ""),
  (25, .dup, 1, (0, 0, 0, 0, 0), ⟨"", "", ""⟩, ""),
  (26, .getfield 17, 3, (1, 6, 6, 0, 0), ⟨"", "", ""⟩, "WordHides$TextList"),
  (29, .iconst 1, 1, (0, 0, 0, 0, 0), ⟨"", "", ""⟩, ""),
  (30, .iadd, 1, (0, 0, 0, 0, 0), ⟨"", "", ""⟩, ""),
  (31, .putfield 17, 3, (1, 6, 6, 0, 0), ⟨"", "", ""⟩, "WordHides$TextList"),
  (34, .aload_n 0, 1, (0, 0, 0, 0, 0), ⟨"", "", ""⟩, ""),
  (35, .getfield 17, 3, (1, 6, 6, 0, 0), ⟨"", "", ""⟩, "WordHides$TextList"),
  (38, .iconst 1, 1, (0, 0, 0, 0, 0), ⟨"", "", ""⟩, ""),
  (39, .isub, 1, (0, 0, 0, 0, 0), ⟨"", "", ""⟩, ""),
  (40, .ireturn, 1, (0, 0, 0, 0, 0), ⟨"", "", ""⟩, "")])
def pX7_copyFrom : wM := (⟨"WordHides$TextList", "copyFrom", "(LWordHides$TextList;)V"⟩, prog_9_method_4_code, 3, none, 2, [
  (0, .iconst 0, 1, (0, 0, 0, 0, 0), ⟨"", "", ""⟩, ""),
  (1, .istore_n 2, 1, (0, 0, 0, 0, 0), ⟨"", "", ""⟩, ""),
  (2, .iload_n 2, 1, (0, 0, 0, 0, 0), ⟨"", "", ""⟩, ""),
  (3, .iconst 3, 1, (0, 0, 0, 0, 0), ⟨"", "", ""⟩, ""),
  (4, .if_icmp .ge 24, 3, (28, 0, 0, 0, 0), ⟨"", "", ""⟩, ""),
  (7, .aload_n 0, 1, (0, 0, 0, 0, 0), ⟨"", "", ""⟩, ""),
  (8, .getfield 11, 3, (0, 6, 6, 2, 0), ⟨"", "", ""⟩, "WordHides$TextList"),
  (11, .iload_n 2, 1, (0, 0, 0, 0, 0), ⟨"", "", ""⟩, ""),
  (12, .aaload, 1, (0, 0, 0, 0, 0), ⟨"", "", ""⟩, ""),
  (13, .aload_n 1, 1, (0, 0, 0, 0, 0), ⟨"", "", ""⟩, ""),
  (14, .getfield 11, 3, (0, 6, 6, 2, 0), ⟨"", "", ""⟩, "WordHides$TextList"),
  (17, .iload_n 2, 1, (0, 0, 0, 0, 0), ⟨"", "", ""⟩, ""),
  (18, .aaload, 1, (0, 0, 0, 0, 0), ⟨"", "", ""⟩, ""),
  (19, .invokevirtual 24, 3, (1, 5, 34, 5, 34), ⟨"WordHides$Text", "copyFrom", "(LWordHides$Text;)V"⟩, ""),
  (22, .iinc 2 1, 3, (0, 0, 0, 0, 0), ⟨"", "", ""⟩, ""),
  (25, .goto (-23), 3, (2, 0, 0, 0, 0), ⟨"", "", ""⟩, ""),
  (28, .aload_n 0, 1, (0, 0, 0, 0, 0), ⟨"", "", ""⟩, ""),
  (29, .aload_n 1, 1, (0, 0, 0, 0, 0), ⟨"", "", ""⟩, ""),
  (30, .getfield 17, 3, (1, 6, 6, 0, 0), ⟨"", "", ""⟩, "WordHides$TextList"),
  (33, .putfield 17, 3, (1, 6, 6, 0, 0), ⟨"", "", ""⟩, "WordHides$TextList"),
  (36, .return_, 1, (0, 0, 0, 0, 0), ⟨"", "", ""⟩, "")])
def pX8_init : wM := (⟨"WordHides", "<init>", "()V"⟩, prog_1_method_1_code, 2, none, 1, [
  (0, .aload_n 0, 1, (0, 0, 0, 0, 0), ⟨"", "", ""⟩, ""),
  (1, .invokespecial 1, 3, (0, 0, 0, 0, 1), ⟨"java/lang/Object", "<init>", "()V"⟩, ""),
  (4, .aload_n 0, 1, (0, 0, 0, 0, 0), ⟨"", "", ""⟩, ""),
  (5, .new 7, 3, (3, 5, 0, 0, 0), ⟨"", "", ""⟩, ""),
  (8, .dup, 1, (0, 0, 0, 0, 0), ⟨"", "", ""⟩, ""),
  (9, .iconst 3, 1, (0, 0, 0, 0, 0), ⟨"", "", ""⟩, ""),
  (10, .invokespecial 11, 3, (1, 0, 9, 0, 0), ⟨"WordHides$Lattice", "<init>", "(I)V"⟩, ""),
  (13, .putfield 14, 3, (0, 7, 7, 2, 0), ⟨"", "", ""⟩, "WordHides"),
  (16, .aload_n 0, 1, (0, 0, 0, 0, 0), ⟨"", "", ""⟩, ""),
  (17, .new 7, 3, (3, 5, 0, 0, 0), ⟨"", "", ""⟩, ""),
  (20, .dup, 1, (0, 0, 0, 0, 0), ⟨"", "", ""⟩, ""),
  (21, .iconst 4, 1, (0, 0, 0, 0, 0), ⟨"", "", ""⟩, ""),
  (22, .invokespecial 11, 3, (1, 0, 9, 0, 0), ⟨"WordHides$Lattice", "<init>", "(I)V"⟩, ""),
  (25, .putfield 18, 3, (1, 7, 7, 2, 0), ⟨"", "", ""⟩, "WordHides"),
  (28, .aload_n 0, 1, (0, 0, 0, 0, 0), ⟨"", "", ""⟩, ""),
  (29, .new 21, 3, (0, 4, 0, 0, 0), ⟨"", "", ""⟩, ""),
  (32, .dup, 1, (0, 0, 0, 0, 0), ⟨"", "", ""⟩, ""),
  (33, .aload_n 0, 1, (0, 0, 0, 0, 0), ⟨"", "", ""⟩, ""),
  (34, .getfield 18, 3, (1, 7, 7, 2, 0), ⟨"", "", ""⟩, "WordHides"),
  (37, .invokespecial 23, 3, (1, 0, 0, 0, 0), ⟨"WordHides$Board", "<init>", "(LWordHides$Lattice;)V"⟩, ""),
  (40, .putfield 26, 3, (2, 7, 7, 2, 0), ⟨"", "", ""⟩, "WordHides"),
  (43, .aload_n 0, 1, (0, 0, 0, 0, 0), ⟨"", "", ""⟩, ""),
  (44, .iconst 2, 1, (0, 0, 0, 0, 0), ⟨"", "", ""⟩, ""),
  (45, .anewarray 21, 3, (0, 0, 0, 0, 0), ⟨"", "", ""⟩, "WordHides$Board"),
  (48, .putfield 30, 3, (3, 7, 7, 2, 0), ⟨"", "", ""⟩, "WordHides"),
  (51, .aload_n 0, 1, (0, 0, 0, 0, 0), ⟨"", "", ""⟩, ""),
  (52, .new 34, 3, (5, 2, 0, 0, 0), ⟨"", "", ""⟩, ""),
  (55, .dup, 1, (0, 0, 0, 0, 0), ⟨"", "", ""⟩, ""),
  (56, .bipush 16, 2, (0, 0, 0, 0, 0), ⟨"", "", ""⟩, ""),
  (58, .invokespecial 36, 3, (1, 0, 32, 0, 0), ⟨"WordHides$Text", "<init>", "(I)V"⟩, ""),
  (61, .putfield 37, 3, (4, 7, 7, 2, 0), ⟨"", "", ""⟩, "WordHides"),
  (64, .aload_n 0, 1, (0, 0, 0, 0, 0), ⟨"", "", ""⟩, ""),
  (65, .new 41, 3, (4, 2, 0, 0, 0), ⟨"", "", ""⟩, ""),
  (68, .dup, 1, (0, 0, 0, 0, 0), ⟨"", "", ""⟩, ""),
  (69, .aload_n 0, 1, (0, 0, 0, 0, 0), ⟨"", "", ""⟩, ""),
  (70, .getfield 18, 3, (1, 7, 7, 2, 0), ⟨"", "", ""⟩, "WordHides"),
  (73, .invokespecial 43, 3, (1, 0, 21, 0, 0), ⟨"WordHides$Square", "<init>", "(LWordHides$Lattice;)V"⟩, ""),
  (76, .putfield 44, 3, (5, 7, 7, 2, 0), ⟨"", "", ""⟩, "WordHides"),
  (79, .aload_n 0, 1, (0, 0, 0, 0, 0), ⟨"", "", ""⟩, ""),
  (80, .new 48, 3, (1, 9, 0, 0, 0), ⟨"", "", ""⟩, ""),
  (83, .dup, 1, (0, 0, 0, 0, 0), ⟨"", "", ""⟩, ""),
  (84, .aload_n 0, 1, (0, 0, 0, 0, 0), ⟨"", "", ""⟩, ""),
  (85, .getfield 26, 3, (2, 7, 7, 2, 0), ⟨"", "", ""⟩, "WordHides"),
  (88, .invokespecial 50, 3, (1, 0, 2, 0, 0), ⟨"WordHides$CrossedSearch", "<init>", "(LWordHides$Board;)V"⟩, ""),
  (91, .putfield 53, 3, (6, 7, 7, 2, 0), ⟨"", "", ""⟩, "WordHides"),
  (94, .aload_n 0, 1, (0, 0, 0, 0, 0), ⟨"", "", ""⟩, ""),
  (95, .new 57, 3, (2, 10, 0, 0, 0), ⟨"", "", ""⟩, ""),
  (98, .dup, 1, (0, 0, 0, 0, 0), ⟨"", "", ""⟩, ""),
  (99, .aload_n 0, 1, (0, 0, 0, 0, 0), ⟨"", "", ""⟩, ""),
  (100, .getfield 26, 3, (2, 7, 7, 2, 0), ⟨"", "", ""⟩, "WordHides"),
  (103, .invokespecial 59, 3, (1, 0, 5, 0, 0), ⟨"WordHides$GoodSearch", "<init>", "(LWordHides$Board;)V"⟩, ""),
  (106, .putfield 60, 3, (7, 7, 7, 2, 0), ⟨"", "", ""⟩, "WordHides"),
  (109, .aload_n 0, 1, (0, 0, 0, 0, 0), ⟨"", "", ""⟩, ""),
  (110, .iconst 0, 1, (0, 0, 0, 0, 0), ⟨"", "", ""⟩, ""),
  (111, .putfield 64, 3, (8, 7, 7, 0, 0), ⟨"", "", ""⟩, "WordHides"),
  (114, .iconst 0, 1, (0, 0, 0, 0, 0), ⟨"", "", ""⟩, ""),
  (115, .istore_n 1, 1, (0, 0, 0, 0, 0), ⟨"", "", ""⟩, ""),
  (116, .iload_n 1, 1, (0, 0, 0, 0, 0), ⟨"", "", ""⟩, ""),
  (117, .iconst 2, 1, (0, 0, 0, 0, 0), ⟨"", "", ""⟩, ""),
  (118, .if_icmp .ge 26, 3, (144, 0, 0, 0, 0), ⟨"", "", ""⟩, ""),
  (121, .aload_n 0, 1, (0, 0, 0, 0, 0), ⟨"", "", ""⟩, ""),
  (122, .getfield 30, 3, (3, 7, 7, 2, 0), ⟨"", "", ""⟩, "WordHides"),
  (125, .iload_n 1, 1, (0, 0, 0, 0, 0), ⟨"", "", ""⟩, ""),
  (126, .new 21, 3, (0, 4, 0, 0, 0), ⟨"", "", ""⟩, ""),
  (129, .dup, 1, (0, 0, 0, 0, 0), ⟨"", "", ""⟩, ""),
  (130, .aload_n 0, 1, (0, 0, 0, 0, 0), ⟨"", "", ""⟩, ""),
  (131, .getfield 18, 3, (1, 7, 7, 2, 0), ⟨"", "", ""⟩, "WordHides"),
  (134, .invokespecial 23, 3, (1, 0, 0, 0, 0), ⟨"WordHides$Board", "<init>", "(LWordHides$Lattice;)V"⟩, ""),
  (137, .aastore, 1, (0, 0, 0, 0, 0), ⟨"", "", ""⟩, ""),
  (138, .iinc 1 1, 3, (0, 0, 0, 0, 0), ⟨"", "", ""⟩, ""),
  (141, .goto (-25), 3, (116, 0, 0, 0, 0), ⟨"", "", ""⟩, ""),
  (144, .return_, 1, (0, 0, 0, 0, 0), ⟨"", "", ""⟩, "")])
def pX8_side : wM := (⟨"WordHides", "side", "(I)I"⟩, prog_1_method_2_code, 3, (some .int), 2, [
  (0, .iload_n 1, 1, (0, 0, 0, 0, 0), ⟨"", "", ""⟩, ""),
  (1, .iconst 3, 1, (0, 0, 0, 0, 0), ⟨"", "", ""⟩, ""),
  (2, .if_icmp .lt 8, 3, (10, 0, 0, 0, 0), ⟨"", "", ""⟩, ""),
  (5, .iload_n 1, 1, (0, 0, 0, 0, 0), ⟨"", "", ""⟩, ""),
  (6, .iconst 4, 1, (0, 0, 0, 0, 0), ⟨"", "", ""⟩, ""),
  (7, .if_icmp .le 6, 3, (13, 0, 0, 0, 0), ⟨"", "", ""⟩, ""),
  (10, .bipush (-2), 2, (0, 0, 0, 0, 0), ⟨"", "", ""⟩, ""),
  (12, .ireturn, 1, (0, 0, 0, 0, 0), ⟨"", "", ""⟩, ""),
  (13, .aload_n 0, 1, (0, 0, 0, 0, 0), ⟨"", "", ""⟩, ""),
  (14, .getfield 26, 3, (2, 7, 7, 2, 0), ⟨"", "", ""⟩, "WordHides"),
  (17, .getfield 68, 3, (0, 0, 0, 2, 0), ⟨"", "", ""⟩, "WordHides$Board"),
  (20, .getfield 71, 3, (1, 4, 4, 2, 0), ⟨"", "", ""⟩, "WordHides$Square"),
  (23, .getfield 74, 3, (0, 3, 3, 0, 0), ⟨"", "", ""⟩, "WordHides$Lattice"),
  (26, .istore_n 2, 1, (0, 0, 0, 0, 0), ⟨"", "", ""⟩, ""),
  (27, .aload_n 0, 1, (0, 0, 0, 0, 0), ⟨"", "", ""⟩, ""),
  (28, .getfield 26, 3, (2, 7, 7, 2, 0), ⟨"", "", ""⟩, "WordHides"),
  (31, .getfield 68, 3, (0, 0, 0, 2, 0), ⟨"", "", ""⟩, "WordHides$Board"),
  (34, .iload_n 1, 1, (0, 0, 0, 0, 0), ⟨"", "", ""⟩, ""),
  (35, .iconst 3, 1, (0, 0, 0, 0, 0), ⟨"", "", ""⟩, ""),
  (36, .if_icmp .ne 10, 3, (46, 0, 0, 0, 0), ⟨"", "", ""⟩, ""),
  (39, .aload_n 0, 1, (0, 0, 0, 0, 0), ⟨"", "", ""⟩, ""),
  (40, .getfield 14, 3, (0, 7, 7, 2, 0), ⟨"", "", ""⟩, "WordHides"),
  (43, .goto 7, 3, (50, 0, 0, 0, 0), ⟨"", "", ""⟩, ""),
  (46, .aload_n 0, 1, (0, 0, 0, 0, 0), ⟨"", "", ""⟩, ""),
  (47, .getfield 18, 3, (1, 7, 7, 2, 0), ⟨"", "", ""⟩, "WordHides"),
  (50, .invokevirtual 77, 3, (1, 4, 22, 4, 22), ⟨"WordHides$Square", "clear", "(LWordHides$Lattice;)V"⟩, ""),
  (53, .aload_n 0, 1, (0, 0, 0, 0, 0), ⟨"", "", ""⟩, ""),
  (54, .invokevirtual 80, 3, (0, 7, 63, 7, 63), ⟨"WordHides", "forgetLayings", "()V"⟩, ""),
  (57, .iload_n 2, 1, (0, 0, 0, 0, 0), ⟨"", "", ""⟩, ""),
  (58, .ireturn, 1, (0, 0, 0, 0, 0), ⟨"", "", ""⟩, "")])
def pX8_set : wM := (⟨"WordHides", "set", "(II)I"⟩, prog_1_method_3_code, 4, (some .int), 3, [
  (0, .aload_n 0, 1, (0, 0, 0, 0, 0), ⟨"", "", ""⟩, ""),
  (1, .getfield 26, 3, (2, 7, 7, 2, 0), ⟨"", "", ""⟩, "WordHides"),
  (4, .getfield 68, 3, (0, 0, 0, 2, 0), ⟨"", "", ""⟩, "WordHides$Board"),
  (7, .getfield 71, 3, (1, 4, 4, 2, 0), ⟨"", "", ""⟩, "WordHides$Square"),
  (10, .iload_n 1, 1, (0, 0, 0, 0, 0), ⟨"", "", ""⟩, ""),
  (11, .invokevirtual 83, 3, (1, 3, 12, 3, 12), ⟨"WordHides$Lattice", "hasCell", "(I)Z"⟩, ""),
  (14, .ifCond .ne 5, 3, (19, 0, 0, 0, 0), ⟨"", "", ""⟩, ""),
  (17, .iconst (-1), 1, (0, 0, 0, 0, 0), ⟨"", "", ""⟩, ""),
  (18, .ireturn, 1, (0, 0, 0, 0, 0), ⟨"", "", ""⟩, ""),
  (19, .iload_n 2, 1, (0, 0, 0, 0, 0), ⟨"", "", ""⟩, ""),
  (20, .ifCond .eq 13, 3, (33, 0, 0, 0, 0), ⟨"", "", ""⟩, ""),
  (23, .iload_n 2, 1, (0, 0, 0, 0, 0), ⟨"", "", ""⟩, ""),
  (24, .invokestatic 87, 3, (1, 0, 60, 0, 0), ⟨"WordHides", "isLetter", "(I)Z"⟩, ""),
  (27, .ifCond .ne 6, 3, (33, 0, 0, 0, 0), ⟨"", "", ""⟩, ""),
  (30, .bipush (-2), 2, (0, 0, 0, 0, 0), ⟨"", "", ""⟩, ""),
  (32, .ireturn, 1, (0, 0, 0, 0, 0), ⟨"", "", ""⟩, ""),
  (33, .aload_n 0, 1, (0, 0, 0, 0, 0), ⟨"", "", ""⟩, ""),
  (34, .getfield 26, 3, (2, 7, 7, 2, 0), ⟨"", "", ""⟩, "WordHides"),
  (37, .getfield 68, 3, (0, 0, 0, 2, 0), ⟨"", "", ""⟩, "WordHides$Board"),
  (40, .getfield 90, 3, (0, 4, 4, 2, 0), ⟨"", "", ""⟩, "WordHides$Square"),
  (43, .iload_n 1, 1, (0, 0, 0, 0, 0), ⟨"", "", ""⟩, ""),
  (44, .iaload, 1, (0, 0, 0, 0, 0), ⟨"", "", ""⟩, ""),
  (45, .istore_n 3, 1, (0, 0, 0, 0, 0), ⟨"", "", ""⟩, ""),
  (46, .aload_n 0, 1, (0, 0, 0, 0, 0), ⟨"", "", ""⟩, ""),
  (47, .getfield 26, 3, (2, 7, 7, 2, 0), ⟨"", "", ""⟩, "WordHides"),
  (50, .getfield 68, 3, (0, 0, 0, 2, 0), ⟨"", "", ""⟩, "WordHides$Board"),
  (53, .getfield 90, 3, (0, 4, 4, 2, 0), ⟨"", "", ""⟩, "WordHides$Square"),
  (56, .iload_n 1, 1, (0, 0, 0, 0, 0), ⟨"", "", ""⟩, ""),
  (57, .iload_n 2, 1, (0, 0, 0, 0, 0), ⟨"", "", ""⟩, ""),
  (58, .iastore, 1, (0, 0, 0, 0, 0), ⟨"", "", ""⟩, ""),
  (59, .aload_n 0, 1, (0, 0, 0, 0, 0), ⟨"", "", ""⟩, ""),
  (60, .invokevirtual 80, 3, (0, 7, 63, 7, 63), ⟨"WordHides", "forgetLayings", "()V"⟩, ""),
  (63, .iload_n 3, 1, (0, 0, 0, 0, 0), ⟨"", "", ""⟩, ""),
  (64, .ireturn, 1, (0, 0, 0, 0, 0), ⟨"", "", ""⟩, "")])
def pX8_at : wM := (⟨"WordHides", "at", "(I)I"⟩, prog_1_method_4_code, 3, (some .int), 2, [
  (0, .aload_n 0, 1, (0, 0, 0, 0, 0), ⟨"", "", ""⟩, ""),
  (1, .getfield 26, 3, (2, 7, 7, 2, 0), ⟨"", "", ""⟩, "WordHides"),
  (4, .getfield 68, 3, (0, 0, 0, 2, 0), ⟨"", "", ""⟩, "WordHides$Board"),
  (7, .getfield 71, 3, (1, 4, 4, 2, 0), ⟨"", "", ""⟩, "WordHides$Square"),
  (10, .iload_n 1, 1, (0, 0, 0, 0, 0), ⟨"", "", ""⟩, ""),
  (11, .invokevirtual 83, 3, (1, 3, 12, 3, 12), ⟨"WordHides$Lattice", "hasCell", "(I)Z"⟩, ""),
  (14, .ifCond .ne 5, 3, (19, 0, 0, 0, 0), ⟨"", "", ""⟩, ""),
  (17, .iconst (-1), 1, (0, 0, 0, 0, 0), ⟨"", "", ""⟩, ""),
  (18, .ireturn, 1, (0, 0, 0, 0, 0), ⟨"", "", ""⟩, ""),
  (19, .aload_n 0, 1, (0, 0, 0, 0, 0), ⟨"", "", ""⟩, ""),
  (20, .getfield 26, 3, (2, 7, 7, 2, 0), ⟨"", "", ""⟩, "WordHides"),
  (23, .getfield 68, 3, (0, 0, 0, 2, 0), ⟨"", "", ""⟩, "WordHides$Board"),
  (26, .getfield 90, 3, (0, 4, 4, 2, 0), ⟨"", "", ""⟩, "WordHides$Square"),
  (29, .iload_n 1, 1, (0, 0, 0, 0, 0), ⟨"", "", ""⟩, ""),
  (30, .iaload, 1, (0, 0, 0, 0, 0), ⟨"", "", ""⟩, ""),
  (31, .istore_n 2, 1, (0, 0, 0, 0, 0), ⟨"", "", ""⟩, ""),
  (32, .iload_n 2, 1, (0, 0, 0, 0, 0), ⟨"", "", ""⟩, ""),
  (33, .ifCond .ne 8, 3, (41, 0, 0, 0, 0), ⟨"", "", ""⟩, ""),
  (36, .bipush (-6), 2, (0, 0, 0, 0, 0), ⟨"", "", ""⟩, ""),
  (38, .goto 4, 3, (42, 0, 0, 0, 0), ⟨"", "", ""⟩, ""),
  (41, .iload_n 2, 1, (0, 0, 0, 0, 0), ⟨"", "", ""⟩, ""),
  (42, .ireturn, 1, (0, 0, 0, 0, 0), ⟨"", "", ""⟩, "")])
def pX8_say : wM := (⟨"WordHides", "say", "(I)I"⟩, prog_1_method_5_code, 2, (some .int), 2, [
  (0, .iload_n 1, 1, (0, 0, 0, 0, 0), ⟨"", "", ""⟩, ""),
  (1, .invokestatic 87, 3, (1, 0, 60, 0, 0), ⟨"WordHides", "isLetter", "(I)Z"⟩, ""),
  (4, .ifCond .ne 6, 3, (10, 0, 0, 0, 0), ⟨"", "", ""⟩, ""),
  (7, .bipush (-2), 2, (0, 0, 0, 0, 0), ⟨"", "", ""⟩, ""),
  (9, .ireturn, 1, (0, 0, 0, 0, 0), ⟨"", "", ""⟩, ""),
  (10, .aload_n 0, 1, (0, 0, 0, 0, 0), ⟨"", "", ""⟩, ""),
  (11, .getfield 37, 3, (4, 7, 7, 2, 0), ⟨"", "", ""⟩, "WordHides"),
  (14, .getfield 94, 3, (1, 5, 5, 0, 0), ⟨"", "", ""⟩, "WordHides$Text"),
  (17, .bipush 16, 2, (0, 0, 0, 0, 0), ⟨"", "", ""⟩, ""),
  (19, .if_icmp .lt 6, 3, (25, 0, 0, 0, 0), ⟨"", "", ""⟩, ""),
  (22, .bipush (-4), 2, (0, 0, 0, 0, 0), ⟨"", "", ""⟩, ""),
  (24, .ireturn, 1, (0, 0, 0, 0, 0), ⟨"", "", ""⟩, ""),
  (25, .aload_n 0, 1, (0, 0, 0, 0, 0), ⟨"", "", ""⟩, ""),
  (26, .getfield 37, 3, (4, 7, 7, 2, 0), ⟨"", "", ""⟩, "WordHides"),
  (29, .iload_n 1, 1, (0, 0, 0, 0, 0), ⟨"", "", ""⟩, ""),
  (30, .invokevirtual 97, 3, (1, 5, 33, 5, 33), ⟨"WordHides$Text", "append", "(I)V"⟩, ""),
  (33, .aload_n 0, 1, (0, 0, 0, 0, 0), ⟨"", "", ""⟩, ""),
  (34, .getfield 37, 3, (4, 7, 7, 2, 0), ⟨"", "", ""⟩, "WordHides"),
  (37, .getfield 94, 3, (1, 5, 5, 0, 0), ⟨"", "", ""⟩, "WordHides$Text"),
  (40, .ireturn, 1, (0, 0, 0, 0, 0), ⟨"", "", ""⟩, "")])
def pX8_wipe : wM := (⟨"WordHides", "wipe", "()I"⟩, prog_1_method_6_code, 2, (some .int), 1, [
  (0, .aload_n 0, 1, (0, 0, 0, 0, 0), ⟨"", "", ""⟩, ""),
  (1, .getfield 37, 3, (4, 7, 7, 2, 0), ⟨"", "", ""⟩, "WordHides"),
  (4, .getfield 94, 3, (1, 5, 5, 0, 0), ⟨"", "", ""⟩, "WordHides$Text"),
  (7, .istore_n 1, 1, (0, 0, 0, 0, 0), ⟨"", "", ""⟩, ""),
  (8, .aload_n 0, 1, (0, 0, 0, 0, 0), ⟨"", "", ""⟩, ""),
  (9, .getfield 37, 3, (4, 7, 7, 2, 0), ⟨"", "", ""⟩, "WordHides"),
  (12, .iconst 0, 1, (0, 0, 0, 0, 0), ⟨"", "", ""⟩, ""),
  (13, .putfield 94, 3, (1, 5, 5, 0, 0), ⟨"", "", ""⟩, "WordHides$Text"),
  (16, .iload_n 1, 1, (0, 0, 0, 0, 0), ⟨"", "", ""⟩, ""),
  (17, .ireturn, 1, (0, 0, 0, 0, 0), ⟨"", "", ""⟩, "")])
def pX8_take : wM := (⟨"WordHides", "take", "(I)I"⟩, prog_1_method_7_code, 3, (some .int), 2, [
  (0, .iload_n 1, 1, (0, 0, 0, 0, 0), ⟨"", "", ""⟩, ""),
  (1, .ifCond .lt 8, 3, (9, 0, 0, 0, 0), ⟨"", "", ""⟩, ""),
  (4, .iload_n 1, 1, (0, 0, 0, 0, 0), ⟨"", "", ""⟩, ""),
  (5, .iconst 2, 1, (0, 0, 0, 0, 0), ⟨"", "", ""⟩, ""),
  (6, .if_icmp .le 6, 3, (12, 0, 0, 0, 0), ⟨"", "", ""⟩, ""),
  (9, .bipush (-2), 2, (0, 0, 0, 0, 0), ⟨"", "", ""⟩, ""),
  (11, .ireturn, 1, (0, 0, 0, 0, 0), ⟨"", "", ""⟩, ""),
  (12, .aload_n 0, 1, (0, 0, 0, 0, 0), ⟨"", "", ""⟩, ""),
  (13, .getfield 37, 3, (4, 7, 7, 2, 0), ⟨"", "", ""⟩, "WordHides"),
  (16, .getfield 94, 3, (1, 5, 5, 0, 0), ⟨"", "", ""⟩, "WordHides$Text"),
  (19, .getstatic 100, 3, (2, 0, 0, 0, 0), ⟨"WordHides", "LEAST_LETTERS", "[I"⟩, "WordHides"),
  (22, .iload_n 1, 1, (0, 0, 0, 0, 0), ⟨"", "", ""⟩, ""),
  (23, .iaload, 1, (0, 0, 0, 0, 0), ⟨"", "", ""⟩, ""),
  (24, .if_icmp .lt 18, 3, (42, 0, 0, 0, 0), ⟨"", "", ""⟩, ""),
  (27, .aload_n 0, 1, (0, 0, 0, 0, 0), ⟨"", "", ""⟩, ""),
  (28, .getfield 37, 3, (4, 7, 7, 2, 0), ⟨"", "", ""⟩, "WordHides"),
  (31, .getfield 94, 3, (1, 5, 5, 0, 0), ⟨"", "", ""⟩, "WordHides$Text"),
  (34, .getstatic 103, 3, (3, 0, 0, 0, 0), ⟨"WordHides", "MOST_LETTERS", "[I"⟩, "WordHides"),
  (37, .iload_n 1, 1, (0, 0, 0, 0, 0), ⟨"", "", ""⟩, ""),
  (38, .iaload, 1, (0, 0, 0, 0, 0), ⟨"", "", ""⟩, ""),
  (39, .if_icmp .le 6, 3, (45, 0, 0, 0, 0), ⟨"", "", ""⟩, ""),
  (42, .bipush (-7), 2, (0, 0, 0, 0, 0), ⟨"", "", ""⟩, ""),
  (44, .ireturn, 1, (0, 0, 0, 0, 0), ⟨"", "", ""⟩, ""),
  (45, .iload_n 1, 1, (0, 0, 0, 0, 0), ⟨"", "", ""⟩, ""),
  (46, .iconst 2, 1, (0, 0, 0, 0, 0), ⟨"", "", ""⟩, ""),
  (47, .if_icmp .eq 18, 3, (65, 0, 0, 0, 0), ⟨"", "", ""⟩, ""),
  (50, .aload_n 0, 1, (0, 0, 0, 0, 0), ⟨"", "", ""⟩, ""),
  (51, .iload_n 1, 1, (0, 0, 0, 0, 0), ⟨"", "", ""⟩, ""),
  (52, .invokevirtual 106, 3, (1, 7, 62, 7, 62), ⟨"WordHides", "listOf", "(I)LWordHides$TextList;"⟩, ""),
  (55, .getfield 110, 3, (1, 6, 6, 0, 0), ⟨"", "", ""⟩, "WordHides$TextList"),
  (58, .iconst 3, 1, (0, 0, 0, 0, 0), ⟨"", "", ""⟩, ""),
  (59, .if_icmp .lt 6, 3, (65, 0, 0, 0, 0), ⟨"", "", ""⟩, ""),
  (62, .bipush (-4), 2, (0, 0, 0, 0, 0), ⟨"", "", ""⟩, ""),
  (64, .ireturn, 1, (0, 0, 0, 0, 0), ⟨"", "", ""⟩, ""),
  (65, .iload_n 1, 1, (0, 0, 0, 0, 0), ⟨"", "", ""⟩, ""),
  (66, .iconst 2, 1, (0, 0, 0, 0, 0), ⟨"", "", ""⟩, ""),
  (67, .if_icmp .ne 31, 3, (98, 0, 0, 0, 0), ⟨"", "", ""⟩, ""),
  (70, .aload_n 0, 1, (0, 0, 0, 0, 0), ⟨"", "", ""⟩, ""),
  (71, .getfield 26, 3, (2, 7, 7, 2, 0), ⟨"", "", ""⟩, "WordHides"),
  (74, .getfield 113, 3, (3, 0, 0, 2, 0), ⟨"", "", ""⟩, "WordHides$Board"),
  (77, .aload_n 0, 1, (0, 0, 0, 0, 0), ⟨"", "", ""⟩, ""),
  (78, .getfield 37, 3, (4, 7, 7, 2, 0), ⟨"", "", ""⟩, "WordHides"),
  (81, .invokevirtual 116, 3, (1, 5, 34, 5, 34), ⟨"WordHides$Text", "copyFrom", "(LWordHides$Text;)V"⟩, ""),
  (84, .aload_n 0, 1, (0, 0, 0, 0, 0), ⟨"", "", ""⟩, ""),
  (85, .getfield 26, 3, (2, 7, 7, 2, 0), ⟨"", "", ""⟩, "WordHides"),
  (88, .getfield 113, 3, (3, 0, 0, 2, 0), ⟨"", "", ""⟩, "WordHides$Board"),
  (91, .getfield 94, 3, (1, 5, 5, 0, 0), ⟨"", "", ""⟩, "WordHides$Text"),
  (94, .istore_n 2, 1, (0, 0, 0, 0, 0), ⟨"", "", ""⟩, ""),
  (95, .goto 16, 3, (111, 0, 0, 0, 0), ⟨"", "", ""⟩, ""),
  (98, .aload_n 0, 1, (0, 0, 0, 0, 0), ⟨"", "", ""⟩, ""),
  (99, .iload_n 1, 1, (0, 0, 0, 0, 0), ⟨"", "", ""⟩, ""),
  (100, .invokevirtual 106, 3, (1, 7, 62, 7, 62), ⟨"WordHides", "listOf", "(I)LWordHides$TextList;"⟩, ""),
  (103, .aload_n 0, 1, (0, 0, 0, 0, 0), ⟨"", "", ""⟩, ""),
  (104, .getfield 37, 3, (4, 7, 7, 2, 0), ⟨"", "", ""⟩, "WordHides"),
  (107, .invokevirtual 120, 3, (1, 6, 38, 6, 38), ⟨"WordHides$TextList", "append", "(LWordHides$Text;)I"⟩, ""),
  (110, .istore_n 2, 1, (0, 0, 0, 0, 0), ⟨"", "", ""⟩, ""),
  (111, .aload_n 0, 1, (0, 0, 0, 0, 0), ⟨"", "", ""⟩, ""),
  (112, .getfield 37, 3, (4, 7, 7, 2, 0), ⟨"", "", ""⟩, "WordHides"),
  (115, .iconst 0, 1, (0, 0, 0, 0, 0), ⟨"", "", ""⟩, ""),
  (116, .putfield 94, 3, (1, 5, 5, 0, 0), ⟨"", "", ""⟩, "WordHides$Text"),
  (119, .aload_n 0, 1, (0, 0, 0, 0, 0), ⟨"", "", ""⟩, ""),
  (120, .invokevirtual 80, 3, (0, 7, 63, 7, 63), ⟨"WordHides", "forgetLayings", "()V"⟩, ""),
  (123, .iload_n 2, 1, (0, 0, 0, 0, 0), ⟨"", "", ""⟩, ""),
  (124, .ireturn, 1, (0, 0, 0, 0, 0), ⟨"", "", ""⟩, "")])
def pX8_drop : wM := (⟨"WordHides", "drop", "(I)I"⟩, prog_1_method_8_code, 3, (some .int), 2, [
  (0, .iload_n 1, 1, (0, 0, 0, 0, 0), ⟨"", "", ""⟩, ""),
  (1, .ifCond .eq 11, 3, (12, 0, 0, 0, 0), ⟨"", "", ""⟩, ""),
  (4, .iload_n 1, 1, (0, 0, 0, 0, 0), ⟨"", "", ""⟩, ""),
  (5, .iconst 1, 1, (0, 0, 0, 0, 0), ⟨"", "", ""⟩, ""),
  (6, .if_icmp .eq 6, 3, (12, 0, 0, 0, 0), ⟨"", "", ""⟩, ""),
  (9, .bipush (-2), 2, (0, 0, 0, 0, 0), ⟨"", "", ""⟩, ""),
  (11, .ireturn, 1, (0, 0, 0, 0, 0), ⟨"", "", ""⟩, ""),
  (12, .aload_n 0, 1, (0, 0, 0, 0, 0), ⟨"", "", ""⟩, ""),
  (13, .iload_n 1, 1, (0, 0, 0, 0, 0), ⟨"", "", ""⟩, ""),
  (14, .invokevirtual 106, 3, (1, 7, 62, 7, 62), ⟨"WordHides", "listOf", "(I)LWordHides$TextList;"⟩, ""),
  (17, .getfield 110, 3, (1, 6, 6, 0, 0), ⟨"", "", ""⟩, "WordHides$TextList"),
  (20, .istore_n 2, 1, (0, 0, 0, 0, 0), ⟨"", "", ""⟩, ""),
  (21, .aload_n 0, 1, (0, 0, 0, 0, 0), ⟨"", "", ""⟩, ""),
  (22, .iload_n 1, 1, (0, 0, 0, 0, 0), ⟨"", "", ""⟩, ""),
  (23, .invokevirtual 106, 3, (1, 7, 62, 7, 62), ⟨"WordHides", "listOf", "(I)LWordHides$TextList;"⟩, ""),
  (26, .iconst 0, 1, (0, 0, 0, 0, 0), ⟨"", "", ""⟩, ""),
  (27, .putfield 110, 3, (1, 6, 6, 0, 0), ⟨"", "", ""⟩, "WordHides$TextList"),
  (30, .aload_n 0, 1, (0, 0, 0, 0, 0), ⟨"", "", ""⟩, ""),
  (31, .invokevirtual 80, 3, (0, 7, 63, 7, 63), ⟨"WordHides", "forgetLayings", "()V"⟩, ""),
  (34, .iload_n 2, 1, (0, 0, 0, 0, 0), ⟨"", "", ""⟩, ""),
  (35, .ireturn, 1, (0, 0, 0, 0, 0), ⟨"", "", ""⟩, "")])
def pX8_fill : wM := (⟨"WordHides", "fill", "()I"⟩, prog_1_method_9_code, 3, (some .int), 1, [
  (0, .aload_n 0, 1, (0, 0, 0, 0, 0), ⟨"", "", ""⟩, ""),
  (1, .getfield 37, 3, (4, 7, 7, 2, 0), ⟨"", "", ""⟩, "WordHides"),
  (4, .getfield 94, 3, (1, 5, 5, 0, 0), ⟨"", "", ""⟩, "WordHides$Text"),
  (7, .aload_n 0, 1, (0, 0, 0, 0, 0), ⟨"", "", ""⟩, ""),
  (8, .getfield 26, 3, (2, 7, 7, 2, 0), ⟨"", "", ""⟩, "WordHides"),
  (11, .getfield 68, 3, (0, 0, 0, 2, 0), ⟨"", "", ""⟩, "WordHides$Board"),
  (14, .getfield 71, 3, (1, 4, 4, 2, 0), ⟨"", "", ""⟩, "WordHides$Square"),
  (17, .getfield 123, 3, (1, 3, 3, 0, 0), ⟨"", "", ""⟩, "WordHides$Lattice"),
  (20, .if_icmp .eq 6, 3, (26, 0, 0, 0, 0), ⟨"", "", ""⟩, ""),
  (23, .bipush (-7), 2, (0, 0, 0, 0, 0), ⟨"", "", ""⟩, ""),
  (25, .ireturn, 1, (0, 0, 0, 0, 0), ⟨"", "", ""⟩, ""),
  (26, .iconst 0, 1, (0, 0, 0, 0, 0), ⟨"", "", ""⟩, ""),
  (27, .istore_n 1, 1, (0, 0, 0, 0, 0), ⟨"", "", ""⟩, ""),
  (28, .iconst 0, 1, (0, 0, 0, 0, 0), ⟨"", "", ""⟩, ""),
  (29, .istore_n 2, 1, (0, 0, 0, 0, 0), ⟨"", "", ""⟩, ""),
  (30, .iload_n 2, 1, (0, 0, 0, 0, 0), ⟨"", "", ""⟩, ""),
  (31, .aload_n 0, 1, (0, 0, 0, 0, 0), ⟨"", "", ""⟩, ""),
  (32, .getfield 37, 3, (4, 7, 7, 2, 0), ⟨"", "", ""⟩, "WordHides"),
  (35, .getfield 94, 3, (1, 5, 5, 0, 0), ⟨"", "", ""⟩, "WordHides$Text"),
  (38, .if_icmp .ge 57, 3, (95, 0, 0, 0, 0), ⟨"", "", ""⟩, ""),
  (41, .aload_n 0, 1, (0, 0, 0, 0, 0), ⟨"", "", ""⟩, ""),
  (42, .getfield 26, 3, (2, 7, 7, 2, 0), ⟨"", "", ""⟩, "WordHides"),
  (45, .getfield 68, 3, (0, 0, 0, 2, 0), ⟨"", "", ""⟩, "WordHides$Board"),
  (48, .getfield 90, 3, (0, 4, 4, 2, 0), ⟨"", "", ""⟩, "WordHides$Square"),
  (51, .iload_n 2, 1, (0, 0, 0, 0, 0), ⟨"", "", ""⟩, ""),
  (52, .iaload, 1, (0, 0, 0, 0, 0), ⟨"", "", ""⟩, ""),
  (53, .aload_n 0, 1, (0, 0, 0, 0, 0), ⟨"", "", ""⟩, ""),
  (54, .getfield 37, 3, (4, 7, 7, 2, 0), ⟨"", "", ""⟩, "WordHides"),
  (57, .getfield 126, 3, (0, 5, 5, 2, 0), ⟨"", "", ""⟩, "WordHides$Text"),
  (60, .iload_n 2, 1, (0, 0, 0, 0, 0), ⟨"", "", ""⟩, ""),
  (61, .iaload, 1, (0, 0, 0, 0, 0), ⟨"", "", ""⟩, ""),
  (62, .if_icmp .eq 6, 3, (68, 0, 0, 0, 0), ⟨"", "", ""⟩, ""),
  (65, .iinc 1 1, 3, (0, 0, 0, 0, 0), ⟨"", "", ""⟩, ""),
  (68, .aload_n 0, 1, (0, 0, 0, 0, 0), ⟨"", "", ""⟩, ""),
  (69, .getfield 26, 3, (2, 7, 7, 2, 0), ⟨"", "", ""⟩, "WordHides"),
  (72, .getfield 68, 3, (0, 0, 0, 2, 0), ⟨"", "", ""⟩, "WordHides$Board"),
  (75, .getfield 90, 3, (0, 4, 4, 2, 0), ⟨"", "", ""⟩, "WordHides$Square"),
  (78, .iload_n 2, 1, (0, 0, 0, 0, 0), ⟨"", "", ""⟩, ""),
  (79, .aload_n 0, 1, (0, 0, 0, 0, 0), ⟨"", "", ""⟩, ""),
  (80, .getfield 37, 3, (4, 7, 7, 2, 0), ⟨"", "", ""⟩, "WordHides"),
  (83, .getfield 126, 3, (0, 5, 5, 2, 0), ⟨"", "", ""⟩, "WordHides$Text"),
  (86, .iload_n 2, 1, (0, 0, 0, 0, 0), ⟨"", "", ""⟩, ""),
  (87, .iaload, 1, (0, 0, 0, 0, 0), ⟨"", "", ""⟩, ""),
  (88, .iastore, 1, (0, 0, 0, 0, 0), ⟨"", "", ""⟩, ""),
  (89, .iinc 2 1, 3, (0, 0, 0, 0, 0), ⟨"", "", ""⟩, ""),
  (92, .goto (-62), 3, (30, 0, 0, 0, 0), ⟨"", "", ""⟩, ""),
  (95, .aload_n 0, 1, (0, 0, 0, 0, 0), ⟨"", "", ""⟩, ""),
  (96, .getfield 37, 3, (4, 7, 7, 2, 0), ⟨"", "", ""⟩, "WordHides"),
  (99, .iconst 0, 1, (0, 0, 0, 0, 0), ⟨"", "", ""⟩, ""),
  (100, .putfield 94, 3, (1, 5, 5, 0, 0), ⟨"", "", ""⟩, "WordHides$Text"),
  (103, .aload_n 0, 1, (0, 0, 0, 0, 0), ⟨"", "", ""⟩, ""),
  (104, .invokevirtual 80, 3, (0, 7, 63, 7, 63), ⟨"WordHides", "forgetLayings", "()V"⟩, ""),
  (107, .iload_n 1, 1, (0, 0, 0, 0, 0), ⟨"", "", ""⟩, ""),
  (108, .ireturn, 1, (0, 0, 0, 0, 0), ⟨"", "", ""⟩, "")])
def pX8_letter : wM := (⟨"WordHides", "letter", "(III)I"⟩, prog_1_method_10_code, 5, (some .int), 4, [
  (0, .iload_n 1, 1, (0, 0, 0, 0, 0), ⟨"", "", ""⟩, ""),
  (1, .ifCond .lt 13, 3, (14, 0, 0, 0, 0), ⟨"", "", ""⟩, ""),
  (4, .iload_n 1, 1, (0, 0, 0, 0, 0), ⟨"", "", ""⟩, ""),
  (5, .iconst 2, 1, (0, 0, 0, 0, 0), ⟨"", "", ""⟩, ""),
  (6, .if_icmp .gt 8, 3, (14, 0, 0, 0, 0), ⟨"", "", ""⟩, ""),
  (9, .iload_n 3, 1, (0, 0, 0, 0, 0), ⟨"", "", ""⟩, ""),
  (10, .iconst (-1), 1, (0, 0, 0, 0, 0), ⟨"", "", ""⟩, ""),
  (11, .if_icmp .ge 6, 3, (17, 0, 0, 0, 0), ⟨"", "", ""⟩, ""),
  (14, .bipush (-2), 2, (0, 0, 0, 0, 0), ⟨"", "", ""⟩, ""),
  (16, .ireturn, 1, (0, 0, 0, 0, 0), ⟨"", "", ""⟩, ""),
  (17, .iload_n 1, 1, (0, 0, 0, 0, 0), ⟨"", "", ""⟩, ""),
  (18, .iconst 2, 1, (0, 0, 0, 0, 0), ⟨"", "", ""⟩, ""),
  (19, .if_icmp .ne 13, 3, (32, 0, 0, 0, 0), ⟨"", "", ""⟩, ""),
  (22, .aload_n 0, 1, (0, 0, 0, 0, 0), ⟨"", "", ""⟩, ""),
  (23, .getfield 26, 3, (2, 7, 7, 2, 0), ⟨"", "", ""⟩, "WordHides"),
  (26, .getfield 113, 3, (3, 0, 0, 2, 0), ⟨"", "", ""⟩, "WordHides$Board"),
  (29, .goto 12, 3, (41, 0, 0, 0, 0), ⟨"", "", ""⟩, ""),
  (32, .aload_n 0, 1, (0, 0, 0, 0, 0), ⟨"", "", ""⟩, ""),
  (33, .iload_n 1, 1, (0, 0, 0, 0, 0), ⟨"", "", ""⟩, ""),
  (34, .invokevirtual 106, 3, (1, 7, 62, 7, 62), ⟨"WordHides", "listOf", "(I)LWordHides$TextList;"⟩, ""),
  (37, .iload_n 2, 1, (0, 0, 0, 0, 0), ⟨"", "", ""⟩, ""),
  (38, .invokevirtual 129, 3, (1, 6, 37, 6, 37), ⟨"WordHides$TextList", "find", "(I)LWordHides$Text;"⟩, ""),
  (41, .astore 4, 2, (0, 0, 0, 0, 0), ⟨"", "", ""⟩, ""),
  (43, .aload 4, 2, (0, 0, 0, 0, 0), ⟨"", "", ""⟩, ""),
  (45, .ifnonnull 5, 3, (50, 0, 0, 0, 0), ⟨"", "", ""⟩, ""),
  (48, .iconst (-1), 1, (0, 0, 0, 0, 0), ⟨"", "", ""⟩, ""),
  (49, .ireturn, 1, (0, 0, 0, 0, 0), ⟨"", "", ""⟩, ""),
  (50, .iload_n 3, 1, (0, 0, 0, 0, 0), ⟨"", "", ""⟩, ""),
  (51, .iconst (-1), 1, (0, 0, 0, 0, 0), ⟨"", "", ""⟩, ""),
  (52, .if_icmp .ne 9, 3, (61, 0, 0, 0, 0), ⟨"", "", ""⟩, ""),
  (55, .aload 4, 2, (0, 0, 0, 0, 0), ⟨"", "", ""⟩, ""),
  (57, .getfield 94, 3, (1, 5, 5, 0, 0), ⟨"", "", ""⟩, "WordHides$Text"),
  (60, .ireturn, 1, (0, 0, 0, 0, 0), ⟨"", "", ""⟩, ""),
  (61, .iload_n 3, 1, (0, 0, 0, 0, 0), ⟨"", "", ""⟩, ""),
  (62, .aload 4, 2, (0, 0, 0, 0, 0), ⟨"", "", ""⟩, ""),
  (64, .getfield 94, 3, (1, 5, 5, 0, 0), ⟨"", "", ""⟩, "WordHides$Text"),
  (67, .if_icmp .ge 13, 3, (80, 0, 0, 0, 0), ⟨"", "", ""⟩, ""),
  (70, .aload 4, 2, (0, 0, 0, 0, 0), ⟨"", "", ""⟩, ""),
  (72, .getfield 126, 3, (0, 5, 5, 2, 0), ⟨"", "", ""⟩, "WordHides$Text"),
  (75, .iload_n 3, 1, (0, 0, 0, 0, 0), ⟨"", "", ""⟩, ""),
  (76, .iaload, 1, (0, 0, 0, 0, 0), ⟨"", "", ""⟩, ""),
  (77, .goto 5, 3, (82, 0, 0, 0, 0), ⟨"", "", ""⟩, ""),
  (80, .bipush (-6), 2, (0, 0, 0, 0, 0), ⟨"", "", ""⟩, ""),
  (82, .ireturn, 1, (0, 0, 0, 0, 0), ⟨"", "", ""⟩, "")])
def pX8_stands : wM := (⟨"WordHides", "stands", "(III)I"⟩, prog_1_method_11_code, 5, (some .int), 4, [
  (0, .iload_n 1, 1, (0, 0, 0, 0, 0), ⟨"", "", ""⟩, ""),
  (1, .ifCond .eq 8, 3, (9, 0, 0, 0, 0), ⟨"", "", ""⟩, ""),
  (4, .iload_n 1, 1, (0, 0, 0, 0, 0), ⟨"", "", ""⟩, ""),
  (5, .iconst 1, 1, (0, 0, 0, 0, 0), ⟨"", "", ""⟩, ""),
  (6, .if_icmp .ne 8, 3, (14, 0, 0, 0, 0), ⟨"", "", ""⟩, ""),
  (9, .iload_n 3, 1, (0, 0, 0, 0, 0), ⟨"", "", ""⟩, ""),
  (10, .iconst (-1), 1, (0, 0, 0, 0, 0), ⟨"", "", ""⟩, ""),
  (11, .if_icmp .ge 6, 3, (17, 0, 0, 0, 0), ⟨"", "", ""⟩, ""),
  (14, .bipush (-2), 2, (0, 0, 0, 0, 0), ⟨"", "", ""⟩, ""),
  (16, .ireturn, 1, (0, 0, 0, 0, 0), ⟨"", "", ""⟩, ""),
  (17, .aload_n 0, 1, (0, 0, 0, 0, 0), ⟨"", "", ""⟩, ""),
  (18, .iload_n 1, 1, (0, 0, 0, 0, 0), ⟨"", "", ""⟩, ""),
  (19, .invokevirtual 106, 3, (1, 7, 62, 7, 62), ⟨"WordHides", "listOf", "(I)LWordHides$TextList;"⟩, ""),
  (22, .iload_n 2, 1, (0, 0, 0, 0, 0), ⟨"", "", ""⟩, ""),
  (23, .invokevirtual 129, 3, (1, 6, 37, 6, 37), ⟨"WordHides$TextList", "find", "(I)LWordHides$Text;"⟩, ""),
  (26, .astore 4, 2, (0, 0, 0, 0, 0), ⟨"", "", ""⟩, ""),
  (28, .aload 4, 2, (0, 0, 0, 0, 0), ⟨"", "", ""⟩, ""),
  (30, .ifnonnull 5, 3, (35, 0, 0, 0, 0), ⟨"", "", ""⟩, ""),
  (33, .iconst (-1), 1, (0, 0, 0, 0, 0), ⟨"", "", ""⟩, ""),
  (34, .ireturn, 1, (0, 0, 0, 0, 0), ⟨"", "", ""⟩, ""),
  (35, .aload_n 0, 1, (0, 0, 0, 0, 0), ⟨"", "", ""⟩, ""),
  (36, .getfield 26, 3, (2, 7, 7, 2, 0), ⟨"", "", ""⟩, "WordHides"),
  (39, .getfield 68, 3, (0, 0, 0, 2, 0), ⟨"", "", ""⟩, "WordHides$Board"),
  (42, .aload 4, 2, (0, 0, 0, 0, 0), ⟨"", "", ""⟩, ""),
  (44, .iload_n 3, 1, (0, 0, 0, 0, 0), ⟨"", "", ""⟩, ""),
  (45, .invokevirtual 133, 3, (2, 4, 28, 4, 28), ⟨"WordHides$Square", "standing", "(LWordHides$Text;I)I"⟩, ""),
  (48, .ireturn, 1, (0, 0, 0, 0, 0), ⟨"", "", ""⟩, "")])
def pX8_put : wM := (⟨"WordHides", "put", "(II)I"⟩, prog_1_method_12_code, 5, (some .int), 3, [
  (0, .aload_n 0, 1, (0, 0, 0, 0, 0), ⟨"", "", ""⟩, ""),
  (1, .getfield 26, 3, (2, 7, 7, 2, 0), ⟨"", "", ""⟩, "WordHides"),
  (4, .getfield 137, 3, (1, 0, 0, 2, 0), ⟨"", "", ""⟩, "WordHides$Board"),
  (7, .iload_n 1, 1, (0, 0, 0, 0, 0), ⟨"", "", ""⟩, ""),
  (8, .invokevirtual 129, 3, (1, 6, 37, 6, 37), ⟨"WordHides$TextList", "find", "(I)LWordHides$Text;"⟩, ""),
  (11, .astore_n 3, 1, (0, 0, 0, 0, 0), ⟨"", "", ""⟩, ""),
  (12, .aload_n 3, 1, (0, 0, 0, 0, 0), ⟨"", "", ""⟩, ""),
  (13, .ifnonnull 5, 3, (18, 0, 0, 0, 0), ⟨"", "", ""⟩, ""),
  (16, .iconst (-1), 1, (0, 0, 0, 0, 0), ⟨"", "", ""⟩, ""),
  (17, .ireturn, 1, (0, 0, 0, 0, 0), ⟨"", "", ""⟩, ""),
  (18, .aload_n 0, 1, (0, 0, 0, 0, 0), ⟨"", "", ""⟩, ""),
  (19, .getfield 26, 3, (2, 7, 7, 2, 0), ⟨"", "", ""⟩, "WordHides"),
  (22, .getfield 68, 3, (0, 0, 0, 2, 0), ⟨"", "", ""⟩, "WordHides$Board"),
  (25, .getfield 71, 3, (1, 4, 4, 2, 0), ⟨"", "", ""⟩, "WordHides$Square"),
  (28, .iload_n 2, 1, (0, 0, 0, 0, 0), ⟨"", "", ""⟩, ""),
  (29, .invokevirtual 141, 3, (1, 3, 13, 3, 13), ⟨"WordHides$Lattice", "hasPlace", "(I)Z"⟩, ""),
  (32, .ifCond .ne 6, 3, (38, 0, 0, 0, 0), ⟨"", "", ""⟩, ""),
  (35, .bipush (-2), 2, (0, 0, 0, 0, 0), ⟨"", "", ""⟩, ""),
  (37, .ireturn, 1, (0, 0, 0, 0, 0), ⟨"", "", ""⟩, ""),
  (38, .aload_n 0, 1, (0, 0, 0, 0, 0), ⟨"", "", ""⟩, ""),
  (39, .getfield 26, 3, (2, 7, 7, 2, 0), ⟨"", "", ""⟩, "WordHides"),
  (42, .getfield 68, 3, (0, 0, 0, 2, 0), ⟨"", "", ""⟩, "WordHides$Board"),
  (45, .aload_n 3, 1, (0, 0, 0, 0, 0), ⟨"", "", ""⟩, ""),
  (46, .iload_n 2, 1, (0, 0, 0, 0, 0), ⟨"", "", ""⟩, ""),
  (47, .invokevirtual 144, 3, (2, 4, 24, 4, 24), ⟨"WordHides$Square", "accepts", "(LWordHides$Text;I)Z"⟩, ""),
  (50, .ifCond .ne 6, 3, (56, 0, 0, 0, 0), ⟨"", "", ""⟩, ""),
  (53, .bipush (-5), 2, (0, 0, 0, 0, 0), ⟨"", "", ""⟩, ""),
  (55, .ireturn, 1, (0, 0, 0, 0, 0), ⟨"", "", ""⟩, ""),
  (56, .aload_n 0, 1, (0, 0, 0, 0, 0), ⟨"", "", ""⟩, ""),
  (57, .getfield 26, 3, (2, 7, 7, 2, 0), ⟨"", "", ""⟩, "WordHides"),
  (60, .getfield 68, 3, (0, 0, 0, 2, 0), ⟨"", "", ""⟩, "WordHides$Board"),
  (63, .aload_n 3, 1, (0, 0, 0, 0, 0), ⟨"", "", ""⟩, ""),
  (64, .iload_n 2, 1, (0, 0, 0, 0, 0), ⟨"", "", ""⟩, ""),
  (65, .invokevirtual 148, 3, (2, 4, 25, 4, 25), ⟨"WordHides$Square", "lay", "(LWordHides$Text;I)I"⟩, ""),
  (68, .istore 4, 2, (0, 0, 0, 0, 0), ⟨"", "", ""⟩, ""),
  (70, .aload_n 0, 1, (0, 0, 0, 0, 0), ⟨"", "", ""⟩, ""),
  (71, .invokevirtual 80, 3, (0, 7, 63, 7, 63), ⟨"WordHides", "forgetLayings", "()V"⟩, ""),
  (74, .iload 4, 2, (0, 0, 0, 0, 0), ⟨"", "", ""⟩, ""),
  (76, .invokestatic 151, 3, (1, 0, 119, 0, 0), ⟨"java/lang/Integer", "bitCount", "(I)I"⟩, ""),
  (79, .ireturn, 1, (0, 0, 0, 0, 0), ⟨"", "", ""⟩, "")])
def pX8_fits : wM := (⟨"WordHides", "fits", "(II)I"⟩, prog_1_method_13_code, 7, (some .int), 3, [
  (0, .aload_n 0, 1, (0, 0, 0, 0, 0), ⟨"", "", ""⟩, ""),
  (1, .getfield 26, 3, (2, 7, 7, 2, 0), ⟨"", "", ""⟩, "WordHides"),
  (4, .getfield 137, 3, (1, 0, 0, 2, 0), ⟨"", "", ""⟩, "WordHides$Board"),
  (7, .iload_n 1, 1, (0, 0, 0, 0, 0), ⟨"", "", ""⟩, ""),
  (8, .invokevirtual 129, 3, (1, 6, 37, 6, 37), ⟨"WordHides$TextList", "find", "(I)LWordHides$Text;"⟩, ""),
  (11, .astore_n 3, 1, (0, 0, 0, 0, 0), ⟨"", "", ""⟩, ""),
  (12, .aload_n 3, 1, (0, 0, 0, 0, 0), ⟨"", "", ""⟩, ""),
  (13, .ifnonnull 5, 3, (18, 0, 0, 0, 0), ⟨"", "", ""⟩, ""),
  (16, .iconst (-1), 1, (0, 0, 0, 0, 0), ⟨"", "", ""⟩, ""),
  (17, .ireturn, 1, (0, 0, 0, 0, 0), ⟨"", "", ""⟩, ""),
  (18, .iload_n 2, 1, (0, 0, 0, 0, 0), ⟨"", "", ""⟩, ""),
  (19, .ifCond .eq 11, 3, (30, 0, 0, 0, 0), ⟨"", "", ""⟩, ""),
  (22, .iload_n 2, 1, (0, 0, 0, 0, 0), ⟨"", "", ""⟩, ""),
  (23, .iconst 1, 1, (0, 0, 0, 0, 0), ⟨"", "", ""⟩, ""),
  (24, .if_icmp .eq 6, 3, (30, 0, 0, 0, 0), ⟨"", "", ""⟩, ""),
  (27, .bipush (-2), 2, (0, 0, 0, 0, 0), ⟨"", "", ""⟩, ""),
  (29, .ireturn, 1, (0, 0, 0, 0, 0), ⟨"", "", ""⟩, ""),
  (30, .aload_n 0, 1, (0, 0, 0, 0, 0), ⟨"", "", ""⟩, ""),
  (31, .getfield 26, 3, (2, 7, 7, 2, 0), ⟨"", "", ""⟩, "WordHides"),
  (34, .getfield 68, 3, (0, 0, 0, 2, 0), ⟨"", "", ""⟩, "WordHides$Board"),
  (37, .getfield 71, 3, (1, 4, 4, 2, 0), ⟨"", "", ""⟩, "WordHides$Square"),
  (40, .astore 4, 2, (0, 0, 0, 0, 0), ⟨"", "", ""⟩, ""),
  (42, .iconst 0, 1, (0, 0, 0, 0, 0), ⟨"", "", ""⟩, ""),
  (43, .istore 5, 2, (0, 0, 0, 0, 0), ⟨"", "", ""⟩, ""),
  (45, .iconst 0, 1, (0, 0, 0, 0, 0), ⟨"", "", ""⟩, ""),
  (46, .istore 6, 2, (0, 0, 0, 0, 0), ⟨"", "", ""⟩, ""),
  (48, .iload 6, 2, (0, 0, 0, 0, 0), ⟨"", "", ""⟩, ""),
  (50, .aload 4, 2, (0, 0, 0, 0, 0), ⟨"", "", ""⟩, ""),
  (52, .getfield 157, 3, (2, 3, 3, 0, 0), ⟨"", "", ""⟩, "WordHides$Lattice"),
  (55, .if_icmp .ge 49, 3, (104, 0, 0, 0, 0), ⟨"", "", ""⟩, ""),
  (58, .iload_n 2, 1, (0, 0, 0, 0, 0), ⟨"", "", ""⟩, ""),
  (59, .ifCond .ne 20, 3, (79, 0, 0, 0, 0), ⟨"", "", ""⟩, ""),
  (62, .aload 4, 2, (0, 0, 0, 0, 0), ⟨"", "", ""⟩, ""),
  (64, .iload 6, 2, (0, 0, 0, 0, 0), ⟨"", "", ""⟩, ""),
  (66, .aload_n 3, 1, (0, 0, 0, 0, 0), ⟨"", "", ""⟩, ""),
  (67, .getfield 94, 3, (1, 5, 5, 0, 0), ⟨"", "", ""⟩, "WordHides$Text"),
  (70, .invokevirtual 160, 3, (2, 3, 14, 3, 14), ⟨"WordHides$Lattice", "holds", "(II)Z"⟩, ""),
  (73, .ifCond .eq 25, 3, (98, 0, 0, 0, 0), ⟨"", "", ""⟩, ""),
  (76, .goto 19, 3, (95, 0, 0, 0, 0), ⟨"", "", ""⟩, ""),
  (79, .aload_n 0, 1, (0, 0, 0, 0, 0), ⟨"", "", ""⟩, ""),
  (80, .getfield 26, 3, (2, 7, 7, 2, 0), ⟨"", "", ""⟩, "WordHides"),
  (83, .getfield 68, 3, (0, 0, 0, 2, 0), ⟨"", "", ""⟩, "WordHides$Board"),
  (86, .aload_n 3, 1, (0, 0, 0, 0, 0), ⟨"", "", ""⟩, ""),
  (87, .iload 6, 2, (0, 0, 0, 0, 0), ⟨"", "", ""⟩, ""),
  (89, .invokevirtual 144, 3, (2, 4, 24, 4, 24), ⟨"WordHides$Square", "accepts", "(LWordHides$Text;I)Z"⟩, ""),
  (92, .ifCond .eq 6, 3, (98, 0, 0, 0, 0), ⟨"", "", ""⟩, ""),
  (95, .iinc 5 1, 3, (0, 0, 0, 0, 0), ⟨"", "", ""⟩, ""),
  (98, .iinc 6 1, 3, (0, 0, 0, 0, 0), ⟨"", "", ""⟩, ""),
  (101, .goto (-53), 3, (48, 0, 0, 0, 0), ⟨"", "", ""⟩, ""),
  (104, .iload 5, 2, (0, 0, 0, 0, 0), ⟨"", "", ""⟩, ""),
  (106, .ireturn, 1, (0, 0, 0, 0, 0), ⟨"", "", ""⟩, "")])
def pX8_most : wM := (⟨"WordHides", "most", "(I)I"⟩, prog_1_method_14_code, 3, (some .int), 2, [
  (0, .iload_n 1, 1, (0, 0, 0, 0, 0), ⟨"", "", ""⟩, ""),
  (1, .invokestatic 164, 3, (1, 0, 61, 0, 0), ⟨"WordHides", "isPlaceAsked", "(I)Z"⟩, ""),
  (4, .istore_n 2, 1, (0, 0, 0, 0, 0), ⟨"", "", ""⟩, ""),
  (5, .iload_n 2, 1, (0, 0, 0, 0, 0), ⟨"", "", ""⟩, ""),
  (6, .ifCond .ne 15, 3, (21, 0, 0, 0, 0), ⟨"", "", ""⟩, ""),
  (9, .iload_n 1, 1, (0, 0, 0, 0, 0), ⟨"", "", ""⟩, ""),
  (10, .ifCond .lt 8, 3, (18, 0, 0, 0, 0), ⟨"", "", ""⟩, ""),
  (13, .iload_n 1, 1, (0, 0, 0, 0, 0), ⟨"", "", ""⟩, ""),
  (14, .iconst 2, 1, (0, 0, 0, 0, 0), ⟨"", "", ""⟩, ""),
  (15, .if_icmp .le 6, 3, (21, 0, 0, 0, 0), ⟨"", "", ""⟩, ""),
  (18, .bipush (-2), 2, (0, 0, 0, 0, 0), ⟨"", "", ""⟩, ""),
  (20, .ireturn, 1, (0, 0, 0, 0, 0), ⟨"", "", ""⟩, ""),
  (21, .aload_n 0, 1, (0, 0, 0, 0, 0), ⟨"", "", ""⟩, ""),
  (22, .getfield 53, 3, (6, 7, 7, 2, 0), ⟨"", "", ""⟩, "WordHides"),
  (25, .invokevirtual 167, 3, (0, 1, 17, 1, 17), ⟨"WordHides$CrossedSearch", "look", "()V"⟩, "WordHides$Search"),
  (28, .iload_n 1, 1, (0, 0, 0, 0, 0), ⟨"", "", ""⟩, ""),
  (29, .ifCond .ne 11, 3, (40, 0, 0, 0, 0), ⟨"", "", ""⟩, ""),
  (32, .aload_n 0, 1, (0, 0, 0, 0, 0), ⟨"", "", ""⟩, ""),
  (33, .getfield 53, 3, (6, 7, 7, 2, 0), ⟨"", "", ""⟩, "WordHides"),
  (36, .getfield 170, 3, (5, 1, 1, 0, 0), ⟨"", "", ""⟩, "WordHides$CrossedSearch"),
  (39, .ireturn, 1, (0, 0, 0, 0, 0), ⟨"", "", ""⟩, ""),
  (40, .aload_n 0, 1, (0, 0, 0, 0, 0), ⟨"", "", ""⟩, ""),
  (41, .getfield 53, 3, (6, 7, 7, 2, 0), ⟨"", "", ""⟩, "WordHides"),
  (44, .getfield 170, 3, (5, 1, 1, 0, 0), ⟨"", "", ""⟩, "WordHides$CrossedSearch"),
  (47, .ifCond .ne 6, 3, (53, 0, 0, 0, 0), ⟨"", "", ""⟩, ""),
  (50, .bipush (-6), 2, (0, 0, 0, 0, 0), ⟨"", "", ""⟩, ""),
  (52, .ireturn, 1, (0, 0, 0, 0, 0), ⟨"", "", ""⟩, ""),
  (53, .iload_n 2, 1, (0, 0, 0, 0, 0), ⟨"", "", ""⟩, ""),
  (54, .ifCond .eq 15, 3, (69, 0, 0, 0, 0), ⟨"", "", ""⟩, ""),
  (57, .aload_n 0, 1, (0, 0, 0, 0, 0), ⟨"", "", ""⟩, ""),
  (58, .getfield 53, 3, (6, 7, 7, 2, 0), ⟨"", "", ""⟩, "WordHides"),
  (61, .iload_n 1, 1, (0, 0, 0, 0, 0), ⟨"", "", ""⟩, ""),
  (62, .bipush 10, 2, (0, 0, 0, 0, 0), ⟨"", "", ""⟩, ""),
  (64, .isub, 1, (0, 0, 0, 0, 0), ⟨"", "", ""⟩, ""),
  (65, .invokevirtual 173, 3, (1, 1, 20, 1, 20), ⟨"WordHides$CrossedSearch", "firstPlace", "(I)I"⟩, "WordHides$Search"),
  (68, .ireturn, 1, (0, 0, 0, 0, 0), ⟨"", "", ""⟩, ""),
  (69, .iload_n 1, 1, (0, 0, 0, 0, 0), ⟨"", "", ""⟩, ""),
  (70, .iconst 1, 1, (0, 0, 0, 0, 0), ⟨"", "", ""⟩, ""),
  (71, .if_icmp .ne 13, 3, (84, 0, 0, 0, 0), ⟨"", "", ""⟩, ""),
  (74, .aload_n 0, 1, (0, 0, 0, 0, 0), ⟨"", "", ""⟩, ""),
  (75, .getfield 53, 3, (6, 7, 7, 2, 0), ⟨"", "", ""⟩, "WordHides"),
  (78, .getfield 176, 3, (7, 1, 1, 0, 0), ⟨"", "", ""⟩, "WordHides$CrossedSearch"),
  (81, .goto 10, 3, (91, 0, 0, 0, 0), ⟨"", "", ""⟩, ""),
  (84, .aload_n 0, 1, (0, 0, 0, 0, 0), ⟨"", "", ""⟩, ""),
  (85, .getfield 53, 3, (6, 7, 7, 2, 0), ⟨"", "", ""⟩, "WordHides"),
  (88, .getfield 179, 3, (8, 1, 1, 0, 0), ⟨"", "", ""⟩, "WordHides$CrossedSearch"),
  (91, .ireturn, 1, (0, 0, 0, 0, 0), ⟨"", "", ""⟩, "")])
def pX8_covers : wM := (⟨"WordHides", "covers", "(III)I"⟩, prog_1_method_15_code, 10, (some .int), 4, [
  (0, .aload_n 0, 1, (0, 0, 0, 0, 0), ⟨"", "", ""⟩, ""),
  (1, .getfield 26, 3, (2, 7, 7, 2, 0), ⟨"", "", ""⟩, "WordHides"),
  (4, .getfield 137, 3, (1, 0, 0, 2, 0), ⟨"", "", ""⟩, "WordHides$Board"),
  (7, .getfield 110, 3, (1, 6, 6, 0, 0), ⟨"", "", ""⟩, "WordHides$TextList"),
  (10, .istore 4, 2, (0, 0, 0, 0, 0), ⟨"", "", ""⟩, ""),
  (12, .aload_n 0, 1, (0, 0, 0, 0, 0), ⟨"", "", ""⟩, ""),
  (13, .getfield 26, 3, (2, 7, 7, 2, 0), ⟨"", "", ""⟩, "WordHides"),
  (16, .getfield 68, 3, (0, 0, 0, 2, 0), ⟨"", "", ""⟩, "WordHides$Board"),
  (19, .getfield 71, 3, (1, 4, 4, 2, 0), ⟨"", "", ""⟩, "WordHides$Square"),
  (22, .astore 5, 2, (0, 0, 0, 0, 0), ⟨"", "", ""⟩, ""),
  (24, .iload 4, 2, (0, 0, 0, 0, 0), ⟨"", "", ""⟩, ""),
  (26, .ifCond .le 12, 3, (38, 0, 0, 0, 0), ⟨"", "", ""⟩, ""),
  (29, .aload 5, 2, (0, 0, 0, 0, 0), ⟨"", "", ""⟩, ""),
  (31, .iload_n 1, 1, (0, 0, 0, 0, 0), ⟨"", "", ""⟩, ""),
  (32, .invokevirtual 141, 3, (1, 3, 13, 3, 13), ⟨"WordHides$Lattice", "hasPlace", "(I)Z"⟩, ""),
  (35, .ifCond .eq 33, 3, (68, 0, 0, 0, 0), ⟨"", "", ""⟩, ""),
  (38, .iload 4, 2, (0, 0, 0, 0, 0), ⟨"", "", ""⟩, ""),
  (40, .iconst 1, 1, (0, 0, 0, 0, 0), ⟨"", "", ""⟩, ""),
  (41, .if_icmp .le 12, 3, (53, 0, 0, 0, 0), ⟨"", "", ""⟩, ""),
  (44, .aload 5, 2, (0, 0, 0, 0, 0), ⟨"", "", ""⟩, ""),
  (46, .iload_n 2, 1, (0, 0, 0, 0, 0), ⟨"", "", ""⟩, ""),
  (47, .invokevirtual 141, 3, (1, 3, 13, 3, 13), ⟨"WordHides$Lattice", "hasPlace", "(I)Z"⟩, ""),
  (50, .ifCond .eq 18, 3, (68, 0, 0, 0, 0), ⟨"", "", ""⟩, ""),
  (53, .iload 4, 2, (0, 0, 0, 0, 0), ⟨"", "", ""⟩, ""),
  (55, .iconst 2, 1, (0, 0, 0, 0, 0), ⟨"", "", ""⟩, ""),
  (56, .if_icmp .le 15, 3, (71, 0, 0, 0, 0), ⟨"", "", ""⟩, ""),
  (59, .aload 5, 2, (0, 0, 0, 0, 0), ⟨"", "", ""⟩, ""),
  (61, .iload_n 3, 1, (0, 0, 0, 0, 0), ⟨"", "", ""⟩, ""),
  (62, .invokevirtual 141, 3, (1, 3, 13, 3, 13), ⟨"WordHides$Lattice", "hasPlace", "(I)Z"⟩, ""),
  (65, .ifCond .ne 6, 3, (71, 0, 0, 0, 0), ⟨"", "", ""⟩, ""),
  (68, .bipush (-2), 2, (0, 0, 0, 0, 0), ⟨"", "", ""⟩, ""),
  (70, .ireturn, 1, (0, 0, 0, 0, 0), ⟨"", "", ""⟩, ""),
  (71, .aload_n 0, 1, (0, 0, 0, 0, 0), ⟨"", "", ""⟩, ""),
  (72, .getfield 44, 3, (5, 7, 7, 2, 0), ⟨"", "", ""⟩, "WordHides"),
  (75, .aload_n 0, 1, (0, 0, 0, 0, 0), ⟨"", "", ""⟩, ""),
  (76, .getfield 26, 3, (2, 7, 7, 2, 0), ⟨"", "", ""⟩, "WordHides"),
  (79, .getfield 68, 3, (0, 0, 0, 2, 0), ⟨"", "", ""⟩, "WordHides$Board"),
  (82, .invokevirtual 182, 3, (1, 4, 23, 4, 23), ⟨"WordHides$Square", "copyFrom", "(LWordHides$Square;)V"⟩, ""),
  (85, .iconst 0, 1, (0, 0, 0, 0, 0), ⟨"", "", ""⟩, ""),
  (86, .istore 6, 2, (0, 0, 0, 0, 0), ⟨"", "", ""⟩, ""),
  (88, .iconst 0, 1, (0, 0, 0, 0, 0), ⟨"", "", ""⟩, ""),
  (89, .istore 7, 2, (0, 0, 0, 0, 0), ⟨"", "", ""⟩, ""),
  (91, .iload 7, 2, (0, 0, 0, 0, 0), ⟨"", "", ""⟩, ""),
  (93, .iload 4, 2, (0, 0, 0, 0, 0), ⟨"", "", ""⟩, ""),
  (95, .if_icmp .ge 96, 3, (191, 0, 0, 0, 0), ⟨"", "", ""⟩, ""),
  (98, .aload_n 0, 1, (0, 0, 0, 0, 0), ⟨"", "", ""⟩, ""),
  (99, .getfield 26, 3, (2, 7, 7, 2, 0), ⟨"", "", ""⟩, "WordHides"),
  (102, .getfield 137, 3, (1, 0, 0, 2, 0), ⟨"", "", ""⟩, "WordHides$Board"),
  (105, .iload 7, 2, (0, 0, 0, 0, 0), ⟨"", "", ""⟩, ""),
  (107, .invokevirtual 129, 3, (1, 6, 37, 6, 37), ⟨"WordHides$TextList", "find", "(I)LWordHides$Text;"⟩, ""),
  (110, .astore 8, 2, (0, 0, 0, 0, 0), ⟨"", "", ""⟩, ""),
  (112, .iload 7, 2, (0, 0, 0, 0, 0), ⟨"", "", ""⟩, ""),
  (114, .ifCond .ne 7, 3, (121, 0, 0, 0, 0), ⟨"", "", ""⟩, ""),
  (117, .iload_n 1, 1, (0, 0, 0, 0, 0), ⟨"", "", ""⟩, ""),
  (118, .goto 14, 3, (132, 0, 0, 0, 0), ⟨"", "", ""⟩, ""),
  (121, .iload 7, 2, (0, 0, 0, 0, 0), ⟨"", "", ""⟩, ""),
  (123, .iconst 1, 1, (0, 0, 0, 0, 0), ⟨"", "", ""⟩, ""),
  (124, .if_icmp .ne 7, 3, (131, 0, 0, 0, 0), ⟨"", "", ""⟩, ""),
  (127, .iload_n 2, 1, (0, 0, 0, 0, 0), ⟨"", "", ""⟩, ""),
  (128, .goto 4, 3, (132, 0, 0, 0, 0), ⟨"", "", ""⟩, ""),
  (131, .iload_n 3, 1, (0, 0, 0, 0, 0), ⟨"", "", ""⟩, ""),
  (132, .istore 9, 2, (0, 0, 0, 0, 0), ⟨"", "", ""⟩, ""),
  (134, .aload 8, 2, (0, 0, 0, 0, 0), ⟨"", "", ""⟩, ""),
  (136, .ifnull 17, 3, (153, 0, 0, 0, 0), ⟨"", "", ""⟩, ""),
  (139, .aload_n 0, 1, (0, 0, 0, 0, 0), ⟨"", "", ""⟩, ""),
  (140, .getfield 44, 3, (5, 7, 7, 2, 0), ⟨"", "", ""⟩, "WordHides"),
  (143, .aload 8, 2, (0, 0, 0, 0, 0), ⟨"", "", ""⟩, ""),
  (145, .iload 9, 2, (0, 0, 0, 0, 0), ⟨"", "", ""⟩, ""),
  (147, .invokevirtual 144, 3, (2, 4, 24, 4, 24), ⟨"WordHides$Square", "accepts", "(LWordHides$Text;I)Z"⟩, ""),
  (150, .ifCond .ne 6, 3, (156, 0, 0, 0, 0), ⟨"", "", ""⟩, ""),
  (153, .bipush (-5), 2, (0, 0, 0, 0, 0), ⟨"", "", ""⟩, ""),
  (155, .ireturn, 1, (0, 0, 0, 0, 0), ⟨"", "", ""⟩, ""),
  (156, .aload_n 0, 1, (0, 0, 0, 0, 0), ⟨"", "", ""⟩, ""),
  (157, .getfield 44, 3, (5, 7, 7, 2, 0), ⟨"", "", ""⟩, "WordHides"),
  (160, .aload 8, 2, (0, 0, 0, 0, 0), ⟨"", "", ""⟩, ""),
  (162, .iload 9, 2, (0, 0, 0, 0, 0), ⟨"", "", ""⟩, ""),
  (164, .invokevirtual 148, 3, (2, 4, 25, 4, 25), ⟨"WordHides$Square", "lay", "(LWordHides$Text;I)I"⟩, ""),
  (167, .pop, 1, (0, 0, 0, 0, 0), ⟨"", "", ""⟩, ""),
  (168, .iload 6, 2, (0, 0, 0, 0, 0), ⟨"", "", ""⟩, ""),
  (170, .aload 5, 2, (0, 0, 0, 0, 0), ⟨"", "", ""⟩, ""),
  (172, .iload 9, 2, (0, 0, 0, 0, 0), ⟨"", "", ""⟩, ""),
  (174, .aload 8, 2, (0, 0, 0, 0, 0), ⟨"", "", ""⟩, ""),
  (176, .getfield 94, 3, (1, 5, 5, 0, 0), ⟨"", "", ""⟩, "WordHides$Text"),
  (179, .invokevirtual 185, 3, (2, 3, 15, 3, 15), ⟨"WordHides$Lattice", "cellSet", "(II)I"⟩, ""),
  (182, .ior, 1, (0, 0, 0, 0, 0), ⟨"", "", ""⟩, ""),
  (183, .istore 6, 2, (0, 0, 0, 0, 0), ⟨"", "", ""⟩, ""),
  (185, .iinc 7 1, 3, (0, 0, 0, 0, 0), ⟨"", "", ""⟩, ""),
  (188, .goto (-97), 3, (91, 0, 0, 0, 0), ⟨"", "", ""⟩, ""),
  (191, .iload 6, 2, (0, 0, 0, 0, 0), ⟨"", "", ""⟩, ""),
  (193, .invokestatic 151, 3, (1, 0, 119, 0, 0), ⟨"java/lang/Integer", "bitCount", "(I)I"⟩, ""),
  (196, .ireturn, 1, (0, 0, 0, 0, 0), ⟨"", "", ""⟩, "")])
def pX8_good : wM := (⟨"WordHides", "good", "(I)I"⟩, prog_1_method_16_code, 5, (some .int), 2, [
  (0, .iload_n 1, 1, (0, 0, 0, 0, 0), ⟨"", "", ""⟩, ""),
  (1, .invokestatic 164, 3, (1, 0, 61, 0, 0), ⟨"WordHides", "isPlaceAsked", "(I)Z"⟩, ""),
  (4, .istore_n 2, 1, (0, 0, 0, 0, 0), ⟨"", "", ""⟩, ""),
  (5, .iload_n 1, 1, (0, 0, 0, 0, 0), ⟨"", "", ""⟩, ""),
  (6, .bipush 100, 2, (0, 0, 0, 0, 0), ⟨"", "", ""⟩, ""),
  (8, .if_icmp .lt 13, 3, (21, 0, 0, 0, 0), ⟨"", "", ""⟩, ""),
  (11, .iload_n 1, 1, (0, 0, 0, 0, 0), ⟨"", "", ""⟩, ""),
  (12, .bipush 116, 2, (0, 0, 0, 0, 0), ⟨"", "", ""⟩, ""),
  (14, .if_icmp .ge 7, 3, (21, 0, 0, 0, 0), ⟨"", "", ""⟩, ""),
  (17, .iconst 1, 1, (0, 0, 0, 0, 0), ⟨"", "", ""⟩, ""),
  (18, .goto 4, 3, (22, 0, 0, 0, 0), ⟨"", "", ""⟩, ""),
  (21, .iconst 0, 1, (0, 0, 0, 0, 0), ⟨"", "", ""⟩, ""),
  (22, .istore_n 3, 1, (0, 0, 0, 0, 0), ⟨"", "", ""⟩, ""),
  (23, .iload_n 1, 1, (0, 0, 0, 0, 0), ⟨"", "", ""⟩, ""),
  (24, .ifCond .eq 14, 3, (38, 0, 0, 0, 0), ⟨"", "", ""⟩, ""),
  (27, .iload_n 2, 1, (0, 0, 0, 0, 0), ⟨"", "", ""⟩, ""),
  (28, .ifCond .ne 10, 3, (38, 0, 0, 0, 0), ⟨"", "", ""⟩, ""),
  (31, .iload_n 3, 1, (0, 0, 0, 0, 0), ⟨"", "", ""⟩, ""),
  (32, .ifCond .ne 6, 3, (38, 0, 0, 0, 0), ⟨"", "", ""⟩, ""),
  (35, .bipush (-2), 2, (0, 0, 0, 0, 0), ⟨"", "", ""⟩, ""),
  (37, .ireturn, 1, (0, 0, 0, 0, 0), ⟨"", "", ""⟩, ""),
  (38, .aload_n 0, 1, (0, 0, 0, 0, 0), ⟨"", "", ""⟩, ""),
  (39, .getfield 60, 3, (7, 7, 7, 2, 0), ⟨"", "", ""⟩, "WordHides"),
  (42, .invokevirtual 189, 3, (0, 2, 17, 2, 17), ⟨"WordHides$GoodSearch", "look", "()V"⟩, "WordHides$Search"),
  (45, .iload_n 1, 1, (0, 0, 0, 0, 0), ⟨"", "", ""⟩, ""),
  (46, .ifCond .ne 11, 3, (57, 0, 0, 0, 0), ⟨"", "", ""⟩, ""),
  (49, .aload_n 0, 1, (0, 0, 0, 0, 0), ⟨"", "", ""⟩, ""),
  (50, .getfield 60, 3, (7, 7, 7, 2, 0), ⟨"", "", ""⟩, "WordHides"),
  (53, .getfield 190, 3, (5, 2, 2, 0, 0), ⟨"", "", ""⟩, "WordHides$GoodSearch"),
  (56, .ireturn, 1, (0, 0, 0, 0, 0), ⟨"", "", ""⟩, ""),
  (57, .aload_n 0, 1, (0, 0, 0, 0, 0), ⟨"", "", ""⟩, ""),
  (58, .getfield 60, 3, (7, 7, 7, 2, 0), ⟨"", "", ""⟩, "WordHides"),
  (61, .getfield 190, 3, (5, 2, 2, 0, 0), ⟨"", "", ""⟩, "WordHides$GoodSearch"),
  (64, .ifCond .ne 6, 3, (70, 0, 0, 0, 0), ⟨"", "", ""⟩, ""),
  (67, .bipush (-6), 2, (0, 0, 0, 0, 0), ⟨"", "", ""⟩, ""),
  (69, .ireturn, 1, (0, 0, 0, 0, 0), ⟨"", "", ""⟩, ""),
  (70, .iload_n 2, 1, (0, 0, 0, 0, 0), ⟨"", "", ""⟩, ""),
  (71, .ifCond .eq 15, 3, (86, 0, 0, 0, 0), ⟨"", "", ""⟩, ""),
  (74, .aload_n 0, 1, (0, 0, 0, 0, 0), ⟨"", "", ""⟩, ""),
  (75, .getfield 60, 3, (7, 7, 7, 2, 0), ⟨"", "", ""⟩, "WordHides"),
  (78, .iload_n 1, 1, (0, 0, 0, 0, 0), ⟨"", "", ""⟩, ""),
  (79, .bipush 10, 2, (0, 0, 0, 0, 0), ⟨"", "", ""⟩, ""),
  (81, .isub, 1, (0, 0, 0, 0, 0), ⟨"", "", ""⟩, ""),
  (82, .invokevirtual 191, 3, (1, 2, 20, 2, 20), ⟨"WordHides$GoodSearch", "firstPlace", "(I)I"⟩, "WordHides$Search"),
  (85, .ireturn, 1, (0, 0, 0, 0, 0), ⟨"", "", ""⟩, ""),
  (86, .iload_n 1, 1, (0, 0, 0, 0, 0), ⟨"", "", ""⟩, ""),
  (87, .bipush 100, 2, (0, 0, 0, 0, 0), ⟨"", "", ""⟩, ""),
  (89, .isub, 1, (0, 0, 0, 0, 0), ⟨"", "", ""⟩, ""),
  (90, .istore 4, 2, (0, 0, 0, 0, 0), ⟨"", "", ""⟩, ""),
  (92, .aload_n 0, 1, (0, 0, 0, 0, 0), ⟨"", "", ""⟩, ""),
  (93, .getfield 26, 3, (2, 7, 7, 2, 0), ⟨"", "", ""⟩, "WordHides"),
  (96, .getfield 68, 3, (0, 0, 0, 2, 0), ⟨"", "", ""⟩, "WordHides$Board"),
  (99, .getfield 71, 3, (1, 4, 4, 2, 0), ⟨"", "", ""⟩, "WordHides$Square"),
  (102, .iload 4, 2, (0, 0, 0, 0, 0), ⟨"", "", ""⟩, ""),
  (104, .invokevirtual 83, 3, (1, 3, 12, 3, 12), ⟨"WordHides$Lattice", "hasCell", "(I)Z"⟩, ""),
  (107, .ifCond .eq 19, 3, (126, 0, 0, 0, 0), ⟨"", "", ""⟩, ""),
  (110, .aload_n 0, 1, (0, 0, 0, 0, 0), ⟨"", "", ""⟩, ""),
  (111, .getfield 60, 3, (7, 7, 7, 2, 0), ⟨"", "", ""⟩, "WordHides"),
  (114, .getfield 192, 3, (8, 2, 2, 2, 0), ⟨"", "", ""⟩, "WordHides$GoodSearch"),
  (117, .getfield 90, 3, (0, 4, 4, 2, 0), ⟨"", "", ""⟩, "WordHides$Square"),
  (120, .iload 4, 2, (0, 0, 0, 0, 0), ⟨"", "", ""⟩, ""),
  (122, .iaload, 1, (0, 0, 0, 0, 0), ⟨"", "", ""⟩, ""),
  (123, .goto 5, 3, (128, 0, 0, 0, 0), ⟨"", "", ""⟩, ""),
  (126, .bipush (-6), 2, (0, 0, 0, 0, 0), ⟨"", "", ""⟩, ""),
  (128, .ireturn, 1, (0, 0, 0, 0, 0), ⟨"", "", ""⟩, "")])
def pX8_hide : wM := (⟨"WordHides", "hide", "()I"⟩, prog_1_method_17_code, 1, (some .int), 1, [
  (0, .aload_n 0, 1, (0, 0, 0, 0, 0), ⟨"", "", ""⟩, ""),
  (1, .getfield 60, 3, (7, 7, 7, 2, 0), ⟨"", "", ""⟩, "WordHides"),
  (4, .invokevirtual 189, 3, (0, 2, 17, 2, 17), ⟨"WordHides$GoodSearch", "look", "()V"⟩, "WordHides$Search"),
  (7, .aload_n 0, 1, (0, 0, 0, 0, 0), ⟨"", "", ""⟩, ""),
  (8, .getfield 60, 3, (7, 7, 7, 2, 0), ⟨"", "", ""⟩, "WordHides"),
  (11, .getfield 190, 3, (5, 2, 2, 0, 0), ⟨"", "", ""⟩, "WordHides$GoodSearch"),
  (14, .ifCond .ne 6, 3, (20, 0, 0, 0, 0), ⟨"", "", ""⟩, ""),
  (17, .bipush (-5), 2, (0, 0, 0, 0, 0), ⟨"", "", ""⟩, ""),
  (19, .ireturn, 1, (0, 0, 0, 0, 0), ⟨"", "", ""⟩, ""),
  (20, .aload_n 0, 1, (0, 0, 0, 0, 0), ⟨"", "", ""⟩, ""),
  (21, .getfield 26, 3, (2, 7, 7, 2, 0), ⟨"", "", ""⟩, "WordHides"),
  (24, .getfield 68, 3, (0, 0, 0, 2, 0), ⟨"", "", ""⟩, "WordHides$Board"),
  (27, .aload_n 0, 1, (0, 0, 0, 0, 0), ⟨"", "", ""⟩, ""),
  (28, .getfield 60, 3, (7, 7, 7, 2, 0), ⟨"", "", ""⟩, "WordHides"),
  (31, .getfield 192, 3, (8, 2, 2, 2, 0), ⟨"", "", ""⟩, "WordHides$GoodSearch"),
  (34, .invokevirtual 182, 3, (1, 4, 23, 4, 23), ⟨"WordHides$Square", "copyFrom", "(LWordHides$Square;)V"⟩, ""),
  (37, .aload_n 0, 1, (0, 0, 0, 0, 0), ⟨"", "", ""⟩, ""),
  (38, .invokevirtual 80, 3, (0, 7, 63, 7, 63), ⟨"WordHides", "forgetLayings", "()V"⟩, ""),
  (41, .aload_n 0, 1, (0, 0, 0, 0, 0), ⟨"", "", ""⟩, ""),
  (42, .getfield 60, 3, (7, 7, 7, 2, 0), ⟨"", "", ""⟩, "WordHides"),
  (45, .getfield 195, 3, (9, 2, 2, 0, 0), ⟨"", "", ""⟩, "WordHides$GoodSearch"),
  (48, .ireturn, 1, (0, 0, 0, 0, 0), ⟨"", "", ""⟩, "")])
def pX8_image : wM := (⟨"WordHides", "image", "(I)I"⟩, prog_1_method_18_code, 2, (some .int), 2, [
  (0, .iload_n 1, 1, (0, 0, 0, 0, 0), ⟨"", "", ""⟩, ""),
  (1, .ifCond .lt 8, 3, (9, 0, 0, 0, 0), ⟨"", "", ""⟩, ""),
  (4, .iload_n 1, 1, (0, 0, 0, 0, 0), ⟨"", "", ""⟩, ""),
  (5, .iconst 2, 1, (0, 0, 0, 0, 0), ⟨"", "", ""⟩, ""),
  (6, .if_icmp .lt 6, 3, (12, 0, 0, 0, 0), ⟨"", "", ""⟩, ""),
  (9, .bipush (-2), 2, (0, 0, 0, 0, 0), ⟨"", "", ""⟩, ""),
  (11, .ireturn, 1, (0, 0, 0, 0, 0), ⟨"", "", ""⟩, ""),
  (12, .aload_n 0, 1, (0, 0, 0, 0, 0), ⟨"", "", ""⟩, ""),
  (13, .getfield 30, 3, (3, 7, 7, 2, 0), ⟨"", "", ""⟩, "WordHides"),
  (16, .iload_n 1, 1, (0, 0, 0, 0, 0), ⟨"", "", ""⟩, ""),
  (17, .aaload, 1, (0, 0, 0, 0, 0), ⟨"", "", ""⟩, ""),
  (18, .aload_n 0, 1, (0, 0, 0, 0, 0), ⟨"", "", ""⟩, ""),
  (19, .getfield 26, 3, (2, 7, 7, 2, 0), ⟨"", "", ""⟩, "WordHides"),
  (22, .invokevirtual 198, 3, (1, 0, 1, 0, 1), ⟨"WordHides$Board", "copyFrom", "(LWordHides$Board;)V"⟩, ""),
  (25, .aload_n 0, 1, (0, 0, 0, 0, 0), ⟨"", "", ""⟩, ""),
  (26, .dup, 1, (0, 0, 0, 0, 0), ⟨"", "", ""⟩, ""),
  (27, .getfield 64, 3, (8, 7, 7, 0, 0), ⟨"", "", ""⟩, "WordHides"),
  (30, .iconst 1, 1, (0, 0, 0, 0, 0), ⟨"", "", ""⟩, ""),
  (31, .iload_n 1, 1, (0, 0, 0, 0, 0), ⟨"", "", ""⟩, ""),
  (32, .ishl, 1, (0, 0, 0, 0, 0), ⟨"", "", ""⟩, ""),
  (33, .ior, 1, (0, 0, 0, 0, 0), ⟨"", "", ""⟩, ""),
  (34, .putfield 64, 3, (8, 7, 7, 0, 0), ⟨"", "", ""⟩, "WordHides"),
  (37, .iconst 1, 1, (0, 0, 0, 0, 0), ⟨"", "", ""⟩, ""),
  (38, .ireturn, 1, (0, 0, 0, 0, 0), ⟨"", "", ""⟩, "")])
def pX8_restore : wM := (⟨"WordHides", "restore", "(I)I"⟩, prog_1_method_19_code, 2, (some .int), 2, [
  (0, .iload_n 1, 1, (0, 0, 0, 0, 0), ⟨"", "", ""⟩, ""),
  (1, .ifCond .lt 8, 3, (9, 0, 0, 0, 0), ⟨"", "", ""⟩, ""),
  (4, .iload_n 1, 1, (0, 0, 0, 0, 0), ⟨"", "", ""⟩, ""),
  (5, .iconst 2, 1, (0, 0, 0, 0, 0), ⟨"", "", ""⟩, ""),
  (6, .if_icmp .lt 6, 3, (12, 0, 0, 0, 0), ⟨"", "", ""⟩, ""),
  (9, .bipush (-2), 2, (0, 0, 0, 0, 0), ⟨"", "", ""⟩, ""),
  (11, .ireturn, 1, (0, 0, 0, 0, 0), ⟨"", "", ""⟩, ""),
  (12, .aload_n 0, 1, (0, 0, 0, 0, 0), ⟨"", "", ""⟩, ""),
  (13, .getfield 64, 3, (8, 7, 7, 0, 0), ⟨"", "", ""⟩, "WordHides"),
  (16, .iload_n 1, 1, (0, 0, 0, 0, 0), ⟨"", "", ""⟩, ""),
  (17, .ishr, 1, (0, 0, 0, 0, 0), ⟨"", "", ""⟩, ""),
  (18, .iconst 1, 1, (0, 0, 0, 0, 0), ⟨"", "", ""⟩, ""),
  (19, .iand, 1, (0, 0, 0, 0, 0), ⟨"", "", ""⟩, ""),
  (20, .ifCond .ne 6, 3, (26, 0, 0, 0, 0), ⟨"", "", ""⟩, ""),
  (23, .bipush (-3), 2, (0, 0, 0, 0, 0), ⟨"", "", ""⟩, ""),
  (25, .ireturn, 1, (0, 0, 0, 0, 0), ⟨"", "", ""⟩, ""),
  (26, .aload_n 0, 1, (0, 0, 0, 0, 0), ⟨"", "", ""⟩, ""),
  (27, .getfield 26, 3, (2, 7, 7, 2, 0), ⟨"", "", ""⟩, "WordHides"),
  (30, .aload_n 0, 1, (0, 0, 0, 0, 0), ⟨"", "", ""⟩, ""),
  (31, .getfield 30, 3, (3, 7, 7, 2, 0), ⟨"", "", ""⟩, "WordHides"),
  (34, .iload_n 1, 1, (0, 0, 0, 0, 0), ⟨"", "", ""⟩, ""),
  (35, .aaload, 1, (0, 0, 0, 0, 0), ⟨"", "", ""⟩, ""),
  (36, .invokevirtual 198, 3, (1, 0, 1, 0, 1), ⟨"WordHides$Board", "copyFrom", "(LWordHides$Board;)V"⟩, ""),
  (39, .aload_n 0, 1, (0, 0, 0, 0, 0), ⟨"", "", ""⟩, ""),
  (40, .invokevirtual 80, 3, (0, 7, 63, 7, 63), ⟨"WordHides", "forgetLayings", "()V"⟩, ""),
  (43, .iconst 1, 1, (0, 0, 0, 0, 0), ⟨"", "", ""⟩, ""),
  (44, .ireturn, 1, (0, 0, 0, 0, 0), ⟨"", "", ""⟩, "")])
def pX8_count : wM := (⟨"WordHides", "count", "(I)I"⟩, prog_1_method_20_code, 2, (some .int), 2, [
  (0, .iload_n 1, 1, (0, 0, 0, 0, 0), ⟨"", "", ""⟩, ""),
  (1, .tableswitch 114 0 6 #[43, 57, 68, 79, 90, 98, 109], 43, (0, 0, 0, 0, 0), ⟨"", "", ""⟩, ""),
  (44, .aload_n 0, 1, (0, 0, 0, 0, 0), ⟨"", "", ""⟩, ""),
  (45, .getfield 26, 3, (2, 7, 7, 2, 0), ⟨"", "", ""⟩, "WordHides"),
  (48, .getfield 68, 3, (0, 0, 0, 2, 0), ⟨"", "", ""⟩, "WordHides$Board"),
  (51, .getfield 71, 3, (1, 4, 4, 2, 0), ⟨"", "", ""⟩, "WordHides$Square"),
  (54, .getfield 74, 3, (0, 3, 3, 0, 0), ⟨"", "", ""⟩, "WordHides$Lattice"),
  (57, .ireturn, 1, (0, 0, 0, 0, 0), ⟨"", "", ""⟩, ""),
  (58, .aload_n 0, 1, (0, 0, 0, 0, 0), ⟨"", "", ""⟩, ""),
  (59, .getfield 26, 3, (2, 7, 7, 2, 0), ⟨"", "", ""⟩, "WordHides"),
  (62, .getfield 137, 3, (1, 0, 0, 2, 0), ⟨"", "", ""⟩, "WordHides$Board"),
  (65, .getfield 110, 3, (1, 6, 6, 0, 0), ⟨"", "", ""⟩, "WordHides$TextList"),
  (68, .ireturn, 1, (0, 0, 0, 0, 0), ⟨"", "", ""⟩, ""),
  (69, .aload_n 0, 1, (0, 0, 0, 0, 0), ⟨"", "", ""⟩, ""),
  (70, .getfield 26, 3, (2, 7, 7, 2, 0), ⟨"", "", ""⟩, "WordHides"),
  (73, .getfield 200, 3, (2, 0, 0, 2, 0), ⟨"", "", ""⟩, "WordHides$Board"),
  (76, .getfield 110, 3, (1, 6, 6, 0, 0), ⟨"", "", ""⟩, "WordHides$TextList"),
  (79, .ireturn, 1, (0, 0, 0, 0, 0), ⟨"", "", ""⟩, ""),
  (80, .aload_n 0, 1, (0, 0, 0, 0, 0), ⟨"", "", ""⟩, ""),
  (81, .getfield 26, 3, (2, 7, 7, 2, 0), ⟨"", "", ""⟩, "WordHides"),
  (84, .getfield 68, 3, (0, 0, 0, 2, 0), ⟨"", "", ""⟩, "WordHides$Board"),
  (87, .invokevirtual 203, 3, (0, 4, 30, 4, 30), ⟨"WordHides$Square", "emptyCells", "()I"⟩, ""),
  (90, .ireturn, 1, (0, 0, 0, 0, 0), ⟨"", "", ""⟩, ""),
  (91, .aload_n 0, 1, (0, 0, 0, 0, 0), ⟨"", "", ""⟩, ""),
  (92, .getfield 37, 3, (4, 7, 7, 2, 0), ⟨"", "", ""⟩, "WordHides"),
  (95, .getfield 94, 3, (1, 5, 5, 0, 0), ⟨"", "", ""⟩, "WordHides$Text"),
  (98, .ireturn, 1, (0, 0, 0, 0, 0), ⟨"", "", ""⟩, ""),
  (99, .aload_n 0, 1, (0, 0, 0, 0, 0), ⟨"", "", ""⟩, ""),
  (100, .getfield 26, 3, (2, 7, 7, 2, 0), ⟨"", "", ""⟩, "WordHides"),
  (103, .getfield 68, 3, (0, 0, 0, 2, 0), ⟨"", "", ""⟩, "WordHides$Board"),
  (106, .invokevirtual 207, 3, (0, 4, 31, 4, 31), ⟨"WordHides$Square", "unlikeLetters", "()I"⟩, ""),
  (109, .ireturn, 1, (0, 0, 0, 0, 0), ⟨"", "", ""⟩, ""),
  (110, .aload_n 0, 1, (0, 0, 0, 0, 0), ⟨"", "", ""⟩, ""),
  (111, .getfield 64, 3, (8, 7, 7, 0, 0), ⟨"", "", ""⟩, "WordHides"),
  (114, .ireturn, 1, (0, 0, 0, 0, 0), ⟨"", "", ""⟩, ""),
  (115, .bipush (-2), 2, (0, 0, 0, 0, 0), ⟨"", "", ""⟩, ""),
  (117, .ireturn, 1, (0, 0, 0, 0, 0), ⟨"", "", ""⟩, "")])
def pX8_isLetter : wM := (⟨"WordHides", "isLetter", "(I)Z"⟩, prog_1_method_21_code, 1, (some .boolean), 1, [
  (0, .iload_n 0, 1, (0, 0, 0, 0, 0), ⟨"", "", ""⟩, ""),
  (1, .bipush 97, 2, (0, 0, 0, 0, 0), ⟨"", "", ""⟩, ""),
  (3, .if_icmp .lt 13, 3, (16, 0, 0, 0, 0), ⟨"", "", ""⟩, ""),
  (6, .iload_n 0, 1, (0, 0, 0, 0, 0), ⟨"", "", ""⟩, ""),
  (7, .bipush 122, 2, (0, 0, 0, 0, 0), ⟨"", "", ""⟩, ""),
  (9, .if_icmp .gt 7, 3, (16, 0, 0, 0, 0), ⟨"", "", ""⟩, ""),
  (12, .iconst 1, 1, (0, 0, 0, 0, 0), ⟨"", "", ""⟩, ""),
  (13, .goto 4, 3, (17, 0, 0, 0, 0), ⟨"", "", ""⟩, ""),
  (16, .iconst 0, 1, (0, 0, 0, 0, 0), ⟨"", "", ""⟩, ""),
  (17, .ireturn, 1, (1, 0, 0, 0, 0), ⟨"", "", ""⟩, "")])
def pX8_isPlaceAsked : wM := (⟨"WordHides", "isPlaceAsked", "(I)Z"⟩, prog_1_method_22_code, 1, (some .boolean), 1, [
  (0, .iload_n 0, 1, (0, 0, 0, 0, 0), ⟨"", "", ""⟩, ""),
  (1, .bipush 10, 2, (0, 0, 0, 0, 0), ⟨"", "", ""⟩, ""),
  (3, .if_icmp .lt 13, 3, (16, 0, 0, 0, 0), ⟨"", "", ""⟩, ""),
  (6, .iload_n 0, 1, (0, 0, 0, 0, 0), ⟨"", "", ""⟩, ""),
  (7, .bipush 13, 2, (0, 0, 0, 0, 0), ⟨"", "", ""⟩, ""),
  (9, .if_icmp .ge 7, 3, (16, 0, 0, 0, 0), ⟨"", "", ""⟩, ""),
  (12, .iconst 1, 1, (0, 0, 0, 0, 0), ⟨"", "", ""⟩, ""),
  (13, .goto 4, 3, (17, 0, 0, 0, 0), ⟨"", "", ""⟩, ""),
  (16, .iconst 0, 1, (0, 0, 0, 0, 0), ⟨"", "", ""⟩, ""),
  (17, .ireturn, 1, (1, 0, 0, 0, 0), ⟨"", "", ""⟩, "")])
def pX8_listOf : wM := (⟨"WordHides", "listOf", "(I)LWordHides$TextList;"⟩, prog_1_method_23_code, 2, (some (.object "WordHides$TextList")), 2, [
  (0, .iload_n 1, 1, (0, 0, 0, 0, 0), ⟨"", "", ""⟩, ""),
  (1, .ifCond .ne 13, 3, (14, 0, 0, 0, 0), ⟨"", "", ""⟩, ""),
  (4, .aload_n 0, 1, (0, 0, 0, 0, 0), ⟨"", "", ""⟩, ""),
  (5, .getfield 26, 3, (2, 7, 7, 2, 0), ⟨"", "", ""⟩, "WordHides"),
  (8, .getfield 137, 3, (1, 0, 0, 2, 0), ⟨"", "", ""⟩, "WordHides$Board"),
  (11, .goto 10, 3, (21, 0, 0, 0, 0), ⟨"", "", ""⟩, ""),
  (14, .aload_n 0, 1, (0, 0, 0, 0, 0), ⟨"", "", ""⟩, ""),
  (15, .getfield 26, 3, (2, 7, 7, 2, 0), ⟨"", "", ""⟩, "WordHides"),
  (18, .getfield 200, 3, (2, 0, 0, 2, 0), ⟨"", "", ""⟩, "WordHides$Board"),
  (21, .areturn, 1, (0, 0, 0, 0, 0), ⟨"", "", ""⟩, "")])
def pX8_forgetLayings : wM := (⟨"WordHides", "forgetLayings", "()V"⟩, prog_1_method_24_code, 1, none, 1, [
  (0, .aload_n 0, 1, (0, 0, 0, 0, 0), ⟨"", "", ""⟩, ""),
  (1, .getfield 53, 3, (6, 7, 7, 2, 0), ⟨"", "", ""⟩, "WordHides"),
  (4, .iconst 0, 1, (0, 0, 0, 0, 0), ⟨"", "", ""⟩, ""),
  (5, .putfield 210, 3, (6, 1, 1, 1, 0), ⟨"", "", ""⟩, "WordHides$CrossedSearch"),
  (8, .aload_n 0, 1, (0, 0, 0, 0, 0), ⟨"", "", ""⟩, ""),
  (9, .getfield 60, 3, (7, 7, 7, 2, 0), ⟨"", "", ""⟩, "WordHides"),
  (12, .iconst 0, 1, (0, 0, 0, 0, 0), ⟨"", "", ""⟩, ""),
  (13, .putfield 214, 3, (6, 2, 2, 1, 0), ⟨"", "", ""⟩, "WordHides$GoodSearch"),
  (16, .return_, 1, (0, 0, 0, 0, 0), ⟨"", "", ""⟩, "")])
def pX9_init : wM := (⟨"WordHidesModel", "<init>", "()V"⟩, prog_11_method_1_code, 1, none, 1, [
  (0, .aload_n 0, 1, (0, 0, 0, 0, 0), ⟨"", "", ""⟩, ""),
  (1, .invokespecial 1, 3, (0, 0, 0, 0, 1), ⟨"java/lang/Object", "<init>", "()V"⟩, ""),
  (4, .aload_n 0, 1, (0, 0, 0, 0, 0), ⟨"", "", ""⟩, ""),
  (5, .bipush 59, 2, (0, 0, 0, 0, 0), ⟨"", "", ""⟩, ""),
  (7, .newarray .int, 2, (0, 0, 0, 0, 0), ⟨"", "", ""⟩, ""),
  (9, .putfield 7, 3, (0, 8, 8, 2, 0), ⟨"", "", ""⟩, "WordHidesModel"),
  (12, .aload_n 0, 1, (0, 0, 0, 0, 0), ⟨"", "", ""⟩, ""),
  (13, .bipush 118, 2, (0, 0, 0, 0, 0), ⟨"", "", ""⟩, ""),
  (15, .newarray .int, 2, (0, 0, 0, 0, 0), ⟨"", "", ""⟩, ""),
  (17, .putfield 13, 3, (1, 8, 8, 2, 0), ⟨"", "", ""⟩, "WordHidesModel"),
  (20, .aload_n 0, 1, (0, 0, 0, 0, 0), ⟨"", "", ""⟩, ""),
  (21, .iconst 2, 1, (0, 0, 0, 0, 0), ⟨"", "", ""⟩, ""),
  (22, .newarray .boolean, 2, (0, 0, 0, 0, 0), ⟨"", "", ""⟩, ""),
  (24, .putfield 16, 3, (2, 8, 8, 2, 0), ⟨"", "", ""⟩, "WordHidesModel"),
  (27, .aload_n 0, 1, (0, 0, 0, 0, 0), ⟨"", "", ""⟩, ""),
  (28, .bipush 16, 2, (0, 0, 0, 0, 0), ⟨"", "", ""⟩, ""),
  (30, .newarray .int, 2, (0, 0, 0, 0, 0), ⟨"", "", ""⟩, ""),
  (32, .putfield 20, 3, (3, 8, 8, 2, 0), ⟨"", "", ""⟩, "WordHidesModel"),
  (35, .aload_n 0, 1, (0, 0, 0, 0, 0), ⟨"", "", ""⟩, ""),
  (36, .bipush 80, 2, (0, 0, 0, 0, 0), ⟨"", "", ""⟩, ""),
  (38, .newarray .int, 2, (0, 0, 0, 0, 0), ⟨"", "", ""⟩, ""),
  (40, .putfield 23, 3, (5, 8, 8, 2, 0), ⟨"", "", ""⟩, "WordHidesModel"),
  (43, .aload_n 0, 1, (0, 0, 0, 0, 0), ⟨"", "", ""⟩, ""),
  (44, .bipush 80, 2, (0, 0, 0, 0, 0), ⟨"", "", ""⟩, ""),
  (46, .newarray .int, 2, (0, 0, 0, 0, 0), ⟨"", "", ""⟩, ""),
  (48, .putfield 26, 3, (6, 8, 8, 2, 0), ⟨"", "", ""⟩, "WordHidesModel"),
  (51, .aload_n 0, 1, (0, 0, 0, 0, 0), ⟨"", "", ""⟩, ""),
  (52, .iconst 3, 1, (0, 0, 0, 0, 0), ⟨"", "", ""⟩, ""),
  (53, .newarray .int, 2, (0, 0, 0, 0, 0), ⟨"", "", ""⟩, ""),
  (55, .putfield 29, 3, (11, 8, 8, 2, 0), ⟨"", "", ""⟩, "WordHidesModel"),
  (58, .aload_n 0, 1, (0, 0, 0, 0, 0), ⟨"", "", ""⟩, ""),
  (59, .getfield 7, 3, (0, 8, 8, 2, 0), ⟨"", "", ""⟩, "WordHidesModel"),
  (62, .iconst 0, 1, (0, 0, 0, 0, 0), ⟨"", "", ""⟩, ""),
  (63, .iconst 4, 1, (0, 0, 0, 0, 0), ⟨"", "", ""⟩, ""),
  (64, .iastore, 1, (0, 0, 0, 0, 0), ⟨"", "", ""⟩, ""),
  (65, .aload_n 0, 1, (0, 0, 0, 0, 0), ⟨"", "", ""⟩, ""),
  (66, .getfield 7, 3, (0, 8, 8, 2, 0), ⟨"", "", ""⟩, "WordHidesModel"),
  (69, .bipush 17, 2, (0, 0, 0, 0, 0), ⟨"", "", ""⟩, ""),
  (71, .bipush 120, 2, (0, 0, 0, 0, 0), ⟨"", "", ""⟩, ""),
  (73, .iastore, 1, (0, 0, 0, 0, 0), ⟨"", "", ""⟩, ""),
  (74, .aload_n 0, 1, (0, 0, 0, 0, 0), ⟨"", "", ""⟩, ""),
  (75, .getfield 7, 3, (0, 8, 8, 2, 0), ⟨"", "", ""⟩, "WordHidesModel"),
  (78, .bipush 26, 2, (0, 0, 0, 0, 0), ⟨"", "", ""⟩, ""),
  (80, .iconst 1, 1, (0, 0, 0, 0, 0), ⟨"", "", ""⟩, ""),
  (81, .iastore, 1, (0, 0, 0, 0, 0), ⟨"", "", ""⟩, ""),
  (82, .return_, 1, (0, 0, 0, 0, 0), ⟨"", "", ""⟩, "")])
def pX9_in : wM := (⟨"WordHidesModel", "in", "(III)Z"⟩, prog_11_method_2_code, 3, (some .boolean), 3, [
  (0, .iload_n 0, 1, (0, 0, 0, 0, 0), ⟨"", "", ""⟩, ""),
  (1, .iload_n 1, 1, (0, 0, 0, 0, 0), ⟨"", "", ""⟩, ""),
  (2, .if_icmp .lt 12, 3, (14, 0, 0, 0, 0), ⟨"", "", ""⟩, ""),
  (5, .iload_n 0, 1, (0, 0, 0, 0, 0), ⟨"", "", ""⟩, ""),
  (6, .iload_n 2, 1, (0, 0, 0, 0, 0), ⟨"", "", ""⟩, ""),
  (7, .if_icmp .gt 7, 3, (14, 0, 0, 0, 0), ⟨"", "", ""⟩, ""),
  (10, .iconst 1, 1, (0, 0, 0, 0, 0), ⟨"", "", ""⟩, ""),
  (11, .goto 4, 3, (15, 0, 0, 0, 0), ⟨"", "", ""⟩, ""),
  (14, .iconst 0, 1, (0, 0, 0, 0, 0), ⟨"", "", ""⟩, ""),
  (15, .ireturn, 1, (1, 0, 0, 0, 0), ⟨"", "", ""⟩, "")])
def pX9_cells : wM := (⟨"WordHidesModel", "cells", "()I"⟩, prog_11_method_3_code, 1, (some .int), 1, [
  (0, .aload_n 0, 1, (0, 0, 0, 0, 0), ⟨"", "", ""⟩, ""),
  (1, .getfield 7, 3, (0, 8, 8, 2, 0), ⟨"", "", ""⟩, "WordHidesModel"),
  (4, .iconst 0, 1, (0, 0, 0, 0, 0), ⟨"", "", ""⟩, ""),
  (5, .iaload, 1, (0, 0, 0, 0, 0), ⟨"", "", ""⟩, ""),
  (6, .aload_n 0, 1, (0, 0, 0, 0, 0), ⟨"", "", ""⟩, ""),
  (7, .getfield 7, 3, (0, 8, 8, 2, 0), ⟨"", "", ""⟩, "WordHidesModel"),
  (10, .iconst 0, 1, (0, 0, 0, 0, 0), ⟨"", "", ""⟩, ""),
  (11, .iaload, 1, (0, 0, 0, 0, 0), ⟨"", "", ""⟩, ""),
  (12, .imul, 1, (0, 0, 0, 0, 0), ⟨"", "", ""⟩, ""),
  (13, .ireturn, 1, (0, 0, 0, 0, 0), ⟨"", "", ""⟩, "")])
def pX9_isCell : wM := (⟨"WordHidesModel", "isCell", "(I)Z"⟩, prog_11_method_4_code, 2, (some .boolean), 2, [
  (0, .iload_n 1, 1, (0, 0, 0, 0, 0), ⟨"", "", ""⟩, ""),
  (1, .iconst 0, 1, (0, 0, 0, 0, 0), ⟨"", "", ""⟩, ""),
  (2, .aload_n 0, 1, (0, 0, 0, 0, 0), ⟨"", "", ""⟩, ""),
  (3, .invokevirtual 32, 3, (0, 8, 66, 8, 66), ⟨"WordHidesModel", "cells", "()I"⟩, ""),
  (6, .iconst 1, 1, (0, 0, 0, 0, 0), ⟨"", "", ""⟩, ""),
  (7, .isub, 1, (0, 0, 0, 0, 0), ⟨"", "", ""⟩, ""),
  (8, .invokestatic 36, 3, (3, 0, 65, 0, 0), ⟨"WordHidesModel", "in", "(III)Z"⟩, ""),
  (11, .ireturn, 1, (1, 0, 0, 0, 0), ⟨"", "", ""⟩, "")])
def pX9_isLetter : wM := (⟨"WordHidesModel", "isLetter", "(I)Z"⟩, prog_11_method_5_code, 1, (some .boolean), 1, [
  (0, .iload_n 0, 1, (0, 0, 0, 0, 0), ⟨"", "", ""⟩, ""),
  (1, .bipush 97, 2, (0, 0, 0, 0, 0), ⟨"", "", ""⟩, ""),
  (3, .bipush 122, 2, (0, 0, 0, 0, 0), ⟨"", "", ""⟩, ""),
  (5, .invokestatic 36, 3, (3, 0, 65, 0, 0), ⟨"WordHidesModel", "in", "(III)Z"⟩, ""),
  (8, .ireturn, 1, (1, 0, 0, 0, 0), ⟨"", "", ""⟩, "")])
def pX9_isPlace : wM := (⟨"WordHidesModel", "isPlace", "(I)Z"⟩, prog_11_method_6_code, 2, (some .boolean), 2, [
  (0, .iload_n 1, 1, (0, 0, 0, 0, 0), ⟨"", "", ""⟩, ""),
  (1, .iconst 0, 1, (0, 0, 0, 0, 0), ⟨"", "", ""⟩, ""),
  (2, .bipush 8, 2, (0, 0, 0, 0, 0), ⟨"", "", ""⟩, ""),
  (4, .aload_n 0, 1, (0, 0, 0, 0, 0), ⟨"", "", ""⟩, ""),
  (5, .invokevirtual 32, 3, (0, 8, 66, 8, 66), ⟨"WordHidesModel", "cells", "()I"⟩, ""),
  (8, .imul, 1, (0, 0, 0, 0, 0), ⟨"", "", ""⟩, ""),
  (9, .iconst 1, 1, (0, 0, 0, 0, 0), ⟨"", "", ""⟩, ""),
  (10, .isub, 1, (0, 0, 0, 0, 0), ⟨"", "", ""⟩, ""),
  (11, .invokestatic 36, 3, (3, 0, 65, 0, 0), ⟨"WordHidesModel", "in", "(III)Z"⟩, ""),
  (14, .ireturn, 1, (1, 0, 0, 0, 0), ⟨"", "", ""⟩, "")])
def pX9_isWord : wM := (⟨"WordHidesModel", "isWord", "(II)Z"⟩, prog_11_method_7_code, 3, (some .boolean), 3, [
  (0, .iload_n 2, 1, (0, 0, 0, 0, 0), ⟨"", "", ""⟩, ""),
  (1, .iconst 0, 1, (0, 0, 0, 0, 0), ⟨"", "", ""⟩, ""),
  (2, .aload_n 0, 1, (0, 0, 0, 0, 0), ⟨"", "", ""⟩, ""),
  (3, .getfield 7, 3, (0, 8, 8, 2, 0), ⟨"", "", ""⟩, "WordHidesModel"),
  (6, .bipush 27, 2, (0, 0, 0, 0, 0), ⟨"", "", ""⟩, ""),
  (8, .iload_n 1, 1, (0, 0, 0, 0, 0), ⟨"", "", ""⟩, ""),
  (9, .iadd, 1, (0, 0, 0, 0, 0), ⟨"", "", ""⟩, ""),
  (10, .iaload, 1, (0, 0, 0, 0, 0), ⟨"", "", ""⟩, ""),
  (11, .iconst 1, 1, (0, 0, 0, 0, 0), ⟨"", "", ""⟩, ""),
  (12, .isub, 1, (0, 0, 0, 0, 0), ⟨"", "", ""⟩, ""),
  (13, .invokestatic 36, 3, (3, 0, 65, 0, 0), ⟨"WordHidesModel", "in", "(III)Z"⟩, ""),
  (16, .ireturn, 1, (1, 0, 0, 0, 0), ⟨"", "", ""⟩, "")])
def pX9_longOf : wM := (⟨"WordHidesModel", "longOf", "(II)I"⟩, prog_11_method_8_code, 3, (some .int), 3, [
  (0, .aload_n 0, 1, (0, 0, 0, 0, 0), ⟨"", "", ""⟩, ""),
  (1, .getfield 7, 3, (0, 8, 8, 2, 0), ⟨"", "", ""⟩, "WordHidesModel"),
  (4, .bipush 53, 2, (0, 0, 0, 0, 0), ⟨"", "", ""⟩, ""),
  (6, .iconst 3, 1, (0, 0, 0, 0, 0), ⟨"", "", ""⟩, ""),
  (7, .iload_n 1, 1, (0, 0, 0, 0, 0), ⟨"", "", ""⟩, ""),
  (8, .imul, 1, (0, 0, 0, 0, 0), ⟨"", "", ""⟩, ""),
  (9, .iadd, 1, (0, 0, 0, 0, 0), ⟨"", "", ""⟩, ""),
  (10, .iload_n 2, 1, (0, 0, 0, 0, 0), ⟨"", "", ""⟩, ""),
  (11, .iadd, 1, (0, 0, 0, 0, 0), ⟨"", "", ""⟩, ""),
  (12, .iaload, 1, (0, 0, 0, 0, 0), ⟨"", "", ""⟩, ""),
  (13, .ireturn, 1, (0, 0, 0, 0, 0), ⟨"", "", ""⟩, "")])
def pX9_letterOf : wM := (⟨"WordHidesModel", "letterOf", "(III)I"⟩, prog_11_method_9_code, 4, (some .int), 4, [
  (0, .aload_n 0, 1, (0, 0, 0, 0, 0), ⟨"", "", ""⟩, ""),
  (1, .getfield 7, 3, (0, 8, 8, 2, 0), ⟨"", "", ""⟩, "WordHidesModel"),
  (4, .bipush 29, 2, (0, 0, 0, 0, 0), ⟨"", "", ""⟩, ""),
  (6, .bipush 12, 2, (0, 0, 0, 0, 0), ⟨"", "", ""⟩, ""),
  (8, .iload_n 1, 1, (0, 0, 0, 0, 0), ⟨"", "", ""⟩, ""),
  (9, .imul, 1, (0, 0, 0, 0, 0), ⟨"", "", ""⟩, ""),
  (10, .iadd, 1, (0, 0, 0, 0, 0), ⟨"", "", ""⟩, ""),
  (11, .iconst 4, 1, (0, 0, 0, 0, 0), ⟨"", "", ""⟩, ""),
  (12, .iload_n 2, 1, (0, 0, 0, 0, 0), ⟨"", "", ""⟩, ""),
  (13, .imul, 1, (0, 0, 0, 0, 0), ⟨"", "", ""⟩, ""),
  (14, .iadd, 1, (0, 0, 0, 0, 0), ⟨"", "", ""⟩, ""),
  (15, .iload_n 3, 1, (0, 0, 0, 0, 0), ⟨"", "", ""⟩, ""),
  (16, .iadd, 1, (0, 0, 0, 0, 0), ⟨"", "", ""⟩, ""),
  (17, .iaload, 1, (0, 0, 0, 0, 0), ⟨"", "", ""⟩, ""),
  (18, .ireturn, 1, (0, 0, 0, 0, 0), ⟨"", "", ""⟩, "")])
def pX9_side : wM := (⟨"WordHidesModel", "side", "(I)I"⟩, prog_11_method_10_code, 4, (some .int), 2, [
  (0, .iload_n 1, 1, (0, 0, 0, 0, 0), ⟨"", "", ""⟩, ""),
  (1, .iconst 3, 1, (0, 0, 0, 0, 0), ⟨"", "", ""⟩, ""),
  (2, .iconst 4, 1, (0, 0, 0, 0, 0), ⟨"", "", ""⟩, ""),
  (3, .invokestatic 36, 3, (3, 0, 65, 0, 0), ⟨"WordHidesModel", "in", "(III)Z"⟩, ""),
  (6, .ifCond .ne 6, 3, (12, 0, 0, 0, 0), ⟨"", "", ""⟩, ""),
  (9, .bipush (-2), 2, (0, 0, 0, 0, 0), ⟨"", "", ""⟩, ""),
  (11, .ireturn, 1, (0, 0, 0, 0, 0), ⟨"", "", ""⟩, ""),
  (12, .aload_n 0, 1, (0, 0, 0, 0, 0), ⟨"", "", ""⟩, ""),
  (13, .getfield 7, 3, (0, 8, 8, 2, 0), ⟨"", "", ""⟩, "WordHidesModel"),
  (16, .iconst 0, 1, (0, 0, 0, 0, 0), ⟨"", "", ""⟩, ""),
  (17, .iaload, 1, (0, 0, 0, 0, 0), ⟨"", "", ""⟩, ""),
  (18, .istore_n 2, 1, (0, 0, 0, 0, 0), ⟨"", "", ""⟩, ""),
  (19, .aload_n 0, 1, (0, 0, 0, 0, 0), ⟨"", "", ""⟩, ""),
  (20, .getfield 7, 3, (0, 8, 8, 2, 0), ⟨"", "", ""⟩, "WordHidesModel"),
  (23, .iconst 0, 1, (0, 0, 0, 0, 0), ⟨"", "", ""⟩, ""),
  (24, .iload_n 1, 1, (0, 0, 0, 0, 0), ⟨"", "", ""⟩, ""),
  (25, .iastore, 1, (0, 0, 0, 0, 0), ⟨"", "", ""⟩, ""),
  (26, .iconst 0, 1, (0, 0, 0, 0, 0), ⟨"", "", ""⟩, ""),
  (27, .istore_n 3, 1, (0, 0, 0, 0, 0), ⟨"", "", ""⟩, ""),
  (28, .iload_n 3, 1, (0, 0, 0, 0, 0), ⟨"", "", ""⟩, ""),
  (29, .bipush 16, 2, (0, 0, 0, 0, 0), ⟨"", "", ""⟩, ""),
  (31, .if_icmp .ge 18, 3, (49, 0, 0, 0, 0), ⟨"", "", ""⟩, ""),
  (34, .aload_n 0, 1, (0, 0, 0, 0, 0), ⟨"", "", ""⟩, ""),
  (35, .getfield 7, 3, (0, 8, 8, 2, 0), ⟨"", "", ""⟩, "WordHidesModel"),
  (38, .iconst 1, 1, (0, 0, 0, 0, 0), ⟨"", "", ""⟩, ""),
  (39, .iload_n 3, 1, (0, 0, 0, 0, 0), ⟨"", "", ""⟩, ""),
  (40, .iadd, 1, (0, 0, 0, 0, 0), ⟨"", "", ""⟩, ""),
  (41, .iconst 0, 1, (0, 0, 0, 0, 0), ⟨"", "", ""⟩, ""),
  (42, .iastore, 1, (0, 0, 0, 0, 0), ⟨"", "", ""⟩, ""),
  (43, .iinc 3 1, 3, (0, 0, 0, 0, 0), ⟨"", "", ""⟩, ""),
  (46, .goto (-18), 3, (28, 0, 0, 0, 0), ⟨"", "", ""⟩, ""),
  (49, .iload_n 2, 1, (0, 0, 0, 0, 0), ⟨"", "", ""⟩, ""),
  (50, .ireturn, 1, (0, 0, 0, 0, 0), ⟨"", "", ""⟩, "")])
def pX9_set : wM := (⟨"WordHidesModel", "set", "(II)I"⟩, prog_11_method_11_code, 4, (some .int), 3, [
  (0, .aload_n 0, 1, (0, 0, 0, 0, 0), ⟨"", "", ""⟩, ""),
  (1, .iload_n 1, 1, (0, 0, 0, 0, 0), ⟨"", "", ""⟩, ""),
  (2, .invokevirtual 40, 3, (1, 8, 67, 8, 67), ⟨"WordHidesModel", "isCell", "(I)Z"⟩, ""),
  (5, .ifCond .ne 5, 3, (10, 0, 0, 0, 0), ⟨"", "", ""⟩, ""),
  (8, .iconst (-1), 1, (0, 0, 0, 0, 0), ⟨"", "", ""⟩, ""),
  (9, .ireturn, 1, (0, 0, 0, 0, 0), ⟨"", "", ""⟩, ""),
  (10, .iload_n 2, 1, (0, 0, 0, 0, 0), ⟨"", "", ""⟩, ""),
  (11, .ifCond .eq 13, 3, (24, 0, 0, 0, 0), ⟨"", "", ""⟩, ""),
  (14, .iload_n 2, 1, (0, 0, 0, 0, 0), ⟨"", "", ""⟩, ""),
  (15, .invokestatic 44, 3, (1, 0, 68, 0, 0), ⟨"WordHidesModel", "isLetter", "(I)Z"⟩, ""),
  (18, .ifCond .ne 6, 3, (24, 0, 0, 0, 0), ⟨"", "", ""⟩, ""),
  (21, .bipush (-2), 2, (0, 0, 0, 0, 0), ⟨"", "", ""⟩, ""),
  (23, .ireturn, 1, (0, 0, 0, 0, 0), ⟨"", "", ""⟩, ""),
  (24, .aload_n 0, 1, (0, 0, 0, 0, 0), ⟨"", "", ""⟩, ""),
  (25, .getfield 7, 3, (0, 8, 8, 2, 0), ⟨"", "", ""⟩, "WordHidesModel"),
  (28, .iconst 1, 1, (0, 0, 0, 0, 0), ⟨"", "", ""⟩, ""),
  (29, .iload_n 1, 1, (0, 0, 0, 0, 0), ⟨"", "", ""⟩, ""),
  (30, .iadd, 1, (0, 0, 0, 0, 0), ⟨"", "", ""⟩, ""),
  (31, .iaload, 1, (0, 0, 0, 0, 0), ⟨"", "", ""⟩, ""),
  (32, .istore_n 3, 1, (0, 0, 0, 0, 0), ⟨"", "", ""⟩, ""),
  (33, .aload_n 0, 1, (0, 0, 0, 0, 0), ⟨"", "", ""⟩, ""),
  (34, .getfield 7, 3, (0, 8, 8, 2, 0), ⟨"", "", ""⟩, "WordHidesModel"),
  (37, .iconst 1, 1, (0, 0, 0, 0, 0), ⟨"", "", ""⟩, ""),
  (38, .iload_n 1, 1, (0, 0, 0, 0, 0), ⟨"", "", ""⟩, ""),
  (39, .iadd, 1, (0, 0, 0, 0, 0), ⟨"", "", ""⟩, ""),
  (40, .iload_n 2, 1, (0, 0, 0, 0, 0), ⟨"", "", ""⟩, ""),
  (41, .iastore, 1, (0, 0, 0, 0, 0), ⟨"", "", ""⟩, ""),
  (42, .iload_n 3, 1, (0, 0, 0, 0, 0), ⟨"", "", ""⟩, ""),
  (43, .ireturn, 1, (0, 0, 0, 0, 0), ⟨"", "", ""⟩, "")])
def pX9_at : wM := (⟨"WordHidesModel", "at", "(I)I"⟩, prog_11_method_12_code, 2, (some .int), 2, [
  (0, .aload_n 0, 1, (0, 0, 0, 0, 0), ⟨"", "", ""⟩, ""),
  (1, .iload_n 1, 1, (0, 0, 0, 0, 0), ⟨"", "", ""⟩, ""),
  (2, .invokevirtual 40, 3, (1, 8, 67, 8, 67), ⟨"WordHidesModel", "isCell", "(I)Z"⟩, ""),
  (5, .ifCond .ne 5, 3, (10, 0, 0, 0, 0), ⟨"", "", ""⟩, ""),
  (8, .iconst (-1), 1, (0, 0, 0, 0, 0), ⟨"", "", ""⟩, ""),
  (9, .ireturn, 1, (0, 0, 0, 0, 0), ⟨"", "", ""⟩, ""),
  (10, .aload_n 0, 1, (0, 0, 0, 0, 0), ⟨"", "", ""⟩, ""),
  (11, .getfield 7, 3, (0, 8, 8, 2, 0), ⟨"", "", ""⟩, "WordHidesModel"),
  (14, .iconst 1, 1, (0, 0, 0, 0, 0), ⟨"", "", ""⟩, ""),
  (15, .iload_n 1, 1, (0, 0, 0, 0, 0), ⟨"", "", ""⟩, ""),
  (16, .iadd, 1, (0, 0, 0, 0, 0), ⟨"", "", ""⟩, ""),
  (17, .iaload, 1, (0, 0, 0, 0, 0), ⟨"", "", ""⟩, ""),
  (18, .ifCond .ne 8, 3, (26, 0, 0, 0, 0), ⟨"", "", ""⟩, ""),
  (21, .bipush (-6), 2, (0, 0, 0, 0, 0), ⟨"", "", ""⟩, ""),
  (23, .goto 11, 3, (34, 0, 0, 0, 0), ⟨"", "", ""⟩, ""),
  (26, .aload_n 0, 1, (0, 0, 0, 0, 0), ⟨"", "", ""⟩, ""),
  (27, .getfield 7, 3, (0, 8, 8, 2, 0), ⟨"", "", ""⟩, "WordHidesModel"),
  (30, .iconst 1, 1, (0, 0, 0, 0, 0), ⟨"", "", ""⟩, ""),
  (31, .iload_n 1, 1, (0, 0, 0, 0, 0), ⟨"", "", ""⟩, ""),
  (32, .iadd, 1, (0, 0, 0, 0, 0), ⟨"", "", ""⟩, ""),
  (33, .iaload, 1, (0, 0, 0, 0, 0), ⟨"", "", ""⟩, ""),
  (34, .ireturn, 1, (0, 0, 0, 0, 0), ⟨"", "", ""⟩, "")])
def pX9_say : wM := (⟨"WordHidesModel", "say", "(I)I"⟩, prog_11_method_13_code, 2, (some .int), 2, [
  (0, .iload_n 1, 1, (0, 0, 0, 0, 0), ⟨"", "", ""⟩, ""),
  (1, .invokestatic 44, 3, (1, 0, 68, 0, 0), ⟨"WordHidesModel", "isLetter", "(I)Z"⟩, ""),
  (4, .ifCond .ne 6, 3, (10, 0, 0, 0, 0), ⟨"", "", ""⟩, ""),
  (7, .bipush (-2), 2, (0, 0, 0, 0, 0), ⟨"", "", ""⟩, ""),
  (9, .ireturn, 1, (0, 0, 0, 0, 0), ⟨"", "", ""⟩, ""),
  (10, .aload_n 0, 1, (0, 0, 0, 0, 0), ⟨"", "", ""⟩, ""),
  (11, .getfield 47, 3, (4, 8, 8, 0, 0), ⟨"", "", ""⟩, "WordHidesModel"),
  (14, .bipush 16, 2, (0, 0, 0, 0, 0), ⟨"", "", ""⟩, ""),
  (16, .if_icmp .ne 6, 3, (22, 0, 0, 0, 0), ⟨"", "", ""⟩, ""),
  (19, .bipush (-4), 2, (0, 0, 0, 0, 0), ⟨"", "", ""⟩, ""),
  (21, .ireturn, 1, (0, 0, 0, 0, 0), ⟨"", "", ""⟩, ""),
  (22, .aload_n 0, 1, (0, 0, 0, 0, 0), ⟨"", "", ""⟩, ""),
  (23, .getfield 20, 3, (3, 8, 8, 2, 0), ⟨"", "", ""⟩, "WordHidesModel"),
  (26, .aload_n 0, 1, (0, 0, 0, 0, 0), ⟨"", "", ""⟩, ""),
  (27, .getfield 47, 3, (4, 8, 8, 0, 0), ⟨"", "", ""⟩, "WordHidesModel"),
  (30, .iload_n 1, 1, (0, 0, 0, 0, 0), ⟨"", "", ""⟩, ""),
  (31, .iastore, 1, (0, 0, 0, 0, 0), ⟨"", "", ""⟩, ""),
  (32, .aload_n 0, 1, (0, 0, 0, 0, 0), ⟨"", "", ""⟩, ""),
  (33, .dup, 1, (0, 0, 0, 0, 0), ⟨"", "", ""⟩, ""),
  (34, .getfield 47, 3, (4, 8, 8, 0, 0), ⟨"", "", ""⟩, "WordHidesModel"),
  (37, .iconst 1, 1, (0, 0, 0, 0, 0), ⟨"", "", ""⟩, ""),
  (38, .iadd, 1, (0, 0, 0, 0, 0), ⟨"", "", ""⟩, ""),
  (39, .putfield 47, 3, (4, 8, 8, 0, 0), ⟨"", "", ""⟩, "WordHidesModel"),
  (42, .aload_n 0, 1, (0, 0, 0, 0, 0), ⟨"", "", ""⟩, ""),
  (43, .getfield 47, 3, (4, 8, 8, 0, 0), ⟨"", "", ""⟩, "WordHidesModel"),
  (46, .ireturn, 1, (0, 0, 0, 0, 0), ⟨"", "", ""⟩, "")])
def pX9_wipe : wM := (⟨"WordHidesModel", "wipe", "()I"⟩, prog_11_method_14_code, 2, (some .int), 1, [
  (0, .aload_n 0, 1, (0, 0, 0, 0, 0), ⟨"", "", ""⟩, ""),
  (1, .getfield 47, 3, (4, 8, 8, 0, 0), ⟨"", "", ""⟩, "WordHidesModel"),
  (4, .istore_n 1, 1, (0, 0, 0, 0, 0), ⟨"", "", ""⟩, ""),
  (5, .aload_n 0, 1, (0, 0, 0, 0, 0), ⟨"", "", ""⟩, ""),
  (6, .iconst 0, 1, (0, 0, 0, 0, 0), ⟨"", "", ""⟩, ""),
  (7, .putfield 47, 3, (4, 8, 8, 0, 0), ⟨"", "", ""⟩, "WordHidesModel"),
  (10, .iload_n 1, 1, (0, 0, 0, 0, 0), ⟨"", "", ""⟩, ""),
  (11, .ireturn, 1, (0, 0, 0, 0, 0), ⟨"", "", ""⟩, "")])
def pX9_takeRest : wM := (⟨"WordHidesModel", "takeRest", "()I"⟩, prog_11_method_15_code, 2, (some .int), 1, [
  (0, .iconst 0, 1, (0, 0, 0, 0, 0), ⟨"", "", ""⟩, ""),
  (1, .istore_n 1, 1, (0, 0, 0, 0, 0), ⟨"", "", ""⟩, ""),
  (2, .iload_n 1, 1, (0, 0, 0, 0, 0), ⟨"", "", ""⟩, ""),
  (3, .aload_n 0, 1, (0, 0, 0, 0, 0), ⟨"", "", ""⟩, ""),
  (4, .getfield 47, 3, (4, 8, 8, 0, 0), ⟨"", "", ""⟩, "WordHidesModel"),
  (7, .if_icmp .ge 24, 3, (31, 0, 0, 0, 0), ⟨"", "", ""⟩, ""),
  (10, .aload_n 0, 1, (0, 0, 0, 0, 0), ⟨"", "", ""⟩, ""),
  (11, .getfield 7, 3, (0, 8, 8, 2, 0), ⟨"", "", ""⟩, "WordHidesModel"),
  (14, .bipush 17, 2, (0, 0, 0, 0, 0), ⟨"", "", ""⟩, ""),
  (16, .iload_n 1, 1, (0, 0, 0, 0, 0), ⟨"", "", ""⟩, ""),
  (17, .iadd, 1, (0, 0, 0, 0, 0), ⟨"", "", ""⟩, ""),
  (18, .aload_n 0, 1, (0, 0, 0, 0, 0), ⟨"", "", ""⟩, ""),
  (19, .getfield 20, 3, (3, 8, 8, 2, 0), ⟨"", "", ""⟩, "WordHidesModel"),
  (22, .iload_n 1, 1, (0, 0, 0, 0, 0), ⟨"", "", ""⟩, ""),
  (23, .iaload, 1, (0, 0, 0, 0, 0), ⟨"", "", ""⟩, ""),
  (24, .iastore, 1, (0, 0, 0, 0, 0), ⟨"", "", ""⟩, ""),
  (25, .iinc 1 1, 3, (0, 0, 0, 0, 0), ⟨"", "", ""⟩, ""),
  (28, .goto (-26), 3, (2, 0, 0, 0, 0), ⟨"", "", ""⟩, ""),
  (31, .aload_n 0, 1, (0, 0, 0, 0, 0), ⟨"", "", ""⟩, ""),
  (32, .getfield 7, 3, (0, 8, 8, 2, 0), ⟨"", "", ""⟩, "WordHidesModel"),
  (35, .bipush 26, 2, (0, 0, 0, 0, 0), ⟨"", "", ""⟩, ""),
  (37, .aload_n 0, 1, (0, 0, 0, 0, 0), ⟨"", "", ""⟩, ""),
  (38, .getfield 47, 3, (4, 8, 8, 0, 0), ⟨"", "", ""⟩, "WordHidesModel"),
  (41, .iastore, 1, (0, 0, 0, 0, 0), ⟨"", "", ""⟩, ""),
  (42, .aload_n 0, 1, (0, 0, 0, 0, 0), ⟨"", "", ""⟩, ""),
  (43, .iconst 0, 1, (0, 0, 0, 0, 0), ⟨"", "", ""⟩, ""),
  (44, .putfield 47, 3, (4, 8, 8, 0, 0), ⟨"", "", ""⟩, "WordHidesModel"),
  (47, .aload_n 0, 1, (0, 0, 0, 0, 0), ⟨"", "", ""⟩, ""),
  (48, .getfield 7, 3, (0, 8, 8, 2, 0), ⟨"", "", ""⟩, "WordHidesModel"),
  (51, .bipush 26, 2, (0, 0, 0, 0, 0), ⟨"", "", ""⟩, ""),
  (53, .iaload, 1, (0, 0, 0, 0, 0), ⟨"", "", ""⟩, ""),
  (54, .ireturn, 1, (0, 0, 0, 0, 0), ⟨"", "", ""⟩, "")])
def pX9_take : wM := (⟨"WordHidesModel", "take", "(I)I"⟩, prog_11_method_16_code, 4, (some .int), 2, [
  (0, .iload_n 1, 1, (0, 0, 0, 0, 0), ⟨"", "", ""⟩, ""),
  (1, .iconst 0, 1, (0, 0, 0, 0, 0), ⟨"", "", ""⟩, ""),
  (2, .iconst 2, 1, (0, 0, 0, 0, 0), ⟨"", "", ""⟩, ""),
  (3, .invokestatic 36, 3, (3, 0, 65, 0, 0), ⟨"WordHidesModel", "in", "(III)Z"⟩, ""),
  (6, .ifCond .ne 6, 3, (12, 0, 0, 0, 0), ⟨"", "", ""⟩, ""),
  (9, .bipush (-2), 2, (0, 0, 0, 0, 0), ⟨"", "", ""⟩, ""),
  (11, .ireturn, 1, (0, 0, 0, 0, 0), ⟨"", "", ""⟩, ""),
  (12, .aload_n 0, 1, (0, 0, 0, 0, 0), ⟨"", "", ""⟩, ""),
  (13, .getfield 47, 3, (4, 8, 8, 0, 0), ⟨"", "", ""⟩, "WordHidesModel"),
  (16, .iload_n 1, 1, (0, 0, 0, 0, 0), ⟨"", "", ""⟩, ""),
  (17, .ifCond .ne 7, 3, (24, 0, 0, 0, 0), ⟨"", "", ""⟩, ""),
  (20, .iconst 3, 1, (0, 0, 0, 0, 0), ⟨"", "", ""⟩, ""),
  (21, .goto 13, 3, (34, 0, 0, 0, 0), ⟨"", "", ""⟩, ""),
  (24, .iload_n 1, 1, (0, 0, 0, 0, 0), ⟨"", "", ""⟩, ""),
  (25, .iconst 1, 1, (0, 0, 0, 0, 0), ⟨"", "", ""⟩, ""),
  (26, .if_icmp .ne 7, 3, (33, 0, 0, 0, 0), ⟨"", "", ""⟩, ""),
  (29, .iconst 2, 1, (0, 0, 0, 0, 0), ⟨"", "", ""⟩, ""),
  (30, .goto 4, 3, (34, 0, 0, 0, 0), ⟨"", "", ""⟩, ""),
  (33, .iconst 1, 1, (0, 0, 0, 0, 0), ⟨"", "", ""⟩, ""),
  (34, .iload_n 1, 1, (0, 0, 0, 0, 0), ⟨"", "", ""⟩, ""),
  (35, .iconst 2, 1, (0, 0, 0, 0, 0), ⟨"", "", ""⟩, ""),
  (36, .if_icmp .ne 8, 3, (44, 0, 0, 0, 0), ⟨"", "", ""⟩, ""),
  (39, .bipush 9, 2, (0, 0, 0, 0, 0), ⟨"", "", ""⟩, ""),
  (41, .goto 4, 3, (45, 0, 0, 0, 0), ⟨"", "", ""⟩, ""),
  (44, .iconst 4, 1, (0, 0, 0, 0, 0), ⟨"", "", ""⟩, ""),
  (45, .invokestatic 36, 3, (3, 0, 65, 0, 0), ⟨"WordHidesModel", "in", "(III)Z"⟩, ""),
  (48, .ifCond .ne 6, 3, (54, 0, 0, 0, 0), ⟨"", "", ""⟩, ""),
  (51, .bipush (-7), 2, (0, 0, 0, 0, 0), ⟨"", "", ""⟩, ""),
  (53, .ireturn, 1, (0, 0, 0, 0, 0), ⟨"", "", ""⟩, ""),
  (54, .iload_n 1, 1, (0, 0, 0, 0, 0), ⟨"", "", ""⟩, ""),
  (55, .iconst 2, 1, (0, 0, 0, 0, 0), ⟨"", "", ""⟩, ""),
  (56, .if_icmp .ne 8, 3, (64, 0, 0, 0, 0), ⟨"", "", ""⟩, ""),
  (59, .aload_n 0, 1, (0, 0, 0, 0, 0), ⟨"", "", ""⟩, ""),
  (60, .invokevirtual 51, 3, (0, 8, 78, 8, 78), ⟨"WordHidesModel", "takeRest", "()I"⟩, ""),
  (63, .ireturn, 1, (0, 0, 0, 0, 0), ⟨"", "", ""⟩, ""),
  (64, .aload_n 0, 1, (0, 0, 0, 0, 0), ⟨"", "", ""⟩, ""),
  (65, .getfield 7, 3, (0, 8, 8, 2, 0), ⟨"", "", ""⟩, "WordHidesModel"),
  (68, .bipush 27, 2, (0, 0, 0, 0, 0), ⟨"", "", ""⟩, ""),
  (70, .iload_n 1, 1, (0, 0, 0, 0, 0), ⟨"", "", ""⟩, ""),
  (71, .iadd, 1, (0, 0, 0, 0, 0), ⟨"", "", ""⟩, ""),
  (72, .iaload, 1, (0, 0, 0, 0, 0), ⟨"", "", ""⟩, ""),
  (73, .istore_n 2, 1, (0, 0, 0, 0, 0), ⟨"", "", ""⟩, ""),
  (74, .iload_n 2, 1, (0, 0, 0, 0, 0), ⟨"", "", ""⟩, ""),
  (75, .iconst 3, 1, (0, 0, 0, 0, 0), ⟨"", "", ""⟩, ""),
  (76, .if_icmp .ne 6, 3, (82, 0, 0, 0, 0), ⟨"", "", ""⟩, ""),
  (79, .bipush (-4), 2, (0, 0, 0, 0, 0), ⟨"", "", ""⟩, ""),
  (81, .ireturn, 1, (0, 0, 0, 0, 0), ⟨"", "", ""⟩, ""),
  (82, .iconst 0, 1, (0, 0, 0, 0, 0), ⟨"", "", ""⟩, ""),
  (83, .istore_n 3, 1, (0, 0, 0, 0, 0), ⟨"", "", ""⟩, ""),
  (84, .iload_n 3, 1, (0, 0, 0, 0, 0), ⟨"", "", ""⟩, ""),
  (85, .aload_n 0, 1, (0, 0, 0, 0, 0), ⟨"", "", ""⟩, ""),
  (86, .getfield 47, 3, (4, 8, 8, 0, 0), ⟨"", "", ""⟩, "WordHidesModel"),
  (89, .if_icmp .ge 33, 3, (122, 0, 0, 0, 0), ⟨"", "", ""⟩, ""),
  (92, .aload_n 0, 1, (0, 0, 0, 0, 0), ⟨"", "", ""⟩, ""),
  (93, .getfield 7, 3, (0, 8, 8, 2, 0), ⟨"", "", ""⟩, "WordHidesModel"),
  (96, .bipush 29, 2, (0, 0, 0, 0, 0), ⟨"", "", ""⟩, ""),
  (98, .bipush 12, 2, (0, 0, 0, 0, 0), ⟨"", "", ""⟩, ""),
  (100, .iload_n 1, 1, (0, 0, 0, 0, 0), ⟨"", "", ""⟩, ""),
  (101, .imul, 1, (0, 0, 0, 0, 0), ⟨"", "", ""⟩, ""),
  (102, .iadd, 1, (0, 0, 0, 0, 0), ⟨"", "", ""⟩, ""),
  (103, .iconst 4, 1, (0, 0, 0, 0, 0), ⟨"", "", ""⟩, ""),
  (104, .iload_n 2, 1, (0, 0, 0, 0, 0), ⟨"", "", ""⟩, ""),
  (105, .imul, 1, (0, 0, 0, 0, 0), ⟨"", "", ""⟩, ""),
  (106, .iadd, 1, (0, 0, 0, 0, 0), ⟨"", "", ""⟩, ""),
  (107, .iload_n 3, 1, (0, 0, 0, 0, 0), ⟨"", "", ""⟩, ""),
  (108, .iadd, 1, (0, 0, 0, 0, 0), ⟨"", "", ""⟩, ""),
  (109, .aload_n 0, 1, (0, 0, 0, 0, 0), ⟨"", "", ""⟩, ""),
  (110, .getfield 20, 3, (3, 8, 8, 2, 0), ⟨"", "", ""⟩, "WordHidesModel"),
  (113, .iload_n 3, 1, (0, 0, 0, 0, 0), ⟨"", "", ""⟩, ""),
  (114, .iaload, 1, (0, 0, 0, 0, 0), ⟨"", "", ""⟩, ""),
  (115, .iastore, 1, (0, 0, 0, 0, 0), ⟨"", "", ""⟩, ""),
  (116, .iinc 3 1, 3, (0, 0, 0, 0, 0), ⟨"", "", ""⟩, ""),
  (119, .goto (-35), 3, (84, 0, 0, 0, 0), ⟨"", "", ""⟩, ""),
  (122, .aload_n 0, 1, (0, 0, 0, 0, 0), ⟨"", "", ""⟩, ""),
  (123, .getfield 7, 3, (0, 8, 8, 2, 0), ⟨"", "", ""⟩, "WordHidesModel"),
  (126, .bipush 53, 2, (0, 0, 0, 0, 0), ⟨"", "", ""⟩, ""),
  (128, .iconst 3, 1, (0, 0, 0, 0, 0), ⟨"", "", ""⟩, ""),
  (129, .iload_n 1, 1, (0, 0, 0, 0, 0), ⟨"", "", ""⟩, ""),
  (130, .imul, 1, (0, 0, 0, 0, 0), ⟨"", "", ""⟩, ""),
  (131, .iadd, 1, (0, 0, 0, 0, 0), ⟨"", "", ""⟩, ""),
  (132, .iload_n 2, 1, (0, 0, 0, 0, 0), ⟨"", "", ""⟩, ""),
  (133, .iadd, 1, (0, 0, 0, 0, 0), ⟨"", "", ""⟩, ""),
  (134, .aload_n 0, 1, (0, 0, 0, 0, 0), ⟨"", "", ""⟩, ""),
  (135, .getfield 47, 3, (4, 8, 8, 0, 0), ⟨"", "", ""⟩, "WordHidesModel"),
  (138, .iastore, 1, (0, 0, 0, 0, 0), ⟨"", "", ""⟩, ""),
  (139, .aload_n 0, 1, (0, 0, 0, 0, 0), ⟨"", "", ""⟩, ""),
  (140, .getfield 7, 3, (0, 8, 8, 2, 0), ⟨"", "", ""⟩, "WordHidesModel"),
  (143, .bipush 27, 2, (0, 0, 0, 0, 0), ⟨"", "", ""⟩, ""),
  (145, .iload_n 1, 1, (0, 0, 0, 0, 0), ⟨"", "", ""⟩, ""),
  (146, .iadd, 1, (0, 0, 0, 0, 0), ⟨"", "", ""⟩, ""),
  (147, .dup2, 1, (0, 0, 0, 0, 0), ⟨"", "", ""⟩, ""),
  (148, .iaload, 1, (0, 0, 0, 0, 0), ⟨"", "", ""⟩, ""),
  (149, .iconst 1, 1, (0, 0, 0, 0, 0), ⟨"", "", ""⟩, ""),
  (150, .iadd, 1, (0, 0, 0, 0, 0), ⟨"", "", ""⟩, ""),
  (151, .iastore, 1, (0, 0, 0, 0, 0), ⟨"", "", ""⟩, ""),
  (152, .aload_n 0, 1, (0, 0, 0, 0, 0), ⟨"", "", ""⟩, ""),
  (153, .iconst 0, 1, (0, 0, 0, 0, 0), ⟨"", "", ""⟩, ""),
  (154, .putfield 47, 3, (4, 8, 8, 0, 0), ⟨"", "", ""⟩, "WordHidesModel"),
  (157, .iload_n 2, 1, (0, 0, 0, 0, 0), ⟨"", "", ""⟩, ""),
  (158, .ireturn, 1, (0, 0, 0, 0, 0), ⟨"", "", ""⟩, "")])
def pX9_drop : wM := (⟨"WordHidesModel", "drop", "(I)I"⟩, prog_11_method_17_code, 3, (some .int), 2, [
  (0, .iload_n 1, 1, (0, 0, 0, 0, 0), ⟨"", "", ""⟩, ""),
  (1, .iconst 0, 1, (0, 0, 0, 0, 0), ⟨"", "", ""⟩, ""),
  (2, .iconst 1, 1, (0, 0, 0, 0, 0), ⟨"", "", ""⟩, ""),
  (3, .invokestatic 36, 3, (3, 0, 65, 0, 0), ⟨"WordHidesModel", "in", "(III)Z"⟩, ""),
  (6, .ifCond .ne 6, 3, (12, 0, 0, 0, 0), ⟨"", "", ""⟩, ""),
  (9, .bipush (-2), 2, (0, 0, 0, 0, 0), ⟨"", "", ""⟩, ""),
  (11, .ireturn, 1, (0, 0, 0, 0, 0), ⟨"", "", ""⟩, ""),
  (12, .aload_n 0, 1, (0, 0, 0, 0, 0), ⟨"", "", ""⟩, ""),
  (13, .getfield 7, 3, (0, 8, 8, 2, 0), ⟨"", "", ""⟩, "WordHidesModel"),
  (16, .bipush 27, 2, (0, 0, 0, 0, 0), ⟨"", "", ""⟩, ""),
  (18, .iload_n 1, 1, (0, 0, 0, 0, 0), ⟨"", "", ""⟩, ""),
  (19, .iadd, 1, (0, 0, 0, 0, 0), ⟨"", "", ""⟩, ""),
  (20, .iaload, 1, (0, 0, 0, 0, 0), ⟨"", "", ""⟩, ""),
  (21, .istore_n 2, 1, (0, 0, 0, 0, 0), ⟨"", "", ""⟩, ""),
  (22, .aload_n 0, 1, (0, 0, 0, 0, 0), ⟨"", "", ""⟩, ""),
  (23, .getfield 7, 3, (0, 8, 8, 2, 0), ⟨"", "", ""⟩, "WordHidesModel"),
  (26, .bipush 27, 2, (0, 0, 0, 0, 0), ⟨"", "", ""⟩, ""),
  (28, .iload_n 1, 1, (0, 0, 0, 0, 0), ⟨"", "", ""⟩, ""),
  (29, .iadd, 1, (0, 0, 0, 0, 0), ⟨"", "", ""⟩, ""),
  (30, .iconst 0, 1, (0, 0, 0, 0, 0), ⟨"", "", ""⟩, ""),
  (31, .iastore, 1, (0, 0, 0, 0, 0), ⟨"", "", ""⟩, ""),
  (32, .iload_n 2, 1, (0, 0, 0, 0, 0), ⟨"", "", ""⟩, ""),
  (33, .ireturn, 1, (0, 0, 0, 0, 0), ⟨"", "", ""⟩, "")])
def pX9_fill : wM := (⟨"WordHidesModel", "fill", "()I"⟩, prog_11_method_18_code, 3, (some .int), 1, [
  (0, .aload_n 0, 1, (0, 0, 0, 0, 0), ⟨"", "", ""⟩, ""),
  (1, .getfield 47, 3, (4, 8, 8, 0, 0), ⟨"", "", ""⟩, "WordHidesModel"),
  (4, .aload_n 0, 1, (0, 0, 0, 0, 0), ⟨"", "", ""⟩, ""),
  (5, .invokevirtual 32, 3, (0, 8, 66, 8, 66), ⟨"WordHidesModel", "cells", "()I"⟩, ""),
  (8, .if_icmp .eq 6, 3, (14, 0, 0, 0, 0), ⟨"", "", ""⟩, ""),
  (11, .bipush (-7), 2, (0, 0, 0, 0, 0), ⟨"", "", ""⟩, ""),
  (13, .ireturn, 1, (0, 0, 0, 0, 0), ⟨"", "", ""⟩, ""),
  (14, .iconst 0, 1, (0, 0, 0, 0, 0), ⟨"", "", ""⟩, ""),
  (15, .istore_n 1, 1, (0, 0, 0, 0, 0), ⟨"", "", ""⟩, ""),
  (16, .iconst 0, 1, (0, 0, 0, 0, 0), ⟨"", "", ""⟩, ""),
  (17, .istore_n 2, 1, (0, 0, 0, 0, 0), ⟨"", "", ""⟩, ""),
  (18, .iload_n 2, 1, (0, 0, 0, 0, 0), ⟨"", "", ""⟩, ""),
  (19, .aload_n 0, 1, (0, 0, 0, 0, 0), ⟨"", "", ""⟩, ""),
  (20, .getfield 47, 3, (4, 8, 8, 0, 0), ⟨"", "", ""⟩, "WordHidesModel"),
  (23, .if_icmp .ge 48, 3, (71, 0, 0, 0, 0), ⟨"", "", ""⟩, ""),
  (26, .iload_n 1, 1, (0, 0, 0, 0, 0), ⟨"", "", ""⟩, ""),
  (27, .aload_n 0, 1, (0, 0, 0, 0, 0), ⟨"", "", ""⟩, ""),
  (28, .getfield 7, 3, (0, 8, 8, 2, 0), ⟨"", "", ""⟩, "WordHidesModel"),
  (31, .iconst 1, 1, (0, 0, 0, 0, 0), ⟨"", "", ""⟩, ""),
  (32, .iload_n 2, 1, (0, 0, 0, 0, 0), ⟨"", "", ""⟩, ""),
  (33, .iadd, 1, (0, 0, 0, 0, 0), ⟨"", "", ""⟩, ""),
  (34, .iaload, 1, (0, 0, 0, 0, 0), ⟨"", "", ""⟩, ""),
  (35, .aload_n 0, 1, (0, 0, 0, 0, 0), ⟨"", "", ""⟩, ""),
  (36, .getfield 20, 3, (3, 8, 8, 2, 0), ⟨"", "", ""⟩, "WordHidesModel"),
  (39, .iload_n 2, 1, (0, 0, 0, 0, 0), ⟨"", "", ""⟩, ""),
  (40, .iaload, 1, (0, 0, 0, 0, 0), ⟨"", "", ""⟩, ""),
  (41, .if_icmp .ne 7, 3, (48, 0, 0, 0, 0), ⟨"", "", ""⟩, ""),
  (44, .iconst 0, 1, (0, 0, 0, 0, 0), ⟨"", "", ""⟩, ""),
  (45, .goto 4, 3, (49, 0, 0, 0, 0), ⟨"", "", ""⟩, ""),
  (48, .iconst 1, 1, (0, 0, 0, 0, 0), ⟨"", "", ""⟩, ""),
  (49, .iadd, 1, (0, 0, 0, 0, 0), ⟨"", "", ""⟩, ""),
  (50, .istore_n 1, 1, (0, 0, 0, 0, 0), ⟨"", "", ""⟩, ""),
  (51, .aload_n 0, 1, (0, 0, 0, 0, 0), ⟨"", "", ""⟩, ""),
  (52, .getfield 7, 3, (0, 8, 8, 2, 0), ⟨"", "", ""⟩, "WordHidesModel"),
  (55, .iconst 1, 1, (0, 0, 0, 0, 0), ⟨"", "", ""⟩, ""),
  (56, .iload_n 2, 1, (0, 0, 0, 0, 0), ⟨"", "", ""⟩, ""),
  (57, .iadd, 1, (0, 0, 0, 0, 0), ⟨"", "", ""⟩, ""),
  (58, .aload_n 0, 1, (0, 0, 0, 0, 0), ⟨"", "", ""⟩, ""),
  (59, .getfield 20, 3, (3, 8, 8, 2, 0), ⟨"", "", ""⟩, "WordHidesModel"),
  (62, .iload_n 2, 1, (0, 0, 0, 0, 0), ⟨"", "", ""⟩, ""),
  (63, .iaload, 1, (0, 0, 0, 0, 0), ⟨"", "", ""⟩, ""),
  (64, .iastore, 1, (0, 0, 0, 0, 0), ⟨"", "", ""⟩, ""),
  (65, .iinc 2 1, 3, (0, 0, 0, 0, 0), ⟨"", "", ""⟩, ""),
  (68, .goto (-50), 3, (18, 0, 0, 0, 0), ⟨"", "", ""⟩, ""),
  (71, .aload_n 0, 1, (0, 0, 0, 0, 0), ⟨"", "", ""⟩, ""),
  (72, .iconst 0, 1, (0, 0, 0, 0, 0), ⟨"", "", ""⟩, ""),
  (73, .putfield 47, 3, (4, 8, 8, 0, 0), ⟨"", "", ""⟩, "WordHidesModel"),
  (76, .iload_n 1, 1, (0, 0, 0, 0, 0), ⟨"", "", ""⟩, ""),
  (77, .ireturn, 1, (0, 0, 0, 0, 0), ⟨"", "", ""⟩, "")])
def pX9_letter : wM := (⟨"WordHidesModel", "letter", "(III)I"⟩, prog_11_method_19_code, 4, (some .int), 4, [
  (0, .iload_n 1, 1, (0, 0, 0, 0, 0), ⟨"", "", ""⟩, ""),
  (1, .iconst 0, 1, (0, 0, 0, 0, 0), ⟨"", "", ""⟩, ""),
  (2, .iconst 2, 1, (0, 0, 0, 0, 0), ⟨"", "", ""⟩, ""),
  (3, .invokestatic 36, 3, (3, 0, 65, 0, 0), ⟨"WordHidesModel", "in", "(III)Z"⟩, ""),
  (6, .ifCond .eq 8, 3, (14, 0, 0, 0, 0), ⟨"", "", ""⟩, ""),
  (9, .iload_n 3, 1, (0, 0, 0, 0, 0), ⟨"", "", ""⟩, ""),
  (10, .iconst (-1), 1, (0, 0, 0, 0, 0), ⟨"", "", ""⟩, ""),
  (11, .if_icmp .ge 6, 3, (17, 0, 0, 0, 0), ⟨"", "", ""⟩, ""),
  (14, .bipush (-2), 2, (0, 0, 0, 0, 0), ⟨"", "", ""⟩, ""),
  (16, .ireturn, 1, (0, 0, 0, 0, 0), ⟨"", "", ""⟩, ""),
  (17, .iload_n 1, 1, (0, 0, 0, 0, 0), ⟨"", "", ""⟩, ""),
  (18, .iconst 2, 1, (0, 0, 0, 0, 0), ⟨"", "", ""⟩, ""),
  (19, .if_icmp .ne 44, 3, (63, 0, 0, 0, 0), ⟨"", "", ""⟩, ""),
  (22, .iload_n 3, 1, (0, 0, 0, 0, 0), ⟨"", "", ""⟩, ""),
  (23, .iconst (-1), 1, (0, 0, 0, 0, 0), ⟨"", "", ""⟩, ""),
  (24, .if_icmp .ne 13, 3, (37, 0, 0, 0, 0), ⟨"", "", ""⟩, ""),
  (27, .aload_n 0, 1, (0, 0, 0, 0, 0), ⟨"", "", ""⟩, ""),
  (28, .getfield 7, 3, (0, 8, 8, 2, 0), ⟨"", "", ""⟩, "WordHidesModel"),
  (31, .bipush 26, 2, (0, 0, 0, 0, 0), ⟨"", "", ""⟩, ""),
  (33, .iaload, 1, (0, 0, 0, 0, 0), ⟨"", "", ""⟩, ""),
  (34, .goto 28, 3, (62, 0, 0, 0, 0), ⟨"", "", ""⟩, ""),
  (37, .iload_n 3, 1, (0, 0, 0, 0, 0), ⟨"", "", ""⟩, ""),
  (38, .aload_n 0, 1, (0, 0, 0, 0, 0), ⟨"", "", ""⟩, ""),
  (39, .getfield 7, 3, (0, 8, 8, 2, 0), ⟨"", "", ""⟩, "WordHidesModel"),
  (42, .bipush 26, 2, (0, 0, 0, 0, 0), ⟨"", "", ""⟩, ""),
  (44, .iaload, 1, (0, 0, 0, 0, 0), ⟨"", "", ""⟩, ""),
  (45, .if_icmp .ge 15, 3, (60, 0, 0, 0, 0), ⟨"", "", ""⟩, ""),
  (48, .aload_n 0, 1, (0, 0, 0, 0, 0), ⟨"", "", ""⟩, ""),
  (49, .getfield 7, 3, (0, 8, 8, 2, 0), ⟨"", "", ""⟩, "WordHidesModel"),
  (52, .bipush 17, 2, (0, 0, 0, 0, 0), ⟨"", "", ""⟩, ""),
  (54, .iload_n 3, 1, (0, 0, 0, 0, 0), ⟨"", "", ""⟩, ""),
  (55, .iadd, 1, (0, 0, 0, 0, 0), ⟨"", "", ""⟩, ""),
  (56, .iaload, 1, (0, 0, 0, 0, 0), ⟨"", "", ""⟩, ""),
  (57, .goto 5, 3, (62, 0, 0, 0, 0), ⟨"", "", ""⟩, ""),
  (60, .bipush (-6), 2, (0, 0, 0, 0, 0), ⟨"", "", ""⟩, ""),
  (62, .ireturn, 1, (0, 0, 0, 0, 0), ⟨"", "", ""⟩, ""),
  (63, .aload_n 0, 1, (0, 0, 0, 0, 0), ⟨"", "", ""⟩, ""),
  (64, .iload_n 1, 1, (0, 0, 0, 0, 0), ⟨"", "", ""⟩, ""),
  (65, .iload_n 2, 1, (0, 0, 0, 0, 0), ⟨"", "", ""⟩, ""),
  (66, .invokevirtual 54, 3, (2, 8, 70, 8, 70), ⟨"WordHidesModel", "isWord", "(II)Z"⟩, ""),
  (69, .ifCond .ne 5, 3, (74, 0, 0, 0, 0), ⟨"", "", ""⟩, ""),
  (72, .iconst (-1), 1, (0, 0, 0, 0, 0), ⟨"", "", ""⟩, ""),
  (73, .ireturn, 1, (0, 0, 0, 0, 0), ⟨"", "", ""⟩, ""),
  (74, .iload_n 3, 1, (0, 0, 0, 0, 0), ⟨"", "", ""⟩, ""),
  (75, .iconst (-1), 1, (0, 0, 0, 0, 0), ⟨"", "", ""⟩, ""),
  (76, .if_icmp .ne 12, 3, (88, 0, 0, 0, 0), ⟨"", "", ""⟩, ""),
  (79, .aload_n 0, 1, (0, 0, 0, 0, 0), ⟨"", "", ""⟩, ""),
  (80, .iload_n 1, 1, (0, 0, 0, 0, 0), ⟨"", "", ""⟩, ""),
  (81, .iload_n 2, 1, (0, 0, 0, 0, 0), ⟨"", "", ""⟩, ""),
  (82, .invokevirtual 58, 3, (2, 8, 71, 8, 71), ⟨"WordHidesModel", "longOf", "(II)I"⟩, ""),
  (85, .goto 25, 3, (110, 0, 0, 0, 0), ⟨"", "", ""⟩, ""),
  (88, .iload_n 3, 1, (0, 0, 0, 0, 0), ⟨"", "", ""⟩, ""),
  (89, .aload_n 0, 1, (0, 0, 0, 0, 0), ⟨"", "", ""⟩, ""),
  (90, .iload_n 1, 1, (0, 0, 0, 0, 0), ⟨"", "", ""⟩, ""),
  (91, .iload_n 2, 1, (0, 0, 0, 0, 0), ⟨"", "", ""⟩, ""),
  (92, .invokevirtual 58, 3, (2, 8, 71, 8, 71), ⟨"WordHidesModel", "longOf", "(II)I"⟩, ""),
  (95, .if_icmp .ge 13, 3, (108, 0, 0, 0, 0), ⟨"", "", ""⟩, ""),
  (98, .aload_n 0, 1, (0, 0, 0, 0, 0), ⟨"", "", ""⟩, ""),
  (99, .iload_n 1, 1, (0, 0, 0, 0, 0), ⟨"", "", ""⟩, ""),
  (100, .iload_n 2, 1, (0, 0, 0, 0, 0), ⟨"", "", ""⟩, ""),
  (101, .iload_n 3, 1, (0, 0, 0, 0, 0), ⟨"", "", ""⟩, ""),
  (102, .invokevirtual 62, 3, (3, 8, 72, 8, 72), ⟨"WordHidesModel", "letterOf", "(III)I"⟩, ""),
  (105, .goto 5, 3, (110, 0, 0, 0, 0), ⟨"", "", ""⟩, ""),
  (108, .bipush (-6), 2, (0, 0, 0, 0, 0), ⟨"", "", ""⟩, ""),
  (110, .ireturn, 1, (0, 0, 0, 0, 0), ⟨"", "", ""⟩, "")])
def pX9_across : wM := (⟨"WordHidesModel", "across", "(I)I"⟩, prog_11_method_20_code, 1, (some .int), 1, [
  (0, .iload_n 0, 1, (0, 0, 0, 0, 0), ⟨"", "", ""⟩, ""),
  (1, .ifCond .eq 14, 3, (15, 0, 0, 0, 0), ⟨"", "", ""⟩, ""),
  (4, .iload_n 0, 1, (0, 0, 0, 0, 0), ⟨"", "", ""⟩, ""),
  (5, .iconst 1, 1, (0, 0, 0, 0, 0), ⟨"", "", ""⟩, ""),
  (6, .if_icmp .eq 9, 3, (15, 0, 0, 0, 0), ⟨"", "", ""⟩, ""),
  (9, .iload_n 0, 1, (0, 0, 0, 0, 0), ⟨"", "", ""⟩, ""),
  (10, .bipush 7, 2, (0, 0, 0, 0, 0), ⟨"", "", ""⟩, ""),
  (12, .if_icmp .ne 7, 3, (19, 0, 0, 0, 0), ⟨"", "", ""⟩, ""),
  (15, .iconst 1, 1, (0, 0, 0, 0, 0), ⟨"", "", ""⟩, ""),
  (16, .goto 19, 3, (35, 0, 0, 0, 0), ⟨"", "", ""⟩, ""),
  (19, .iload_n 0, 1, (0, 0, 0, 0, 0), ⟨"", "", ""⟩, ""),
  (20, .iconst 2, 1, (0, 0, 0, 0, 0), ⟨"", "", ""⟩, ""),
  (21, .if_icmp .eq 9, 3, (30, 0, 0, 0, 0), ⟨"", "", ""⟩, ""),
  (24, .iload_n 0, 1, (0, 0, 0, 0, 0), ⟨"", "", ""⟩, ""),
  (25, .bipush 6, 2, (0, 0, 0, 0, 0), ⟨"", "", ""⟩, ""),
  (27, .if_icmp .ne 7, 3, (34, 0, 0, 0, 0), ⟨"", "", ""⟩, ""),
  (30, .iconst 0, 1, (0, 0, 0, 0, 0), ⟨"", "", ""⟩, ""),
  (31, .goto 4, 3, (35, 0, 0, 0, 0), ⟨"", "", ""⟩, ""),
  (34, .iconst (-1), 1, (0, 0, 0, 0, 0), ⟨"", "", ""⟩, ""),
  (35, .ireturn, 1, (0, 0, 0, 0, 0), ⟨"", "", ""⟩, "")])
def pX9_down : wM := (⟨"WordHidesModel", "down", "(I)I"⟩, prog_11_method_21_code, 1, (some .int), 1, [
  (0, .iload_n 0, 1, (0, 0, 0, 0, 0), ⟨"", "", ""⟩, ""),
  (1, .iconst 1, 1, (0, 0, 0, 0, 0), ⟨"", "", ""⟩, ""),
  (2, .iconst 3, 1, (0, 0, 0, 0, 0), ⟨"", "", ""⟩, ""),
  (3, .invokestatic 36, 3, (3, 0, 65, 0, 0), ⟨"WordHidesModel", "in", "(III)Z"⟩, ""),
  (6, .ifCond .eq 7, 3, (13, 0, 0, 0, 0), ⟨"", "", ""⟩, ""),
  (9, .iconst 1, 1, (0, 0, 0, 0, 0), ⟨"", "", ""⟩, ""),
  (10, .goto 18, 3, (28, 0, 0, 0, 0), ⟨"", "", ""⟩, ""),
  (13, .iload_n 0, 1, (0, 0, 0, 0, 0), ⟨"", "", ""⟩, ""),
  (14, .iconst 5, 1, (0, 0, 0, 0, 0), ⟨"", "", ""⟩, ""),
  (15, .bipush 7, 2, (0, 0, 0, 0, 0), ⟨"", "", ""⟩, ""),
  (17, .invokestatic 36, 3, (3, 0, 65, 0, 0), ⟨"WordHidesModel", "in", "(III)Z"⟩, ""),
  (20, .ifCond .eq 7, 3, (27, 0, 0, 0, 0), ⟨"", "", ""⟩, ""),
  (23, .iconst (-1), 1, (0, 0, 0, 0, 0), ⟨"", "", ""⟩, ""),
  (24, .goto 4, 3, (28, 0, 0, 0, 0), ⟨"", "", ""⟩, ""),
  (27, .iconst 0, 1, (0, 0, 0, 0, 0), ⟨"", "", ""⟩, ""),
  (28, .ireturn, 1, (0, 0, 0, 0, 0), ⟨"", "", ""⟩, "")])
def pX9_cellAt : wM := (⟨"WordHidesModel", "cellAt", "(II)I"⟩, prog_11_method_22_code, 6, (some .int), 3, [
  (0, .aload_n 0, 1, (0, 0, 0, 0, 0), ⟨"", "", ""⟩, ""),
  (1, .getfield 7, 3, (0, 8, 8, 2, 0), ⟨"", "", ""⟩, "WordHidesModel"),
  (4, .iconst 0, 1, (0, 0, 0, 0, 0), ⟨"", "", ""⟩, ""),
  (5, .iaload, 1, (0, 0, 0, 0, 0), ⟨"", "", ""⟩, ""),
  (6, .istore_n 3, 1, (0, 0, 0, 0, 0), ⟨"", "", ""⟩, ""),
  (7, .iload_n 1, 1, (0, 0, 0, 0, 0), ⟨"", "", ""⟩, ""),
  (8, .bipush 8, 2, (0, 0, 0, 0, 0), ⟨"", "", ""⟩, ""),
  (10, .idiv, 1, (0, 0, 0, 0, 0), ⟨"", "", ""⟩, ""),
  (11, .iload_n 3, 1, (0, 0, 0, 0, 0), ⟨"", "", ""⟩, ""),
  (12, .irem, 1, (0, 0, 0, 0, 0), ⟨"", "", ""⟩, ""),
  (13, .iload_n 1, 1, (0, 0, 0, 0, 0), ⟨"", "", ""⟩, ""),
  (14, .bipush 8, 2, (0, 0, 0, 0, 0), ⟨"", "", ""⟩, ""),
  (16, .irem, 1, (0, 0, 0, 0, 0), ⟨"", "", ""⟩, ""),
  (17, .invokestatic 66, 3, (1, 0, 83, 0, 0), ⟨"WordHidesModel", "across", "(I)I"⟩, ""),
  (20, .iload_n 2, 1, (0, 0, 0, 0, 0), ⟨"", "", ""⟩, ""),
  (21, .imul, 1, (0, 0, 0, 0, 0), ⟨"", "", ""⟩, ""),
  (22, .iadd, 1, (0, 0, 0, 0, 0), ⟨"", "", ""⟩, ""),
  (23, .istore 4, 2, (0, 0, 0, 0, 0), ⟨"", "", ""⟩, ""),
  (25, .iload_n 1, 1, (0, 0, 0, 0, 0), ⟨"", "", ""⟩, ""),
  (26, .bipush 8, 2, (0, 0, 0, 0, 0), ⟨"", "", ""⟩, ""),
  (28, .idiv, 1, (0, 0, 0, 0, 0), ⟨"", "", ""⟩, ""),
  (29, .iload_n 3, 1, (0, 0, 0, 0, 0), ⟨"", "", ""⟩, ""),
  (30, .idiv, 1, (0, 0, 0, 0, 0), ⟨"", "", ""⟩, ""),
  (31, .iload_n 1, 1, (0, 0, 0, 0, 0), ⟨"", "", ""⟩, ""),
  (32, .bipush 8, 2, (0, 0, 0, 0, 0), ⟨"", "", ""⟩, ""),
  (34, .irem, 1, (0, 0, 0, 0, 0), ⟨"", "", ""⟩, ""),
  (35, .invokestatic 70, 3, (1, 0, 84, 0, 0), ⟨"WordHidesModel", "down", "(I)I"⟩, ""),
  (38, .iload_n 2, 1, (0, 0, 0, 0, 0), ⟨"", "", ""⟩, ""),
  (39, .imul, 1, (0, 0, 0, 0, 0), ⟨"", "", ""⟩, ""),
  (40, .iadd, 1, (0, 0, 0, 0, 0), ⟨"", "", ""⟩, ""),
  (41, .istore 5, 2, (0, 0, 0, 0, 0), ⟨"", "", ""⟩, ""),
  (43, .iload 4, 2, (0, 0, 0, 0, 0), ⟨"", "", ""⟩, ""),
  (45, .iconst 0, 1, (0, 0, 0, 0, 0), ⟨"", "", ""⟩, ""),
  (46, .iload_n 3, 1, (0, 0, 0, 0, 0), ⟨"", "", ""⟩, ""),
  (47, .iconst 1, 1, (0, 0, 0, 0, 0), ⟨"", "", ""⟩, ""),
  (48, .isub, 1, (0, 0, 0, 0, 0), ⟨"", "", ""⟩, ""),
  (49, .invokestatic 36, 3, (3, 0, 65, 0, 0), ⟨"WordHidesModel", "in", "(III)Z"⟩, ""),
  (52, .ifCond .eq 25, 3, (77, 0, 0, 0, 0), ⟨"", "", ""⟩, ""),
  (55, .iload 5, 2, (0, 0, 0, 0, 0), ⟨"", "", ""⟩, ""),
  (57, .iconst 0, 1, (0, 0, 0, 0, 0), ⟨"", "", ""⟩, ""),
  (58, .iload_n 3, 1, (0, 0, 0, 0, 0), ⟨"", "", ""⟩, ""),
  (59, .iconst 1, 1, (0, 0, 0, 0, 0), ⟨"", "", ""⟩, ""),
  (60, .isub, 1, (0, 0, 0, 0, 0), ⟨"", "", ""⟩, ""),
  (61, .invokestatic 36, 3, (3, 0, 65, 0, 0), ⟨"WordHidesModel", "in", "(III)Z"⟩, ""),
  (64, .ifCond .eq 13, 3, (77, 0, 0, 0, 0), ⟨"", "", ""⟩, ""),
  (67, .iload_n 3, 1, (0, 0, 0, 0, 0), ⟨"", "", ""⟩, ""),
  (68, .iload 5, 2, (0, 0, 0, 0, 0), ⟨"", "", ""⟩, ""),
  (70, .imul, 1, (0, 0, 0, 0, 0), ⟨"", "", ""⟩, ""),
  (71, .iload 4, 2, (0, 0, 0, 0, 0), ⟨"", "", ""⟩, ""),
  (73, .iadd, 1, (0, 0, 0, 0, 0), ⟨"", "", ""⟩, ""),
  (74, .goto 5, 3, (79, 0, 0, 0, 0), ⟨"", "", ""⟩, ""),
  (77, .bipush (-6), 2, (0, 0, 0, 0, 0), ⟨"", "", ""⟩, ""),
  (79, .ireturn, 1, (0, 0, 0, 0, 0), ⟨"", "", ""⟩, "")])
def pX9_canLie : wM := (⟨"WordHidesModel", "canLie", "(II)Z"⟩, prog_11_method_23_code, 3, (some .boolean), 3, [
  (0, .aload_n 0, 1, (0, 0, 0, 0, 0), ⟨"", "", ""⟩, ""),
  (1, .iload_n 1, 1, (0, 0, 0, 0, 0), ⟨"", "", ""⟩, ""),
  (2, .iload_n 2, 1, (0, 0, 0, 0, 0), ⟨"", "", ""⟩, ""),
  (3, .iconst 1, 1, (0, 0, 0, 0, 0), ⟨"", "", ""⟩, ""),
  (4, .isub, 1, (0, 0, 0, 0, 0), ⟨"", "", ""⟩, ""),
  (5, .invokevirtual 73, 3, (2, 8, 85, 8, 85), ⟨"WordHidesModel", "cellAt", "(II)I"⟩, ""),
  (8, .ifCond .lt 7, 3, (15, 0, 0, 0, 0), ⟨"", "", ""⟩, ""),
  (11, .iconst 1, 1, (0, 0, 0, 0, 0), ⟨"", "", ""⟩, ""),
  (12, .goto 4, 3, (16, 0, 0, 0, 0), ⟨"", "", ""⟩, ""),
  (15, .iconst 0, 1, (0, 0, 0, 0, 0), ⟨"", "", ""⟩, ""),
  (16, .ireturn, 1, (1, 0, 0, 0, 0), ⟨"", "", ""⟩, "")])
def pX9_begin : wM := (⟨"WordHidesModel", "begin", "()V"⟩, prog_11_method_24_code, 2, none, 1, [
  (0, .iconst 0, 1, (0, 0, 0, 0, 0), ⟨"", "", ""⟩, ""),
  (1, .istore_n 1, 1, (0, 0, 0, 0, 0), ⟨"", "", ""⟩, ""),
  (2, .iload_n 1, 1, (0, 0, 0, 0, 0), ⟨"", "", ""⟩, ""),
  (3, .bipush 16, 2, (0, 0, 0, 0, 0), ⟨"", "", ""⟩, ""),
  (5, .if_icmp .ge 30, 3, (35, 0, 0, 0, 0), ⟨"", "", ""⟩, ""),
  (8, .aload_n 0, 1, (0, 0, 0, 0, 0), ⟨"", "", ""⟩, ""),
  (9, .getfield 23, 3, (5, 8, 8, 2, 0), ⟨"", "", ""⟩, "WordHidesModel"),
  (12, .iload_n 1, 1, (0, 0, 0, 0, 0), ⟨"", "", ""⟩, ""),
  (13, .aload_n 0, 1, (0, 0, 0, 0, 0), ⟨"", "", ""⟩, ""),
  (14, .getfield 7, 3, (0, 8, 8, 2, 0), ⟨"", "", ""⟩, "WordHidesModel"),
  (17, .iconst 1, 1, (0, 0, 0, 0, 0), ⟨"", "", ""⟩, ""),
  (18, .iload_n 1, 1, (0, 0, 0, 0, 0), ⟨"", "", ""⟩, ""),
  (19, .iadd, 1, (0, 0, 0, 0, 0), ⟨"", "", ""⟩, ""),
  (20, .iaload, 1, (0, 0, 0, 0, 0), ⟨"", "", ""⟩, ""),
  (21, .iastore, 1, (0, 0, 0, 0, 0), ⟨"", "", ""⟩, ""),
  (22, .aload_n 0, 1, (0, 0, 0, 0, 0), ⟨"", "", ""⟩, ""),
  (23, .getfield 26, 3, (6, 8, 8, 2, 0), ⟨"", "", ""⟩, "WordHidesModel"),
  (26, .iload_n 1, 1, (0, 0, 0, 0, 0), ⟨"", "", ""⟩, ""),
  (27, .iconst 0, 1, (0, 0, 0, 0, 0), ⟨"", "", ""⟩, ""),
  (28, .iastore, 1, (0, 0, 0, 0, 0), ⟨"", "", ""⟩, ""),
  (29, .iinc 1 1, 3, (0, 0, 0, 0, 0), ⟨"", "", ""⟩, ""),
  (32, .goto (-30), 3, (2, 0, 0, 0, 0), ⟨"", "", ""⟩, ""),
  (35, .return_, 1, (0, 0, 0, 0, 0), ⟨"", "", ""⟩, "")])
def pX9_copyStep : wM := (⟨"WordHidesModel", "copyStep", "(I)V"⟩, prog_11_method_25_code, 3, none, 2, [
  (0, .iconst 0, 1, (0, 0, 0, 0, 0), ⟨"", "", ""⟩, ""),
  (1, .istore_n 2, 1, (0, 0, 0, 0, 0), ⟨"", "", ""⟩, ""),
  (2, .iload_n 2, 1, (0, 0, 0, 0, 0), ⟨"", "", ""⟩, ""),
  (3, .bipush 16, 2, (0, 0, 0, 0, 0), ⟨"", "", ""⟩, ""),
  (5, .if_icmp .ge 57, 3, (62, 0, 0, 0, 0), ⟨"", "", ""⟩, ""),
  (8, .aload_n 0, 1, (0, 0, 0, 0, 0), ⟨"", "", ""⟩, ""),
  (9, .getfield 23, 3, (5, 8, 8, 2, 0), ⟨"", "", ""⟩, "WordHidesModel"),
  (12, .bipush 16, 2, (0, 0, 0, 0, 0), ⟨"", "", ""⟩, ""),
  (14, .iload_n 1, 1, (0, 0, 0, 0, 0), ⟨"", "", ""⟩, ""),
  (15, .iconst 1, 1, (0, 0, 0, 0, 0), ⟨"", "", ""⟩, ""),
  (16, .iadd, 1, (0, 0, 0, 0, 0), ⟨"", "", ""⟩, ""),
  (17, .imul, 1, (0, 0, 0, 0, 0), ⟨"", "", ""⟩, ""),
  (18, .iload_n 2, 1, (0, 0, 0, 0, 0), ⟨"", "", ""⟩, ""),
  (19, .iadd, 1, (0, 0, 0, 0, 0), ⟨"", "", ""⟩, ""),
  (20, .aload_n 0, 1, (0, 0, 0, 0, 0), ⟨"", "", ""⟩, ""),
  (21, .getfield 23, 3, (5, 8, 8, 2, 0), ⟨"", "", ""⟩, "WordHidesModel"),
  (24, .bipush 16, 2, (0, 0, 0, 0, 0), ⟨"", "", ""⟩, ""),
  (26, .iload_n 1, 1, (0, 0, 0, 0, 0), ⟨"", "", ""⟩, ""),
  (27, .imul, 1, (0, 0, 0, 0, 0), ⟨"", "", ""⟩, ""),
  (28, .iload_n 2, 1, (0, 0, 0, 0, 0), ⟨"", "", ""⟩, ""),
  (29, .iadd, 1, (0, 0, 0, 0, 0), ⟨"", "", ""⟩, ""),
  (30, .iaload, 1, (0, 0, 0, 0, 0), ⟨"", "", ""⟩, ""),
  (31, .iastore, 1, (0, 0, 0, 0, 0), ⟨"", "", ""⟩, ""),
  (32, .aload_n 0, 1, (0, 0, 0, 0, 0), ⟨"", "", ""⟩, ""),
  (33, .getfield 26, 3, (6, 8, 8, 2, 0), ⟨"", "", ""⟩, "WordHidesModel"),
  (36, .bipush 16, 2, (0, 0, 0, 0, 0), ⟨"", "", ""⟩, ""),
  (38, .iload_n 1, 1, (0, 0, 0, 0, 0), ⟨"", "", ""⟩, ""),
  (39, .iconst 1, 1, (0, 0, 0, 0, 0), ⟨"", "", ""⟩, ""),
  (40, .iadd, 1, (0, 0, 0, 0, 0), ⟨"", "", ""⟩, ""),
  (41, .imul, 1, (0, 0, 0, 0, 0), ⟨"", "", ""⟩, ""),
  (42, .iload_n 2, 1, (0, 0, 0, 0, 0), ⟨"", "", ""⟩, ""),
  (43, .iadd, 1, (0, 0, 0, 0, 0), ⟨"", "", ""⟩, ""),
  (44, .aload_n 0, 1, (0, 0, 0, 0, 0), ⟨"", "", ""⟩, ""),
  (45, .getfield 26, 3, (6, 8, 8, 2, 0), ⟨"", "", ""⟩, "WordHidesModel"),
  (48, .bipush 16, 2, (0, 0, 0, 0, 0), ⟨"", "", ""⟩, ""),
  (50, .iload_n 1, 1, (0, 0, 0, 0, 0), ⟨"", "", ""⟩, ""),
  (51, .imul, 1, (0, 0, 0, 0, 0), ⟨"", "", ""⟩, ""),
  (52, .iload_n 2, 1, (0, 0, 0, 0, 0), ⟨"", "", ""⟩, ""),
  (53, .iadd, 1, (0, 0, 0, 0, 0), ⟨"", "", ""⟩, ""),
  (54, .iaload, 1, (0, 0, 0, 0, 0), ⟨"", "", ""⟩, ""),
  (55, .iastore, 1, (0, 0, 0, 0, 0), ⟨"", "", ""⟩, ""),
  (56, .iinc 2 1, 3, (0, 0, 0, 0, 0), ⟨"", "", ""⟩, ""),
  (59, .goto (-57), 3, (2, 0, 0, 0, 0), ⟨"", "", ""⟩, ""),
  (62, .return_, 1, (0, 0, 0, 0, 0), ⟨"", "", ""⟩, "")])
def pX9_layWord : wM := (⟨"WordHidesModel", "layWord", "(II)Z"⟩, prog_11_method_26_code, 6, (some .boolean), 3, [
  (0, .aload_n 0, 1, (0, 0, 0, 0, 0), ⟨"", "", ""⟩, ""),
  (1, .iload_n 2, 1, (0, 0, 0, 0, 0), ⟨"", "", ""⟩, ""),
  (2, .aload_n 0, 1, (0, 0, 0, 0, 0), ⟨"", "", ""⟩, ""),
  (3, .iconst 0, 1, (0, 0, 0, 0, 0), ⟨"", "", ""⟩, ""),
  (4, .iload_n 1, 1, (0, 0, 0, 0, 0), ⟨"", "", ""⟩, ""),
  (5, .invokevirtual 58, 3, (2, 8, 71, 8, 71), ⟨"WordHidesModel", "longOf", "(II)I"⟩, ""),
  (8, .invokevirtual 76, 3, (2, 8, 86, 8, 86), ⟨"WordHidesModel", "canLie", "(II)Z"⟩, ""),
  (11, .ifCond .ne 5, 3, (16, 0, 0, 0, 0), ⟨"", "", ""⟩, ""),
  (14, .iconst 0, 1, (0, 0, 0, 0, 0), ⟨"", "", ""⟩, ""),
  (15, .ireturn, 1, (1, 0, 0, 0, 0), ⟨"", "", ""⟩, ""),
  (16, .aload_n 0, 1, (0, 0, 0, 0, 0), ⟨"", "", ""⟩, ""),
  (17, .iload_n 1, 1, (0, 0, 0, 0, 0), ⟨"", "", ""⟩, ""),
  (18, .invokevirtual 79, 3, (1, 8, 88, 8, 88), ⟨"WordHidesModel", "copyStep", "(I)V"⟩, ""),
  (21, .iconst 1, 1, (0, 0, 0, 0, 0), ⟨"", "", ""⟩, ""),
  (22, .istore_n 3, 1, (0, 0, 0, 0, 0), ⟨"", "", ""⟩, ""),
  (23, .iconst 0, 1, (0, 0, 0, 0, 0), ⟨"", "", ""⟩, ""),
  (24, .istore 4, 2, (0, 0, 0, 0, 0), ⟨"", "", ""⟩, ""),
  (26, .iload 4, 2, (0, 0, 0, 0, 0), ⟨"", "", ""⟩, ""),
  (28, .aload_n 0, 1, (0, 0, 0, 0, 0), ⟨"", "", ""⟩, ""),
  (29, .iconst 0, 1, (0, 0, 0, 0, 0), ⟨"", "", ""⟩, ""),
  (30, .iload_n 1, 1, (0, 0, 0, 0, 0), ⟨"", "", ""⟩, ""),
  (31, .invokevirtual 58, 3, (2, 8, 71, 8, 71), ⟨"WordHidesModel", "longOf", "(II)I"⟩, ""),
  (34, .if_icmp .ge 89, 3, (123, 0, 0, 0, 0), ⟨"", "", ""⟩, ""),
  (37, .iload_n 3, 1, (0, 0, 0, 0, 0), ⟨"", "", ""⟩, ""),
  (38, .ifCond .eq 85, 3, (123, 0, 0, 0, 0), ⟨"", "", ""⟩, ""),
  (41, .bipush 16, 2, (0, 0, 0, 0, 0), ⟨"", "", ""⟩, ""),
  (43, .iload_n 1, 1, (0, 0, 0, 0, 0), ⟨"", "", ""⟩, ""),
  (44, .iconst 1, 1, (0, 0, 0, 0, 0), ⟨"", "", ""⟩, ""),
  (45, .iadd, 1, (0, 0, 0, 0, 0), ⟨"", "", ""⟩, ""),
  (46, .imul, 1, (0, 0, 0, 0, 0), ⟨"", "", ""⟩, ""),
  (47, .aload_n 0, 1, (0, 0, 0, 0, 0), ⟨"", "", ""⟩, ""),
  (48, .iload_n 2, 1, (0, 0, 0, 0, 0), ⟨"", "", ""⟩, ""),
  (49, .iload 4, 2, (0, 0, 0, 0, 0), ⟨"", "", ""⟩, ""),
  (51, .invokevirtual 73, 3, (2, 8, 85, 8, 85), ⟨"WordHidesModel", "cellAt", "(II)I"⟩, ""),
  (54, .iadd, 1, (0, 0, 0, 0, 0), ⟨"", "", ""⟩, ""),
  (55, .istore 5, 2, (0, 0, 0, 0, 0), ⟨"", "", ""⟩, ""),
  (57, .aload_n 0, 1, (0, 0, 0, 0, 0), ⟨"", "", ""⟩, ""),
  (58, .getfield 23, 3, (5, 8, 8, 2, 0), ⟨"", "", ""⟩, "WordHidesModel"),
  (61, .iload 5, 2, (0, 0, 0, 0, 0), ⟨"", "", ""⟩, ""),
  (63, .iaload, 1, (0, 0, 0, 0, 0), ⟨"", "", ""⟩, ""),
  (64, .ifCond .eq 21, 3, (85, 0, 0, 0, 0), ⟨"", "", ""⟩, ""),
  (67, .aload_n 0, 1, (0, 0, 0, 0, 0), ⟨"", "", ""⟩, ""),
  (68, .getfield 23, 3, (5, 8, 8, 2, 0), ⟨"", "", ""⟩, "WordHidesModel"),
  (71, .iload 5, 2, (0, 0, 0, 0, 0), ⟨"", "", ""⟩, ""),
  (73, .iaload, 1, (0, 0, 0, 0, 0), ⟨"", "", ""⟩, ""),
  (74, .aload_n 0, 1, (0, 0, 0, 0, 0), ⟨"", "", ""⟩, ""),
  (75, .iconst 0, 1, (0, 0, 0, 0, 0), ⟨"", "", ""⟩, ""),
  (76, .iload_n 1, 1, (0, 0, 0, 0, 0), ⟨"", "", ""⟩, ""),
  (77, .iload 4, 2, (0, 0, 0, 0, 0), ⟨"", "", ""⟩, ""),
  (79, .invokevirtual 62, 3, (3, 8, 72, 8, 72), ⟨"WordHidesModel", "letterOf", "(III)I"⟩, ""),
  (82, .if_icmp .ne 7, 3, (89, 0, 0, 0, 0), ⟨"", "", ""⟩, ""),
  (85, .iconst 1, 1, (0, 0, 0, 0, 0), ⟨"", "", ""⟩, ""),
  (86, .goto 4, 3, (90, 0, 0, 0, 0), ⟨"", "", ""⟩, ""),
  (89, .iconst 0, 1, (0, 0, 0, 0, 0), ⟨"", "", ""⟩, ""),
  (90, .istore_n 3, 1, (0, 0, 0, 0, 0), ⟨"", "", ""⟩, ""),
  (91, .aload_n 0, 1, (0, 0, 0, 0, 0), ⟨"", "", ""⟩, ""),
  (92, .getfield 23, 3, (5, 8, 8, 2, 0), ⟨"", "", ""⟩, "WordHidesModel"),
  (95, .iload 5, 2, (0, 0, 0, 0, 0), ⟨"", "", ""⟩, ""),
  (97, .aload_n 0, 1, (0, 0, 0, 0, 0), ⟨"", "", ""⟩, ""),
  (98, .iconst 0, 1, (0, 0, 0, 0, 0), ⟨"", "", ""⟩, ""),
  (99, .iload_n 1, 1, (0, 0, 0, 0, 0), ⟨"", "", ""⟩, ""),
  (100, .iload 4, 2, (0, 0, 0, 0, 0), ⟨"", "", ""⟩, ""),
  (102, .invokevirtual 62, 3, (3, 8, 72, 8, 72), ⟨"WordHidesModel", "letterOf", "(III)I"⟩, ""),
  (105, .iastore, 1, (0, 0, 0, 0, 0), ⟨"", "", ""⟩, ""),
  (106, .aload_n 0, 1, (0, 0, 0, 0, 0), ⟨"", "", ""⟩, ""),
  (107, .getfield 26, 3, (6, 8, 8, 2, 0), ⟨"", "", ""⟩, "WordHidesModel"),
  (110, .iload 5, 2, (0, 0, 0, 0, 0), ⟨"", "", ""⟩, ""),
  (112, .dup2, 1, (0, 0, 0, 0, 0), ⟨"", "", ""⟩, ""),
  (113, .iaload, 1, (0, 0, 0, 0, 0), ⟨"", "", ""⟩, ""),
  (114, .iconst 1, 1, (0, 0, 0, 0, 0), ⟨"", "", ""⟩, ""),
  (115, .iadd, 1, (0, 0, 0, 0, 0), ⟨"", "", ""⟩, ""),
  (116, .iastore, 1, (0, 0, 0, 0, 0), ⟨"", "", ""⟩, ""),
  (117, .iinc 4 1, 3, (0, 0, 0, 0, 0), ⟨"", "", ""⟩, ""),
  (120, .goto (-94), 3, (26, 0, 0, 0, 0), ⟨"", "", ""⟩, ""),
  (123, .iload_n 3, 1, (0, 0, 0, 0, 0), ⟨"", "", ""⟩, ""),
  (124, .ireturn, 1, (1, 0, 0, 0, 0), ⟨"", "", ""⟩, "")])
def pX9_placesOf : wM := (⟨"WordHidesModel", "placesOf", "(I)I"⟩, prog_11_method_27_code, 2, (some .int), 2, [
  (0, .iload_n 1, 1, (0, 0, 0, 0, 0), ⟨"", "", ""⟩, ""),
  (1, .aload_n 0, 1, (0, 0, 0, 0, 0), ⟨"", "", ""⟩, ""),
  (2, .getfield 7, 3, (0, 8, 8, 2, 0), ⟨"", "", ""⟩, "WordHidesModel"),
  (5, .bipush 27, 2, (0, 0, 0, 0, 0), ⟨"", "", ""⟩, ""),
  (7, .iaload, 1, (0, 0, 0, 0, 0), ⟨"", "", ""⟩, ""),
  (8, .if_icmp .ge 13, 3, (21, 0, 0, 0, 0), ⟨"", "", ""⟩, ""),
  (11, .bipush 8, 2, (0, 0, 0, 0, 0), ⟨"", "", ""⟩, ""),
  (13, .aload_n 0, 1, (0, 0, 0, 0, 0), ⟨"", "", ""⟩, ""),
  (14, .invokevirtual 32, 3, (0, 8, 66, 8, 66), ⟨"WordHidesModel", "cells", "()I"⟩, ""),
  (17, .imul, 1, (0, 0, 0, 0, 0), ⟨"", "", ""⟩, ""),
  (18, .goto 4, 3, (22, 0, 0, 0, 0), ⟨"", "", ""⟩, ""),
  (21, .iconst 1, 1, (0, 0, 0, 0, 0), ⟨"", "", ""⟩, ""),
  (22, .ireturn, 1, (0, 0, 0, 0, 0), ⟨"", "", ""⟩, "")])
def pX9_layStep : wM := (⟨"WordHidesModel", "layStep", "(II)Z"⟩, prog_11_method_28_code, 3, (some .boolean), 3, [
  (0, .iload_n 1, 1, (0, 0, 0, 0, 0), ⟨"", "", ""⟩, ""),
  (1, .aload_n 0, 1, (0, 0, 0, 0, 0), ⟨"", "", ""⟩, ""),
  (2, .getfield 7, 3, (0, 8, 8, 2, 0), ⟨"", "", ""⟩, "WordHidesModel"),
  (5, .bipush 27, 2, (0, 0, 0, 0, 0), ⟨"", "", ""⟩, ""),
  (7, .iaload, 1, (0, 0, 0, 0, 0), ⟨"", "", ""⟩, ""),
  (8, .if_icmp .lt 10, 3, (18, 0, 0, 0, 0), ⟨"", "", ""⟩, ""),
  (11, .aload_n 0, 1, (0, 0, 0, 0, 0), ⟨"", "", ""⟩, ""),
  (12, .iload_n 1, 1, (0, 0, 0, 0, 0), ⟨"", "", ""⟩, ""),
  (13, .invokevirtual 79, 3, (1, 8, 88, 8, 88), ⟨"WordHidesModel", "copyStep", "(I)V"⟩, ""),
  (16, .iconst 1, 1, (0, 0, 0, 0, 0), ⟨"", "", ""⟩, ""),
  (17, .ireturn, 1, (1, 0, 0, 0, 0), ⟨"", "", ""⟩, ""),
  (18, .aload_n 0, 1, (0, 0, 0, 0, 0), ⟨"", "", ""⟩, ""),
  (19, .iload_n 1, 1, (0, 0, 0, 0, 0), ⟨"", "", ""⟩, ""),
  (20, .iload_n 2, 1, (0, 0, 0, 0, 0), ⟨"", "", ""⟩, ""),
  (21, .invokevirtual 83, 3, (2, 8, 89, 8, 89), ⟨"WordHidesModel", "layWord", "(II)Z"⟩, ""),
  (24, .ireturn, 1, (1, 0, 0, 0, 0), ⟨"", "", ""⟩, "")])
def pX9_standsIn : wM := (⟨"WordHidesModel", "standsIn", "(IIII)Z"⟩, prog_11_method_29_code, 8, (some .boolean), 5, [
  (0, .aload_n 0, 1, (0, 0, 0, 0, 0), ⟨"", "", ""⟩, ""),
  (1, .iload_n 2, 1, (0, 0, 0, 0, 0), ⟨"", "", ""⟩, ""),
  (2, .iload_n 3, 1, (0, 0, 0, 0, 0), ⟨"", "", ""⟩, ""),
  (3, .invokevirtual 58, 3, (2, 8, 71, 8, 71), ⟨"WordHidesModel", "longOf", "(II)I"⟩, ""),
  (6, .istore 5, 2, (0, 0, 0, 0, 0), ⟨"", "", ""⟩, ""),
  (8, .aload_n 0, 1, (0, 0, 0, 0, 0), ⟨"", "", ""⟩, ""),
  (9, .getfield 23, 3, (5, 8, 8, 2, 0), ⟨"", "", ""⟩, "WordHidesModel"),
  (12, .iload_n 1, 1, (0, 0, 0, 0, 0), ⟨"", "", ""⟩, ""),
  (13, .iload 4, 2, (0, 0, 0, 0, 0), ⟨"", "", ""⟩, ""),
  (15, .bipush 8, 2, (0, 0, 0, 0, 0), ⟨"", "", ""⟩, ""),
  (17, .idiv, 1, (0, 0, 0, 0, 0), ⟨"", "", ""⟩, ""),
  (18, .iadd, 1, (0, 0, 0, 0, 0), ⟨"", "", ""⟩, ""),
  (19, .iaload, 1, (0, 0, 0, 0, 0), ⟨"", "", ""⟩, ""),
  (20, .aload_n 0, 1, (0, 0, 0, 0, 0), ⟨"", "", ""⟩, ""),
  (21, .iload_n 2, 1, (0, 0, 0, 0, 0), ⟨"", "", ""⟩, ""),
  (22, .iload_n 3, 1, (0, 0, 0, 0, 0), ⟨"", "", ""⟩, ""),
  (23, .iconst 0, 1, (0, 0, 0, 0, 0), ⟨"", "", ""⟩, ""),
  (24, .invokevirtual 62, 3, (3, 8, 72, 8, 72), ⟨"WordHidesModel", "letterOf", "(III)I"⟩, ""),
  (27, .if_icmp .ne 14, 3, (41, 0, 0, 0, 0), ⟨"", "", ""⟩, ""),
  (30, .aload_n 0, 1, (0, 0, 0, 0, 0), ⟨"", "", ""⟩, ""),
  (31, .iload 4, 2, (0, 0, 0, 0, 0), ⟨"", "", ""⟩, ""),
  (33, .iload 5, 2, (0, 0, 0, 0, 0), ⟨"", "", ""⟩, ""),
  (35, .invokevirtual 76, 3, (2, 8, 86, 8, 86), ⟨"WordHidesModel", "canLie", "(II)Z"⟩, ""),
  (38, .ifCond .ne 5, 3, (43, 0, 0, 0, 0), ⟨"", "", ""⟩, ""),
  (41, .iconst 0, 1, (0, 0, 0, 0, 0), ⟨"", "", ""⟩, ""),
  (42, .ireturn, 1, (1, 0, 0, 0, 0), ⟨"", "", ""⟩, ""),
  (43, .iconst 1, 1, (0, 0, 0, 0, 0), ⟨"", "", ""⟩, ""),
  (44, .istore 6, 2, (0, 0, 0, 0, 0), ⟨"", "", ""⟩, ""),
  (46, .iconst 1, 1, (0, 0, 0, 0, 0), ⟨"", "", ""⟩, ""),
  (47, .istore 7, 2, (0, 0, 0, 0, 0), ⟨"", "", ""⟩, ""),
  (49, .iload 7, 2, (0, 0, 0, 0, 0), ⟨"", "", ""⟩, ""),
  (51, .iload 5, 2, (0, 0, 0, 0, 0), ⟨"", "", ""⟩, ""),
  (53, .if_icmp .ge 47, 3, (100, 0, 0, 0, 0), ⟨"", "", ""⟩, ""),
  (56, .iload 6, 2, (0, 0, 0, 0, 0), ⟨"", "", ""⟩, ""),
  (58, .ifCond .eq 33, 3, (91, 0, 0, 0, 0), ⟨"", "", ""⟩, ""),
  (61, .aload_n 0, 1, (0, 0, 0, 0, 0), ⟨"", "", ""⟩, ""),
  (62, .getfield 23, 3, (5, 8, 8, 2, 0), ⟨"", "", ""⟩, "WordHidesModel"),
  (65, .iload_n 1, 1, (0, 0, 0, 0, 0), ⟨"", "", ""⟩, ""),
  (66, .aload_n 0, 1, (0, 0, 0, 0, 0), ⟨"", "", ""⟩, ""),
  (67, .iload 4, 2, (0, 0, 0, 0, 0), ⟨"", "", ""⟩, ""),
  (69, .iload 7, 2, (0, 0, 0, 0, 0), ⟨"", "", ""⟩, ""),
  (71, .invokevirtual 73, 3, (2, 8, 85, 8, 85), ⟨"WordHidesModel", "cellAt", "(II)I"⟩, ""),
  (74, .iadd, 1, (0, 0, 0, 0, 0), ⟨"", "", ""⟩, ""),
  (75, .iaload, 1, (0, 0, 0, 0, 0), ⟨"", "", ""⟩, ""),
  (76, .aload_n 0, 1, (0, 0, 0, 0, 0), ⟨"", "", ""⟩, ""),
  (77, .iload_n 2, 1, (0, 0, 0, 0, 0), ⟨"", "", ""⟩, ""),
  (78, .iload_n 3, 1, (0, 0, 0, 0, 0), ⟨"", "", ""⟩, ""),
  (79, .iload 7, 2, (0, 0, 0, 0, 0), ⟨"", "", ""⟩, ""),
  (81, .invokevirtual 62, 3, (3, 8, 72, 8, 72), ⟨"WordHidesModel", "letterOf", "(III)I"⟩, ""),
  (84, .if_icmp .ne 7, 3, (91, 0, 0, 0, 0), ⟨"", "", ""⟩, ""),
  (87, .iconst 1, 1, (0, 0, 0, 0, 0), ⟨"", "", ""⟩, ""),
  (88, .goto 4, 3, (92, 0, 0, 0, 0), ⟨"", "", ""⟩, ""),
  (91, .iconst 0, 1, (0, 0, 0, 0, 0), ⟨"", "", ""⟩, ""),
  (92, .istore 6, 2, (0, 0, 0, 0, 0), ⟨"", "", ""⟩, ""),
  (94, .iinc 7 1, 3, (0, 0, 0, 0, 0), ⟨"", "", ""⟩, ""),
  (97, .goto (-48), 3, (49, 0, 0, 0, 0), ⟨"", "", ""⟩, ""),
  (100, .iload 6, 2, (0, 0, 0, 0, 0), ⟨"", "", ""⟩, ""),
  (102, .ireturn, 1, (1, 0, 0, 0, 0), ⟨"", "", ""⟩, "")])
def pX9_timesIn : wM := (⟨"WordHidesModel", "timesIn", "(III)I"⟩, prog_11_method_30_code, 6, (some .int), 4, [
  (0, .iconst 0, 1, (0, 0, 0, 0, 0), ⟨"", "", ""⟩, ""),
  (1, .istore 4, 2, (0, 0, 0, 0, 0), ⟨"", "", ""⟩, ""),
  (3, .iconst 0, 1, (0, 0, 0, 0, 0), ⟨"", "", ""⟩, ""),
  (4, .istore 5, 2, (0, 0, 0, 0, 0), ⟨"", "", ""⟩, ""),
  (6, .iload 5, 2, (0, 0, 0, 0, 0), ⟨"", "", ""⟩, ""),
  (8, .bipush 8, 2, (0, 0, 0, 0, 0), ⟨"", "", ""⟩, ""),
  (10, .aload_n 0, 1, (0, 0, 0, 0, 0), ⟨"", "", ""⟩, ""),
  (11, .invokevirtual 32, 3, (0, 8, 66, 8, 66), ⟨"WordHidesModel", "cells", "()I"⟩, ""),
  (14, .imul, 1, (0, 0, 0, 0, 0), ⟨"", "", ""⟩, ""),
  (15, .if_icmp .ge 31, 3, (46, 0, 0, 0, 0), ⟨"", "", ""⟩, ""),
  (18, .iload 4, 2, (0, 0, 0, 0, 0), ⟨"", "", ""⟩, ""),
  (20, .aload_n 0, 1, (0, 0, 0, 0, 0), ⟨"", "", ""⟩, ""),
  (21, .iload_n 1, 1, (0, 0, 0, 0, 0), ⟨"", "", ""⟩, ""),
  (22, .iload_n 2, 1, (0, 0, 0, 0, 0), ⟨"", "", ""⟩, ""),
  (23, .iload_n 3, 1, (0, 0, 0, 0, 0), ⟨"", "", ""⟩, ""),
  (24, .iload 5, 2, (0, 0, 0, 0, 0), ⟨"", "", ""⟩, ""),
  (26, .invokevirtual 86, 3, (4, 8, 92, 8, 92), ⟨"WordHidesModel", "standsIn", "(IIII)Z"⟩, ""),
  (29, .ifCond .eq 7, 3, (36, 0, 0, 0, 0), ⟨"", "", ""⟩, ""),
  (32, .iconst 1, 1, (0, 0, 0, 0, 0), ⟨"", "", ""⟩, ""),
  (33, .goto 4, 3, (37, 0, 0, 0, 0), ⟨"", "", ""⟩, ""),
  (36, .iconst 0, 1, (0, 0, 0, 0, 0), ⟨"", "", ""⟩, ""),
  (37, .iadd, 1, (0, 0, 0, 0, 0), ⟨"", "", ""⟩, ""),
  (38, .istore 4, 2, (0, 0, 0, 0, 0), ⟨"", "", ""⟩, ""),
  (40, .iinc 5 1, 3, (0, 0, 0, 0, 0), ⟨"", "", ""⟩, ""),
  (43, .goto (-37), 3, (6, 0, 0, 0, 0), ⟨"", "", ""⟩, ""),
  (46, .iload 4, 2, (0, 0, 0, 0, 0), ⟨"", "", ""⟩, ""),
  (48, .ireturn, 1, (0, 0, 0, 0, 0), ⟨"", "", ""⟩, "")])
def pX9_stands : wM := (⟨"WordHidesModel", "stands", "(III)I"⟩, prog_11_method_31_code, 6, (some .int), 4, [
  (0, .iload_n 1, 1, (0, 0, 0, 0, 0), ⟨"", "", ""⟩, ""),
  (1, .iconst 0, 1, (0, 0, 0, 0, 0), ⟨"", "", ""⟩, ""),
  (2, .iconst 1, 1, (0, 0, 0, 0, 0), ⟨"", "", ""⟩, ""),
  (3, .invokestatic 36, 3, (3, 0, 65, 0, 0), ⟨"WordHidesModel", "in", "(III)Z"⟩, ""),
  (6, .ifCond .eq 8, 3, (14, 0, 0, 0, 0), ⟨"", "", ""⟩, ""),
  (9, .iload_n 3, 1, (0, 0, 0, 0, 0), ⟨"", "", ""⟩, ""),
  (10, .iconst (-1), 1, (0, 0, 0, 0, 0), ⟨"", "", ""⟩, ""),
  (11, .if_icmp .ge 6, 3, (17, 0, 0, 0, 0), ⟨"", "", ""⟩, ""),
  (14, .bipush (-2), 2, (0, 0, 0, 0, 0), ⟨"", "", ""⟩, ""),
  (16, .ireturn, 1, (0, 0, 0, 0, 0), ⟨"", "", ""⟩, ""),
  (17, .aload_n 0, 1, (0, 0, 0, 0, 0), ⟨"", "", ""⟩, ""),
  (18, .iload_n 1, 1, (0, 0, 0, 0, 0), ⟨"", "", ""⟩, ""),
  (19, .iload_n 2, 1, (0, 0, 0, 0, 0), ⟨"", "", ""⟩, ""),
  (20, .invokevirtual 54, 3, (2, 8, 70, 8, 70), ⟨"WordHidesModel", "isWord", "(II)Z"⟩, ""),
  (23, .ifCond .ne 5, 3, (28, 0, 0, 0, 0), ⟨"", "", ""⟩, ""),
  (26, .iconst (-1), 1, (0, 0, 0, 0, 0), ⟨"", "", ""⟩, ""),
  (27, .ireturn, 1, (0, 0, 0, 0, 0), ⟨"", "", ""⟩, ""),
  (28, .aload_n 0, 1, (0, 0, 0, 0, 0), ⟨"", "", ""⟩, ""),
  (29, .invokevirtual 90, 3, (0, 8, 87, 8, 87), ⟨"WordHidesModel", "begin", "()V"⟩, ""),
  (32, .iconst 0, 1, (0, 0, 0, 0, 0), ⟨"", "", ""⟩, ""),
  (33, .istore 4, 2, (0, 0, 0, 0, 0), ⟨"", "", ""⟩, ""),
  (35, .iconst 0, 1, (0, 0, 0, 0, 0), ⟨"", "", ""⟩, ""),
  (36, .istore 5, 2, (0, 0, 0, 0, 0), ⟨"", "", ""⟩, ""),
  (38, .iload 5, 2, (0, 0, 0, 0, 0), ⟨"", "", ""⟩, ""),
  (40, .bipush 8, 2, (0, 0, 0, 0, 0), ⟨"", "", ""⟩, ""),
  (42, .aload_n 0, 1, (0, 0, 0, 0, 0), ⟨"", "", ""⟩, ""),
  (43, .invokevirtual 32, 3, (0, 8, 66, 8, 66), ⟨"WordHidesModel", "cells", "()I"⟩, ""),
  (46, .imul, 1, (0, 0, 0, 0, 0), ⟨"", "", ""⟩, ""),
  (47, .if_icmp .ge 33, 3, (80, 0, 0, 0, 0), ⟨"", "", ""⟩, ""),
  (50, .aload_n 0, 1, (0, 0, 0, 0, 0), ⟨"", "", ""⟩, ""),
  (51, .iconst 0, 1, (0, 0, 0, 0, 0), ⟨"", "", ""⟩, ""),
  (52, .iload_n 1, 1, (0, 0, 0, 0, 0), ⟨"", "", ""⟩, ""),
  (53, .iload_n 2, 1, (0, 0, 0, 0, 0), ⟨"", "", ""⟩, ""),
  (54, .iload 5, 2, (0, 0, 0, 0, 0), ⟨"", "", ""⟩, ""),
  (56, .invokevirtual 86, 3, (4, 8, 92, 8, 92), ⟨"WordHidesModel", "standsIn", "(IIII)Z"⟩, ""),
  (59, .ifCond .eq 15, 3, (74, 0, 0, 0, 0), ⟨"", "", ""⟩, ""),
  (62, .iload 4, 2, (0, 0, 0, 0, 0), ⟨"", "", ""⟩, ""),
  (64, .iload_n 3, 1, (0, 0, 0, 0, 0), ⟨"", "", ""⟩, ""),
  (65, .if_icmp .ne 6, 3, (71, 0, 0, 0, 0), ⟨"", "", ""⟩, ""),
  (68, .iload 5, 2, (0, 0, 0, 0, 0), ⟨"", "", ""⟩, ""),
  (70, .ireturn, 1, (0, 0, 0, 0, 0), ⟨"", "", ""⟩, ""),
  (71, .iinc 4 1, 3, (0, 0, 0, 0, 0), ⟨"", "", ""⟩, ""),
  (74, .iinc 5 1, 3, (0, 0, 0, 0, 0), ⟨"", "", ""⟩, ""),
  (77, .goto (-39), 3, (38, 0, 0, 0, 0), ⟨"", "", ""⟩, ""),
  (80, .iload_n 3, 1, (0, 0, 0, 0, 0), ⟨"", "", ""⟩, ""),
  (81, .iconst (-1), 1, (0, 0, 0, 0, 0), ⟨"", "", ""⟩, ""),
  (82, .if_icmp .ne 8, 3, (90, 0, 0, 0, 0), ⟨"", "", ""⟩, ""),
  (85, .iload 4, 2, (0, 0, 0, 0, 0), ⟨"", "", ""⟩, ""),
  (87, .goto 5, 3, (92, 0, 0, 0, 0), ⟨"", "", ""⟩, ""),
  (90, .bipush (-6), 2, (0, 0, 0, 0, 0), ⟨"", "", ""⟩, ""),
  (92, .ireturn, 1, (0, 0, 0, 0, 0), ⟨"", "", ""⟩, "")])
def pX9_canPut : wM := (⟨"WordHidesModel", "canPut", "(II)Z"⟩, prog_11_method_32_code, 6, (some .boolean), 3, [
  (0, .aload_n 0, 1, (0, 0, 0, 0, 0), ⟨"", "", ""⟩, ""),
  (1, .iload_n 2, 1, (0, 0, 0, 0, 0), ⟨"", "", ""⟩, ""),
  (2, .aload_n 0, 1, (0, 0, 0, 0, 0), ⟨"", "", ""⟩, ""),
  (3, .iconst 0, 1, (0, 0, 0, 0, 0), ⟨"", "", ""⟩, ""),
  (4, .iload_n 1, 1, (0, 0, 0, 0, 0), ⟨"", "", ""⟩, ""),
  (5, .invokevirtual 58, 3, (2, 8, 71, 8, 71), ⟨"WordHidesModel", "longOf", "(II)I"⟩, ""),
  (8, .invokevirtual 76, 3, (2, 8, 86, 8, 86), ⟨"WordHidesModel", "canLie", "(II)Z"⟩, ""),
  (11, .istore_n 3, 1, (0, 0, 0, 0, 0), ⟨"", "", ""⟩, ""),
  (12, .iconst 0, 1, (0, 0, 0, 0, 0), ⟨"", "", ""⟩, ""),
  (13, .istore 4, 2, (0, 0, 0, 0, 0), ⟨"", "", ""⟩, ""),
  (15, .iload 4, 2, (0, 0, 0, 0, 0), ⟨"", "", ""⟩, ""),
  (17, .aload_n 0, 1, (0, 0, 0, 0, 0), ⟨"", "", ""⟩, ""),
  (18, .iconst 0, 1, (0, 0, 0, 0, 0), ⟨"", "", ""⟩, ""),
  (19, .iload_n 1, 1, (0, 0, 0, 0, 0), ⟨"", "", ""⟩, ""),
  (20, .invokevirtual 58, 3, (2, 8, 71, 8, 71), ⟨"WordHidesModel", "longOf", "(II)I"⟩, ""),
  (23, .if_icmp .ge 53, 3, (76, 0, 0, 0, 0), ⟨"", "", ""⟩, ""),
  (26, .iload_n 3, 1, (0, 0, 0, 0, 0), ⟨"", "", ""⟩, ""),
  (27, .ifCond .eq 49, 3, (76, 0, 0, 0, 0), ⟨"", "", ""⟩, ""),
  (30, .aload_n 0, 1, (0, 0, 0, 0, 0), ⟨"", "", ""⟩, ""),
  (31, .getfield 7, 3, (0, 8, 8, 2, 0), ⟨"", "", ""⟩, "WordHidesModel"),
  (34, .iconst 1, 1, (0, 0, 0, 0, 0), ⟨"", "", ""⟩, ""),
  (35, .aload_n 0, 1, (0, 0, 0, 0, 0), ⟨"", "", ""⟩, ""),
  (36, .iload_n 2, 1, (0, 0, 0, 0, 0), ⟨"", "", ""⟩, ""),
  (37, .iload 4, 2, (0, 0, 0, 0, 0), ⟨"", "", ""⟩, ""),
  (39, .invokevirtual 73, 3, (2, 8, 85, 8, 85), ⟨"WordHidesModel", "cellAt", "(II)I"⟩, ""),
  (42, .iadd, 1, (0, 0, 0, 0, 0), ⟨"", "", ""⟩, ""),
  (43, .iaload, 1, (0, 0, 0, 0, 0), ⟨"", "", ""⟩, ""),
  (44, .istore 5, 2, (0, 0, 0, 0, 0), ⟨"", "", ""⟩, ""),
  (46, .iload 5, 2, (0, 0, 0, 0, 0), ⟨"", "", ""⟩, ""),
  (48, .ifCond .eq 16, 3, (64, 0, 0, 0, 0), ⟨"", "", ""⟩, ""),
  (51, .iload 5, 2, (0, 0, 0, 0, 0), ⟨"", "", ""⟩, ""),
  (53, .aload_n 0, 1, (0, 0, 0, 0, 0), ⟨"", "", ""⟩, ""),
  (54, .iconst 0, 1, (0, 0, 0, 0, 0), ⟨"", "", ""⟩, ""),
  (55, .iload_n 1, 1, (0, 0, 0, 0, 0), ⟨"", "", ""⟩, ""),
  (56, .iload 4, 2, (0, 0, 0, 0, 0), ⟨"", "", ""⟩, ""),
  (58, .invokevirtual 62, 3, (3, 8, 72, 8, 72), ⟨"WordHidesModel", "letterOf", "(III)I"⟩, ""),
  (61, .if_icmp .ne 7, 3, (68, 0, 0, 0, 0), ⟨"", "", ""⟩, ""),
  (64, .iconst 1, 1, (0, 0, 0, 0, 0), ⟨"", "", ""⟩, ""),
  (65, .goto 4, 3, (69, 0, 0, 0, 0), ⟨"", "", ""⟩, ""),
  (68, .iconst 0, 1, (0, 0, 0, 0, 0), ⟨"", "", ""⟩, ""),
  (69, .istore_n 3, 1, (0, 0, 0, 0, 0), ⟨"", "", ""⟩, ""),
  (70, .iinc 4 1, 3, (0, 0, 0, 0, 0), ⟨"", "", ""⟩, ""),
  (73, .goto (-58), 3, (15, 0, 0, 0, 0), ⟨"", "", ""⟩, ""),
  (76, .iload_n 3, 1, (0, 0, 0, 0, 0), ⟨"", "", ""⟩, ""),
  (77, .ireturn, 1, (1, 0, 0, 0, 0), ⟨"", "", ""⟩, "")])
def pX9_put : wM := (⟨"WordHidesModel", "put", "(II)I"⟩, prog_11_method_33_code, 6, (some .int), 3, [
  (0, .aload_n 0, 1, (0, 0, 0, 0, 0), ⟨"", "", ""⟩, ""),
  (1, .iconst 0, 1, (0, 0, 0, 0, 0), ⟨"", "", ""⟩, ""),
  (2, .iload_n 1, 1, (0, 0, 0, 0, 0), ⟨"", "", ""⟩, ""),
  (3, .invokevirtual 54, 3, (2, 8, 70, 8, 70), ⟨"WordHidesModel", "isWord", "(II)Z"⟩, ""),
  (6, .ifCond .ne 5, 3, (11, 0, 0, 0, 0), ⟨"", "", ""⟩, ""),
  (9, .iconst (-1), 1, (0, 0, 0, 0, 0), ⟨"", "", ""⟩, ""),
  (10, .ireturn, 1, (0, 0, 0, 0, 0), ⟨"", "", ""⟩, ""),
  (11, .aload_n 0, 1, (0, 0, 0, 0, 0), ⟨"", "", ""⟩, ""),
  (12, .iload_n 2, 1, (0, 0, 0, 0, 0), ⟨"", "", ""⟩, ""),
  (13, .invokevirtual 93, 3, (1, 8, 69, 8, 69), ⟨"WordHidesModel", "isPlace", "(I)Z"⟩, ""),
  (16, .ifCond .ne 6, 3, (22, 0, 0, 0, 0), ⟨"", "", ""⟩, ""),
  (19, .bipush (-2), 2, (0, 0, 0, 0, 0), ⟨"", "", ""⟩, ""),
  (21, .ireturn, 1, (0, 0, 0, 0, 0), ⟨"", "", ""⟩, ""),
  (22, .aload_n 0, 1, (0, 0, 0, 0, 0), ⟨"", "", ""⟩, ""),
  (23, .iload_n 1, 1, (0, 0, 0, 0, 0), ⟨"", "", ""⟩, ""),
  (24, .iload_n 2, 1, (0, 0, 0, 0, 0), ⟨"", "", ""⟩, ""),
  (25, .invokevirtual 96, 3, (2, 8, 95, 8, 95), ⟨"WordHidesModel", "canPut", "(II)Z"⟩, ""),
  (28, .ifCond .ne 6, 3, (34, 0, 0, 0, 0), ⟨"", "", ""⟩, ""),
  (31, .bipush (-5), 2, (0, 0, 0, 0, 0), ⟨"", "", ""⟩, ""),
  (33, .ireturn, 1, (0, 0, 0, 0, 0), ⟨"", "", ""⟩, ""),
  (34, .iconst 0, 1, (0, 0, 0, 0, 0), ⟨"", "", ""⟩, ""),
  (35, .istore_n 3, 1, (0, 0, 0, 0, 0), ⟨"", "", ""⟩, ""),
  (36, .iconst 0, 1, (0, 0, 0, 0, 0), ⟨"", "", ""⟩, ""),
  (37, .istore 4, 2, (0, 0, 0, 0, 0), ⟨"", "", ""⟩, ""),
  (39, .iload 4, 2, (0, 0, 0, 0, 0), ⟨"", "", ""⟩, ""),
  (41, .aload_n 0, 1, (0, 0, 0, 0, 0), ⟨"", "", ""⟩, ""),
  (42, .iconst 0, 1, (0, 0, 0, 0, 0), ⟨"", "", ""⟩, ""),
  (43, .iload_n 1, 1, (0, 0, 0, 0, 0), ⟨"", "", ""⟩, ""),
  (44, .invokevirtual 58, 3, (2, 8, 71, 8, 71), ⟨"WordHidesModel", "longOf", "(II)I"⟩, ""),
  (47, .if_icmp .ge 53, 3, (100, 0, 0, 0, 0), ⟨"", "", ""⟩, ""),
  (50, .iconst 1, 1, (0, 0, 0, 0, 0), ⟨"", "", ""⟩, ""),
  (51, .aload_n 0, 1, (0, 0, 0, 0, 0), ⟨"", "", ""⟩, ""),
  (52, .iload_n 2, 1, (0, 0, 0, 0, 0), ⟨"", "", ""⟩, ""),
  (53, .iload 4, 2, (0, 0, 0, 0, 0), ⟨"", "", ""⟩, ""),
  (55, .invokevirtual 73, 3, (2, 8, 85, 8, 85), ⟨"WordHidesModel", "cellAt", "(II)I"⟩, ""),
  (58, .iadd, 1, (0, 0, 0, 0, 0), ⟨"", "", ""⟩, ""),
  (59, .istore 5, 2, (0, 0, 0, 0, 0), ⟨"", "", ""⟩, ""),
  (61, .iload_n 3, 1, (0, 0, 0, 0, 0), ⟨"", "", ""⟩, ""),
  (62, .aload_n 0, 1, (0, 0, 0, 0, 0), ⟨"", "", ""⟩, ""),
  (63, .getfield 7, 3, (0, 8, 8, 2, 0), ⟨"", "", ""⟩, "WordHidesModel"),
  (66, .iload 5, 2, (0, 0, 0, 0, 0), ⟨"", "", ""⟩, ""),
  (68, .iaload, 1, (0, 0, 0, 0, 0), ⟨"", "", ""⟩, ""),
  (69, .ifCond .ne 7, 3, (76, 0, 0, 0, 0), ⟨"", "", ""⟩, ""),
  (72, .iconst 1, 1, (0, 0, 0, 0, 0), ⟨"", "", ""⟩, ""),
  (73, .goto 4, 3, (77, 0, 0, 0, 0), ⟨"", "", ""⟩, ""),
  (76, .iconst 0, 1, (0, 0, 0, 0, 0), ⟨"", "", ""⟩, ""),
  (77, .iadd, 1, (0, 0, 0, 0, 0), ⟨"", "", ""⟩, ""),
  (78, .istore_n 3, 1, (0, 0, 0, 0, 0), ⟨"", "", ""⟩, ""),
  (79, .aload_n 0, 1, (0, 0, 0, 0, 0), ⟨"", "", ""⟩, ""),
  (80, .getfield 7, 3, (0, 8, 8, 2, 0), ⟨"", "", ""⟩, "WordHidesModel"),
  (83, .iload 5, 2, (0, 0, 0, 0, 0), ⟨"", "", ""⟩, ""),
  (85, .aload_n 0, 1, (0, 0, 0, 0, 0), ⟨"", "", ""⟩, ""),
  (86, .iconst 0, 1, (0, 0, 0, 0, 0), ⟨"", "", ""⟩, ""),
  (87, .iload_n 1, 1, (0, 0, 0, 0, 0), ⟨"", "", ""⟩, ""),
  (88, .iload 4, 2, (0, 0, 0, 0, 0), ⟨"", "", ""⟩, ""),
  (90, .invokevirtual 62, 3, (3, 8, 72, 8, 72), ⟨"WordHidesModel", "letterOf", "(III)I"⟩, ""),
  (93, .iastore, 1, (0, 0, 0, 0, 0), ⟨"", "", ""⟩, ""),
  (94, .iinc 4 1, 3, (0, 0, 0, 0, 0), ⟨"", "", ""⟩, ""),
  (97, .goto (-58), 3, (39, 0, 0, 0, 0), ⟨"", "", ""⟩, ""),
  (100, .iload_n 3, 1, (0, 0, 0, 0, 0), ⟨"", "", ""⟩, ""),
  (101, .ireturn, 1, (0, 0, 0, 0, 0), ⟨"", "", ""⟩, "")])
def pX9_fits : wM := (⟨"WordHidesModel", "fits", "(II)I"⟩, prog_11_method_34_code, 5, (some .int), 3, [
  (0, .aload_n 0, 1, (0, 0, 0, 0, 0), ⟨"", "", ""⟩, ""),
  (1, .iconst 0, 1, (0, 0, 0, 0, 0), ⟨"", "", ""⟩, ""),
  (2, .iload_n 1, 1, (0, 0, 0, 0, 0), ⟨"", "", ""⟩, ""),
  (3, .invokevirtual 54, 3, (2, 8, 70, 8, 70), ⟨"WordHidesModel", "isWord", "(II)Z"⟩, ""),
  (6, .ifCond .ne 5, 3, (11, 0, 0, 0, 0), ⟨"", "", ""⟩, ""),
  (9, .iconst (-1), 1, (0, 0, 0, 0, 0), ⟨"", "", ""⟩, ""),
  (10, .ireturn, 1, (0, 0, 0, 0, 0), ⟨"", "", ""⟩, ""),
  (11, .iload_n 2, 1, (0, 0, 0, 0, 0), ⟨"", "", ""⟩, ""),
  (12, .iconst 0, 1, (0, 0, 0, 0, 0), ⟨"", "", ""⟩, ""),
  (13, .iconst 1, 1, (0, 0, 0, 0, 0), ⟨"", "", ""⟩, ""),
  (14, .invokestatic 36, 3, (3, 0, 65, 0, 0), ⟨"WordHidesModel", "in", "(III)Z"⟩, ""),
  (17, .ifCond .ne 6, 3, (23, 0, 0, 0, 0), ⟨"", "", ""⟩, ""),
  (20, .bipush (-2), 2, (0, 0, 0, 0, 0), ⟨"", "", ""⟩, ""),
  (22, .ireturn, 1, (0, 0, 0, 0, 0), ⟨"", "", ""⟩, ""),
  (23, .iconst 0, 1, (0, 0, 0, 0, 0), ⟨"", "", ""⟩, ""),
  (24, .istore_n 3, 1, (0, 0, 0, 0, 0), ⟨"", "", ""⟩, ""),
  (25, .iconst 0, 1, (0, 0, 0, 0, 0), ⟨"", "", ""⟩, ""),
  (26, .istore 4, 2, (0, 0, 0, 0, 0), ⟨"", "", ""⟩, ""),
  (28, .iload 4, 2, (0, 0, 0, 0, 0), ⟨"", "", ""⟩, ""),
  (30, .bipush 8, 2, (0, 0, 0, 0, 0), ⟨"", "", ""⟩, ""),
  (32, .aload_n 0, 1, (0, 0, 0, 0, 0), ⟨"", "", ""⟩, ""),
  (33, .invokevirtual 32, 3, (0, 8, 66, 8, 66), ⟨"WordHidesModel", "cells", "()I"⟩, ""),
  (36, .imul, 1, (0, 0, 0, 0, 0), ⟨"", "", ""⟩, ""),
  (37, .if_icmp .ge 49, 3, (86, 0, 0, 0, 0), ⟨"", "", ""⟩, ""),
  (40, .iload_n 3, 1, (0, 0, 0, 0, 0), ⟨"", "", ""⟩, ""),
  (41, .iload_n 2, 1, (0, 0, 0, 0, 0), ⟨"", "", ""⟩, ""),
  (42, .ifCond .ne 21, 3, (63, 0, 0, 0, 0), ⟨"", "", ""⟩, ""),
  (45, .aload_n 0, 1, (0, 0, 0, 0, 0), ⟨"", "", ""⟩, ""),
  (46, .iload 4, 2, (0, 0, 0, 0, 0), ⟨"", "", ""⟩, ""),
  (48, .aload_n 0, 1, (0, 0, 0, 0, 0), ⟨"", "", ""⟩, ""),
  (49, .iconst 0, 1, (0, 0, 0, 0, 0), ⟨"", "", ""⟩, ""),
  (50, .iload_n 1, 1, (0, 0, 0, 0, 0), ⟨"", "", ""⟩, ""),
  (51, .invokevirtual 58, 3, (2, 8, 71, 8, 71), ⟨"WordHidesModel", "longOf", "(II)I"⟩, ""),
  (54, .invokevirtual 76, 3, (2, 8, 86, 8, 86), ⟨"WordHidesModel", "canLie", "(II)Z"⟩, ""),
  (57, .ifCond .eq 20, 3, (77, 0, 0, 0, 0), ⟨"", "", ""⟩, ""),
  (60, .goto 13, 3, (73, 0, 0, 0, 0), ⟨"", "", ""⟩, ""),
  (63, .aload_n 0, 1, (0, 0, 0, 0, 0), ⟨"", "", ""⟩, ""),
  (64, .iload_n 1, 1, (0, 0, 0, 0, 0), ⟨"", "", ""⟩, ""),
  (65, .iload 4, 2, (0, 0, 0, 0, 0), ⟨"", "", ""⟩, ""),
  (67, .invokevirtual 96, 3, (2, 8, 95, 8, 95), ⟨"WordHidesModel", "canPut", "(II)Z"⟩, ""),
  (70, .ifCond .eq 7, 3, (77, 0, 0, 0, 0), ⟨"", "", ""⟩, ""),
  (73, .iconst 1, 1, (0, 0, 0, 0, 0), ⟨"", "", ""⟩, ""),
  (74, .goto 4, 3, (78, 0, 0, 0, 0), ⟨"", "", ""⟩, ""),
  (77, .iconst 0, 1, (0, 0, 0, 0, 0), ⟨"", "", ""⟩, ""),
  (78, .iadd, 1, (0, 0, 0, 0, 0), ⟨"", "", ""⟩, ""),
  (79, .istore_n 3, 1, (0, 0, 0, 0, 0), ⟨"", "", ""⟩, ""),
  (80, .iinc 4 1, 3, (0, 0, 0, 0, 0), ⟨"", "", ""⟩, ""),
  (83, .goto (-55), 3, (28, 0, 0, 0, 0), ⟨"", "", ""⟩, ""),
  (86, .iload_n 3, 1, (0, 0, 0, 0, 0), ⟨"", "", ""⟩, ""),
  (87, .ireturn, 1, (0, 0, 0, 0, 0), ⟨"", "", ""⟩, "")])
def pX9_crossed : wM := (⟨"WordHidesModel", "crossed", "()I"⟩, prog_11_method_35_code, 3, (some .int), 1, [
  (0, .iconst 0, 1, (0, 0, 0, 0, 0), ⟨"", "", ""⟩, ""),
  (1, .istore_n 1, 1, (0, 0, 0, 0, 0), ⟨"", "", ""⟩, ""),
  (2, .iconst 0, 1, (0, 0, 0, 0, 0), ⟨"", "", ""⟩, ""),
  (3, .istore_n 2, 1, (0, 0, 0, 0, 0), ⟨"", "", ""⟩, ""),
  (4, .iload_n 2, 1, (0, 0, 0, 0, 0), ⟨"", "", ""⟩, ""),
  (5, .bipush 16, 2, (0, 0, 0, 0, 0), ⟨"", "", ""⟩, ""),
  (7, .if_icmp .ge 30, 3, (37, 0, 0, 0, 0), ⟨"", "", ""⟩, ""),
  (10, .iload_n 1, 1, (0, 0, 0, 0, 0), ⟨"", "", ""⟩, ""),
  (11, .aload_n 0, 1, (0, 0, 0, 0, 0), ⟨"", "", ""⟩, ""),
  (12, .getfield 26, 3, (6, 8, 8, 2, 0), ⟨"", "", ""⟩, "WordHidesModel"),
  (15, .bipush 48, 2, (0, 0, 0, 0, 0), ⟨"", "", ""⟩, ""),
  (17, .iload_n 2, 1, (0, 0, 0, 0, 0), ⟨"", "", ""⟩, ""),
  (18, .iadd, 1, (0, 0, 0, 0, 0), ⟨"", "", ""⟩, ""),
  (19, .iaload, 1, (0, 0, 0, 0, 0), ⟨"", "", ""⟩, ""),
  (20, .iconst 1, 1, (0, 0, 0, 0, 0), ⟨"", "", ""⟩, ""),
  (21, .if_icmp .le 7, 3, (28, 0, 0, 0, 0), ⟨"", "", ""⟩, ""),
  (24, .iconst 1, 1, (0, 0, 0, 0, 0), ⟨"", "", ""⟩, ""),
  (25, .goto 4, 3, (29, 0, 0, 0, 0), ⟨"", "", ""⟩, ""),
  (28, .iconst 0, 1, (0, 0, 0, 0, 0), ⟨"", "", ""⟩, ""),
  (29, .iadd, 1, (0, 0, 0, 0, 0), ⟨"", "", ""⟩, ""),
  (30, .istore_n 1, 1, (0, 0, 0, 0, 0), ⟨"", "", ""⟩, ""),
  (31, .iinc 2 1, 3, (0, 0, 0, 0, 0), ⟨"", "", ""⟩, ""),
  (34, .goto (-30), 3, (4, 0, 0, 0, 0), ⟨"", "", ""⟩, ""),
  (37, .iload_n 1, 1, (0, 0, 0, 0, 0), ⟨"", "", ""⟩, ""),
  (38, .ireturn, 1, (0, 0, 0, 0, 0), ⟨"", "", ""⟩, "")])
def pX9_covered : wM := (⟨"WordHidesModel", "covered", "()I"⟩, prog_11_method_36_code, 3, (some .int), 1, [
  (0, .iconst 0, 1, (0, 0, 0, 0, 0), ⟨"", "", ""⟩, ""),
  (1, .istore_n 1, 1, (0, 0, 0, 0, 0), ⟨"", "", ""⟩, ""),
  (2, .iconst 0, 1, (0, 0, 0, 0, 0), ⟨"", "", ""⟩, ""),
  (3, .istore_n 2, 1, (0, 0, 0, 0, 0), ⟨"", "", ""⟩, ""),
  (4, .iload_n 2, 1, (0, 0, 0, 0, 0), ⟨"", "", ""⟩, ""),
  (5, .bipush 16, 2, (0, 0, 0, 0, 0), ⟨"", "", ""⟩, ""),
  (7, .if_icmp .ge 29, 3, (36, 0, 0, 0, 0), ⟨"", "", ""⟩, ""),
  (10, .iload_n 1, 1, (0, 0, 0, 0, 0), ⟨"", "", ""⟩, ""),
  (11, .aload_n 0, 1, (0, 0, 0, 0, 0), ⟨"", "", ""⟩, ""),
  (12, .getfield 26, 3, (6, 8, 8, 2, 0), ⟨"", "", ""⟩, "WordHidesModel"),
  (15, .bipush 48, 2, (0, 0, 0, 0, 0), ⟨"", "", ""⟩, ""),
  (17, .iload_n 2, 1, (0, 0, 0, 0, 0), ⟨"", "", ""⟩, ""),
  (18, .iadd, 1, (0, 0, 0, 0, 0), ⟨"", "", ""⟩, ""),
  (19, .iaload, 1, (0, 0, 0, 0, 0), ⟨"", "", ""⟩, ""),
  (20, .ifCond .le 7, 3, (27, 0, 0, 0, 0), ⟨"", "", ""⟩, ""),
  (23, .iconst 1, 1, (0, 0, 0, 0, 0), ⟨"", "", ""⟩, ""),
  (24, .goto 4, 3, (28, 0, 0, 0, 0), ⟨"", "", ""⟩, ""),
  (27, .iconst 0, 1, (0, 0, 0, 0, 0), ⟨"", "", ""⟩, ""),
  (28, .iadd, 1, (0, 0, 0, 0, 0), ⟨"", "", ""⟩, ""),
  (29, .istore_n 1, 1, (0, 0, 0, 0, 0), ⟨"", "", ""⟩, ""),
  (30, .iinc 2 1, 3, (0, 0, 0, 0, 0), ⟨"", "", ""⟩, ""),
  (33, .goto (-29), 3, (4, 0, 0, 0, 0), ⟨"", "", ""⟩, ""),
  (36, .iload_n 1, 1, (0, 0, 0, 0, 0), ⟨"", "", ""⟩, ""),
  (37, .ireturn, 1, (0, 0, 0, 0, 0), ⟨"", "", ""⟩, "")])
def pX9_keep : wM := (⟨"WordHidesModel", "keep", "(III)V"⟩, prog_11_method_37_code, 4, none, 4, [
  (0, .aload_n 0, 1, (0, 0, 0, 0, 0), ⟨"", "", ""⟩, ""),
  (1, .getfield 29, 3, (11, 8, 8, 2, 0), ⟨"", "", ""⟩, "WordHidesModel"),
  (4, .iconst 0, 1, (0, 0, 0, 0, 0), ⟨"", "", ""⟩, ""),
  (5, .iload_n 1, 1, (0, 0, 0, 0, 0), ⟨"", "", ""⟩, ""),
  (6, .iastore, 1, (0, 0, 0, 0, 0), ⟨"", "", ""⟩, ""),
  (7, .aload_n 0, 1, (0, 0, 0, 0, 0), ⟨"", "", ""⟩, ""),
  (8, .getfield 29, 3, (11, 8, 8, 2, 0), ⟨"", "", ""⟩, "WordHidesModel"),
  (11, .iconst 1, 1, (0, 0, 0, 0, 0), ⟨"", "", ""⟩, ""),
  (12, .iload_n 2, 1, (0, 0, 0, 0, 0), ⟨"", "", ""⟩, ""),
  (13, .iastore, 1, (0, 0, 0, 0, 0), ⟨"", "", ""⟩, ""),
  (14, .aload_n 0, 1, (0, 0, 0, 0, 0), ⟨"", "", ""⟩, ""),
  (15, .getfield 29, 3, (11, 8, 8, 2, 0), ⟨"", "", ""⟩, "WordHidesModel"),
  (18, .iconst 2, 1, (0, 0, 0, 0, 0), ⟨"", "", ""⟩, ""),
  (19, .iload_n 3, 1, (0, 0, 0, 0, 0), ⟨"", "", ""⟩, ""),
  (20, .iastore, 1, (0, 0, 0, 0, 0), ⟨"", "", ""⟩, ""),
  (21, .return_, 1, (0, 0, 0, 0, 0), ⟨"", "", ""⟩, "")])
def pX9_see : wM := (⟨"WordHidesModel", "see", "(III)V"⟩, prog_11_method_38_code, 5, none, 4, [
  (0, .aload_n 0, 1, (0, 0, 0, 0, 0), ⟨"", "", ""⟩, ""),
  (1, .getfield 99, 3, (12, 8, 8, 1, 0), ⟨"", "", ""⟩, "WordHidesModel"),
  (4, .ifCond .eq 35, 3, (39, 0, 0, 0, 0), ⟨"", "", ""⟩, ""),
  (7, .aload_n 0, 1, (0, 0, 0, 0, 0), ⟨"", "", ""⟩, ""),
  (8, .invokevirtual 103, 3, (0, 8, 110, 8, 110), ⟨"WordHidesModel", "isGood", "()Z"⟩, ""),
  (11, .ifCond .eq 27, 3, (38, 0, 0, 0, 0), ⟨"", "", ""⟩, ""),
  (14, .aload_n 0, 1, (0, 0, 0, 0, 0), ⟨"", "", ""⟩, ""),
  (15, .getfield 107, 3, (10, 8, 8, 0, 0), ⟨"", "", ""⟩, "WordHidesModel"),
  (18, .ifCond .ne 10, 3, (28, 0, 0, 0, 0), ⟨"", "", ""⟩, ""),
  (21, .aload_n 0, 1, (0, 0, 0, 0, 0), ⟨"", "", ""⟩, ""),
  (22, .iload_n 1, 1, (0, 0, 0, 0, 0), ⟨"", "", ""⟩, ""),
  (23, .iload_n 2, 1, (0, 0, 0, 0, 0), ⟨"", "", ""⟩, ""),
  (24, .iload_n 3, 1, (0, 0, 0, 0, 0), ⟨"", "", ""⟩, ""),
  (25, .invokevirtual 110, 3, (3, 8, 100, 8, 100), ⟨"WordHidesModel", "keep", "(III)V"⟩, ""),
  (28, .aload_n 0, 1, (0, 0, 0, 0, 0), ⟨"", "", ""⟩, ""),
  (29, .dup, 1, (0, 0, 0, 0, 0), ⟨"", "", ""⟩, ""),
  (30, .getfield 107, 3, (10, 8, 8, 0, 0), ⟨"", "", ""⟩, "WordHidesModel"),
  (33, .iconst 1, 1, (0, 0, 0, 0, 0), ⟨"", "", ""⟩, ""),
  (34, .iadd, 1, (0, 0, 0, 0, 0), ⟨"", "", ""⟩, ""),
  (35, .putfield 107, 3, (10, 8, 8, 0, 0), ⟨"", "", ""⟩, "WordHidesModel"),
  (38, .return_, 1, (0, 0, 0, 0, 0), ⟨"", "", ""⟩, ""),
  (39, .aload_n 0, 1, (0, 0, 0, 0, 0), ⟨"", "", ""⟩, ""),
  (40, .invokevirtual 114, 3, (0, 8, 98, 8, 98), ⟨"WordHidesModel", "crossed", "()I"⟩, ""),
  (43, .istore 4, 2, (0, 0, 0, 0, 0), ⟨"", "", ""⟩, ""),
  (45, .aload_n 0, 1, (0, 0, 0, 0, 0), ⟨"", "", ""⟩, ""),
  (46, .getfield 117, 3, (7, 8, 8, 0, 0), ⟨"", "", ""⟩, "WordHidesModel"),
  (49, .ifCond .eq 12, 3, (61, 0, 0, 0, 0), ⟨"", "", ""⟩, ""),
  (52, .iload 4, 2, (0, 0, 0, 0, 0), ⟨"", "", ""⟩, ""),
  (54, .aload_n 0, 1, (0, 0, 0, 0, 0), ⟨"", "", ""⟩, ""),
  (55, .getfield 120, 3, (8, 8, 8, 0, 0), ⟨"", "", ""⟩, "WordHidesModel"),
  (58, .if_icmp .le 21, 3, (79, 0, 0, 0, 0), ⟨"", "", ""⟩, ""),
  (61, .aload_n 0, 1, (0, 0, 0, 0, 0), ⟨"", "", ""⟩, ""),
  (62, .iload 4, 2, (0, 0, 0, 0, 0), ⟨"", "", ""⟩, ""),
  (64, .putfield 120, 3, (8, 8, 8, 0, 0), ⟨"", "", ""⟩, "WordHidesModel"),
  (67, .aload_n 0, 1, (0, 0, 0, 0, 0), ⟨"", "", ""⟩, ""),
  (68, .iconst 0, 1, (0, 0, 0, 0, 0), ⟨"", "", ""⟩, ""),
  (69, .putfield 123, 3, (9, 8, 8, 0, 0), ⟨"", "", ""⟩, "WordHidesModel"),
  (72, .aload_n 0, 1, (0, 0, 0, 0, 0), ⟨"", "", ""⟩, ""),
  (73, .iload_n 1, 1, (0, 0, 0, 0, 0), ⟨"", "", ""⟩, ""),
  (74, .iload_n 2, 1, (0, 0, 0, 0, 0), ⟨"", "", ""⟩, ""),
  (75, .iload_n 3, 1, (0, 0, 0, 0, 0), ⟨"", "", ""⟩, ""),
  (76, .invokevirtual 110, 3, (3, 8, 100, 8, 100), ⟨"WordHidesModel", "keep", "(III)V"⟩, ""),
  (79, .aload_n 0, 1, (0, 0, 0, 0, 0), ⟨"", "", ""⟩, ""),
  (80, .dup, 1, (0, 0, 0, 0, 0), ⟨"", "", ""⟩, ""),
  (81, .getfield 123, 3, (9, 8, 8, 0, 0), ⟨"", "", ""⟩, "WordHidesModel"),
  (84, .iload 4, 2, (0, 0, 0, 0, 0), ⟨"", "", ""⟩, ""),
  (86, .aload_n 0, 1, (0, 0, 0, 0, 0), ⟨"", "", ""⟩, ""),
  (87, .getfield 120, 3, (8, 8, 8, 0, 0), ⟨"", "", ""⟩, "WordHidesModel"),
  (90, .if_icmp .ne 7, 3, (97, 0, 0, 0, 0), ⟨"", "", ""⟩, ""),
  (93, .iconst 1, 1, (0, 0, 0, 0, 0), ⟨"", "", ""⟩, ""),
  (94, .goto 4, 3, (98, 0, 0, 0, 0), ⟨"", "", ""⟩, ""),
  (97, .iconst 0, 1, (0, 0, 0, 0, 0), ⟨"", "", ""⟩, ""),
  (98, .iadd, 1, (0, 0, 0, 0, 0), ⟨"", "", ""⟩, ""),
  (99, .putfield 123, 3, (9, 8, 8, 0, 0), ⟨"", "", ""⟩, "WordHidesModel"),
  (102, .aload_n 0, 1, (0, 0, 0, 0, 0), ⟨"", "", ""⟩, ""),
  (103, .dup, 1, (0, 0, 0, 0, 0), ⟨"", "", ""⟩, ""),
  (104, .getfield 117, 3, (7, 8, 8, 0, 0), ⟨"", "", ""⟩, "WordHidesModel"),
  (107, .iconst 1, 1, (0, 0, 0, 0, 0), ⟨"", "", ""⟩, ""),
  (108, .iadd, 1, (0, 0, 0, 0, 0), ⟨"", "", ""⟩, ""),
  (109, .putfield 117, 3, (7, 8, 8, 0, 0), ⟨"", "", ""⟩, "WordHidesModel"),
  (112, .return_, 1, (0, 0, 0, 0, 0), ⟨"", "", ""⟩, "")])
def pX9_goThrough : wM := (⟨"WordHidesModel", "goThrough", "(Z)V"⟩, prog_11_method_39_code, 4, none, 2, [
  (0, .aload_n 0, 1, (0, 0, 0, 0, 0), ⟨"", "", ""⟩, ""),
  (1, .iload_n 1, 1, (0, 0, 0, 0, 0), ⟨"", "", ""⟩, ""),
  (2, .putfield 99, 3, (12, 8, 8, 1, 0), ⟨"", "", ""⟩, "WordHidesModel"),
  (5, .aload_n 0, 1, (0, 0, 0, 0, 0), ⟨"", "", ""⟩, ""),
  (6, .iconst 0, 1, (0, 0, 0, 0, 0), ⟨"", "", ""⟩, ""),
  (7, .putfield 117, 3, (7, 8, 8, 0, 0), ⟨"", "", ""⟩, "WordHidesModel"),
  (10, .aload_n 0, 1, (0, 0, 0, 0, 0), ⟨"", "", ""⟩, ""),
  (11, .bipush (-6), 2, (0, 0, 0, 0, 0), ⟨"", "", ""⟩, ""),
  (13, .putfield 120, 3, (8, 8, 8, 0, 0), ⟨"", "", ""⟩, "WordHidesModel"),
  (16, .aload_n 0, 1, (0, 0, 0, 0, 0), ⟨"", "", ""⟩, ""),
  (17, .bipush (-6), 2, (0, 0, 0, 0, 0), ⟨"", "", ""⟩, ""),
  (19, .putfield 123, 3, (9, 8, 8, 0, 0), ⟨"", "", ""⟩, "WordHidesModel"),
  (22, .aload_n 0, 1, (0, 0, 0, 0, 0), ⟨"", "", ""⟩, ""),
  (23, .iconst 0, 1, (0, 0, 0, 0, 0), ⟨"", "", ""⟩, ""),
  (24, .putfield 107, 3, (10, 8, 8, 0, 0), ⟨"", "", ""⟩, "WordHidesModel"),
  (27, .aload_n 0, 1, (0, 0, 0, 0, 0), ⟨"", "", ""⟩, ""),
  (28, .invokevirtual 90, 3, (0, 8, 87, 8, 87), ⟨"WordHidesModel", "begin", "()V"⟩, ""),
  (31, .iconst 0, 1, (0, 0, 0, 0, 0), ⟨"", "", ""⟩, ""),
  (32, .istore_n 2, 1, (0, 0, 0, 0, 0), ⟨"", "", ""⟩, ""),
  (33, .iload_n 2, 1, (0, 0, 0, 0, 0), ⟨"", "", ""⟩, ""),
  (34, .aload_n 0, 1, (0, 0, 0, 0, 0), ⟨"", "", ""⟩, ""),
  (35, .iconst 0, 1, (0, 0, 0, 0, 0), ⟨"", "", ""⟩, ""),
  (36, .invokevirtual 126, 3, (1, 8, 90, 8, 90), ⟨"WordHidesModel", "placesOf", "(I)I"⟩, ""),
  (39, .if_icmp .ge 50, 3, (89, 0, 0, 0, 0), ⟨"", "", ""⟩, ""),
  (42, .aload_n 0, 1, (0, 0, 0, 0, 0), ⟨"", "", ""⟩, ""),
  (43, .iconst 0, 1, (0, 0, 0, 0, 0), ⟨"", "", ""⟩, ""),
  (44, .iload_n 2, 1, (0, 0, 0, 0, 0), ⟨"", "", ""⟩, ""),
  (45, .invokevirtual 129, 3, (2, 8, 91, 8, 91), ⟨"WordHidesModel", "layStep", "(II)Z"⟩, ""),
  (48, .ifCond .eq 35, 3, (83, 0, 0, 0, 0), ⟨"", "", ""⟩, ""),
  (51, .iconst 0, 1, (0, 0, 0, 0, 0), ⟨"", "", ""⟩, ""),
  (52, .istore_n 3, 1, (0, 0, 0, 0, 0), ⟨"", "", ""⟩, ""),
  (53, .iload_n 3, 1, (0, 0, 0, 0, 0), ⟨"", "", ""⟩, ""),
  (54, .aload_n 0, 1, (0, 0, 0, 0, 0), ⟨"", "", ""⟩, ""),
  (55, .iconst 1, 1, (0, 0, 0, 0, 0), ⟨"", "", ""⟩, ""),
  (56, .invokevirtual 126, 3, (1, 8, 90, 8, 90), ⟨"WordHidesModel", "placesOf", "(I)I"⟩, ""),
  (59, .if_icmp .ge 24, 3, (83, 0, 0, 0, 0), ⟨"", "", ""⟩, ""),
  (62, .aload_n 0, 1, (0, 0, 0, 0, 0), ⟨"", "", ""⟩, ""),
  (63, .iconst 1, 1, (0, 0, 0, 0, 0), ⟨"", "", ""⟩, ""),
  (64, .iload_n 3, 1, (0, 0, 0, 0, 0), ⟨"", "", ""⟩, ""),
  (65, .invokevirtual 129, 3, (2, 8, 91, 8, 91), ⟨"WordHidesModel", "layStep", "(II)Z"⟩, ""),
  (68, .ifCond .eq 9, 3, (77, 0, 0, 0, 0), ⟨"", "", ""⟩, ""),
  (71, .aload_n 0, 1, (0, 0, 0, 0, 0), ⟨"", "", ""⟩, ""),
  (72, .iload_n 2, 1, (0, 0, 0, 0, 0), ⟨"", "", ""⟩, ""),
  (73, .iload_n 3, 1, (0, 0, 0, 0, 0), ⟨"", "", ""⟩, ""),
  (74, .invokevirtual 132, 3, (2, 8, 103, 8, 103), ⟨"WordHidesModel", "goLast", "(II)V"⟩, ""),
  (77, .iinc 3 1, 3, (0, 0, 0, 0, 0), ⟨"", "", ""⟩, ""),
  (80, .goto (-27), 3, (53, 0, 0, 0, 0), ⟨"", "", ""⟩, ""),
  (83, .iinc 2 1, 3, (0, 0, 0, 0, 0), ⟨"", "", ""⟩, ""),
  (86, .goto (-53), 3, (33, 0, 0, 0, 0), ⟨"", "", ""⟩, ""),
  (89, .return_, 1, (0, 0, 0, 0, 0), ⟨"", "", ""⟩, "")])
def pX9_goLast : wM := (⟨"WordHidesModel", "goLast", "(II)V"⟩, prog_11_method_40_code, 4, none, 3, [
  (0, .iconst 0, 1, (0, 0, 0, 0, 0), ⟨"", "", ""⟩, ""),
  (1, .istore_n 3, 1, (0, 0, 0, 0, 0), ⟨"", "", ""⟩, ""),
  (2, .iload_n 3, 1, (0, 0, 0, 0, 0), ⟨"", "", ""⟩, ""),
  (3, .aload_n 0, 1, (0, 0, 0, 0, 0), ⟨"", "", ""⟩, ""),
  (4, .iconst 2, 1, (0, 0, 0, 0, 0), ⟨"", "", ""⟩, ""),
  (5, .invokevirtual 126, 3, (1, 8, 90, 8, 90), ⟨"WordHidesModel", "placesOf", "(I)I"⟩, ""),
  (8, .if_icmp .ge 25, 3, (33, 0, 0, 0, 0), ⟨"", "", ""⟩, ""),
  (11, .aload_n 0, 1, (0, 0, 0, 0, 0), ⟨"", "", ""⟩, ""),
  (12, .iconst 2, 1, (0, 0, 0, 0, 0), ⟨"", "", ""⟩, ""),
  (13, .iload_n 3, 1, (0, 0, 0, 0, 0), ⟨"", "", ""⟩, ""),
  (14, .invokevirtual 129, 3, (2, 8, 91, 8, 91), ⟨"WordHidesModel", "layStep", "(II)Z"⟩, ""),
  (17, .ifCond .eq 10, 3, (27, 0, 0, 0, 0), ⟨"", "", ""⟩, ""),
  (20, .aload_n 0, 1, (0, 0, 0, 0, 0), ⟨"", "", ""⟩, ""),
  (21, .iload_n 1, 1, (0, 0, 0, 0, 0), ⟨"", "", ""⟩, ""),
  (22, .iload_n 2, 1, (0, 0, 0, 0, 0), ⟨"", "", ""⟩, ""),
  (23, .iload_n 3, 1, (0, 0, 0, 0, 0), ⟨"", "", ""⟩, ""),
  (24, .invokevirtual 136, 3, (3, 8, 101, 8, 101), ⟨"WordHidesModel", "see", "(III)V"⟩, ""),
  (27, .iinc 3 1, 3, (0, 0, 0, 0, 0), ⟨"", "", ""⟩, ""),
  (30, .goto (-28), 3, (2, 0, 0, 0, 0), ⟨"", "", ""⟩, ""),
  (33, .return_, 1, (0, 0, 0, 0, 0), ⟨"", "", ""⟩, "")])
def pX9_placeTold : wM := (⟨"WordHidesModel", "placeTold", "(IZ)I"⟩, prog_11_method_41_code, 3, (some .int), 3, [
  (0, .iload_n 2, 1, (0, 0, 0, 0, 0), ⟨"", "", ""⟩, ""),
  (1, .ifCond .eq 23, 3, (24, 0, 0, 0, 0), ⟨"", "", ""⟩, ""),
  (4, .iload_n 1, 1, (0, 0, 0, 0, 0), ⟨"", "", ""⟩, ""),
  (5, .aload_n 0, 1, (0, 0, 0, 0, 0), ⟨"", "", ""⟩, ""),
  (6, .getfield 7, 3, (0, 8, 8, 2, 0), ⟨"", "", ""⟩, "WordHidesModel"),
  (9, .bipush 27, 2, (0, 0, 0, 0, 0), ⟨"", "", ""⟩, ""),
  (11, .iaload, 1, (0, 0, 0, 0, 0), ⟨"", "", ""⟩, ""),
  (12, .if_icmp .ge 12, 3, (24, 0, 0, 0, 0), ⟨"", "", ""⟩, ""),
  (15, .aload_n 0, 1, (0, 0, 0, 0, 0), ⟨"", "", ""⟩, ""),
  (16, .getfield 29, 3, (11, 8, 8, 2, 0), ⟨"", "", ""⟩, "WordHidesModel"),
  (19, .iload_n 1, 1, (0, 0, 0, 0, 0), ⟨"", "", ""⟩, ""),
  (20, .iaload, 1, (0, 0, 0, 0, 0), ⟨"", "", ""⟩, ""),
  (21, .goto 5, 3, (26, 0, 0, 0, 0), ⟨"", "", ""⟩, ""),
  (24, .bipush (-6), 2, (0, 0, 0, 0, 0), ⟨"", "", ""⟩, ""),
  (26, .ireturn, 1, (0, 0, 0, 0, 0), ⟨"", "", ""⟩, "")])
def pX9_most : wM := (⟨"WordHidesModel", "most", "(I)I"⟩, prog_11_method_42_code, 2, (some .int), 2, [
  (0, .iload_n 1, 1, (0, 0, 0, 0, 0), ⟨"", "", ""⟩, ""),
  (1, .iconst 0, 1, (0, 0, 0, 0, 0), ⟨"", "", ""⟩, ""),
  (2, .iconst 2, 1, (0, 0, 0, 0, 0), ⟨"", "", ""⟩, ""),
  (3, .invokestatic 36, 3, (3, 0, 65, 0, 0), ⟨"WordHidesModel", "in", "(III)Z"⟩, ""),
  (6, .ifCond .ne 17, 3, (23, 0, 0, 0, 0), ⟨"", "", ""⟩, ""),
  (9, .iload_n 1, 1, (0, 0, 0, 0, 0), ⟨"", "", ""⟩, ""),
  (10, .bipush 10, 2, (0, 0, 0, 0, 0), ⟨"", "", ""⟩, ""),
  (12, .bipush 12, 2, (0, 0, 0, 0, 0), ⟨"", "", ""⟩, ""),
  (14, .invokestatic 36, 3, (3, 0, 65, 0, 0), ⟨"WordHidesModel", "in", "(III)Z"⟩, ""),
  (17, .ifCond .ne 6, 3, (23, 0, 0, 0, 0), ⟨"", "", ""⟩, ""),
  (20, .bipush (-2), 2, (0, 0, 0, 0, 0), ⟨"", "", ""⟩, ""),
  (22, .ireturn, 1, (0, 0, 0, 0, 0), ⟨"", "", ""⟩, ""),
  (23, .aload_n 0, 1, (0, 0, 0, 0, 0), ⟨"", "", ""⟩, ""),
  (24, .iconst 0, 1, (0, 0, 0, 0, 0), ⟨"", "", ""⟩, ""),
  (25, .invokevirtual 139, 3, (1, 8, 102, 8, 102), ⟨"WordHidesModel", "goThrough", "(Z)V"⟩, ""),
  (28, .iload_n 1, 1, (0, 0, 0, 0, 0), ⟨"", "", ""⟩, ""),
  (29, .tableswitch 42 0 2 #[27, 32, 37], 27, (0, 0, 0, 0, 0), ⟨"", "", ""⟩, ""),
  (56, .aload_n 0, 1, (0, 0, 0, 0, 0), ⟨"", "", ""⟩, ""),
  (57, .getfield 117, 3, (7, 8, 8, 0, 0), ⟨"", "", ""⟩, "WordHidesModel"),
  (60, .ireturn, 1, (0, 0, 0, 0, 0), ⟨"", "", ""⟩, ""),
  (61, .aload_n 0, 1, (0, 0, 0, 0, 0), ⟨"", "", ""⟩, ""),
  (62, .getfield 120, 3, (8, 8, 8, 0, 0), ⟨"", "", ""⟩, "WordHidesModel"),
  (65, .ireturn, 1, (0, 0, 0, 0, 0), ⟨"", "", ""⟩, ""),
  (66, .aload_n 0, 1, (0, 0, 0, 0, 0), ⟨"", "", ""⟩, ""),
  (67, .getfield 123, 3, (9, 8, 8, 0, 0), ⟨"", "", ""⟩, "WordHidesModel"),
  (70, .ireturn, 1, (0, 0, 0, 0, 0), ⟨"", "", ""⟩, ""),
  (71, .aload_n 0, 1, (0, 0, 0, 0, 0), ⟨"", "", ""⟩, ""),
  (72, .iload_n 1, 1, (0, 0, 0, 0, 0), ⟨"", "", ""⟩, ""),
  (73, .bipush 10, 2, (0, 0, 0, 0, 0), ⟨"", "", ""⟩, ""),
  (75, .isub, 1, (0, 0, 0, 0, 0), ⟨"", "", ""⟩, ""),
  (76, .aload_n 0, 1, (0, 0, 0, 0, 0), ⟨"", "", ""⟩, ""),
  (77, .getfield 117, 3, (7, 8, 8, 0, 0), ⟨"", "", ""⟩, "WordHidesModel"),
  (80, .ifCond .le 7, 3, (87, 0, 0, 0, 0), ⟨"", "", ""⟩, ""),
  (83, .iconst 1, 1, (0, 0, 0, 0, 0), ⟨"", "", ""⟩, ""),
  (84, .goto 4, 3, (88, 0, 0, 0, 0), ⟨"", "", ""⟩, ""),
  (87, .iconst 0, 1, (0, 0, 0, 0, 0), ⟨"", "", ""⟩, ""),
  (88, .invokevirtual 143, 3, (2, 8, 104, 8, 104), ⟨"WordHidesModel", "placeTold", "(IZ)I"⟩, ""),
  (91, .ireturn, 1, (0, 0, 0, 0, 0), ⟨"", "", ""⟩, "")])
def pX9_areNone : wM := (⟨"WordHidesModel", "areNone", "(III)Z"⟩, prog_11_method_43_code, 4, (some .boolean), 4, [
  (0, .aload_n 0, 1, (0, 0, 0, 0, 0), ⟨"", "", ""⟩, ""),
  (1, .getfield 7, 3, (0, 8, 8, 2, 0), ⟨"", "", ""⟩, "WordHidesModel"),
  (4, .bipush 27, 2, (0, 0, 0, 0, 0), ⟨"", "", ""⟩, ""),
  (6, .iaload, 1, (0, 0, 0, 0, 0), ⟨"", "", ""⟩, ""),
  (7, .ifCond .le 11, 3, (18, 0, 0, 0, 0), ⟨"", "", ""⟩, ""),
  (10, .aload_n 0, 1, (0, 0, 0, 0, 0), ⟨"", "", ""⟩, ""),
  (11, .iload_n 1, 1, (0, 0, 0, 0, 0), ⟨"", "", ""⟩, ""),
  (12, .invokevirtual 93, 3, (1, 8, 69, 8, 69), ⟨"WordHidesModel", "isPlace", "(I)Z"⟩, ""),
  (15, .ifCond .eq 41, 3, (56, 0, 0, 0, 0), ⟨"", "", ""⟩, ""),
  (18, .aload_n 0, 1, (0, 0, 0, 0, 0), ⟨"", "", ""⟩, ""),
  (19, .getfield 7, 3, (0, 8, 8, 2, 0), ⟨"", "", ""⟩, "WordHidesModel"),
  (22, .bipush 27, 2, (0, 0, 0, 0, 0), ⟨"", "", ""⟩, ""),
  (24, .iaload, 1, (0, 0, 0, 0, 0), ⟨"", "", ""⟩, ""),
  (25, .iconst 1, 1, (0, 0, 0, 0, 0), ⟨"", "", ""⟩, ""),
  (26, .if_icmp .le 11, 3, (37, 0, 0, 0, 0), ⟨"", "", ""⟩, ""),
  (29, .aload_n 0, 1, (0, 0, 0, 0, 0), ⟨"", "", ""⟩, ""),
  (30, .iload_n 2, 1, (0, 0, 0, 0, 0), ⟨"", "", ""⟩, ""),
  (31, .invokevirtual 93, 3, (1, 8, 69, 8, 69), ⟨"WordHidesModel", "isPlace", "(I)Z"⟩, ""),
  (34, .ifCond .eq 22, 3, (56, 0, 0, 0, 0), ⟨"", "", ""⟩, ""),
  (37, .aload_n 0, 1, (0, 0, 0, 0, 0), ⟨"", "", ""⟩, ""),
  (38, .getfield 7, 3, (0, 8, 8, 2, 0), ⟨"", "", ""⟩, "WordHidesModel"),
  (41, .bipush 27, 2, (0, 0, 0, 0, 0), ⟨"", "", ""⟩, ""),
  (43, .iaload, 1, (0, 0, 0, 0, 0), ⟨"", "", ""⟩, ""),
  (44, .iconst 2, 1, (0, 0, 0, 0, 0), ⟨"", "", ""⟩, ""),
  (45, .if_icmp .le 15, 3, (60, 0, 0, 0, 0), ⟨"", "", ""⟩, ""),
  (48, .aload_n 0, 1, (0, 0, 0, 0, 0), ⟨"", "", ""⟩, ""),
  (49, .iload_n 3, 1, (0, 0, 0, 0, 0), ⟨"", "", ""⟩, ""),
  (50, .invokevirtual 93, 3, (1, 8, 69, 8, 69), ⟨"WordHidesModel", "isPlace", "(I)Z"⟩, ""),
  (53, .ifCond .ne 7, 3, (60, 0, 0, 0, 0), ⟨"", "", ""⟩, ""),
  (56, .iconst 1, 1, (0, 0, 0, 0, 0), ⟨"", "", ""⟩, ""),
  (57, .goto 4, 3, (61, 0, 0, 0, 0), ⟨"", "", ""⟩, ""),
  (60, .iconst 0, 1, (0, 0, 0, 0, 0), ⟨"", "", ""⟩, ""),
  (61, .ireturn, 1, (1, 0, 0, 0, 0), ⟨"", "", ""⟩, "")])
def pX9_covers : wM := (⟨"WordHidesModel", "covers", "(III)I"⟩, prog_11_method_44_code, 4, (some .int), 4, [
  (0, .aload_n 0, 1, (0, 0, 0, 0, 0), ⟨"", "", ""⟩, ""),
  (1, .iload_n 1, 1, (0, 0, 0, 0, 0), ⟨"", "", ""⟩, ""),
  (2, .iload_n 2, 1, (0, 0, 0, 0, 0), ⟨"", "", ""⟩, ""),
  (3, .iload_n 3, 1, (0, 0, 0, 0, 0), ⟨"", "", ""⟩, ""),
  (4, .invokevirtual 147, 3, (3, 8, 106, 8, 106), ⟨"WordHidesModel", "areNone", "(III)Z"⟩, ""),
  (7, .ifCond .eq 6, 3, (13, 0, 0, 0, 0), ⟨"", "", ""⟩, ""),
  (10, .bipush (-2), 2, (0, 0, 0, 0, 0), ⟨"", "", ""⟩, ""),
  (12, .ireturn, 1, (0, 0, 0, 0, 0), ⟨"", "", ""⟩, ""),
  (13, .aload_n 0, 1, (0, 0, 0, 0, 0), ⟨"", "", ""⟩, ""),
  (14, .invokevirtual 90, 3, (0, 8, 87, 8, 87), ⟨"WordHidesModel", "begin", "()V"⟩, ""),
  (17, .aload_n 0, 1, (0, 0, 0, 0, 0), ⟨"", "", ""⟩, ""),
  (18, .iconst 0, 1, (0, 0, 0, 0, 0), ⟨"", "", ""⟩, ""),
  (19, .iload_n 1, 1, (0, 0, 0, 0, 0), ⟨"", "", ""⟩, ""),
  (20, .invokevirtual 129, 3, (2, 8, 91, 8, 91), ⟨"WordHidesModel", "layStep", "(II)Z"⟩, ""),
  (23, .ifCond .eq 28, 3, (51, 0, 0, 0, 0), ⟨"", "", ""⟩, ""),
  (26, .aload_n 0, 1, (0, 0, 0, 0, 0), ⟨"", "", ""⟩, ""),
  (27, .iconst 1, 1, (0, 0, 0, 0, 0), ⟨"", "", ""⟩, ""),
  (28, .iload_n 2, 1, (0, 0, 0, 0, 0), ⟨"", "", ""⟩, ""),
  (29, .invokevirtual 129, 3, (2, 8, 91, 8, 91), ⟨"WordHidesModel", "layStep", "(II)Z"⟩, ""),
  (32, .ifCond .eq 19, 3, (51, 0, 0, 0, 0), ⟨"", "", ""⟩, ""),
  (35, .aload_n 0, 1, (0, 0, 0, 0, 0), ⟨"", "", ""⟩, ""),
  (36, .iconst 2, 1, (0, 0, 0, 0, 0), ⟨"", "", ""⟩, ""),
  (37, .iload_n 3, 1, (0, 0, 0, 0, 0), ⟨"", "", ""⟩, ""),
  (38, .invokevirtual 129, 3, (2, 8, 91, 8, 91), ⟨"WordHidesModel", "layStep", "(II)Z"⟩, ""),
  (41, .ifCond .eq 10, 3, (51, 0, 0, 0, 0), ⟨"", "", ""⟩, ""),
  (44, .aload_n 0, 1, (0, 0, 0, 0, 0), ⟨"", "", ""⟩, ""),
  (45, .invokevirtual 150, 3, (0, 8, 99, 8, 99), ⟨"WordHidesModel", "covered", "()I"⟩, ""),
  (48, .goto 5, 3, (53, 0, 0, 0, 0), ⟨"", "", ""⟩, ""),
  (51, .bipush (-5), 2, (0, 0, 0, 0, 0), ⟨"", "", ""⟩, ""),
  (53, .ireturn, 1, (0, 0, 0, 0, 0), ⟨"", "", ""⟩, "")])
def pX9_fillRest : wM := (⟨"WordHidesModel", "fillRest", "()I"⟩, prog_11_method_45_code, 4, (some .int), 1, [
  (0, .iconst 0, 1, (0, 0, 0, 0, 0), ⟨"", "", ""⟩, ""),
  (1, .istore_n 1, 1, (0, 0, 0, 0, 0), ⟨"", "", ""⟩, ""),
  (2, .iconst 0, 1, (0, 0, 0, 0, 0), ⟨"", "", ""⟩, ""),
  (3, .istore_n 2, 1, (0, 0, 0, 0, 0), ⟨"", "", ""⟩, ""),
  (4, .iload_n 2, 1, (0, 0, 0, 0, 0), ⟨"", "", ""⟩, ""),
  (5, .aload_n 0, 1, (0, 0, 0, 0, 0), ⟨"", "", ""⟩, ""),
  (6, .invokevirtual 32, 3, (0, 8, 66, 8, 66), ⟨"WordHidesModel", "cells", "()I"⟩, ""),
  (9, .if_icmp .ge 54, 3, (63, 0, 0, 0, 0), ⟨"", "", ""⟩, ""),
  (12, .aload_n 0, 1, (0, 0, 0, 0, 0), ⟨"", "", ""⟩, ""),
  (13, .getfield 23, 3, (5, 8, 8, 2, 0), ⟨"", "", ""⟩, "WordHidesModel"),
  (16, .bipush 48, 2, (0, 0, 0, 0, 0), ⟨"", "", ""⟩, ""),
  (18, .iload_n 2, 1, (0, 0, 0, 0, 0), ⟨"", "", ""⟩, ""),
  (19, .iadd, 1, (0, 0, 0, 0, 0), ⟨"", "", ""⟩, ""),
  (20, .iaload, 1, (0, 0, 0, 0, 0), ⟨"", "", ""⟩, ""),
  (21, .istore_n 3, 1, (0, 0, 0, 0, 0), ⟨"", "", ""⟩, ""),
  (22, .iload_n 3, 1, (0, 0, 0, 0, 0), ⟨"", "", ""⟩, ""),
  (23, .ifCond .ne 24, 3, (47, 0, 0, 0, 0), ⟨"", "", ""⟩, ""),
  (26, .aload_n 0, 1, (0, 0, 0, 0, 0), ⟨"", "", ""⟩, ""),
  (27, .getfield 7, 3, (0, 8, 8, 2, 0), ⟨"", "", ""⟩, "WordHidesModel"),
  (30, .bipush 17, 2, (0, 0, 0, 0, 0), ⟨"", "", ""⟩, ""),
  (32, .iload_n 1, 1, (0, 0, 0, 0, 0), ⟨"", "", ""⟩, ""),
  (33, .aload_n 0, 1, (0, 0, 0, 0, 0), ⟨"", "", ""⟩, ""),
  (34, .getfield 7, 3, (0, 8, 8, 2, 0), ⟨"", "", ""⟩, "WordHidesModel"),
  (37, .bipush 26, 2, (0, 0, 0, 0, 0), ⟨"", "", ""⟩, ""),
  (39, .iaload, 1, (0, 0, 0, 0, 0), ⟨"", "", ""⟩, ""),
  (40, .irem, 1, (0, 0, 0, 0, 0), ⟨"", "", ""⟩, ""),
  (41, .iadd, 1, (0, 0, 0, 0, 0), ⟨"", "", ""⟩, ""),
  (42, .iaload, 1, (0, 0, 0, 0, 0), ⟨"", "", ""⟩, ""),
  (43, .istore_n 3, 1, (0, 0, 0, 0, 0), ⟨"", "", ""⟩, ""),
  (44, .iinc 1 1, 3, (0, 0, 0, 0, 0), ⟨"", "", ""⟩, ""),
  (47, .aload_n 0, 1, (0, 0, 0, 0, 0), ⟨"", "", ""⟩, ""),
  (48, .getfield 23, 3, (5, 8, 8, 2, 0), ⟨"", "", ""⟩, "WordHidesModel"),
  (51, .bipush 64, 2, (0, 0, 0, 0, 0), ⟨"", "", ""⟩, ""),
  (53, .iload_n 2, 1, (0, 0, 0, 0, 0), ⟨"", "", ""⟩, ""),
  (54, .iadd, 1, (0, 0, 0, 0, 0), ⟨"", "", ""⟩, ""),
  (55, .iload_n 3, 1, (0, 0, 0, 0, 0), ⟨"", "", ""⟩, ""),
  (56, .iastore, 1, (0, 0, 0, 0, 0), ⟨"", "", ""⟩, ""),
  (57, .iinc 2 1, 3, (0, 0, 0, 0, 0), ⟨"", "", ""⟩, ""),
  (60, .goto (-56), 3, (4, 0, 0, 0, 0), ⟨"", "", ""⟩, ""),
  (63, .iload_n 1, 1, (0, 0, 0, 0, 0), ⟨"", "", ""⟩, ""),
  (64, .ireturn, 1, (0, 0, 0, 0, 0), ⟨"", "", ""⟩, "")])
def pX9_isSame : wM := (⟨"WordHidesModel", "isSame", "(I)Z"⟩, prog_11_method_46_code, 5, (some .boolean), 2, [
  (0, .aload_n 0, 1, (0, 0, 0, 0, 0), ⟨"", "", ""⟩, ""),
  (1, .iconst 0, 1, (0, 0, 0, 0, 0), ⟨"", "", ""⟩, ""),
  (2, .iload_n 1, 1, (0, 0, 0, 0, 0), ⟨"", "", ""⟩, ""),
  (3, .invokevirtual 58, 3, (2, 8, 71, 8, 71), ⟨"WordHidesModel", "longOf", "(II)I"⟩, ""),
  (6, .istore_n 2, 1, (0, 0, 0, 0, 0), ⟨"", "", ""⟩, ""),
  (7, .iconst 1, 1, (0, 0, 0, 0, 0), ⟨"", "", ""⟩, ""),
  (8, .istore_n 3, 1, (0, 0, 0, 0, 0), ⟨"", "", ""⟩, ""),
  (9, .iconst 0, 1, (0, 0, 0, 0, 0), ⟨"", "", ""⟩, ""),
  (10, .istore 4, 2, (0, 0, 0, 0, 0), ⟨"", "", ""⟩, ""),
  (12, .iload 4, 2, (0, 0, 0, 0, 0), ⟨"", "", ""⟩, ""),
  (14, .iload_n 2, 1, (0, 0, 0, 0, 0), ⟨"", "", ""⟩, ""),
  (15, .if_icmp .ge 42, 3, (57, 0, 0, 0, 0), ⟨"", "", ""⟩, ""),
  (18, .iload_n 3, 1, (0, 0, 0, 0, 0), ⟨"", "", ""⟩, ""),
  (19, .ifCond .eq 30, 3, (49, 0, 0, 0, 0), ⟨"", "", ""⟩, ""),
  (22, .aload_n 0, 1, (0, 0, 0, 0, 0), ⟨"", "", ""⟩, ""),
  (23, .iconst 0, 1, (0, 0, 0, 0, 0), ⟨"", "", ""⟩, ""),
  (24, .iload_n 1, 1, (0, 0, 0, 0, 0), ⟨"", "", ""⟩, ""),
  (25, .iload 4, 2, (0, 0, 0, 0, 0), ⟨"", "", ""⟩, ""),
  (27, .invokevirtual 62, 3, (3, 8, 72, 8, 72), ⟨"WordHidesModel", "letterOf", "(III)I"⟩, ""),
  (30, .aload_n 0, 1, (0, 0, 0, 0, 0), ⟨"", "", ""⟩, ""),
  (31, .iconst 0, 1, (0, 0, 0, 0, 0), ⟨"", "", ""⟩, ""),
  (32, .iload_n 1, 1, (0, 0, 0, 0, 0), ⟨"", "", ""⟩, ""),
  (33, .iload_n 2, 1, (0, 0, 0, 0, 0), ⟨"", "", ""⟩, ""),
  (34, .iconst 1, 1, (0, 0, 0, 0, 0), ⟨"", "", ""⟩, ""),
  (35, .isub, 1, (0, 0, 0, 0, 0), ⟨"", "", ""⟩, ""),
  (36, .iload 4, 2, (0, 0, 0, 0, 0), ⟨"", "", ""⟩, ""),
  (38, .isub, 1, (0, 0, 0, 0, 0), ⟨"", "", ""⟩, ""),
  (39, .invokevirtual 62, 3, (3, 8, 72, 8, 72), ⟨"WordHidesModel", "letterOf", "(III)I"⟩, ""),
  (42, .if_icmp .ne 7, 3, (49, 0, 0, 0, 0), ⟨"", "", ""⟩, ""),
  (45, .iconst 1, 1, (0, 0, 0, 0, 0), ⟨"", "", ""⟩, ""),
  (46, .goto 4, 3, (50, 0, 0, 0, 0), ⟨"", "", ""⟩, ""),
  (49, .iconst 0, 1, (0, 0, 0, 0, 0), ⟨"", "", ""⟩, ""),
  (50, .istore_n 3, 1, (0, 0, 0, 0, 0), ⟨"", "", ""⟩, ""),
  (51, .iinc 4 1, 3, (0, 0, 0, 0, 0), ⟨"", "", ""⟩, ""),
  (54, .goto (-42), 3, (12, 0, 0, 0, 0), ⟨"", "", ""⟩, ""),
  (57, .iload_n 3, 1, (0, 0, 0, 0, 0), ⟨"", "", ""⟩, ""),
  (58, .ireturn, 1, (1, 0, 0, 0, 0), ⟨"", "", ""⟩, "")])
def pX9_isGood : wM := (⟨"WordHidesModel", "isGood", "()Z"⟩, prog_11_method_47_code, 2, (some .boolean), 1, [
  (0, .aload_n 0, 1, (0, 0, 0, 0, 0), ⟨"", "", ""⟩, ""),
  (1, .invokevirtual 153, 3, (0, 8, 108, 8, 108), ⟨"WordHidesModel", "fillRest", "()I"⟩, ""),
  (4, .pop, 1, (0, 0, 0, 0, 0), ⟨"", "", ""⟩, ""),
  (5, .iconst 0, 1, (0, 0, 0, 0, 0), ⟨"", "", ""⟩, ""),
  (6, .istore_n 1, 1, (0, 0, 0, 0, 0), ⟨"", "", ""⟩, ""),
  (7, .iload_n 1, 1, (0, 0, 0, 0, 0), ⟨"", "", ""⟩, ""),
  (8, .aload_n 0, 1, (0, 0, 0, 0, 0), ⟨"", "", ""⟩, ""),
  (9, .getfield 7, 3, (0, 8, 8, 2, 0), ⟨"", "", ""⟩, "WordHidesModel"),
  (12, .bipush 28, 2, (0, 0, 0, 0, 0), ⟨"", "", ""⟩, ""),
  (14, .iaload, 1, (0, 0, 0, 0, 0), ⟨"", "", ""⟩, ""),
  (15, .if_icmp .ge 22, 3, (37, 0, 0, 0, 0), ⟨"", "", ""⟩, ""),
  (18, .aload_n 0, 1, (0, 0, 0, 0, 0), ⟨"", "", ""⟩, ""),
  (19, .bipush 64, 2, (0, 0, 0, 0, 0), ⟨"", "", ""⟩, ""),
  (21, .iconst 1, 1, (0, 0, 0, 0, 0), ⟨"", "", ""⟩, ""),
  (22, .iload_n 1, 1, (0, 0, 0, 0, 0), ⟨"", "", ""⟩, ""),
  (23, .invokevirtual 156, 3, (3, 8, 93, 8, 93), ⟨"WordHidesModel", "timesIn", "(III)I"⟩, ""),
  (26, .ifCond .le 5, 3, (31, 0, 0, 0, 0), ⟨"", "", ""⟩, ""),
  (29, .iconst 0, 1, (0, 0, 0, 0, 0), ⟨"", "", ""⟩, ""),
  (30, .ireturn, 1, (1, 0, 0, 0, 0), ⟨"", "", ""⟩, ""),
  (31, .iinc 1 1, 3, (0, 0, 0, 0, 0), ⟨"", "", ""⟩, ""),
  (34, .goto (-27), 3, (7, 0, 0, 0, 0), ⟨"", "", ""⟩, ""),
  (37, .iconst 0, 1, (0, 0, 0, 0, 0), ⟨"", "", ""⟩, ""),
  (38, .istore_n 1, 1, (0, 0, 0, 0, 0), ⟨"", "", ""⟩, ""),
  (39, .iload_n 1, 1, (0, 0, 0, 0, 0), ⟨"", "", ""⟩, ""),
  (40, .aload_n 0, 1, (0, 0, 0, 0, 0), ⟨"", "", ""⟩, ""),
  (41, .getfield 7, 3, (0, 8, 8, 2, 0), ⟨"", "", ""⟩, "WordHidesModel"),
  (44, .bipush 27, 2, (0, 0, 0, 0, 0), ⟨"", "", ""⟩, ""),
  (46, .iaload, 1, (0, 0, 0, 0, 0), ⟨"", "", ""⟩, ""),
  (47, .if_icmp .ge 35, 3, (82, 0, 0, 0, 0), ⟨"", "", ""⟩, ""),
  (50, .aload_n 0, 1, (0, 0, 0, 0, 0), ⟨"", "", ""⟩, ""),
  (51, .bipush 64, 2, (0, 0, 0, 0, 0), ⟨"", "", ""⟩, ""),
  (53, .iconst 0, 1, (0, 0, 0, 0, 0), ⟨"", "", ""⟩, ""),
  (54, .iload_n 1, 1, (0, 0, 0, 0, 0), ⟨"", "", ""⟩, ""),
  (55, .invokevirtual 156, 3, (3, 8, 93, 8, 93), ⟨"WordHidesModel", "timesIn", "(III)I"⟩, ""),
  (58, .aload_n 0, 1, (0, 0, 0, 0, 0), ⟨"", "", ""⟩, ""),
  (59, .iload_n 1, 1, (0, 0, 0, 0, 0), ⟨"", "", ""⟩, ""),
  (60, .invokevirtual 159, 3, (1, 8, 109, 8, 109), ⟨"WordHidesModel", "isSame", "(I)Z"⟩, ""),
  (63, .ifCond .eq 7, 3, (70, 0, 0, 0, 0), ⟨"", "", ""⟩, ""),
  (66, .iconst 2, 1, (0, 0, 0, 0, 0), ⟨"", "", ""⟩, ""),
  (67, .goto 4, 3, (71, 0, 0, 0, 0), ⟨"", "", ""⟩, ""),
  (70, .iconst 1, 1, (0, 0, 0, 0, 0), ⟨"", "", ""⟩, ""),
  (71, .if_icmp .eq 5, 3, (76, 0, 0, 0, 0), ⟨"", "", ""⟩, ""),
  (74, .iconst 0, 1, (0, 0, 0, 0, 0), ⟨"", "", ""⟩, ""),
  (75, .ireturn, 1, (1, 0, 0, 0, 0), ⟨"", "", ""⟩, ""),
  (76, .iinc 1 1, 3, (0, 0, 0, 0, 0), ⟨"", "", ""⟩, ""),
  (79, .goto (-40), 3, (39, 0, 0, 0, 0), ⟨"", "", ""⟩, ""),
  (82, .iconst 1, 1, (0, 0, 0, 0, 0), ⟨"", "", ""⟩, ""),
  (83, .ireturn, 1, (1, 0, 0, 0, 0), ⟨"", "", ""⟩, "")])
def pX9_fillFirst : wM := (⟨"WordHidesModel", "fillFirst", "()I"⟩, prog_11_method_48_code, 2, (some .int), 1, [
  (0, .aload_n 0, 1, (0, 0, 0, 0, 0), ⟨"", "", ""⟩, ""),
  (1, .invokevirtual 90, 3, (0, 8, 87, 8, 87), ⟨"WordHidesModel", "begin", "()V"⟩, ""),
  (4, .iconst 0, 1, (0, 0, 0, 0, 0), ⟨"", "", ""⟩, ""),
  (5, .istore_n 1, 1, (0, 0, 0, 0, 0), ⟨"", "", ""⟩, ""),
  (6, .iload_n 1, 1, (0, 0, 0, 0, 0), ⟨"", "", ""⟩, ""),
  (7, .iconst 3, 1, (0, 0, 0, 0, 0), ⟨"", "", ""⟩, ""),
  (8, .if_icmp .ge 21, 3, (29, 0, 0, 0, 0), ⟨"", "", ""⟩, ""),
  (11, .aload_n 0, 1, (0, 0, 0, 0, 0), ⟨"", "", ""⟩, ""),
  (12, .iload_n 1, 1, (0, 0, 0, 0, 0), ⟨"", "", ""⟩, ""),
  (13, .aload_n 0, 1, (0, 0, 0, 0, 0), ⟨"", "", ""⟩, ""),
  (14, .getfield 29, 3, (11, 8, 8, 2, 0), ⟨"", "", ""⟩, "WordHidesModel"),
  (17, .iload_n 1, 1, (0, 0, 0, 0, 0), ⟨"", "", ""⟩, ""),
  (18, .iaload, 1, (0, 0, 0, 0, 0), ⟨"", "", ""⟩, ""),
  (19, .invokevirtual 129, 3, (2, 8, 91, 8, 91), ⟨"WordHidesModel", "layStep", "(II)Z"⟩, ""),
  (22, .pop, 1, (0, 0, 0, 0, 0), ⟨"", "", ""⟩, ""),
  (23, .iinc 1 1, 3, (0, 0, 0, 0, 0), ⟨"", "", ""⟩, ""),
  (26, .goto (-20), 3, (6, 0, 0, 0, 0), ⟨"", "", ""⟩, ""),
  (29, .aload_n 0, 1, (0, 0, 0, 0, 0), ⟨"", "", ""⟩, ""),
  (30, .invokevirtual 153, 3, (0, 8, 108, 8, 108), ⟨"WordHidesModel", "fillRest", "()I"⟩, ""),
  (33, .ireturn, 1, (0, 0, 0, 0, 0), ⟨"", "", ""⟩, "")])
def pX9_good : wM := (⟨"WordHidesModel", "good", "(I)I"⟩, prog_11_method_49_code, 2, (some .int), 2, [
  (0, .iload_n 1, 1, (0, 0, 0, 0, 0), ⟨"", "", ""⟩, ""),
  (1, .ifCond .eq 28, 3, (29, 0, 0, 0, 0), ⟨"", "", ""⟩, ""),
  (4, .iload_n 1, 1, (0, 0, 0, 0, 0), ⟨"", "", ""⟩, ""),
  (5, .bipush 10, 2, (0, 0, 0, 0, 0), ⟨"", "", ""⟩, ""),
  (7, .bipush 12, 2, (0, 0, 0, 0, 0), ⟨"", "", ""⟩, ""),
  (9, .invokestatic 36, 3, (3, 0, 65, 0, 0), ⟨"WordHidesModel", "in", "(III)Z"⟩, ""),
  (12, .ifCond .ne 17, 3, (29, 0, 0, 0, 0), ⟨"", "", ""⟩, ""),
  (15, .iload_n 1, 1, (0, 0, 0, 0, 0), ⟨"", "", ""⟩, ""),
  (16, .bipush 100, 2, (0, 0, 0, 0, 0), ⟨"", "", ""⟩, ""),
  (18, .bipush 115, 2, (0, 0, 0, 0, 0), ⟨"", "", ""⟩, ""),
  (20, .invokestatic 36, 3, (3, 0, 65, 0, 0), ⟨"WordHidesModel", "in", "(III)Z"⟩, ""),
  (23, .ifCond .ne 6, 3, (29, 0, 0, 0, 0), ⟨"", "", ""⟩, ""),
  (26, .bipush (-2), 2, (0, 0, 0, 0, 0), ⟨"", "", ""⟩, ""),
  (28, .ireturn, 1, (0, 0, 0, 0, 0), ⟨"", "", ""⟩, ""),
  (29, .aload_n 0, 1, (0, 0, 0, 0, 0), ⟨"", "", ""⟩, ""),
  (30, .iconst 1, 1, (0, 0, 0, 0, 0), ⟨"", "", ""⟩, ""),
  (31, .invokevirtual 139, 3, (1, 8, 102, 8, 102), ⟨"WordHidesModel", "goThrough", "(Z)V"⟩, ""),
  (34, .iload_n 1, 1, (0, 0, 0, 0, 0), ⟨"", "", ""⟩, ""),
  (35, .ifCond .ne 8, 3, (43, 0, 0, 0, 0), ⟨"", "", ""⟩, ""),
  (38, .aload_n 0, 1, (0, 0, 0, 0, 0), ⟨"", "", ""⟩, ""),
  (39, .getfield 107, 3, (10, 8, 8, 0, 0), ⟨"", "", ""⟩, "WordHidesModel"),
  (42, .ireturn, 1, (0, 0, 0, 0, 0), ⟨"", "", ""⟩, ""),
  (43, .iload_n 1, 1, (0, 0, 0, 0, 0), ⟨"", "", ""⟩, ""),
  (44, .bipush 100, 2, (0, 0, 0, 0, 0), ⟨"", "", ""⟩, ""),
  (46, .if_icmp .lt 10, 3, (56, 0, 0, 0, 0), ⟨"", "", ""⟩, ""),
  (49, .aload_n 0, 1, (0, 0, 0, 0, 0), ⟨"", "", ""⟩, ""),
  (50, .getfield 107, 3, (10, 8, 8, 0, 0), ⟨"", "", ""⟩, "WordHidesModel"),
  (53, .ifCond .ne 35, 3, (88, 0, 0, 0, 0), ⟨"", "", ""⟩, ""),
  (56, .iload_n 1, 1, (0, 0, 0, 0, 0), ⟨"", "", ""⟩, ""),
  (57, .bipush 100, 2, (0, 0, 0, 0, 0), ⟨"", "", ""⟩, ""),
  (59, .if_icmp .ge 26, 3, (85, 0, 0, 0, 0), ⟨"", "", ""⟩, ""),
  (62, .aload_n 0, 1, (0, 0, 0, 0, 0), ⟨"", "", ""⟩, ""),
  (63, .iload_n 1, 1, (0, 0, 0, 0, 0), ⟨"", "", ""⟩, ""),
  (64, .bipush 10, 2, (0, 0, 0, 0, 0), ⟨"", "", ""⟩, ""),
  (66, .isub, 1, (0, 0, 0, 0, 0), ⟨"", "", ""⟩, ""),
  (67, .aload_n 0, 1, (0, 0, 0, 0, 0), ⟨"", "", ""⟩, ""),
  (68, .getfield 107, 3, (10, 8, 8, 0, 0), ⟨"", "", ""⟩, "WordHidesModel"),
  (71, .ifCond .le 7, 3, (78, 0, 0, 0, 0), ⟨"", "", ""⟩, ""),
  (74, .iconst 1, 1, (0, 0, 0, 0, 0), ⟨"", "", ""⟩, ""),
  (75, .goto 4, 3, (79, 0, 0, 0, 0), ⟨"", "", ""⟩, ""),
  (78, .iconst 0, 1, (0, 0, 0, 0, 0), ⟨"", "", ""⟩, ""),
  (79, .invokevirtual 143, 3, (2, 8, 104, 8, 104), ⟨"WordHidesModel", "placeTold", "(IZ)I"⟩, ""),
  (82, .goto 5, 3, (87, 0, 0, 0, 0), ⟨"", "", ""⟩, ""),
  (85, .bipush (-6), 2, (0, 0, 0, 0, 0), ⟨"", "", ""⟩, ""),
  (87, .ireturn, 1, (0, 0, 0, 0, 0), ⟨"", "", ""⟩, ""),
  (88, .aload_n 0, 1, (0, 0, 0, 0, 0), ⟨"", "", ""⟩, ""),
  (89, .invokevirtual 162, 3, (0, 8, 111, 8, 111), ⟨"WordHidesModel", "fillFirst", "()I"⟩, ""),
  (92, .pop, 1, (0, 0, 0, 0, 0), ⟨"", "", ""⟩, ""),
  (93, .aload_n 0, 1, (0, 0, 0, 0, 0), ⟨"", "", ""⟩, ""),
  (94, .iload_n 1, 1, (0, 0, 0, 0, 0), ⟨"", "", ""⟩, ""),
  (95, .bipush 100, 2, (0, 0, 0, 0, 0), ⟨"", "", ""⟩, ""),
  (97, .isub, 1, (0, 0, 0, 0, 0), ⟨"", "", ""⟩, ""),
  (98, .invokevirtual 40, 3, (1, 8, 67, 8, 67), ⟨"WordHidesModel", "isCell", "(I)Z"⟩, ""),
  (101, .ifCond .eq 18, 3, (119, 0, 0, 0, 0), ⟨"", "", ""⟩, ""),
  (104, .aload_n 0, 1, (0, 0, 0, 0, 0), ⟨"", "", ""⟩, ""),
  (105, .getfield 23, 3, (5, 8, 8, 2, 0), ⟨"", "", ""⟩, "WordHidesModel"),
  (108, .bipush 64, 2, (0, 0, 0, 0, 0), ⟨"", "", ""⟩, ""),
  (110, .iload_n 1, 1, (0, 0, 0, 0, 0), ⟨"", "", ""⟩, ""),
  (111, .iadd, 1, (0, 0, 0, 0, 0), ⟨"", "", ""⟩, ""),
  (112, .bipush 100, 2, (0, 0, 0, 0, 0), ⟨"", "", ""⟩, ""),
  (114, .isub, 1, (0, 0, 0, 0, 0), ⟨"", "", ""⟩, ""),
  (115, .iaload, 1, (0, 0, 0, 0, 0), ⟨"", "", ""⟩, ""),
  (116, .goto 5, 3, (121, 0, 0, 0, 0), ⟨"", "", ""⟩, ""),
  (119, .bipush (-6), 2, (0, 0, 0, 0, 0), ⟨"", "", ""⟩, ""),
  (121, .ireturn, 1, (0, 0, 0, 0, 0), ⟨"", "", ""⟩, "")])
def pX9_hide : wM := (⟨"WordHidesModel", "hide", "()I"⟩, prog_11_method_50_code, 3, (some .int), 1, [
  (0, .aload_n 0, 1, (0, 0, 0, 0, 0), ⟨"", "", ""⟩, ""),
  (1, .iconst 1, 1, (0, 0, 0, 0, 0), ⟨"", "", ""⟩, ""),
  (2, .invokevirtual 139, 3, (1, 8, 102, 8, 102), ⟨"WordHidesModel", "goThrough", "(Z)V"⟩, ""),
  (5, .aload_n 0, 1, (0, 0, 0, 0, 0), ⟨"", "", ""⟩, ""),
  (6, .getfield 107, 3, (10, 8, 8, 0, 0), ⟨"", "", ""⟩, "WordHidesModel"),
  (9, .ifCond .ne 6, 3, (15, 0, 0, 0, 0), ⟨"", "", ""⟩, ""),
  (12, .bipush (-5), 2, (0, 0, 0, 0, 0), ⟨"", "", ""⟩, ""),
  (14, .ireturn, 1, (0, 0, 0, 0, 0), ⟨"", "", ""⟩, ""),
  (15, .aload_n 0, 1, (0, 0, 0, 0, 0), ⟨"", "", ""⟩, ""),
  (16, .invokevirtual 162, 3, (0, 8, 111, 8, 111), ⟨"WordHidesModel", "fillFirst", "()I"⟩, ""),
  (19, .istore_n 1, 1, (0, 0, 0, 0, 0), ⟨"", "", ""⟩, ""),
  (20, .iconst 0, 1, (0, 0, 0, 0, 0), ⟨"", "", ""⟩, ""),
  (21, .istore_n 2, 1, (0, 0, 0, 0, 0), ⟨"", "", ""⟩, ""),
  (22, .iload_n 2, 1, (0, 0, 0, 0, 0), ⟨"", "", ""⟩, ""),
  (23, .aload_n 0, 1, (0, 0, 0, 0, 0), ⟨"", "", ""⟩, ""),
  (24, .invokevirtual 32, 3, (0, 8, 66, 8, 66), ⟨"WordHidesModel", "cells", "()I"⟩, ""),
  (27, .if_icmp .ge 26, 3, (53, 0, 0, 0, 0), ⟨"", "", ""⟩, ""),
  (30, .aload_n 0, 1, (0, 0, 0, 0, 0), ⟨"", "", ""⟩, ""),
  (31, .getfield 7, 3, (0, 8, 8, 2, 0), ⟨"", "", ""⟩, "WordHidesModel"),
  (34, .iconst 1, 1, (0, 0, 0, 0, 0), ⟨"", "", ""⟩, ""),
  (35, .iload_n 2, 1, (0, 0, 0, 0, 0), ⟨"", "", ""⟩, ""),
  (36, .iadd, 1, (0, 0, 0, 0, 0), ⟨"", "", ""⟩, ""),
  (37, .aload_n 0, 1, (0, 0, 0, 0, 0), ⟨"", "", ""⟩, ""),
  (38, .getfield 23, 3, (5, 8, 8, 2, 0), ⟨"", "", ""⟩, "WordHidesModel"),
  (41, .bipush 64, 2, (0, 0, 0, 0, 0), ⟨"", "", ""⟩, ""),
  (43, .iload_n 2, 1, (0, 0, 0, 0, 0), ⟨"", "", ""⟩, ""),
  (44, .iadd, 1, (0, 0, 0, 0, 0), ⟨"", "", ""⟩, ""),
  (45, .iaload, 1, (0, 0, 0, 0, 0), ⟨"", "", ""⟩, ""),
  (46, .iastore, 1, (0, 0, 0, 0, 0), ⟨"", "", ""⟩, ""),
  (47, .iinc 2 1, 3, (0, 0, 0, 0, 0), ⟨"", "", ""⟩, ""),
  (50, .goto (-28), 3, (22, 0, 0, 0, 0), ⟨"", "", ""⟩, ""),
  (53, .iload_n 1, 1, (0, 0, 0, 0, 0), ⟨"", "", ""⟩, ""),
  (54, .ireturn, 1, (0, 0, 0, 0, 0), ⟨"", "", ""⟩, "")])
def pX9_image : wM := (⟨"WordHidesModel", "image", "(I)I"⟩, prog_11_method_51_code, 3, (some .int), 2, [
  (0, .iload_n 1, 1, (0, 0, 0, 0, 0), ⟨"", "", ""⟩, ""),
  (1, .iconst 0, 1, (0, 0, 0, 0, 0), ⟨"", "", ""⟩, ""),
  (2, .iconst 1, 1, (0, 0, 0, 0, 0), ⟨"", "", ""⟩, ""),
  (3, .invokestatic 36, 3, (3, 0, 65, 0, 0), ⟨"WordHidesModel", "in", "(III)Z"⟩, ""),
  (6, .ifCond .ne 6, 3, (12, 0, 0, 0, 0), ⟨"", "", ""⟩, ""),
  (9, .bipush (-2), 2, (0, 0, 0, 0, 0), ⟨"", "", ""⟩, ""),
  (11, .ireturn, 1, (0, 0, 0, 0, 0), ⟨"", "", ""⟩, ""),
  (12, .iconst 0, 1, (0, 0, 0, 0, 0), ⟨"", "", ""⟩, ""),
  (13, .istore_n 2, 1, (0, 0, 0, 0, 0), ⟨"", "", ""⟩, ""),
  (14, .iload_n 2, 1, (0, 0, 0, 0, 0), ⟨"", "", ""⟩, ""),
  (15, .bipush 59, 2, (0, 0, 0, 0, 0), ⟨"", "", ""⟩, ""),
  (17, .if_icmp .ge 26, 3, (43, 0, 0, 0, 0), ⟨"", "", ""⟩, ""),
  (20, .aload_n 0, 1, (0, 0, 0, 0, 0), ⟨"", "", ""⟩, ""),
  (21, .getfield 13, 3, (1, 8, 8, 2, 0), ⟨"", "", ""⟩, "WordHidesModel"),
  (24, .bipush 59, 2, (0, 0, 0, 0, 0), ⟨"", "", ""⟩, ""),
  (26, .iload_n 1, 1, (0, 0, 0, 0, 0), ⟨"", "", ""⟩, ""),
  (27, .imul, 1, (0, 0, 0, 0, 0), ⟨"", "", ""⟩, ""),
  (28, .iload_n 2, 1, (0, 0, 0, 0, 0), ⟨"", "", ""⟩, ""),
  (29, .iadd, 1, (0, 0, 0, 0, 0), ⟨"", "", ""⟩, ""),
  (30, .aload_n 0, 1, (0, 0, 0, 0, 0), ⟨"", "", ""⟩, ""),
  (31, .getfield 7, 3, (0, 8, 8, 2, 0), ⟨"", "", ""⟩, "WordHidesModel"),
  (34, .iload_n 2, 1, (0, 0, 0, 0, 0), ⟨"", "", ""⟩, ""),
  (35, .iaload, 1, (0, 0, 0, 0, 0), ⟨"", "", ""⟩, ""),
  (36, .iastore, 1, (0, 0, 0, 0, 0), ⟨"", "", ""⟩, ""),
  (37, .iinc 2 1, 3, (0, 0, 0, 0, 0), ⟨"", "", ""⟩, ""),
  (40, .goto (-26), 3, (14, 0, 0, 0, 0), ⟨"", "", ""⟩, ""),
  (43, .aload_n 0, 1, (0, 0, 0, 0, 0), ⟨"", "", ""⟩, ""),
  (44, .getfield 16, 3, (2, 8, 8, 2, 0), ⟨"", "", ""⟩, "WordHidesModel"),
  (47, .iload_n 1, 1, (0, 0, 0, 0, 0), ⟨"", "", ""⟩, ""),
  (48, .iconst 1, 1, (0, 0, 0, 0, 0), ⟨"", "", ""⟩, ""),
  (49, .bastore, 1, (0, 0, 0, 0, 0), ⟨"", "", ""⟩, ""),
  (50, .iconst 1, 1, (0, 0, 0, 0, 0), ⟨"", "", ""⟩, ""),
  (51, .ireturn, 1, (0, 0, 0, 0, 0), ⟨"", "", ""⟩, "")])
def pX9_restore : wM := (⟨"WordHidesModel", "restore", "(I)I"⟩, prog_11_method_52_code, 3, (some .int), 2, [
  (0, .iload_n 1, 1, (0, 0, 0, 0, 0), ⟨"", "", ""⟩, ""),
  (1, .iconst 0, 1, (0, 0, 0, 0, 0), ⟨"", "", ""⟩, ""),
  (2, .iconst 1, 1, (0, 0, 0, 0, 0), ⟨"", "", ""⟩, ""),
  (3, .invokestatic 36, 3, (3, 0, 65, 0, 0), ⟨"WordHidesModel", "in", "(III)Z"⟩, ""),
  (6, .ifCond .ne 6, 3, (12, 0, 0, 0, 0), ⟨"", "", ""⟩, ""),
  (9, .bipush (-2), 2, (0, 0, 0, 0, 0), ⟨"", "", ""⟩, ""),
  (11, .ireturn, 1, (0, 0, 0, 0, 0), ⟨"", "", ""⟩, ""),
  (12, .aload_n 0, 1, (0, 0, 0, 0, 0), ⟨"", "", ""⟩, ""),
  (13, .getfield 16, 3, (2, 8, 8, 2, 0), ⟨"", "", ""⟩, "WordHidesModel"),
  (16, .iload_n 1, 1, (0, 0, 0, 0, 0), ⟨"", "", ""⟩, ""),
  (17, .baload, 1, (0, 0, 0, 0, 0), ⟨"", "", ""⟩, ""),
  (18, .ifCond .ne 6, 3, (24, 0, 0, 0, 0), ⟨"", "", ""⟩, ""),
  (21, .bipush (-3), 2, (0, 0, 0, 0, 0), ⟨"", "", ""⟩, ""),
  (23, .ireturn, 1, (0, 0, 0, 0, 0), ⟨"", "", ""⟩, ""),
  (24, .iconst 0, 1, (0, 0, 0, 0, 0), ⟨"", "", ""⟩, ""),
  (25, .istore_n 2, 1, (0, 0, 0, 0, 0), ⟨"", "", ""⟩, ""),
  (26, .iload_n 2, 1, (0, 0, 0, 0, 0), ⟨"", "", ""⟩, ""),
  (27, .bipush 59, 2, (0, 0, 0, 0, 0), ⟨"", "", ""⟩, ""),
  (29, .if_icmp .ge 26, 3, (55, 0, 0, 0, 0), ⟨"", "", ""⟩, ""),
  (32, .aload_n 0, 1, (0, 0, 0, 0, 0), ⟨"", "", ""⟩, ""),
  (33, .getfield 7, 3, (0, 8, 8, 2, 0), ⟨"", "", ""⟩, "WordHidesModel"),
  (36, .iload_n 2, 1, (0, 0, 0, 0, 0), ⟨"", "", ""⟩, ""),
  (37, .aload_n 0, 1, (0, 0, 0, 0, 0), ⟨"", "", ""⟩, ""),
  (38, .getfield 13, 3, (1, 8, 8, 2, 0), ⟨"", "", ""⟩, "WordHidesModel"),
  (41, .bipush 59, 2, (0, 0, 0, 0, 0), ⟨"", "", ""⟩, ""),
  (43, .iload_n 1, 1, (0, 0, 0, 0, 0), ⟨"", "", ""⟩, ""),
  (44, .imul, 1, (0, 0, 0, 0, 0), ⟨"", "", ""⟩, ""),
  (45, .iload_n 2, 1, (0, 0, 0, 0, 0), ⟨"", "", ""⟩, ""),
  (46, .iadd, 1, (0, 0, 0, 0, 0), ⟨"", "", ""⟩, ""),
  (47, .iaload, 1, (0, 0, 0, 0, 0), ⟨"", "", ""⟩, ""),
  (48, .iastore, 1, (0, 0, 0, 0, 0), ⟨"", "", ""⟩, ""),
  (49, .iinc 2 1, 3, (0, 0, 0, 0, 0), ⟨"", "", ""⟩, ""),
  (52, .goto (-26), 3, (26, 0, 0, 0, 0), ⟨"", "", ""⟩, ""),
  (55, .iconst 1, 1, (0, 0, 0, 0, 0), ⟨"", "", ""⟩, ""),
  (56, .ireturn, 1, (0, 0, 0, 0, 0), ⟨"", "", ""⟩, "")])
def pX9_empties : wM := (⟨"WordHidesModel", "empties", "()I"⟩, prog_11_method_53_code, 3, (some .int), 1, [
  (0, .iconst 0, 1, (0, 0, 0, 0, 0), ⟨"", "", ""⟩, ""),
  (1, .istore_n 1, 1, (0, 0, 0, 0, 0), ⟨"", "", ""⟩, ""),
  (2, .iconst 0, 1, (0, 0, 0, 0, 0), ⟨"", "", ""⟩, ""),
  (3, .istore_n 2, 1, (0, 0, 0, 0, 0), ⟨"", "", ""⟩, ""),
  (4, .iload_n 2, 1, (0, 0, 0, 0, 0), ⟨"", "", ""⟩, ""),
  (5, .aload_n 0, 1, (0, 0, 0, 0, 0), ⟨"", "", ""⟩, ""),
  (6, .invokevirtual 32, 3, (0, 8, 66, 8, 66), ⟨"WordHidesModel", "cells", "()I"⟩, ""),
  (9, .if_icmp .ge 28, 3, (37, 0, 0, 0, 0), ⟨"", "", ""⟩, ""),
  (12, .iload_n 1, 1, (0, 0, 0, 0, 0), ⟨"", "", ""⟩, ""),
  (13, .aload_n 0, 1, (0, 0, 0, 0, 0), ⟨"", "", ""⟩, ""),
  (14, .getfield 7, 3, (0, 8, 8, 2, 0), ⟨"", "", ""⟩, "WordHidesModel"),
  (17, .iconst 1, 1, (0, 0, 0, 0, 0), ⟨"", "", ""⟩, ""),
  (18, .iload_n 2, 1, (0, 0, 0, 0, 0), ⟨"", "", ""⟩, ""),
  (19, .iadd, 1, (0, 0, 0, 0, 0), ⟨"", "", ""⟩, ""),
  (20, .iaload, 1, (0, 0, 0, 0, 0), ⟨"", "", ""⟩, ""),
  (21, .ifCond .ne 7, 3, (28, 0, 0, 0, 0), ⟨"", "", ""⟩, ""),
  (24, .iconst 1, 1, (0, 0, 0, 0, 0), ⟨"", "", ""⟩, ""),
  (25, .goto 4, 3, (29, 0, 0, 0, 0), ⟨"", "", ""⟩, ""),
  (28, .iconst 0, 1, (0, 0, 0, 0, 0), ⟨"", "", ""⟩, ""),
  (29, .iadd, 1, (0, 0, 0, 0, 0), ⟨"", "", ""⟩, ""),
  (30, .istore_n 1, 1, (0, 0, 0, 0, 0), ⟨"", "", ""⟩, ""),
  (31, .iinc 2 1, 3, (0, 0, 0, 0, 0), ⟨"", "", ""⟩, ""),
  (34, .goto (-30), 3, (4, 0, 0, 0, 0), ⟨"", "", ""⟩, ""),
  (37, .iload_n 1, 1, (0, 0, 0, 0, 0), ⟨"", "", ""⟩, ""),
  (38, .ireturn, 1, (0, 0, 0, 0, 0), ⟨"", "", ""⟩, "")])
def pX9_letters : wM := (⟨"WordHidesModel", "letters", "()I"⟩, prog_11_method_54_code, 4, (some .int), 1, [
  (0, .iconst 0, 1, (0, 0, 0, 0, 0), ⟨"", "", ""⟩, ""),
  (1, .istore_n 1, 1, (0, 0, 0, 0, 0), ⟨"", "", ""⟩, ""),
  (2, .iconst 0, 1, (0, 0, 0, 0, 0), ⟨"", "", ""⟩, ""),
  (3, .istore_n 2, 1, (0, 0, 0, 0, 0), ⟨"", "", ""⟩, ""),
  (4, .iload_n 2, 1, (0, 0, 0, 0, 0), ⟨"", "", ""⟩, ""),
  (5, .aload_n 0, 1, (0, 0, 0, 0, 0), ⟨"", "", ""⟩, ""),
  (6, .invokevirtual 32, 3, (0, 8, 66, 8, 66), ⟨"WordHidesModel", "cells", "()I"⟩, ""),
  (9, .if_icmp .ge 40, 3, (49, 0, 0, 0, 0), ⟨"", "", ""⟩, ""),
  (12, .iload_n 1, 1, (0, 0, 0, 0, 0), ⟨"", "", ""⟩, ""),
  (13, .aload_n 0, 1, (0, 0, 0, 0, 0), ⟨"", "", ""⟩, ""),
  (14, .getfield 7, 3, (0, 8, 8, 2, 0), ⟨"", "", ""⟩, "WordHidesModel"),
  (17, .iconst 1, 1, (0, 0, 0, 0, 0), ⟨"", "", ""⟩, ""),
  (18, .iload_n 2, 1, (0, 0, 0, 0, 0), ⟨"", "", ""⟩, ""),
  (19, .iadd, 1, (0, 0, 0, 0, 0), ⟨"", "", ""⟩, ""),
  (20, .iaload, 1, (0, 0, 0, 0, 0), ⟨"", "", ""⟩, ""),
  (21, .ifCond .ne 7, 3, (28, 0, 0, 0, 0), ⟨"", "", ""⟩, ""),
  (24, .iconst 0, 1, (0, 0, 0, 0, 0), ⟨"", "", ""⟩, ""),
  (25, .goto 16, 3, (41, 0, 0, 0, 0), ⟨"", "", ""⟩, ""),
  (28, .iconst 1, 1, (0, 0, 0, 0, 0), ⟨"", "", ""⟩, ""),
  (29, .aload_n 0, 1, (0, 0, 0, 0, 0), ⟨"", "", ""⟩, ""),
  (30, .getfield 7, 3, (0, 8, 8, 2, 0), ⟨"", "", ""⟩, "WordHidesModel"),
  (33, .iconst 1, 1, (0, 0, 0, 0, 0), ⟨"", "", ""⟩, ""),
  (34, .iload_n 2, 1, (0, 0, 0, 0, 0), ⟨"", "", ""⟩, ""),
  (35, .iadd, 1, (0, 0, 0, 0, 0), ⟨"", "", ""⟩, ""),
  (36, .iaload, 1, (0, 0, 0, 0, 0), ⟨"", "", ""⟩, ""),
  (37, .bipush 97, 2, (0, 0, 0, 0, 0), ⟨"", "", ""⟩, ""),
  (39, .isub, 1, (0, 0, 0, 0, 0), ⟨"", "", ""⟩, ""),
  (40, .ishl, 1, (0, 0, 0, 0, 0), ⟨"", "", ""⟩, ""),
  (41, .ior, 1, (0, 0, 0, 0, 0), ⟨"", "", ""⟩, ""),
  (42, .istore_n 1, 1, (0, 0, 0, 0, 0), ⟨"", "", ""⟩, ""),
  (43, .iinc 2 1, 3, (0, 0, 0, 0, 0), ⟨"", "", ""⟩, ""),
  (46, .goto (-42), 3, (4, 0, 0, 0, 0), ⟨"", "", ""⟩, ""),
  (49, .iconst 0, 1, (0, 0, 0, 0, 0), ⟨"", "", ""⟩, ""),
  (50, .istore_n 2, 1, (0, 0, 0, 0, 0), ⟨"", "", ""⟩, ""),
  (51, .iconst 0, 1, (0, 0, 0, 0, 0), ⟨"", "", ""⟩, ""),
  (52, .istore_n 3, 1, (0, 0, 0, 0, 0), ⟨"", "", ""⟩, ""),
  (53, .iload_n 3, 1, (0, 0, 0, 0, 0), ⟨"", "", ""⟩, ""),
  (54, .bipush 26, 2, (0, 0, 0, 0, 0), ⟨"", "", ""⟩, ""),
  (56, .if_icmp .ge 17, 3, (73, 0, 0, 0, 0), ⟨"", "", ""⟩, ""),
  (59, .iload_n 2, 1, (0, 0, 0, 0, 0), ⟨"", "", ""⟩, ""),
  (60, .iload_n 1, 1, (0, 0, 0, 0, 0), ⟨"", "", ""⟩, ""),
  (61, .iload_n 3, 1, (0, 0, 0, 0, 0), ⟨"", "", ""⟩, ""),
  (62, .ishr, 1, (0, 0, 0, 0, 0), ⟨"", "", ""⟩, ""),
  (63, .iconst 1, 1, (0, 0, 0, 0, 0), ⟨"", "", ""⟩, ""),
  (64, .iand, 1, (0, 0, 0, 0, 0), ⟨"", "", ""⟩, ""),
  (65, .iadd, 1, (0, 0, 0, 0, 0), ⟨"", "", ""⟩, ""),
  (66, .istore_n 2, 1, (0, 0, 0, 0, 0), ⟨"", "", ""⟩, ""),
  (67, .iinc 3 1, 3, (0, 0, 0, 0, 0), ⟨"", "", ""⟩, ""),
  (70, .goto (-17), 3, (53, 0, 0, 0, 0), ⟨"", "", ""⟩, ""),
  (73, .iload_n 2, 1, (0, 0, 0, 0, 0), ⟨"", "", ""⟩, ""),
  (74, .ireturn, 1, (0, 0, 0, 0, 0), ⟨"", "", ""⟩, "")])
def pX9_count : wM := (⟨"WordHidesModel", "count", "(I)I"⟩, prog_11_method_55_code, 2, (some .int), 2, [
  (0, .iload_n 1, 1, (0, 0, 0, 0, 0), ⟨"", "", ""⟩, ""),
  (1, .tableswitch 107 0 6 #[43, 50, 50, 62, 67, 72, 77], 43, (0, 0, 0, 0, 0), ⟨"", "", ""⟩, ""),
  (44, .aload_n 0, 1, (0, 0, 0, 0, 0), ⟨"", "", ""⟩, ""),
  (45, .getfield 7, 3, (0, 8, 8, 2, 0), ⟨"", "", ""⟩, "WordHidesModel"),
  (48, .iconst 0, 1, (0, 0, 0, 0, 0), ⟨"", "", ""⟩, ""),
  (49, .iaload, 1, (0, 0, 0, 0, 0), ⟨"", "", ""⟩, ""),
  (50, .ireturn, 1, (0, 0, 0, 0, 0), ⟨"", "", ""⟩, ""),
  (51, .aload_n 0, 1, (0, 0, 0, 0, 0), ⟨"", "", ""⟩, ""),
  (52, .getfield 7, 3, (0, 8, 8, 2, 0), ⟨"", "", ""⟩, "WordHidesModel"),
  (55, .bipush 27, 2, (0, 0, 0, 0, 0), ⟨"", "", ""⟩, ""),
  (57, .iload_n 1, 1, (0, 0, 0, 0, 0), ⟨"", "", ""⟩, ""),
  (58, .iadd, 1, (0, 0, 0, 0, 0), ⟨"", "", ""⟩, ""),
  (59, .iconst 1, 1, (0, 0, 0, 0, 0), ⟨"", "", ""⟩, ""),
  (60, .isub, 1, (0, 0, 0, 0, 0), ⟨"", "", ""⟩, ""),
  (61, .iaload, 1, (0, 0, 0, 0, 0), ⟨"", "", ""⟩, ""),
  (62, .ireturn, 1, (0, 0, 0, 0, 0), ⟨"", "", ""⟩, ""),
  (63, .aload_n 0, 1, (0, 0, 0, 0, 0), ⟨"", "", ""⟩, ""),
  (64, .invokevirtual 165, 3, (0, 8, 116, 8, 116), ⟨"WordHidesModel", "empties", "()I"⟩, ""),
  (67, .ireturn, 1, (0, 0, 0, 0, 0), ⟨"", "", ""⟩, ""),
  (68, .aload_n 0, 1, (0, 0, 0, 0, 0), ⟨"", "", ""⟩, ""),
  (69, .getfield 47, 3, (4, 8, 8, 0, 0), ⟨"", "", ""⟩, "WordHidesModel"),
  (72, .ireturn, 1, (0, 0, 0, 0, 0), ⟨"", "", ""⟩, ""),
  (73, .aload_n 0, 1, (0, 0, 0, 0, 0), ⟨"", "", ""⟩, ""),
  (74, .invokevirtual 168, 3, (0, 8, 117, 8, 117), ⟨"WordHidesModel", "letters", "()I"⟩, ""),
  (77, .ireturn, 1, (0, 0, 0, 0, 0), ⟨"", "", ""⟩, ""),
  (78, .aload_n 0, 1, (0, 0, 0, 0, 0), ⟨"", "", ""⟩, ""),
  (79, .getfield 16, 3, (2, 8, 8, 2, 0), ⟨"", "", ""⟩, "WordHidesModel"),
  (82, .iconst 0, 1, (0, 0, 0, 0, 0), ⟨"", "", ""⟩, ""),
  (83, .baload, 1, (0, 0, 0, 0, 0), ⟨"", "", ""⟩, ""),
  (84, .ifCond .eq 7, 3, (91, 0, 0, 0, 0), ⟨"", "", ""⟩, ""),
  (87, .iconst 1, 1, (0, 0, 0, 0, 0), ⟨"", "", ""⟩, ""),
  (88, .goto 4, 3, (92, 0, 0, 0, 0), ⟨"", "", ""⟩, ""),
  (91, .iconst 0, 1, (0, 0, 0, 0, 0), ⟨"", "", ""⟩, ""),
  (92, .aload_n 0, 1, (0, 0, 0, 0, 0), ⟨"", "", ""⟩, ""),
  (93, .getfield 16, 3, (2, 8, 8, 2, 0), ⟨"", "", ""⟩, "WordHidesModel"),
  (96, .iconst 1, 1, (0, 0, 0, 0, 0), ⟨"", "", ""⟩, ""),
  (97, .baload, 1, (0, 0, 0, 0, 0), ⟨"", "", ""⟩, ""),
  (98, .ifCond .eq 7, 3, (105, 0, 0, 0, 0), ⟨"", "", ""⟩, ""),
  (101, .iconst 2, 1, (0, 0, 0, 0, 0), ⟨"", "", ""⟩, ""),
  (102, .goto 4, 3, (106, 0, 0, 0, 0), ⟨"", "", ""⟩, ""),
  (105, .iconst 0, 1, (0, 0, 0, 0, 0), ⟨"", "", ""⟩, ""),
  (106, .iadd, 1, (0, 0, 0, 0, 0), ⟨"", "", ""⟩, ""),
  (107, .ireturn, 1, (0, 0, 0, 0, 0), ⟨"", "", ""⟩, ""),
  (108, .bipush (-2), 2, (0, 0, 0, 0, 0), ⟨"", "", ""⟩, ""),
  (110, .ireturn, 1, (0, 0, 0, 0, 0), ⟨"", "", ""⟩, "")])
def pJ6_bitCount_0f7a4 : wM := (⟨"java/lang/Integer", "bitCount", "(I)I"⟩, prog_12_method_49_code, 1, (some .int), 1, [
  (0, .iload_n 0, 1, (0, 0, 0, 0, 0), ⟨"", "", ""⟩, ""),
  (1, .iload_n 0, 1, (0, 0, 0, 0, 0), ⟨"", "", ""⟩, ""),
  (2, .iconst 1, 1, (0, 0, 0, 0, 0), ⟨"", "", ""⟩, ""),
  (3, .iushr, 1, (0, 0, 0, 0, 0), ⟨"", "", ""⟩, ""),
  (4, .ldc_w 265, 3, (1431655765, 0, 0, 0, 0), ⟨"", "", ""⟩, ""),
  (7, .iand, 1, (0, 0, 0, 0, 0), ⟨"", "", ""⟩, ""),
  (8, .isub, 1, (0, 0, 0, 0, 0), ⟨"", "", ""⟩, ""),
  (9, .istore_n 0, 1, (0, 0, 0, 0, 0), ⟨"", "", ""⟩, ""),
  (10, .iload_n 0, 1, (0, 0, 0, 0, 0), ⟨"", "", ""⟩, ""),
  (11, .ldc_w 266, 3, (858993459, 0, 0, 0, 0), ⟨"", "", ""⟩, ""),
  (14, .iand, 1, (0, 0, 0, 0, 0), ⟨"", "", ""⟩, ""),
  (15, .iload_n 0, 1, (0, 0, 0, 0, 0), ⟨"", "", ""⟩, ""),
  (16, .iconst 2, 1, (0, 0, 0, 0, 0), ⟨"", "", ""⟩, ""),
  (17, .iushr, 1, (0, 0, 0, 0, 0), ⟨"", "", ""⟩, ""),
  (18, .ldc_w 266, 3, (858993459, 0, 0, 0, 0), ⟨"", "", ""⟩, ""),
  (21, .iand, 1, (0, 0, 0, 0, 0), ⟨"", "", ""⟩, ""),
  (22, .iadd, 1, (0, 0, 0, 0, 0), ⟨"", "", ""⟩, ""),
  (23, .istore_n 0, 1, (0, 0, 0, 0, 0), ⟨"", "", ""⟩, ""),
  (24, .iload_n 0, 1, (0, 0, 0, 0, 0), ⟨"", "", ""⟩, ""),
  (25, .iload_n 0, 1, (0, 0, 0, 0, 0), ⟨"", "", ""⟩, ""),
  (26, .iconst 4, 1, (0, 0, 0, 0, 0), ⟨"", "", ""⟩, ""),
  (27, .iushr, 1, (0, 0, 0, 0, 0), ⟨"", "", ""⟩, ""),
  (28, .iadd, 1, (0, 0, 0, 0, 0), ⟨"", "", ""⟩, ""),
  (29, .ldc_w 267, 3, (252645135, 0, 0, 0, 0), ⟨"", "", ""⟩, ""),
  (32, .iand, 1, (0, 0, 0, 0, 0), ⟨"", "", ""⟩, ""),
  (33, .istore_n 0, 1, (0, 0, 0, 0, 0), ⟨"", "", ""⟩, ""),
  (34, .iload_n 0, 1, (0, 0, 0, 0, 0), ⟨"", "", ""⟩, ""),
  (35, .iload_n 0, 1, (0, 0, 0, 0, 0), ⟨"", "", ""⟩, ""),
  (36, .bipush 8, 2, (0, 0, 0, 0, 0), ⟨"", "", ""⟩, ""),
  (38, .iushr, 1, (0, 0, 0, 0, 0), ⟨"", "", ""⟩, ""),
  (39, .iadd, 1, (0, 0, 0, 0, 0), ⟨"", "", ""⟩, ""),
  (40, .istore_n 0, 1, (0, 0, 0, 0, 0), ⟨"", "", ""⟩, ""),
  (41, .iload_n 0, 1, (0, 0, 0, 0, 0), ⟨"", "", ""⟩, ""),
  (42, .iload_n 0, 1, (0, 0, 0, 0, 0), ⟨"", "", ""⟩, ""),
  (43, .bipush 16, 2, (0, 0, 0, 0, 0), ⟨"", "", ""⟩, ""),
  (45, .iushr, 1, (0, 0, 0, 0, 0), ⟨"", "", ""⟩, ""),
  (46, .iadd, 1, (0, 0, 0, 0, 0), ⟨"", "", ""⟩, ""),
  (47, .istore_n 0, 1, (0, 0, 0, 0, 0), ⟨"", "", ""⟩, ""),
  (48, .iload_n 0, 1, (0, 0, 0, 0, 0), ⟨"", "", ""⟩, ""),
  (49, .bipush 63, 2, (0, 0, 0, 0, 0), ⟨"", "", ""⟩, ""),
  (51, .iand, 1, (0, 0, 0, 0, 0), ⟨"", "", ""⟩, ""),
  (52, .ireturn, 1, (0, 0, 0, 0, 0), ⟨"", "", ""⟩, "")])
def pJ9_max_7cf53 : wM := (⟨"java/lang/Math", "max", "(II)I"⟩, prog_13_method_65_code, 2, (some .int), 2, [
  (0, .iload_n 0, 1, (0, 0, 0, 0, 0), ⟨"", "", ""⟩, ""),
  (1, .iload_n 1, 1, (0, 0, 0, 0, 0), ⟨"", "", ""⟩, ""),
  (2, .if_icmp .lt 7, 3, (9, 0, 0, 0, 0), ⟨"", "", ""⟩, ""),
  (5, .iload_n 0, 1, (0, 0, 0, 0, 0), ⟨"", "", ""⟩, ""),
  (6, .goto 4, 3, (10, 0, 0, 0, 0), ⟨"", "", ""⟩, ""),
  (9, .iload_n 1, 1, (0, 0, 0, 0, 0), ⟨"", "", ""⟩, ""),
  (10, .ireturn, 1, (0, 0, 0, 0, 0), ⟨"", "", ""⟩, "")])
def pJ9_min_7cf53 : wM := (⟨"java/lang/Math", "min", "(II)I"⟩, prog_13_method_69_code, 2, (some .int), 2, [
  (0, .iload_n 0, 1, (0, 0, 0, 0, 0), ⟨"", "", ""⟩, ""),
  (1, .iload_n 1, 1, (0, 0, 0, 0, 0), ⟨"", "", ""⟩, ""),
  (2, .if_icmp .gt 7, 3, (9, 0, 0, 0, 0), ⟨"", "", ""⟩, ""),
  (5, .iload_n 0, 1, (0, 0, 0, 0, 0), ⟨"", "", ""⟩, ""),
  (6, .goto 4, 3, (10, 0, 0, 0, 0), ⟨"", "", ""⟩, ""),
  (9, .iload_n 1, 1, (0, 0, 0, 0, 0), ⟨"", "", ""⟩, ""),
  (10, .ireturn, 1, (0, 0, 0, 0, 0), ⟨"", "", ""⟩, "")])
def pJ7_fill_53178 : wM := (⟨"java/util/Arrays", "fill", "([II)V"⟩, prog_15_method_103_code, 4, none, 2, [
  (0, .iconst 0, 1, (0, 0, 0, 0, 0), ⟨"", "", ""⟩, ""),
  (1, .istore_n 2, 1, (0, 0, 0, 0, 0), ⟨"", "", ""⟩, ""),
  (2, .aload_n 0, 1, (0, 0, 0, 0, 0), ⟨"", "", ""⟩, ""),
  (3, .arraylength, 1, (0, 0, 0, 0, 0), ⟨"", "", ""⟩, ""),
  (4, .istore_n 3, 1, (0, 0, 0, 0, 0), ⟨"", "", ""⟩, ""),
  (5, .iload_n 2, 1, (0, 0, 0, 0, 0), ⟨"", "", ""⟩, ""),
  (6, .iload_n 3, 1, (0, 0, 0, 0, 0), ⟨"", "", ""⟩, ""),
  (7, .if_icmp .ge 13, 3, (20, 0, 0, 0, 0), ⟨"", "", ""⟩, ""),
  (10, .aload_n 0, 1, (0, 0, 0, 0, 0), ⟨"", "", ""⟩, ""),
  (11, .iload_n 2, 1, (0, 0, 0, 0, 0), ⟨"", "", ""⟩, ""),
  (12, .iload_n 1, 1, (0, 0, 0, 0, 0), ⟨"", "", ""⟩, ""),
  (13, .iastore, 1, (0, 0, 0, 0, 0), ⟨"", "", ""⟩, ""),
  (14, .iinc 2 1, 3, (0, 0, 0, 0, 0), ⟨"", "", ""⟩, ""),
  (17, .goto (-12), 3, (5, 0, 0, 0, 0), ⟨"", "", ""⟩, ""),
  (20, .return_, 1, (0, 0, 0, 0, 0), ⟨"", "", ""⟩, "")])
def pL_law : wM := (⟨"WordHidesLaw", "law", "([I)Z"⟩, code, 4, (some .boolean), 1, [
  (0, .new 7, 3, (7, 9, 0, 0, 0), ⟨"", "", ""⟩, ""),
  (3, .dup, 1, (0, 0, 0, 0, 0), ⟨"", "", ""⟩, ""),
  (4, .invokespecial 9, 3, (0, 0, 40, 0, 0), ⟨"WordHides", "<init>", "()V"⟩, ""),
  (7, .astore_n 1, 1, (0, 0, 0, 0, 0), ⟨"", "", ""⟩, ""),
  (8, .new 10, 3, (8, 13, 0, 0, 0), ⟨"", "", ""⟩, ""),
  (11, .dup, 1, (0, 0, 0, 0, 0), ⟨"", "", ""⟩, ""),
  (12, .invokespecial 12, 3, (0, 0, 64, 0, 0), ⟨"WordHidesModel", "<init>", "()V"⟩, ""),
  (15, .astore_n 2, 1, (0, 0, 0, 0, 0), ⟨"", "", ""⟩, ""),
  (16, .iconst 0, 1, (0, 0, 0, 0, 0), ⟨"", "", ""⟩, ""),
  (17, .istore_n 3, 1, (0, 0, 0, 0, 0), ⟨"", "", ""⟩, ""),
  (18, .iload_n 3, 1, (0, 0, 0, 0, 0), ⟨"", "", ""⟩, ""),
  (19, .aload_n 0, 1, (0, 0, 0, 0, 0), ⟨"", "", ""⟩, ""),
  (20, .arraylength, 1, (0, 0, 0, 0, 0), ⟨"", "", ""⟩, ""),
  (21, .iconst 4, 1, (0, 0, 0, 0, 0), ⟨"", "", ""⟩, ""),
  (22, .isub, 1, (0, 0, 0, 0, 0), ⟨"", "", ""⟩, ""),
  (23, .if_icmp .gt 604, 3, (627, 0, 0, 0, 0), ⟨"", "", ""⟩, ""),
  (26, .aload_n 0, 1, (0, 0, 0, 0, 0), ⟨"", "", ""⟩, ""),
  (27, .iload_n 3, 1, (0, 0, 0, 0, 0), ⟨"", "", ""⟩, ""),
  (28, .iaload, 1, (0, 0, 0, 0, 0), ⟨"", "", ""⟩, ""),
  (29, .bipush 31, 2, (0, 0, 0, 0, 0), ⟨"", "", ""⟩, ""),
  (31, .iand, 1, (0, 0, 0, 0, 0), ⟨"", "", ""⟩, ""),
  (32, .tableswitch 589 0 18 #[92, 115, 148, 171, 194, 207, 230, 253, 266, 309, 352, 385, 418, 441, 484, 507, 520, 543, 566], 92, (0, 0, 0, 0, 0), ⟨"", "", ""⟩, ""),
  (124, .aload_n 1, 1, (0, 0, 0, 0, 0), ⟨"", "", ""⟩, ""),
  (125, .aload_n 0, 1, (0, 0, 0, 0, 0), ⟨"", "", ""⟩, ""),
  (126, .iload_n 3, 1, (0, 0, 0, 0, 0), ⟨"", "", ""⟩, ""),
  (127, .iconst 1, 1, (0, 0, 0, 0, 0), ⟨"", "", ""⟩, ""),
  (128, .iadd, 1, (0, 0, 0, 0, 0), ⟨"", "", ""⟩, ""),
  (129, .iaload, 1, (0, 0, 0, 0, 0), ⟨"", "", ""⟩, ""),
  (130, .invokevirtual 13, 3, (1, 7, 41, 7, 41), ⟨"WordHides", "side", "(I)I"⟩, ""),
  (133, .aload_n 2, 1, (0, 0, 0, 0, 0), ⟨"", "", ""⟩, ""),
  (134, .aload_n 0, 1, (0, 0, 0, 0, 0), ⟨"", "", ""⟩, ""),
  (135, .iload_n 3, 1, (0, 0, 0, 0, 0), ⟨"", "", ""⟩, ""),
  (136, .iconst 1, 1, (0, 0, 0, 0, 0), ⟨"", "", ""⟩, ""),
  (137, .iadd, 1, (0, 0, 0, 0, 0), ⟨"", "", ""⟩, ""),
  (138, .iaload, 1, (0, 0, 0, 0, 0), ⟨"", "", ""⟩, ""),
  (139, .invokevirtual 17, 3, (1, 8, 73, 8, 73), ⟨"WordHidesModel", "side", "(I)I"⟩, ""),
  (142, .if_icmp .eq 479, 3, (621, 0, 0, 0, 0), ⟨"", "", ""⟩, ""),
  (145, .iconst 0, 1, (0, 0, 0, 0, 0), ⟨"", "", ""⟩, ""),
  (146, .ireturn, 1, (1, 0, 0, 0, 0), ⟨"", "", ""⟩, ""),
  (147, .aload_n 1, 1, (0, 0, 0, 0, 0), ⟨"", "", ""⟩, ""),
  (148, .aload_n 0, 1, (0, 0, 0, 0, 0), ⟨"", "", ""⟩, ""),
  (149, .iload_n 3, 1, (0, 0, 0, 0, 0), ⟨"", "", ""⟩, ""),
  (150, .iconst 1, 1, (0, 0, 0, 0, 0), ⟨"", "", ""⟩, ""),
  (151, .iadd, 1, (0, 0, 0, 0, 0), ⟨"", "", ""⟩, ""),
  (152, .iaload, 1, (0, 0, 0, 0, 0), ⟨"", "", ""⟩, ""),
  (153, .aload_n 0, 1, (0, 0, 0, 0, 0), ⟨"", "", ""⟩, ""),
  (154, .iload_n 3, 1, (0, 0, 0, 0, 0), ⟨"", "", ""⟩, ""),
  (155, .iconst 2, 1, (0, 0, 0, 0, 0), ⟨"", "", ""⟩, ""),
  (156, .iadd, 1, (0, 0, 0, 0, 0), ⟨"", "", ""⟩, ""),
  (157, .iaload, 1, (0, 0, 0, 0, 0), ⟨"", "", ""⟩, ""),
  (158, .invokevirtual 18, 3, (2, 7, 42, 7, 42), ⟨"WordHides", "set", "(II)I"⟩, ""),
  (161, .aload_n 2, 1, (0, 0, 0, 0, 0), ⟨"", "", ""⟩, ""),
  (162, .aload_n 0, 1, (0, 0, 0, 0, 0), ⟨"", "", ""⟩, ""),
  (163, .iload_n 3, 1, (0, 0, 0, 0, 0), ⟨"", "", ""⟩, ""),
  (164, .iconst 1, 1, (0, 0, 0, 0, 0), ⟨"", "", ""⟩, ""),
  (165, .iadd, 1, (0, 0, 0, 0, 0), ⟨"", "", ""⟩, ""),
  (166, .iaload, 1, (0, 0, 0, 0, 0), ⟨"", "", ""⟩, ""),
  (167, .aload_n 0, 1, (0, 0, 0, 0, 0), ⟨"", "", ""⟩, ""),
  (168, .iload_n 3, 1, (0, 0, 0, 0, 0), ⟨"", "", ""⟩, ""),
  (169, .iconst 2, 1, (0, 0, 0, 0, 0), ⟨"", "", ""⟩, ""),
  (170, .iadd, 1, (0, 0, 0, 0, 0), ⟨"", "", ""⟩, ""),
  (171, .iaload, 1, (0, 0, 0, 0, 0), ⟨"", "", ""⟩, ""),
  (172, .invokevirtual 22, 3, (2, 8, 74, 8, 74), ⟨"WordHidesModel", "set", "(II)I"⟩, ""),
  (175, .if_icmp .eq 446, 3, (621, 0, 0, 0, 0), ⟨"", "", ""⟩, ""),
  (178, .iconst 0, 1, (0, 0, 0, 0, 0), ⟨"", "", ""⟩, ""),
  (179, .ireturn, 1, (1, 0, 0, 0, 0), ⟨"", "", ""⟩, ""),
  (180, .aload_n 1, 1, (0, 0, 0, 0, 0), ⟨"", "", ""⟩, ""),
  (181, .aload_n 0, 1, (0, 0, 0, 0, 0), ⟨"", "", ""⟩, ""),
  (182, .iload_n 3, 1, (0, 0, 0, 0, 0), ⟨"", "", ""⟩, ""),
  (183, .iconst 1, 1, (0, 0, 0, 0, 0), ⟨"", "", ""⟩, ""),
  (184, .iadd, 1, (0, 0, 0, 0, 0), ⟨"", "", ""⟩, ""),
  (185, .iaload, 1, (0, 0, 0, 0, 0), ⟨"", "", ""⟩, ""),
  (186, .invokevirtual 23, 3, (1, 7, 43, 7, 43), ⟨"WordHides", "at", "(I)I"⟩, ""),
  (189, .aload_n 2, 1, (0, 0, 0, 0, 0), ⟨"", "", ""⟩, ""),
  (190, .aload_n 0, 1, (0, 0, 0, 0, 0), ⟨"", "", ""⟩, ""),
  (191, .iload_n 3, 1, (0, 0, 0, 0, 0), ⟨"", "", ""⟩, ""),
  (192, .iconst 1, 1, (0, 0, 0, 0, 0), ⟨"", "", ""⟩, ""),
  (193, .iadd, 1, (0, 0, 0, 0, 0), ⟨"", "", ""⟩, ""),
  (194, .iaload, 1, (0, 0, 0, 0, 0), ⟨"", "", ""⟩, ""),
  (195, .invokevirtual 26, 3, (1, 8, 75, 8, 75), ⟨"WordHidesModel", "at", "(I)I"⟩, ""),
  (198, .if_icmp .eq 423, 3, (621, 0, 0, 0, 0), ⟨"", "", ""⟩, ""),
  (201, .iconst 0, 1, (0, 0, 0, 0, 0), ⟨"", "", ""⟩, ""),
  (202, .ireturn, 1, (1, 0, 0, 0, 0), ⟨"", "", ""⟩, ""),
  (203, .aload_n 1, 1, (0, 0, 0, 0, 0), ⟨"", "", ""⟩, ""),
  (204, .aload_n 0, 1, (0, 0, 0, 0, 0), ⟨"", "", ""⟩, ""),
  (205, .iload_n 3, 1, (0, 0, 0, 0, 0), ⟨"", "", ""⟩, ""),
  (206, .iconst 1, 1, (0, 0, 0, 0, 0), ⟨"", "", ""⟩, ""),
  (207, .iadd, 1, (0, 0, 0, 0, 0), ⟨"", "", ""⟩, ""),
  (208, .iaload, 1, (0, 0, 0, 0, 0), ⟨"", "", ""⟩, ""),
  (209, .invokevirtual 27, 3, (1, 7, 44, 7, 44), ⟨"WordHides", "say", "(I)I"⟩, ""),
  (212, .aload_n 2, 1, (0, 0, 0, 0, 0), ⟨"", "", ""⟩, ""),
  (213, .aload_n 0, 1, (0, 0, 0, 0, 0), ⟨"", "", ""⟩, ""),
  (214, .iload_n 3, 1, (0, 0, 0, 0, 0), ⟨"", "", ""⟩, ""),
  (215, .iconst 1, 1, (0, 0, 0, 0, 0), ⟨"", "", ""⟩, ""),
  (216, .iadd, 1, (0, 0, 0, 0, 0), ⟨"", "", ""⟩, ""),
  (217, .iaload, 1, (0, 0, 0, 0, 0), ⟨"", "", ""⟩, ""),
  (218, .invokevirtual 30, 3, (1, 8, 76, 8, 76), ⟨"WordHidesModel", "say", "(I)I"⟩, ""),
  (221, .if_icmp .eq 400, 3, (621, 0, 0, 0, 0), ⟨"", "", ""⟩, ""),
  (224, .iconst 0, 1, (0, 0, 0, 0, 0), ⟨"", "", ""⟩, ""),
  (225, .ireturn, 1, (1, 0, 0, 0, 0), ⟨"", "", ""⟩, ""),
  (226, .aload_n 1, 1, (0, 0, 0, 0, 0), ⟨"", "", ""⟩, ""),
  (227, .invokevirtual 31, 3, (0, 7, 45, 7, 45), ⟨"WordHides", "wipe", "()I"⟩, ""),
  (230, .aload_n 2, 1, (0, 0, 0, 0, 0), ⟨"", "", ""⟩, ""),
  (231, .invokevirtual 35, 3, (0, 8, 77, 8, 77), ⟨"WordHidesModel", "wipe", "()I"⟩, ""),
  (234, .if_icmp .eq 387, 3, (621, 0, 0, 0, 0), ⟨"", "", ""⟩, ""),
  (237, .iconst 0, 1, (0, 0, 0, 0, 0), ⟨"", "", ""⟩, ""),
  (238, .ireturn, 1, (1, 0, 0, 0, 0), ⟨"", "", ""⟩, ""),
  (239, .aload_n 1, 1, (0, 0, 0, 0, 0), ⟨"", "", ""⟩, ""),
  (240, .aload_n 0, 1, (0, 0, 0, 0, 0), ⟨"", "", ""⟩, ""),
  (241, .iload_n 3, 1, (0, 0, 0, 0, 0), ⟨"", "", ""⟩, ""),
  (242, .iconst 1, 1, (0, 0, 0, 0, 0), ⟨"", "", ""⟩, ""),
  (243, .iadd, 1, (0, 0, 0, 0, 0), ⟨"", "", ""⟩, ""),
  (244, .iaload, 1, (0, 0, 0, 0, 0), ⟨"", "", ""⟩, ""),
  (245, .invokevirtual 36, 3, (1, 7, 46, 7, 46), ⟨"WordHides", "take", "(I)I"⟩, ""),
  (248, .aload_n 2, 1, (0, 0, 0, 0, 0), ⟨"", "", ""⟩, ""),
  (249, .aload_n 0, 1, (0, 0, 0, 0, 0), ⟨"", "", ""⟩, ""),
  (250, .iload_n 3, 1, (0, 0, 0, 0, 0), ⟨"", "", ""⟩, ""),
  (251, .iconst 1, 1, (0, 0, 0, 0, 0), ⟨"", "", ""⟩, ""),
  (252, .iadd, 1, (0, 0, 0, 0, 0), ⟨"", "", ""⟩, ""),
  (253, .iaload, 1, (0, 0, 0, 0, 0), ⟨"", "", ""⟩, ""),
  (254, .invokevirtual 39, 3, (1, 8, 79, 8, 79), ⟨"WordHidesModel", "take", "(I)I"⟩, ""),
  (257, .if_icmp .eq 364, 3, (621, 0, 0, 0, 0), ⟨"", "", ""⟩, ""),
  (260, .iconst 0, 1, (0, 0, 0, 0, 0), ⟨"", "", ""⟩, ""),
  (261, .ireturn, 1, (1, 0, 0, 0, 0), ⟨"", "", ""⟩, ""),
  (262, .aload_n 1, 1, (0, 0, 0, 0, 0), ⟨"", "", ""⟩, ""),
  (263, .aload_n 0, 1, (0, 0, 0, 0, 0), ⟨"", "", ""⟩, ""),
  (264, .iload_n 3, 1, (0, 0, 0, 0, 0), ⟨"", "", ""⟩, ""),
  (265, .iconst 1, 1, (0, 0, 0, 0, 0), ⟨"", "", ""⟩, ""),
  (266, .iadd, 1, (0, 0, 0, 0, 0), ⟨"", "", ""⟩, ""),
  (267, .iaload, 1, (0, 0, 0, 0, 0), ⟨"", "", ""⟩, ""),
  (268, .invokevirtual 40, 3, (1, 7, 47, 7, 47), ⟨"WordHides", "drop", "(I)I"⟩, ""),
  (271, .aload_n 2, 1, (0, 0, 0, 0, 0), ⟨"", "", ""⟩, ""),
  (272, .aload_n 0, 1, (0, 0, 0, 0, 0), ⟨"", "", ""⟩, ""),
  (273, .iload_n 3, 1, (0, 0, 0, 0, 0), ⟨"", "", ""⟩, ""),
  (274, .iconst 1, 1, (0, 0, 0, 0, 0), ⟨"", "", ""⟩, ""),
  (275, .iadd, 1, (0, 0, 0, 0, 0), ⟨"", "", ""⟩, ""),
  (276, .iaload, 1, (0, 0, 0, 0, 0), ⟨"", "", ""⟩, ""),
  (277, .invokevirtual 43, 3, (1, 8, 80, 8, 80), ⟨"WordHidesModel", "drop", "(I)I"⟩, ""),
  (280, .if_icmp .eq 341, 3, (621, 0, 0, 0, 0), ⟨"", "", ""⟩, ""),
  (283, .iconst 0, 1, (0, 0, 0, 0, 0), ⟨"", "", ""⟩, ""),
  (284, .ireturn, 1, (1, 0, 0, 0, 0), ⟨"", "", ""⟩, ""),
  (285, .aload_n 1, 1, (0, 0, 0, 0, 0), ⟨"", "", ""⟩, ""),
  (286, .invokevirtual 44, 3, (0, 7, 48, 7, 48), ⟨"WordHides", "fill", "()I"⟩, ""),
  (289, .aload_n 2, 1, (0, 0, 0, 0, 0), ⟨"", "", ""⟩, ""),
  (290, .invokevirtual 47, 3, (0, 8, 81, 8, 81), ⟨"WordHidesModel", "fill", "()I"⟩, ""),
  (293, .if_icmp .eq 328, 3, (621, 0, 0, 0, 0), ⟨"", "", ""⟩, ""),
  (296, .iconst 0, 1, (0, 0, 0, 0, 0), ⟨"", "", ""⟩, ""),
  (297, .ireturn, 1, (1, 0, 0, 0, 0), ⟨"", "", ""⟩, ""),
  (298, .aload_n 1, 1, (0, 0, 0, 0, 0), ⟨"", "", ""⟩, ""),
  (299, .aload_n 0, 1, (0, 0, 0, 0, 0), ⟨"", "", ""⟩, ""),
  (300, .iload_n 3, 1, (0, 0, 0, 0, 0), ⟨"", "", ""⟩, ""),
  (301, .iconst 1, 1, (0, 0, 0, 0, 0), ⟨"", "", ""⟩, ""),
  (302, .iadd, 1, (0, 0, 0, 0, 0), ⟨"", "", ""⟩, ""),
  (303, .iaload, 1, (0, 0, 0, 0, 0), ⟨"", "", ""⟩, ""),
  (304, .aload_n 0, 1, (0, 0, 0, 0, 0), ⟨"", "", ""⟩, ""),
  (305, .iload_n 3, 1, (0, 0, 0, 0, 0), ⟨"", "", ""⟩, ""),
  (306, .iconst 2, 1, (0, 0, 0, 0, 0), ⟨"", "", ""⟩, ""),
  (307, .iadd, 1, (0, 0, 0, 0, 0), ⟨"", "", ""⟩, ""),
  (308, .iaload, 1, (0, 0, 0, 0, 0), ⟨"", "", ""⟩, ""),
  (309, .aload_n 0, 1, (0, 0, 0, 0, 0), ⟨"", "", ""⟩, ""),
  (310, .iload_n 3, 1, (0, 0, 0, 0, 0), ⟨"", "", ""⟩, ""),
  (311, .iconst 3, 1, (0, 0, 0, 0, 0), ⟨"", "", ""⟩, ""),
  (312, .iadd, 1, (0, 0, 0, 0, 0), ⟨"", "", ""⟩, ""),
  (313, .iaload, 1, (0, 0, 0, 0, 0), ⟨"", "", ""⟩, ""),
  (314, .invokevirtual 48, 3, (3, 7, 49, 7, 49), ⟨"WordHides", "letter", "(III)I"⟩, ""),
  (317, .aload_n 2, 1, (0, 0, 0, 0, 0), ⟨"", "", ""⟩, ""),
  (318, .aload_n 0, 1, (0, 0, 0, 0, 0), ⟨"", "", ""⟩, ""),
  (319, .iload_n 3, 1, (0, 0, 0, 0, 0), ⟨"", "", ""⟩, ""),
  (320, .iconst 1, 1, (0, 0, 0, 0, 0), ⟨"", "", ""⟩, ""),
  (321, .iadd, 1, (0, 0, 0, 0, 0), ⟨"", "", ""⟩, ""),
  (322, .iaload, 1, (0, 0, 0, 0, 0), ⟨"", "", ""⟩, ""),
  (323, .aload_n 0, 1, (0, 0, 0, 0, 0), ⟨"", "", ""⟩, ""),
  (324, .iload_n 3, 1, (0, 0, 0, 0, 0), ⟨"", "", ""⟩, ""),
  (325, .iconst 2, 1, (0, 0, 0, 0, 0), ⟨"", "", ""⟩, ""),
  (326, .iadd, 1, (0, 0, 0, 0, 0), ⟨"", "", ""⟩, ""),
  (327, .iaload, 1, (0, 0, 0, 0, 0), ⟨"", "", ""⟩, ""),
  (328, .aload_n 0, 1, (0, 0, 0, 0, 0), ⟨"", "", ""⟩, ""),
  (329, .iload_n 3, 1, (0, 0, 0, 0, 0), ⟨"", "", ""⟩, ""),
  (330, .iconst 3, 1, (0, 0, 0, 0, 0), ⟨"", "", ""⟩, ""),
  (331, .iadd, 1, (0, 0, 0, 0, 0), ⟨"", "", ""⟩, ""),
  (332, .iaload, 1, (0, 0, 0, 0, 0), ⟨"", "", ""⟩, ""),
  (333, .invokevirtual 52, 3, (3, 8, 82, 8, 82), ⟨"WordHidesModel", "letter", "(III)I"⟩, ""),
  (336, .if_icmp .eq 285, 3, (621, 0, 0, 0, 0), ⟨"", "", ""⟩, ""),
  (339, .iconst 0, 1, (0, 0, 0, 0, 0), ⟨"", "", ""⟩, ""),
  (340, .ireturn, 1, (1, 0, 0, 0, 0), ⟨"", "", ""⟩, ""),
  (341, .aload_n 1, 1, (0, 0, 0, 0, 0), ⟨"", "", ""⟩, ""),
  (342, .aload_n 0, 1, (0, 0, 0, 0, 0), ⟨"", "", ""⟩, ""),
  (343, .iload_n 3, 1, (0, 0, 0, 0, 0), ⟨"", "", ""⟩, ""),
  (344, .iconst 1, 1, (0, 0, 0, 0, 0), ⟨"", "", ""⟩, ""),
  (345, .iadd, 1, (0, 0, 0, 0, 0), ⟨"", "", ""⟩, ""),
  (346, .iaload, 1, (0, 0, 0, 0, 0), ⟨"", "", ""⟩, ""),
  (347, .aload_n 0, 1, (0, 0, 0, 0, 0), ⟨"", "", ""⟩, ""),
  (348, .iload_n 3, 1, (0, 0, 0, 0, 0), ⟨"", "", ""⟩, ""),
  (349, .iconst 2, 1, (0, 0, 0, 0, 0), ⟨"", "", ""⟩, ""),
  (350, .iadd, 1, (0, 0, 0, 0, 0), ⟨"", "", ""⟩, ""),
  (351, .iaload, 1, (0, 0, 0, 0, 0), ⟨"", "", ""⟩, ""),
  (352, .aload_n 0, 1, (0, 0, 0, 0, 0), ⟨"", "", ""⟩, ""),
  (353, .iload_n 3, 1, (0, 0, 0, 0, 0), ⟨"", "", ""⟩, ""),
  (354, .iconst 3, 1, (0, 0, 0, 0, 0), ⟨"", "", ""⟩, ""),
  (355, .iadd, 1, (0, 0, 0, 0, 0), ⟨"", "", ""⟩, ""),
  (356, .iaload, 1, (0, 0, 0, 0, 0), ⟨"", "", ""⟩, ""),
  (357, .invokevirtual 53, 3, (3, 7, 50, 7, 50), ⟨"WordHides", "stands", "(III)I"⟩, ""),
  (360, .aload_n 2, 1, (0, 0, 0, 0, 0), ⟨"", "", ""⟩, ""),
  (361, .aload_n 0, 1, (0, 0, 0, 0, 0), ⟨"", "", ""⟩, ""),
  (362, .iload_n 3, 1, (0, 0, 0, 0, 0), ⟨"", "", ""⟩, ""),
  (363, .iconst 1, 1, (0, 0, 0, 0, 0), ⟨"", "", ""⟩, ""),
  (364, .iadd, 1, (0, 0, 0, 0, 0), ⟨"", "", ""⟩, ""),
  (365, .iaload, 1, (0, 0, 0, 0, 0), ⟨"", "", ""⟩, ""),
  (366, .aload_n 0, 1, (0, 0, 0, 0, 0), ⟨"", "", ""⟩, ""),
  (367, .iload_n 3, 1, (0, 0, 0, 0, 0), ⟨"", "", ""⟩, ""),
  (368, .iconst 2, 1, (0, 0, 0, 0, 0), ⟨"", "", ""⟩, ""),
  (369, .iadd, 1, (0, 0, 0, 0, 0), ⟨"", "", ""⟩, ""),
  (370, .iaload, 1, (0, 0, 0, 0, 0), ⟨"", "", ""⟩, ""),
  (371, .aload_n 0, 1, (0, 0, 0, 0, 0), ⟨"", "", ""⟩, ""),
  (372, .iload_n 3, 1, (0, 0, 0, 0, 0), ⟨"", "", ""⟩, ""),
  (373, .iconst 3, 1, (0, 0, 0, 0, 0), ⟨"", "", ""⟩, ""),
  (374, .iadd, 1, (0, 0, 0, 0, 0), ⟨"", "", ""⟩, ""),
  (375, .iaload, 1, (0, 0, 0, 0, 0), ⟨"", "", ""⟩, ""),
  (376, .invokevirtual 56, 3, (3, 8, 94, 8, 94), ⟨"WordHidesModel", "stands", "(III)I"⟩, ""),
  (379, .if_icmp .eq 242, 3, (621, 0, 0, 0, 0), ⟨"", "", ""⟩, ""),
  (382, .iconst 0, 1, (0, 0, 0, 0, 0), ⟨"", "", ""⟩, ""),
  (383, .ireturn, 1, (1, 0, 0, 0, 0), ⟨"", "", ""⟩, ""),
  (384, .aload_n 1, 1, (0, 0, 0, 0, 0), ⟨"", "", ""⟩, ""),
  (385, .aload_n 0, 1, (0, 0, 0, 0, 0), ⟨"", "", ""⟩, ""),
  (386, .iload_n 3, 1, (0, 0, 0, 0, 0), ⟨"", "", ""⟩, ""),
  (387, .iconst 1, 1, (0, 0, 0, 0, 0), ⟨"", "", ""⟩, ""),
  (388, .iadd, 1, (0, 0, 0, 0, 0), ⟨"", "", ""⟩, ""),
  (389, .iaload, 1, (0, 0, 0, 0, 0), ⟨"", "", ""⟩, ""),
  (390, .aload_n 0, 1, (0, 0, 0, 0, 0), ⟨"", "", ""⟩, ""),
  (391, .iload_n 3, 1, (0, 0, 0, 0, 0), ⟨"", "", ""⟩, ""),
  (392, .iconst 2, 1, (0, 0, 0, 0, 0), ⟨"", "", ""⟩, ""),
  (393, .iadd, 1, (0, 0, 0, 0, 0), ⟨"", "", ""⟩, ""),
  (394, .iaload, 1, (0, 0, 0, 0, 0), ⟨"", "", ""⟩, ""),
  (395, .invokevirtual 57, 3, (2, 7, 51, 7, 51), ⟨"WordHides", "put", "(II)I"⟩, ""),
  (398, .aload_n 2, 1, (0, 0, 0, 0, 0), ⟨"", "", ""⟩, ""),
  (399, .aload_n 0, 1, (0, 0, 0, 0, 0), ⟨"", "", ""⟩, ""),
  (400, .iload_n 3, 1, (0, 0, 0, 0, 0), ⟨"", "", ""⟩, ""),
  (401, .iconst 1, 1, (0, 0, 0, 0, 0), ⟨"", "", ""⟩, ""),
  (402, .iadd, 1, (0, 0, 0, 0, 0), ⟨"", "", ""⟩, ""),
  (403, .iaload, 1, (0, 0, 0, 0, 0), ⟨"", "", ""⟩, ""),
  (404, .aload_n 0, 1, (0, 0, 0, 0, 0), ⟨"", "", ""⟩, ""),
  (405, .iload_n 3, 1, (0, 0, 0, 0, 0), ⟨"", "", ""⟩, ""),
  (406, .iconst 2, 1, (0, 0, 0, 0, 0), ⟨"", "", ""⟩, ""),
  (407, .iadd, 1, (0, 0, 0, 0, 0), ⟨"", "", ""⟩, ""),
  (408, .iaload, 1, (0, 0, 0, 0, 0), ⟨"", "", ""⟩, ""),
  (409, .invokevirtual 60, 3, (2, 8, 96, 8, 96), ⟨"WordHidesModel", "put", "(II)I"⟩, ""),
  (412, .if_icmp .eq 209, 3, (621, 0, 0, 0, 0), ⟨"", "", ""⟩, ""),
  (415, .iconst 0, 1, (0, 0, 0, 0, 0), ⟨"", "", ""⟩, ""),
  (416, .ireturn, 1, (1, 0, 0, 0, 0), ⟨"", "", ""⟩, ""),
  (417, .aload_n 1, 1, (0, 0, 0, 0, 0), ⟨"", "", ""⟩, ""),
  (418, .aload_n 0, 1, (0, 0, 0, 0, 0), ⟨"", "", ""⟩, ""),
  (419, .iload_n 3, 1, (0, 0, 0, 0, 0), ⟨"", "", ""⟩, ""),
  (420, .iconst 1, 1, (0, 0, 0, 0, 0), ⟨"", "", ""⟩, ""),
  (421, .iadd, 1, (0, 0, 0, 0, 0), ⟨"", "", ""⟩, ""),
  (422, .iaload, 1, (0, 0, 0, 0, 0), ⟨"", "", ""⟩, ""),
  (423, .aload_n 0, 1, (0, 0, 0, 0, 0), ⟨"", "", ""⟩, ""),
  (424, .iload_n 3, 1, (0, 0, 0, 0, 0), ⟨"", "", ""⟩, ""),
  (425, .iconst 2, 1, (0, 0, 0, 0, 0), ⟨"", "", ""⟩, ""),
  (426, .iadd, 1, (0, 0, 0, 0, 0), ⟨"", "", ""⟩, ""),
  (427, .iaload, 1, (0, 0, 0, 0, 0), ⟨"", "", ""⟩, ""),
  (428, .invokevirtual 61, 3, (2, 7, 52, 7, 52), ⟨"WordHides", "fits", "(II)I"⟩, ""),
  (431, .aload_n 2, 1, (0, 0, 0, 0, 0), ⟨"", "", ""⟩, ""),
  (432, .aload_n 0, 1, (0, 0, 0, 0, 0), ⟨"", "", ""⟩, ""),
  (433, .iload_n 3, 1, (0, 0, 0, 0, 0), ⟨"", "", ""⟩, ""),
  (434, .iconst 1, 1, (0, 0, 0, 0, 0), ⟨"", "", ""⟩, ""),
  (435, .iadd, 1, (0, 0, 0, 0, 0), ⟨"", "", ""⟩, ""),
  (436, .iaload, 1, (0, 0, 0, 0, 0), ⟨"", "", ""⟩, ""),
  (437, .aload_n 0, 1, (0, 0, 0, 0, 0), ⟨"", "", ""⟩, ""),
  (438, .iload_n 3, 1, (0, 0, 0, 0, 0), ⟨"", "", ""⟩, ""),
  (439, .iconst 2, 1, (0, 0, 0, 0, 0), ⟨"", "", ""⟩, ""),
  (440, .iadd, 1, (0, 0, 0, 0, 0), ⟨"", "", ""⟩, ""),
  (441, .iaload, 1, (0, 0, 0, 0, 0), ⟨"", "", ""⟩, ""),
  (442, .invokevirtual 64, 3, (2, 8, 97, 8, 97), ⟨"WordHidesModel", "fits", "(II)I"⟩, ""),
  (445, .if_icmp .eq 176, 3, (621, 0, 0, 0, 0), ⟨"", "", ""⟩, ""),
  (448, .iconst 0, 1, (0, 0, 0, 0, 0), ⟨"", "", ""⟩, ""),
  (449, .ireturn, 1, (1, 0, 0, 0, 0), ⟨"", "", ""⟩, ""),
  (450, .aload_n 1, 1, (0, 0, 0, 0, 0), ⟨"", "", ""⟩, ""),
  (451, .aload_n 0, 1, (0, 0, 0, 0, 0), ⟨"", "", ""⟩, ""),
  (452, .iload_n 3, 1, (0, 0, 0, 0, 0), ⟨"", "", ""⟩, ""),
  (453, .iconst 1, 1, (0, 0, 0, 0, 0), ⟨"", "", ""⟩, ""),
  (454, .iadd, 1, (0, 0, 0, 0, 0), ⟨"", "", ""⟩, ""),
  (455, .iaload, 1, (0, 0, 0, 0, 0), ⟨"", "", ""⟩, ""),
  (456, .invokevirtual 65, 3, (1, 7, 53, 7, 53), ⟨"WordHides", "most", "(I)I"⟩, ""),
  (459, .aload_n 2, 1, (0, 0, 0, 0, 0), ⟨"", "", ""⟩, ""),
  (460, .aload_n 0, 1, (0, 0, 0, 0, 0), ⟨"", "", ""⟩, ""),
  (461, .iload_n 3, 1, (0, 0, 0, 0, 0), ⟨"", "", ""⟩, ""),
  (462, .iconst 1, 1, (0, 0, 0, 0, 0), ⟨"", "", ""⟩, ""),
  (463, .iadd, 1, (0, 0, 0, 0, 0), ⟨"", "", ""⟩, ""),
  (464, .iaload, 1, (0, 0, 0, 0, 0), ⟨"", "", ""⟩, ""),
  (465, .invokevirtual 68, 3, (1, 8, 105, 8, 105), ⟨"WordHidesModel", "most", "(I)I"⟩, ""),
  (468, .if_icmp .eq 153, 3, (621, 0, 0, 0, 0), ⟨"", "", ""⟩, ""),
  (471, .iconst 0, 1, (0, 0, 0, 0, 0), ⟨"", "", ""⟩, ""),
  (472, .ireturn, 1, (1, 0, 0, 0, 0), ⟨"", "", ""⟩, ""),
  (473, .aload_n 1, 1, (0, 0, 0, 0, 0), ⟨"", "", ""⟩, ""),
  (474, .aload_n 0, 1, (0, 0, 0, 0, 0), ⟨"", "", ""⟩, ""),
  (475, .iload_n 3, 1, (0, 0, 0, 0, 0), ⟨"", "", ""⟩, ""),
  (476, .iconst 1, 1, (0, 0, 0, 0, 0), ⟨"", "", ""⟩, ""),
  (477, .iadd, 1, (0, 0, 0, 0, 0), ⟨"", "", ""⟩, ""),
  (478, .iaload, 1, (0, 0, 0, 0, 0), ⟨"", "", ""⟩, ""),
  (479, .aload_n 0, 1, (0, 0, 0, 0, 0), ⟨"", "", ""⟩, ""),
  (480, .iload_n 3, 1, (0, 0, 0, 0, 0), ⟨"", "", ""⟩, ""),
  (481, .iconst 2, 1, (0, 0, 0, 0, 0), ⟨"", "", ""⟩, ""),
  (482, .iadd, 1, (0, 0, 0, 0, 0), ⟨"", "", ""⟩, ""),
  (483, .iaload, 1, (0, 0, 0, 0, 0), ⟨"", "", ""⟩, ""),
  (484, .aload_n 0, 1, (0, 0, 0, 0, 0), ⟨"", "", ""⟩, ""),
  (485, .iload_n 3, 1, (0, 0, 0, 0, 0), ⟨"", "", ""⟩, ""),
  (486, .iconst 3, 1, (0, 0, 0, 0, 0), ⟨"", "", ""⟩, ""),
  (487, .iadd, 1, (0, 0, 0, 0, 0), ⟨"", "", ""⟩, ""),
  (488, .iaload, 1, (0, 0, 0, 0, 0), ⟨"", "", ""⟩, ""),
  (489, .invokevirtual 69, 3, (3, 7, 54, 7, 54), ⟨"WordHides", "covers", "(III)I"⟩, ""),
  (492, .aload_n 2, 1, (0, 0, 0, 0, 0), ⟨"", "", ""⟩, ""),
  (493, .aload_n 0, 1, (0, 0, 0, 0, 0), ⟨"", "", ""⟩, ""),
  (494, .iload_n 3, 1, (0, 0, 0, 0, 0), ⟨"", "", ""⟩, ""),
  (495, .iconst 1, 1, (0, 0, 0, 0, 0), ⟨"", "", ""⟩, ""),
  (496, .iadd, 1, (0, 0, 0, 0, 0), ⟨"", "", ""⟩, ""),
  (497, .iaload, 1, (0, 0, 0, 0, 0), ⟨"", "", ""⟩, ""),
  (498, .aload_n 0, 1, (0, 0, 0, 0, 0), ⟨"", "", ""⟩, ""),
  (499, .iload_n 3, 1, (0, 0, 0, 0, 0), ⟨"", "", ""⟩, ""),
  (500, .iconst 2, 1, (0, 0, 0, 0, 0), ⟨"", "", ""⟩, ""),
  (501, .iadd, 1, (0, 0, 0, 0, 0), ⟨"", "", ""⟩, ""),
  (502, .iaload, 1, (0, 0, 0, 0, 0), ⟨"", "", ""⟩, ""),
  (503, .aload_n 0, 1, (0, 0, 0, 0, 0), ⟨"", "", ""⟩, ""),
  (504, .iload_n 3, 1, (0, 0, 0, 0, 0), ⟨"", "", ""⟩, ""),
  (505, .iconst 3, 1, (0, 0, 0, 0, 0), ⟨"", "", ""⟩, ""),
  (506, .iadd, 1, (0, 0, 0, 0, 0), ⟨"", "", ""⟩, ""),
  (507, .iaload, 1, (0, 0, 0, 0, 0), ⟨"", "", ""⟩, ""),
  (508, .invokevirtual 72, 3, (3, 8, 107, 8, 107), ⟨"WordHidesModel", "covers", "(III)I"⟩, ""),
  (511, .if_icmp .eq 110, 3, (621, 0, 0, 0, 0), ⟨"", "", ""⟩, ""),
  (514, .iconst 0, 1, (0, 0, 0, 0, 0), ⟨"", "", ""⟩, ""),
  (515, .ireturn, 1, (1, 0, 0, 0, 0), ⟨"", "", ""⟩, ""),
  (516, .aload_n 1, 1, (0, 0, 0, 0, 0), ⟨"", "", ""⟩, ""),
  (517, .aload_n 0, 1, (0, 0, 0, 0, 0), ⟨"", "", ""⟩, ""),
  (518, .iload_n 3, 1, (0, 0, 0, 0, 0), ⟨"", "", ""⟩, ""),
  (519, .iconst 1, 1, (0, 0, 0, 0, 0), ⟨"", "", ""⟩, ""),
  (520, .iadd, 1, (0, 0, 0, 0, 0), ⟨"", "", ""⟩, ""),
  (521, .iaload, 1, (0, 0, 0, 0, 0), ⟨"", "", ""⟩, ""),
  (522, .invokevirtual 73, 3, (1, 7, 55, 7, 55), ⟨"WordHides", "good", "(I)I"⟩, ""),
  (525, .aload_n 2, 1, (0, 0, 0, 0, 0), ⟨"", "", ""⟩, ""),
  (526, .aload_n 0, 1, (0, 0, 0, 0, 0), ⟨"", "", ""⟩, ""),
  (527, .iload_n 3, 1, (0, 0, 0, 0, 0), ⟨"", "", ""⟩, ""),
  (528, .iconst 1, 1, (0, 0, 0, 0, 0), ⟨"", "", ""⟩, ""),
  (529, .iadd, 1, (0, 0, 0, 0, 0), ⟨"", "", ""⟩, ""),
  (530, .iaload, 1, (0, 0, 0, 0, 0), ⟨"", "", ""⟩, ""),
  (531, .invokevirtual 76, 3, (1, 8, 112, 8, 112), ⟨"WordHidesModel", "good", "(I)I"⟩, ""),
  (534, .if_icmp .eq 87, 3, (621, 0, 0, 0, 0), ⟨"", "", ""⟩, ""),
  (537, .iconst 0, 1, (0, 0, 0, 0, 0), ⟨"", "", ""⟩, ""),
  (538, .ireturn, 1, (1, 0, 0, 0, 0), ⟨"", "", ""⟩, ""),
  (539, .aload_n 1, 1, (0, 0, 0, 0, 0), ⟨"", "", ""⟩, ""),
  (540, .invokevirtual 77, 3, (0, 7, 56, 7, 56), ⟨"WordHides", "hide", "()I"⟩, ""),
  (543, .aload_n 2, 1, (0, 0, 0, 0, 0), ⟨"", "", ""⟩, ""),
  (544, .invokevirtual 80, 3, (0, 8, 113, 8, 113), ⟨"WordHidesModel", "hide", "()I"⟩, ""),
  (547, .if_icmp .eq 74, 3, (621, 0, 0, 0, 0), ⟨"", "", ""⟩, ""),
  (550, .iconst 0, 1, (0, 0, 0, 0, 0), ⟨"", "", ""⟩, ""),
  (551, .ireturn, 1, (1, 0, 0, 0, 0), ⟨"", "", ""⟩, ""),
  (552, .aload_n 1, 1, (0, 0, 0, 0, 0), ⟨"", "", ""⟩, ""),
  (553, .aload_n 0, 1, (0, 0, 0, 0, 0), ⟨"", "", ""⟩, ""),
  (554, .iload_n 3, 1, (0, 0, 0, 0, 0), ⟨"", "", ""⟩, ""),
  (555, .iconst 1, 1, (0, 0, 0, 0, 0), ⟨"", "", ""⟩, ""),
  (556, .iadd, 1, (0, 0, 0, 0, 0), ⟨"", "", ""⟩, ""),
  (557, .iaload, 1, (0, 0, 0, 0, 0), ⟨"", "", ""⟩, ""),
  (558, .invokevirtual 81, 3, (1, 7, 57, 7, 57), ⟨"WordHides", "image", "(I)I"⟩, ""),
  (561, .aload_n 2, 1, (0, 0, 0, 0, 0), ⟨"", "", ""⟩, ""),
  (562, .aload_n 0, 1, (0, 0, 0, 0, 0), ⟨"", "", ""⟩, ""),
  (563, .iload_n 3, 1, (0, 0, 0, 0, 0), ⟨"", "", ""⟩, ""),
  (564, .iconst 1, 1, (0, 0, 0, 0, 0), ⟨"", "", ""⟩, ""),
  (565, .iadd, 1, (0, 0, 0, 0, 0), ⟨"", "", ""⟩, ""),
  (566, .iaload, 1, (0, 0, 0, 0, 0), ⟨"", "", ""⟩, ""),
  (567, .invokevirtual 84, 3, (1, 8, 114, 8, 114), ⟨"WordHidesModel", "image", "(I)I"⟩, ""),
  (570, .if_icmp .eq 51, 3, (621, 0, 0, 0, 0), ⟨"", "", ""⟩, ""),
  (573, .iconst 0, 1, (0, 0, 0, 0, 0), ⟨"", "", ""⟩, ""),
  (574, .ireturn, 1, (1, 0, 0, 0, 0), ⟨"", "", ""⟩, ""),
  (575, .aload_n 1, 1, (0, 0, 0, 0, 0), ⟨"", "", ""⟩, ""),
  (576, .aload_n 0, 1, (0, 0, 0, 0, 0), ⟨"", "", ""⟩, ""),
  (577, .iload_n 3, 1, (0, 0, 0, 0, 0), ⟨"", "", ""⟩, ""),
  (578, .iconst 1, 1, (0, 0, 0, 0, 0), ⟨"", "", ""⟩, ""),
  (579, .iadd, 1, (0, 0, 0, 0, 0), ⟨"", "", ""⟩, ""),
  (580, .iaload, 1, (0, 0, 0, 0, 0), ⟨"", "", ""⟩, ""),
  (581, .invokevirtual 85, 3, (1, 7, 58, 7, 58), ⟨"WordHides", "restore", "(I)I"⟩, ""),
  (584, .aload_n 2, 1, (0, 0, 0, 0, 0), ⟨"", "", ""⟩, ""),
  (585, .aload_n 0, 1, (0, 0, 0, 0, 0), ⟨"", "", ""⟩, ""),
  (586, .iload_n 3, 1, (0, 0, 0, 0, 0), ⟨"", "", ""⟩, ""),
  (587, .iconst 1, 1, (0, 0, 0, 0, 0), ⟨"", "", ""⟩, ""),
  (588, .iadd, 1, (0, 0, 0, 0, 0), ⟨"", "", ""⟩, ""),
  (589, .iaload, 1, (0, 0, 0, 0, 0), ⟨"", "", ""⟩, ""),
  (590, .invokevirtual 88, 3, (1, 8, 115, 8, 115), ⟨"WordHidesModel", "restore", "(I)I"⟩, ""),
  (593, .if_icmp .eq 28, 3, (621, 0, 0, 0, 0), ⟨"", "", ""⟩, ""),
  (596, .iconst 0, 1, (0, 0, 0, 0, 0), ⟨"", "", ""⟩, ""),
  (597, .ireturn, 1, (1, 0, 0, 0, 0), ⟨"", "", ""⟩, ""),
  (598, .aload_n 1, 1, (0, 0, 0, 0, 0), ⟨"", "", ""⟩, ""),
  (599, .aload_n 0, 1, (0, 0, 0, 0, 0), ⟨"", "", ""⟩, ""),
  (600, .iload_n 3, 1, (0, 0, 0, 0, 0), ⟨"", "", ""⟩, ""),
  (601, .iconst 1, 1, (0, 0, 0, 0, 0), ⟨"", "", ""⟩, ""),
  (602, .iadd, 1, (0, 0, 0, 0, 0), ⟨"", "", ""⟩, ""),
  (603, .iaload, 1, (0, 0, 0, 0, 0), ⟨"", "", ""⟩, ""),
  (604, .invokevirtual 89, 3, (1, 7, 59, 7, 59), ⟨"WordHides", "count", "(I)I"⟩, ""),
  (607, .aload_n 2, 1, (0, 0, 0, 0, 0), ⟨"", "", ""⟩, ""),
  (608, .aload_n 0, 1, (0, 0, 0, 0, 0), ⟨"", "", ""⟩, ""),
  (609, .iload_n 3, 1, (0, 0, 0, 0, 0), ⟨"", "", ""⟩, ""),
  (610, .iconst 1, 1, (0, 0, 0, 0, 0), ⟨"", "", ""⟩, ""),
  (611, .iadd, 1, (0, 0, 0, 0, 0), ⟨"", "", ""⟩, ""),
  (612, .iaload, 1, (0, 0, 0, 0, 0), ⟨"", "", ""⟩, ""),
  (613, .invokevirtual 92, 3, (1, 8, 118, 8, 118), ⟨"WordHidesModel", "count", "(I)I"⟩, ""),
  (616, .if_icmp .eq 5, 3, (621, 0, 0, 0, 0), ⟨"", "", ""⟩, ""),
  (619, .iconst 0, 1, (0, 0, 0, 0, 0), ⟨"", "", ""⟩, ""),
  (620, .ireturn, 1, (1, 0, 0, 0, 0), ⟨"", "", ""⟩, ""),
  (621, .iinc 3 4, 3, (0, 0, 0, 0, 0), ⟨"", "", ""⟩, ""),
  (624, .goto (-606), 3, (18, 0, 0, 0, 0), ⟨"", "", ""⟩, ""),
  (627, .iconst 1, 1, (0, 0, 0, 0, 0), ⟨"", "", ""⟩, ""),
  (628, .ireturn, 1, (1, 0, 0, 0, 0), ⟨"", "", ""⟩, "")])
def prog : List wM := [pX0_init, pX0_copyFrom, pX1_init, pX1_hasHope, pX1_meetLaying, pX2_init, pX2_hasHope, pX2_meetLaying, pX2_isSpoiled, pX3_init, pX3_measureReaches, pX3_runOf, pX3_hasCell, pX3_hasPlace, pX3_holds, pX3_cellSet, pX4_init, pX4_look, pX4_layFrom, pX4_keepPlaces, pX4_firstPlace, pX5_init, pX5_clear, pX5_copyFrom, pX5_accepts, pX5_lay, pX5_lift, pX5_pour, pX5_standing, pX5_showsAt, pX5_emptyCells, pX5_unlikeLetters, pX6_init, pX6_append, pX6_copyFrom, pX6_isSameFromEnd, pX7_init, pX7_find, pX7_append, pX7_copyFrom, pX8_init, pX8_side, pX8_set, pX8_at, pX8_say, pX8_wipe, pX8_take, pX8_drop, pX8_fill, pX8_letter, pX8_stands, pX8_put, pX8_fits, pX8_most, pX8_covers, pX8_good, pX8_hide, pX8_image, pX8_restore, pX8_count, pX8_isLetter, pX8_isPlaceAsked, pX8_listOf, pX8_forgetLayings, pX9_init, pX9_in, pX9_cells, pX9_isCell, pX9_isLetter, pX9_isPlace, pX9_isWord, pX9_longOf, pX9_letterOf, pX9_side, pX9_set, pX9_at, pX9_say, pX9_wipe, pX9_takeRest, pX9_take, pX9_drop, pX9_fill, pX9_letter, pX9_across, pX9_down, pX9_cellAt, pX9_canLie, pX9_begin, pX9_copyStep, pX9_layWord, pX9_placesOf, pX9_layStep, pX9_standsIn, pX9_timesIn, pX9_stands, pX9_canPut, pX9_put, pX9_fits, pX9_crossed, pX9_covered, pX9_keep, pX9_see, pX9_goThrough, pX9_goLast, pX9_placeTold, pX9_most, pX9_areNone, pX9_covers, pX9_fillRest, pX9_isSame, pX9_isGood, pX9_fillFirst, pX9_good, pX9_hide, pX9_image, pX9_restore, pX9_empties, pX9_letters, pX9_count, pJ6_bitCount_0f7a4, pJ9_max_7cf53, pJ9_min_7cf53, pJ7_fill_53178, pL_law]
end
section
/-! A SMALL MACHINE: cells by numbers (0 to 3 the static rows, 4 the script, 5 and on what is made), values whose references are such numbers. 'arun' runs methods of 'prog' with fuel n and at most d calls open; 'go' is its answer with fuel enough. Later parts tie it to the real machine (sound) and prove the law over it. -/
abbrev aC : Type := (Nat × List Value) ⊕ ((Nat × List Int32) ⊕ (Nat × List (Option Nat)))
abbrev aH : Type := List aC
abbrev aK : Type := Nat × List Value × List Value × aH
def aU : Value := .retAddr 0
def aOk (v : Value) : Bool := match v with
  | .int _ => true
  | .null => true
  | .ref _ => true
  | _ => false
def fitK (kd : Nat) (v : Value) : Bool := match kd, v with
  | 0, .int _ => true
  | 1, .int x => x == 0 || x == 1
  | 2, .ref _ => true
  | 2, .null => true
  | _, _ => false
def dflV (d : String) : Value := if d = "I" then .int 0 else if d = "Z" then .int 0 else .null
def dfl (ci : Nat) : List Value := match vwCl[ci]? with
  | some r => (List.range r.2.2).map (fun k => dflV (r.2.1 k).2.2.1)
  | none => []
def k_push (v : Value) (q : Nat) (ls st : List Value) (h : aH) : Option aK := some (q, ls, v :: st, h)
def k_iload (i q : Nat) (ls st : List Value) (h : aH) : Option aK := match ls[i]? with
  | some (.int x) => some (q, ls, .int x :: st, h)
  | _ => none
def k_aload (i q : Nat) (ls st : List Value) (h : aH) : Option aK := match ls[i]? with
  | some (.ref x) => some (q, ls, .ref x :: st, h)
  | some .null => some (q, ls, .null :: st, h)
  | _ => none
def k_istore (i q : Nat) (ls st : List Value) (h : aH) : Option aK := match st with
  | .int x :: r => if i < ls.length then some (q, ls.set i (.int x), r, h) else none
  | _ => none
def k_astore (i q : Nat) (ls st : List Value) (h : aH) : Option aK := match st with
  | .ref x :: r => if i < ls.length then some (q, ls.set i (.ref x), r, h) else none
  | .null :: r => if i < ls.length then some (q, ls.set i .null, r, h) else none
  | _ => none
def k_iinc (i : Nat) (n : Int) (q : Nat) (ls st : List Value) (h : aH) : Option aK := match ls[i]? with
  | some (.int x) => some (q, ls.set i (.int (x + Int32.ofInt n)), st, h)
  | _ => none
def k_bin (f : Int32 → Int32 → Int32) (q : Nat) (ls st : List Value) (h : aH) : Option aK := match st with
  | .int y :: .int x :: r => some (q, ls, .int (f x y) :: r, h)
  | _ => none
def k_div (f : Int32 → Int32 → Int32) (q : Nat) (ls st : List Value) (h : aH) : Option aK := match st with
  | .int y :: .int x :: r => if y = 0 then none else some (q, ls, .int (f x y) :: r, h)
  | _ => none
def k_if1 (f : Int32 → Bool) (t q : Nat) (ls st : List Value) (h : aH) : Option aK := match st with
  | .int x :: r => some (if f x = true then t else q, ls, r, h)
  | _ => none
def k_if2 (f : Int32 → Int32 → Bool) (t q : Nat) (ls st : List Value) (h : aH) : Option aK := match st with
  | .int y :: .int x :: r => some (if f x y = true then t else q, ls, r, h)
  | _ => none
def k_null (tr tn : Nat) (ls st : List Value) (h : aH) : Option aK := match st with
  | .ref _ :: r => some (tr, ls, r, h)
  | .null :: r => some (tn, ls, r, h)
  | _ => none
def k_dup (q : Nat) (ls st : List Value) (h : aH) : Option aK := match st with
  | v :: r => if aOk v = true then some (q, ls, v :: v :: r, h) else none
  | _ => none
def k_pop (q : Nat) (ls st : List Value) (h : aH) : Option aK := match st with
  | v :: r => if aOk v = true then some (q, ls, r, h) else none
  | _ => none
def k_dup2 (q : Nat) (ls st : List Value) (h : aH) : Option aK := match st with
  | v :: w :: r => if aOk v = true ∧ aOk w = true then some (q, ls, v :: w :: v :: w :: r, h) else none
  | _ => none
def k_table (pc : Nat) (df lo hi : Int) (offs : Array Int) (ls st : List Value) (h : aH) : Option aK := match st with
  | .int x :: r => if x.toInt < lo ∨ hi < x.toInt then (if 0 ≤ (pc : Int) + df then some (((pc : Int) + df).toNat, ls, r, h) else none) else (match offs[(x.toInt - lo).toNat]? with
    | some off => if 0 ≤ (pc : Int) + off then some (((pc : Int) + off).toNat, ls, r, h) else none
    | none => none)
  | _ => none
def k_getf (j c0 c1 q : Nat) (ls st : List Value) (h : aH) : Option aK := match st with
  | .ref a :: r => (match h[a]? with
    | some (.inl (ci, fs)) => if ci = c0 ∨ ci = c1 then (match fs[j]? with
      | some v => some (q, ls, v :: r, h)
      | none => none) else none
    | _ => none)
  | _ => none
def k_putf (j c0 c1 kd q : Nat) (ls st : List Value) (h : aH) : Option aK := match st with
  | v :: .ref a :: r => (match h[a]? with
    | some (.inl (ci, fs)) => if (ci = c0 ∨ ci = c1) ∧ j < fs.length ∧ fitK kd v = true then some (q, ls, r, h.set a (.inl (ci, fs.set j v))) else none
    | _ => none)
  | _ => none
def k_iald (q : Nat) (ls st : List Value) (h : aH) : Option aK := match st with
  | .int i :: .ref a :: r => (match h[a]? with
    | some (.inr (.inl (t, xs))) => if (t = 0 ∨ t = 2) ∧ ¬ i < 0 then (match xs[i.toNatClampNeg]? with
      | some x => some (q, ls, .int x :: r, h)
      | none => none) else none
    | _ => none)
  | _ => none
def k_zald (q : Nat) (ls st : List Value) (h : aH) : Option aK := match st with
  | .int i :: .ref a :: r => (match h[a]? with
    | some (.inr (.inl (t, xs))) => if t = 1 ∧ ¬ i < 0 then (match xs[i.toNatClampNeg]? with
      | some x => some (q, ls, .int x :: r, h)
      | none => none) else none
    | _ => none)
  | _ => none
def k_iast (q : Nat) (ls st : List Value) (h : aH) : Option aK := match st with
  | .int x :: .int i :: .ref a :: r => (match h[a]? with
    | some (.inr (.inl (t, xs))) => if t = 0 ∧ ¬ i < 0 ∧ i.toNatClampNeg < xs.length then some (q, ls, r, h.set a (.inr (.inl (0, xs.set i.toNatClampNeg x)))) else none
    | _ => none)
  | _ => none
def k_zast (q : Nat) (ls st : List Value) (h : aH) : Option aK := match st with
  | .int x :: .int i :: .ref a :: r => (match h[a]? with
    | some (.inr (.inl (t, xs))) => if t = 1 ∧ (x = 0 ∨ x = 1) ∧ ¬ i < 0 ∧ i.toNatClampNeg < xs.length then some (q, ls, r, h.set a (.inr (.inl (1, xs.set i.toNatClampNeg x)))) else none
    | _ => none)
  | _ => none
def k_aald (q : Nat) (ls st : List Value) (h : aH) : Option aK := match st with
  | .int i :: .ref a :: r => (match h[a]? with
    | some (.inr (.inr (_, os))) => if ¬ i < 0 then (match os[i.toNatClampNeg]? with
      | some o => some (q, ls, va_rf o :: r, h)
      | none => none) else none
    | _ => none)
  | _ => none
def k_aast (q : Nat) (ls st : List Value) (h : aH) : Option aK := match st with
  | .ref v :: .int i :: .ref a :: r => (match h[a]? with
    | some (.inr (.inr (e, os))) => (match h[v]? with
      | some (.inl (ci, _)) => if ci = e ∧ ¬ i < 0 ∧ i.toNatClampNeg < os.length then some (q, ls, r, h.set a (.inr (.inr (e, os.set i.toNatClampNeg (some v))))) else none
      | _ => none)
    | _ => none)
  | _ => none
def k_alen (q : Nat) (ls st : List Value) (h : aH) : Option aK := match st with
  | .ref a :: r => (match h[a]? with
    | some (.inr (.inl (_, xs))) => some (q, ls, .int (Int32.ofNat xs.length) :: r, h)
    | _ => none)
  | _ => none
def k_newa (t q : Nat) (ls st : List Value) (h : aH) : Option aK := match st with
  | .int n :: r => if ¬ n < 0 ∧ n.toNatClampNeg ≤ 65536 then some (q, ls, .ref h.length :: r, h ++ [.inr (.inl (t, List.replicate n.toNatClampNeg 0))]) else none
  | _ => none
def k_newq (e q : Nat) (ls st : List Value) (h : aH) : Option aK := match st with
  | .int n :: r => if ¬ n < 0 ∧ n.toNatClampNeg ≤ 65536 then some (q, ls, .ref h.length :: r, h ++ [.inr (.inr (e, List.replicate n.toNatClampNeg none))]) else none
  | _ => none
def k_new (ci q : Nat) (ls st : List Value) (h : aH) : Option aK := some (q, ls, .ref h.length :: st, h ++ [.inl (ci, dfl ci)])
def k_oini (q : Nat) (ls st : List Value) (h : aH) : Option aK := match st with
  | .ref _ :: r => if r.length ≤ 8 ∧ r.all aOk = true then some (q, ls, r, h) else none
  | _ => none
def k_copy (q : Nat) (ls st : List Value) (h : aH) : Option aK := match st with
  | .int n :: .int dp :: .ref b :: .int sp :: .ref a :: r => (match h[a]? with
    | some (.inr (.inl (t, xs))) => (match h[b]? with
      | some (.inr (.inl (u, ys))) => if (t = 0 ∧ u = 0 ∧ sp = 0 ∧ dp = 0) ∧ ¬ n < 0 ∧ n.toNatClampNeg ≤ xs.length ∧ n.toNatClampNeg ≤ ys.length ∧ r.length ≤ 8 ∧ r.all aOk = true then some (q, ls, r, h.set b (.inr (.inl (0, xs.take n.toNatClampNeg ++ ys.drop n.toNatClampNeg)))) else none
      | _ => none)
    | _ => none)
  | _ => none
/-- Math.max, Math.min -/
def k_mm (f : Int32 → Int32 → Int32) (q : Nat) (ls st : List Value) (h : aH) : Option aK := match st with
  | .int y :: .int x :: r => if r.length ≤ 8 ∧ r.all aOk = true then some (q, ls, .int (f x y) :: r, h) else none
  | _ => none
/-- an instruction that is neither a call of ours nor a return -/
def aplain (e : wE) (ls st : List Value) (h : aH) : Option aK := match e with
  | (pc, i, _, (a, b, c, d, f), _, _) => match i with
    | .iconst n => k_push (.int (Int32.ofInt n)) (pc + 1) ls st h
    | .bipush n => k_push (.int (Int8.ofInt n).toInt32) (pc + 2) ls st h
    | .sipush n => k_push (.int (Int16.ofInt n).toInt32) (pc + 3) ls st h
    | .ldc_w _ => k_push (.int (Int32.ofNat a)) (pc + 3) ls st h
    | .aconst_null => k_push .null (pc + 1) ls st h
    | .getstatic _ => k_push (.ref a) (pc + 3) ls st h
    | .iload_n k => k_iload k.val (pc + 1) ls st h
    | .iload k => k_iload k (pc + 2) ls st h
    | .aload_n k => k_aload k.val (pc + 1) ls st h
    | .aload k => k_aload k (pc + 2) ls st h
    | .istore_n k => k_istore k.val (pc + 1) ls st h
    | .istore k => k_istore k (pc + 2) ls st h
    | .astore_n k => k_astore k.val (pc + 1) ls st h
    | .astore k => k_astore k (pc + 2) ls st h
    | .iinc k n => k_iinc k n (pc + 3) ls st h
    | .iadd => k_bin (fun x y => x + y) (pc + 1) ls st h
    | .isub => k_bin (fun x y => x - y) (pc + 1) ls st h
    | .imul => k_bin (fun x y => x * y) (pc + 1) ls st h
    | .iand => k_bin (fun x y => x &&& y) (pc + 1) ls st h
    | .ior => k_bin (fun x y => x ||| y) (pc + 1) ls st h
    | .ishl => k_bin (fun x y => x <<< (y &&& 31)) (pc + 1) ls st h
    | .ishr => k_bin (fun x y => x >>> (y &&& 31)) (pc + 1) ls st h
    | .iushr => k_bin (fun x y => (x.toUInt32 >>> (y.toUInt32 &&& Int32.toUInt32 31)).toInt32) (pc + 1) ls st h
    | .idiv => k_div (fun x y => x / y) (pc + 1) ls st h
    | .irem => k_div (fun x y => x - x / y * y) (pc + 1) ls st h
    | .if_icmp .eq _ => k_if2 (fun x y => decide (x = y)) a (pc + 3) ls st h
    | .if_icmp .ne _ => k_if2 (fun x y => decide (¬ x = y)) a (pc + 3) ls st h
    | .if_icmp .lt _ => k_if2 (fun x y => decide (x < y)) a (pc + 3) ls st h
    | .if_icmp .ge _ => k_if2 (fun x y => decide (y ≤ x)) a (pc + 3) ls st h
    | .if_icmp .gt _ => k_if2 (fun x y => decide (y < x)) a (pc + 3) ls st h
    | .if_icmp .le _ => k_if2 (fun x y => decide (x ≤ y)) a (pc + 3) ls st h
    | .ifCond .eq _ => k_if1 (fun x => decide (x = 0)) a (pc + 3) ls st h
    | .ifCond .ne _ => k_if1 (fun x => decide (¬ x = 0)) a (pc + 3) ls st h
    | .ifCond .lt _ => k_if1 (fun x => decide (x < 0)) a (pc + 3) ls st h
    | .ifCond .ge _ => k_if1 (fun x => decide (0 ≤ x)) a (pc + 3) ls st h
    | .ifCond .gt _ => k_if1 (fun x => decide (0 < x)) a (pc + 3) ls st h
    | .ifCond .le _ => k_if1 (fun x => decide (x ≤ 0)) a (pc + 3) ls st h
    | .ifnull _ => k_null (pc + 3) a ls st h
    | .ifnonnull _ => k_null a (pc + 3) ls st h
    | .goto _ => some (a, ls, st, h)
    | .dup => k_dup (pc + 1) ls st h
    | .pop => k_pop (pc + 1) ls st h
    | .dup2 => k_dup2 (pc + 1) ls st h
    | .tableswitch df lo hi offs => k_table pc df lo hi offs ls st h
    | .getfield _ => k_getf a b c (pc + 3) ls st h
    | .putfield _ => k_putf a b c d (pc + 3) ls st h
    | .iaload => k_iald (pc + 1) ls st h
    | .iastore => k_iast (pc + 1) ls st h
    | .baload => k_zald (pc + 1) ls st h
    | .bastore => k_zast (pc + 1) ls st h
    | .aaload => k_aald (pc + 1) ls st h
    | .aastore => k_aast (pc + 1) ls st h
    | .arraylength => k_alen (pc + 1) ls st h
    | .newarray .int => k_newa 0 (pc + 2) ls st h
    | .newarray .boolean => k_newa 1 (pc + 2) ls st h
    | .anewarray _ => k_newq a (pc + 3) ls st h
    | .new _ => k_new a (pc + 3) ls st h
    | .invokespecial _ => if f = 1 then k_oini (pc + 3) ls st h else none
    | .invokestatic _ => if f = 1 then k_copy (pc + 3) ls st h else if f = 2 then k_mm (fun x y => if x < y then y else x) (pc + 3) ls st h else if f = 3 then k_mm (fun x y => if y < x then y else x) (pc + 3) ls st h else none
    | _ => none
/-- a call: which method, its arguments, what stays on the stack -/
def acall (e : wE) (st : List Value) (h : aH) : Option (Nat × List Value × List Value) := match e with
  | (_, i, _, (a, b, c, d, f), _, _) => match i with
    | .invokevirtual _ => (match st.drop a with
      | .ref r :: s => (match h[r]? with
        | some (.inl (ci, _)) => if ci = b then some (c, .ref r :: (st.take a).reverse, s) else if ci = d then some (f, .ref r :: (st.take a).reverse, s) else none
        | _ => none)
      | _ => none)
    | .invokespecial _ => if f = 1 then none else (match st.drop a with
      | .ref r :: s => some (c, .ref r :: (st.take a).reverse, s)
      | _ => none)
    | .invokestatic _ => if f = 0 then some (c, (st.take a).reverse, st.drop a) else none
    | _ => none
/-- a return: what is answered -/
def aret (e : wE) (st : List Value) : Option (Option Value) := match e with
  | (_, i, _, (a, _, _, _, _), _, _) => match i with
    | .ireturn => (match st with
      | [.int v] => if a = 1 then (if v = 0 ∨ v = 1 then some (some (.int v)) else none) else some (some (.int v))
      | _ => none)
    | .areturn => (match st with
      | [.ref r] => some (some (.ref r))
      | [.null] => some (some .null)
      | _ => none)
    | .return_ => (match st with
      | [] => some none
      | _ => none)
    | _ => none
def alook (M pc : Nat) : Option wE := match prog[M]? with
  | some J => J.2.2.2.2.2.find? (fun e => e.1 == pc)
  | none => none
/-- the locals with which method M begins, if these may be its arguments -/
def aent (M : Nat) (args rest : List Value) : Option (List Value) := match prog[M]? with
  | some J => if args.length = J.2.2.2.2.1 ∧ args.all aOk = true ∧ rest.length ≤ 8 ∧ rest.all aOk = true then some (args ++ List.replicate (J.2.2.1 - args.length) aU) else none
  | none => none
def arun : Nat → Nat → Nat → Nat → List Value → List Value → aH → Option (Option Value × aH)
  | 0, _, _, _, _, _, _ => none
  | n + 1, d, M, pc, ls, st, h => match alook M pc with
    | none => none
    | some e => match aplain e ls st h with
      | some (pc', ls', st', h') => arun n d M pc' ls' st' h'
      | none => match acall e st h with
        | some (M', args, rest) => (match aent M' args rest with
          | none => none
          | some L => (match d with
            | 0 => none
            | d' + 1 => (match arun n d' M' 0 L [] h with
              | none => none
              | some (v, h1) => arun n (d' + 1) M (pc + 3) ls (v.toList ++ rest) h1)))
        | none => (match aret e st with
          | some v => some (v, h)
          | none => none)
theorem arun_mono : ∀ (n d M pc : Nat) (ls st : List Value) (h : aH) (r : Option Value × aH), arun n d M pc ls st h = some r → ∀ k, arun (n + k) d M pc ls st h = some r
  | 0, d, M, pc, ls, st, h, r, hr, k => by simp [arun] at hr
  | n + 1, d, M, pc, ls, st, h, r, hr, k => by
    rw [Nat.add_right_comm]
    simp only [arun] at hr ⊢
    cases he : alook M pc with
    | none => rw [he] at hr; cases hr
    | some e =>
      rw [he] at hr
      simp only at hr ⊢
      cases hp : aplain e ls st h with
      | some q =>
        rw [hp] at hr
        obtain ⟨pc', ls', st', h'⟩ := q
        simp only at hr ⊢
        exact arun_mono n d M pc' ls' st' h' r hr k
      | none =>
        rw [hp] at hr
        simp only at hr ⊢
        cases hc : acall e st h with
        | some q =>
          rw [hc] at hr
          obtain ⟨M', args, rest⟩ := q
          simp only at hr ⊢
          cases hL : aent M' args rest with
          | none => rw [hL] at hr; cases hr
          | some L =>
            rw [hL] at hr
            simp only at hr ⊢
            cases d with
            | zero => cases hr
            | succ d' =>
              simp only at hr ⊢
              cases hx : arun n d' M' 0 L [] h with
              | none => rw [hx] at hr; cases hr
              | some w =>
                obtain ⟨v, h1⟩ := w
                rw [hx] at hr
                rw [arun_mono n d' M' 0 L [] h (v, h1) hx k]
                simp only at hr ⊢
                exact arun_mono n (d' + 1) M (pc + 3) ls (v.toList ++ rest) h1 r hr k
        | none =>
          rw [hc] at hr
          simp only at hr ⊢
          exact hr
theorem arun_det {n m d M pc : Nat} {ls st : List Value} {h : aH} {r r' : Option Value × aH} (h1 : arun n d M pc ls st h = some r) (h2 : arun m d M pc ls st h = some r') : r = r' := by
  have a := arun_mono n d M pc ls st h r h1 m
  have b := arun_mono m d M pc ls st h r' h2 n
  rw [Nat.add_comm] at b
  exact Option.some.inj (a.symm.trans b)
noncomputable def go (d M pc : Nat) (ls st : List Value) (h : aH) : Option (Option Value × aH) :=
  @dite _ (∃ r n, arun n d M pc ls st h = some r) (Classical.propDecidable _) (fun hx => some (Classical.choose hx)) (fun _ => none)
theorem go_of {n d M pc : Nat} {ls st : List Value} {h : aH} {r : Option Value × aH} (hr : arun n d M pc ls st h = some r) : go d M pc ls st h = some r := by
  have hx : ∃ r n, arun n d M pc ls st h = some r := ⟨r, n, hr⟩
  unfold go
  rw [dif_pos hx]
  obtain ⟨m, hm⟩ := Classical.choose_spec hx
  rw [arun_det hr hm]
theorem go_run {d M pc : Nat} {ls st : List Value} {h : aH} {r : Option Value × aH} (hr : go d M pc ls st h = some r) : ∃ n, arun n d M pc ls st h = some r := by
  unfold go at hr
  by_cases hx : ∃ r n, arun n d M pc ls st h = some r
  · rw [dif_pos hx] at hr
    obtain ⟨m, hm⟩ := Classical.choose_spec hx
    cases hr
    exact ⟨m, hm⟩
  · rw [dif_neg hx] at hr
    cases hr
theorem go_ext {d M pc d' M' pc' : Nat} {ls st ls' st' : List Value} {h h' : aH} (k : ∀ r, (∃ n, arun n d M pc ls st h = some r) ↔ (∃ n, arun n d' M' pc' ls' st' h' = some r)) : go d M pc ls st h = go d' M' pc' ls' st' h' := by
  cases hx : go d' M' pc' ls' st' h' with
  | some r =>
    obtain ⟨n, hn⟩ := (k r).mpr (go_run hx)
    exact go_of hn
  | none =>
    cases hy : go d M pc ls st h with
    | none => rfl
    | some r =>
      obtain ⟨n, hn⟩ := (k r).mp (go_run hy)
      rw [go_of hn] at hx
      cases hx
/-- one plain instruction -/
theorem go_plain {d M pc : Nat} {ls st : List Value} {h : aH} {e : wE} {q : aK} (he : alook M pc = some e) (hp : aplain e ls st h = some q) : go d M pc ls st h = go d M q.1 q.2.1 q.2.2.1 q.2.2.2 := by
  obtain ⟨pc', ls', st', h'⟩ := q
  refine go_ext fun r => ⟨fun ⟨n, hn⟩ => ?_, fun ⟨n, hn⟩ => ⟨n + 1, ?_⟩⟩
  · cases n with
    | zero => simp [arun] at hn
    | succ n =>
      simp only [arun, he, hp] at hn
      exact ⟨n, hn⟩
  · simp only [arun, he, hp]
    exact hn
/-- a call -/
theorem go_call {d M pc : Nat} {ls st : List Value} {h : aH} {e : wE} {M' : Nat} {args rest L : List Value} (he : alook M pc = some e) (hp : aplain e ls st h = none) (hc : acall e st h = some (M', args, rest)) (hL : aent M' args rest = some L) :
    go (d + 1) M pc ls st h = (go d M' 0 L [] h).bind (fun q => go (d + 1) M (pc + 3) ls (q.1.toList ++ rest) q.2) := by
  cases hx : (go d M' 0 L [] h).bind (fun q => go (d + 1) M (pc + 3) ls (q.1.toList ++ rest) q.2) with
  | some r =>
    obtain ⟨q, h1, h2⟩ := Option.bind_eq_some_iff.mp hx
    obtain ⟨n, hn⟩ := go_run h1
    obtain ⟨m, hm⟩ := go_run h2
    refine go_of (n := n + m + 1) ?_
    obtain ⟨v, h1⟩ := q
    simp only [arun, he, hp, hc, hL, arun_mono n d M' 0 L [] h _ hn m]
    have := arun_mono m _ _ _ _ _ _ _ hm n
    rw [Nat.add_comm] at this
    exact this
  | none =>
    cases hy : go (d + 1) M pc ls st h with
    | none => rfl
    | some r =>
      obtain ⟨n, hn⟩ := go_run hy
      cases n with
      | zero => simp [arun] at hn
      | succ n =>
        simp only [arun, he, hp, hc, hL] at hn
        cases hz : arun n d M' 0 L [] h with
        | none => rw [hz] at hn; cases hn
        | some w =>
          obtain ⟨v, h1⟩ := w
          rw [hz] at hn
          simp only at hn
          rw [go_of hz, Option.bind_some] at hx
          rw [go_of hn] at hx
          cases hx
/-- a return -/
theorem go_ret {d M pc : Nat} {ls st : List Value} {h : aH} {e : wE} {v : Option Value} (he : alook M pc = some e) (hp : aplain e ls st h = none) (hc : acall e st h = none) (hr : aret e st = some v) : go d M pc ls st h = some (v, h) := go_of (n := 1) (by simp only [arun, he, hp, hc, hr])
end
section
/-! The small machine's cells in the real heap: number k lies at aA t B k; t k (k below 5) are the addresses of what was there before, B is the first new address. -/
def aA (t : Nat → Nat) (B k : Nat) : Nat := if k < 5 then t k else B + (k - 5)
def vr (t : Nat → Nat) (B : Nat) (v : Value) : Value := match v with
  | .ref k => .ref (aA t B k)
  | v => v
def aTy (z : Nat) : FieldType := if z = 1 then .boolean else .int
def aOn (t : Nat → Nat) (B : Nat) (os : List (Option Nat)) : Nat → Option Nat := fun j => (os.getD j none).map (aA t B)
def stNames : List String := ["ROW_STEPS", "COLUMN_STEPS", "LEAST_LETTERS", "MOST_LETTERS"]
def cOK (D : va_G) (t : Nat → Nat) (B : Nat) (U : State) (H : Heap) (k : Nat) (c : aC) : Prop := match c with
  | .inl (ci, fs) => 5 ≤ k ∧ ∃ r : vw_C, vwCl[ci]? = some r ∧ fs.length = r.2.2 ∧ t_OB (aA t B k) (D.1 ci) r.2.2 (D.2 ci) H (vp_V (fs.map (vr t B)))
  | .inr (.inl (z, xs)) => (z = 2 ∧ k < 5 ∧ va_T .int (aA t B k) xs.length (fun j => .int (xs.getD j 0)) (fun q => B ≤ q) U H) ∨
      (z ≠ 2 ∧ 5 ≤ k ∧ ∃ cA : ClassId, H[aA t B k]? = some (arrV cA xs.length (fun j => .int (xs.getD j 0))) ∧ ArrOfT U cA (aTy z))
  | .inr (.inr (e, os)) => 5 ≤ k ∧ ∃ (r : vw_C) (cA : ClassId), vwCl[e]? = some r ∧ H[aA t B k]? = some (arrV cA os.length (fun j => va_rf (aOn t B os j))) ∧ ArrOfT U cA (.object r.1) ∧ va_RA U cA (.object r.1)
def aSim (D : va_G) (t : Nat → Nat) (B : Nat) (h : aH) (U : State) (H : Heap) : Prop :=
  va_K D vwCl [] U ∧ (∀ (k : Nat) (c : aC), h[k]? = some c → cOK D t B U H k c) ∧ (H.size + 5 = B + h.length ∧ 5 ≤ h.length) ∧
  (∀ (i : Nat) (n : String), stNames[i]? = some n → va_Z "WordHides" n "[I" (.ref (t i)) (fun q => B ≤ q) U H) ∧ ∀ k, k < 5 → t k < B
def aL (t : Nat → Nat) (B : Nat) (arr : Array Slot) (ls : List Value) : Prop := arr.size = ls.length ∧ lv_wf arr ∧ ∀ (i : Nat) (v : Value), ls[i]? = some v → aOk v = true → arr[i]? = some (.val (vr t B v))
/-- how many fields and places a heap of cells has -/
def acs (c : aC) : Nat := match c with
  | .inl (_, fs) => fs.length
  | .inr (.inl (_, xs)) => xs.length
  | .inr (.inr (_, os)) => os.length
def asl (h : aH) : Nat := (h.map acs).sum
theorem aA_ge {t : Nat → Nat} {B k : Nat} (h : 5 ≤ k) : aA t B k = B + (k - 5) := by unfold aA; rw [if_neg (by omega)]
theorem aA_lt {t : Nat → Nat} {B k : Nat} (h : k < 5) : aA t B k = t k := by unfold aA; rw [if_pos h]
theorem aA_ne {t : Nat → Nat} {B k j : Nat} (ht : ∀ k, k < 5 → t k < B) (hk : 5 ≤ k) (hj : j ≠ k) : aA t B j ≠ aA t B k := by
  by_cases h : j < 5
  · rw [aA_lt h, aA_ge hk]
    have := ht j h
    omega
  · rw [aA_ge (by omega), aA_ge hk]
    omega
theorem vr_cat {t : Nat → Nat} {B : Nat} {v : Value} (h : aOk v = true) : (vr t B v).category = 1 := by
  cases v <;> first | rfl | (simp [aOk] at h)
theorem vr_int {t : Nat → Nat} {B : Nat} {x : Int32} : vr t B (.int x) = .int x := rfl
theorem vr_ref {t : Nat → Nat} {B k : Nat} : vr t B (.ref k) = .ref (aA t B k) := rfl
theorem vr_null {t : Nat → Nat} {B : Nat} : vr t B .null = .null := rfl
theorem vr_rf {t : Nat → Nat} {B : Nat} (o : Option Nat) : vr t B (va_rf o) = va_rf (o.map (aA t B)) := by cases o <;> rfl
theorem cats {t : Nat → Nat} {B : Nat} : ∀ {st : List Value}, st.all aOk = true → ((st.map (vr t B)).map fun v => v.category).sum = st.length
  | [], _ => rfl
  | v :: st, h => by
    simp only [List.all_cons, Bool.and_eq_true] at h
    simp only [List.map_cons, List.sum_cons, List.length_cons, vr_cat h.1, cats h.2]
    omega
theorem cOK.moved {D : va_G} {t : Nat → Nat} {B : Nat} {u U : State} {H : Heap} {k : Nat} {c : aC} (hvm : u.vm.Alike U.vm) (h : cOK D t B u H k c) : cOK D t B U H k c := by
  rcases c with ⟨ci, fs⟩ | ⟨z, xs⟩ | ⟨e, os⟩
  · exact h
  · rcases h with ⟨h1, h2, h3⟩ | ⟨h1, h2, cA, h3, h4⟩
    · exact Or.inl ⟨h1, h2, va_T.moved hvm h3⟩
    · exact Or.inr ⟨h1, h2, cA, h3, arrOfT_moved hvm h4⟩
  · obtain ⟨h1, r, cA, h2, h3, h4, h5⟩ := h
    exact ⟨h1, r, cA, h2, h3, arrOfT_moved hvm h4, h5.moved hvm⟩
theorem cOK.kept {D : va_G} {t : Nat → Nat} {B : Nat} {U : State} {H H1 : Heap} {k : Nat} {c : aC} (h : cOK D t B U H k c) (hq : H1[aA t B k]? = H[aA t B k]?) : cOK D t B U H1 k c := by
  rcases c with ⟨ci, fs⟩ | ⟨z, xs⟩ | ⟨e, os⟩
  · obtain ⟨h1, r, h2, h3, h4⟩ := h
    exact ⟨h1, r, h2, h3, h4.kept hq⟩
  · rcases h with ⟨h1, h2, cell, h3, h4⟩ | ⟨h1, h2, cA, h3, h4⟩
    · exact Or.inl ⟨h1, h2, cell, hq.trans h3, h4⟩
    · exact Or.inr ⟨h1, h2, cA, hq.trans h3, h4⟩
  · obtain ⟨h1, r, cA, h2, h3, h4, h5⟩ := h
    exact ⟨h1, r, cA, h2, hq.trans h3, h4, h5⟩
theorem cOK.lt {D : va_G} {t : Nat → Nat} {B : Nat} {U : State} {H : Heap} {k : Nat} {c : aC} (h : cOK D t B U H k c) : aA t B k < H.size := by
  rcases c with ⟨ci, fs⟩ | ⟨z, xs⟩ | ⟨e, os⟩
  · obtain ⟨h1, r, h2, h3, cell, h4, -⟩ := h
    exact (Array.getElem?_eq_some_iff.mp h4).1
  · rcases h with ⟨h1, h2, cell, h3, h4⟩ | ⟨h1, h2, cA, h3, h4⟩
    · exact (Array.getElem?_eq_some_iff.mp h3).1
    · exact (Array.getElem?_eq_some_iff.mp h3).1
  · obtain ⟨h1, r, cA, h2, h3, h4, h5⟩ := h
    exact (Array.getElem?_eq_some_iff.mp h3).1
theorem aSim.moved {D : va_G} {t : Nat → Nat} {B : Nat} {h : aH} {u U : State} {H : Heap} (hvm : u.vm.Alike U.vm) (S : aSim D t B h u H) : aSim D t B h U H :=
  ⟨va_K.moved hvm S.1, fun k c hk => (S.2.1 k c hk).moved hvm, S.2.2.1, fun i n hn => va_Z.moved hvm (S.2.2.2.1 i n hn), S.2.2.2.2⟩
/-- a cell gets other contents -/
theorem aSim.set {D : va_G} {t : Nat → Nat} {B : Nat} {h : aH} {U : State} {H H1 : Heap} {k : Nat} {c0 c : aC} (S : aSim D t B h U H) (hk : h[k]? = some c0) (h5 : 5 ≤ k) (z : H1.size = H.size) (oq : ∀ q : Nat, q ≠ aA t B k → H1[q]? = H[q]?) (hc : cOK D t B U H1 k c) : aSim D t B (h.set k c) U H1 := by
  obtain ⟨s1, s2, s3, s4, s5⟩ := S
  have hl := (List.getElem?_eq_some_iff.mp hk).1
  refine ⟨s1, fun j x hj => ?_, by rw [List.length_set, z]; exact s3, fun i n hn => ?_, s5⟩
  · by_cases hjk : j = k
    · subst hjk
      rw [List.getElem?_set_self hl] at hj
      cases hj
      exact hc
    · rw [List.getElem?_set_ne (Ne.symm hjk)] at hj
      exact (s2 j x hj).kept (oq _ (aA_ne s5 h5 hjk))
  · obtain ⟨cf, kf, fi, f, a, cell, e1, e2, e3, e4, e5, e6, e7, e8⟩ := s4 i n hn
    refine ⟨cf, kf, fi, f, a, cell, e1, e2, e3, e4, ?_, e6, e7, e8⟩
    rw [oq a (fun e => e8 (by show B ≤ a; rw [e, aA_ge h5]; omega))]
    exact e5
/-- a cell more -/
theorem aSim.push {D : va_G} {t : Nat → Nat} {B : Nat} {h : aH} {U : State} {H H1 : Heap} {c : aC} (S : aSim D t B h U H) (z : H1.size = H.size + 1) (oq : ∀ q : Nat, q < H.size → H1[q]? = H[q]?) (hc : cOK D t B U H1 h.length c) : aSim D t B (h ++ [c]) U H1 := by
  obtain ⟨s1, s2, s3, s4, s5⟩ := S
  refine ⟨s1, fun j x hj => ?_, by rw [List.length_append, z]; simp only [List.length_cons, List.length_nil]; omega, fun i n hn => ?_, s5⟩
  · by_cases hl : j < h.length
    · rw [List.getElem?_append_left hl] at hj
      exact (s2 j x hj).kept (oq _ (s2 j x hj).lt)
    · rw [List.getElem?_append_right (by omega)] at hj
      have hz : j - h.length < 1 := (List.getElem?_eq_some_iff.mp hj).1
      have hj0 : j = h.length := by omega
      subst hj0
      rw [Nat.sub_self] at hj
      cases hj
      exact hc
  · obtain ⟨cf, kf, fi, f, a, cell, e1, e2, e3, e4, e5, e6, e7, e8⟩ := s4 i n hn
    exact ⟨cf, kf, fi, f, a, cell, e1, e2, e3, e4, by rw [oq a (Array.getElem?_eq_some_iff.mp e5).1]; exact e5, e6, e7, e8⟩
theorem aSim.new {D : va_G} {t : Nat → Nat} {B : Nat} {h : aH} {U : State} {H : Heap} (S : aSim D t B h U H) : aA t B h.length = H.size := by
  obtain ⟨-, -, ⟨e, g⟩, -⟩ := S
  rw [aA_ge g]
  omega
/-! locals -/
def lkl (t : Nat → Nat) (B : Nat) (ls : List Value) : List (Nat × Value) := (List.range ls.length).filterMap fun i => match ls[i]? with
  | some v => if aOk v = true then some (i, vr t B v) else none
  | none => none
theorem lkl_mem {t : Nat → Nat} {B : Nat} {ls : List Value} {q : Nat × Value} : q ∈ lkl t B ls ↔ ∃ v, ls[q.1]? = some v ∧ aOk v = true ∧ q.2 = vr t B v := by
  unfold lkl
  rw [List.mem_filterMap]
  constructor
  · rintro ⟨i, -, hi⟩
    cases hv : ls[i]? with
    | none => rw [hv] at hi; cases hi
    | some v =>
      rw [hv] at hi
      by_cases ho : aOk v = true
      · simp only [ho, if_true] at hi
        cases hi
        exact ⟨v, hv, ho, rfl⟩
      · simp only [ho, if_false] at hi
        cases hi
  · rintro ⟨v, hv, ho, he⟩
    refine ⟨q.1, List.mem_range.mpr (List.getElem?_eq_some_iff.mp hv).1, ?_⟩
    rw [hv]
    simp only [ho, if_true]
    rw [← he]
theorem aL.has {t : Nat → Nat} {B : Nat} {arr : Array Slot} {ls : List Value} (h : aL t B arr ls) : lv_has arr ls.length (lkl t B ls) := by
  refine ⟨h.1, h.2.1, fun q hq => ?_⟩
  obtain ⟨v, hv, ho, he⟩ := lkl_mem.mp hq
  rw [he]
  exact h.2.2 _ v hv ho
theorem aL.put {t : Nat → Nat} {B : Nat} {arr' : Array Slot} {ls : List Value} {i : Nat} {v : Value} (hv : aOk v = true) (hi : i < ls.length)
    (h : lv_has arr' ls.length ((i, vr t B v) :: (lkl t B ls).filter (fun q => !(q.1 == i) && !(q.1 + 1 == i && q.2.category == 2)))) : aL t B arr' (ls.set i v) := by
  refine ⟨by rw [List.length_set]; exact h.1, h.2.1, fun j w hj ho => ?_⟩
  by_cases hji : j = i
  · subst hji
    rw [List.getElem?_set_self hi] at hj
    cases hj
    exact h.2.2 (j, vr t B v) List.mem_cons_self
  · rw [List.getElem?_set_ne (Ne.symm hji)] at hj
    refine h.2.2 (j, vr t B w) (List.mem_cons_of_mem _ (List.mem_filter.mpr ⟨lkl_mem.mpr ⟨w, hj, ho, rfl⟩, ?_⟩))
    simp [hji, vr_cat ho]
theorem aL.entry {t : Nat → Nat} {B : Nat} {args : List Value} {n : Nat} (ho : args.all aOk = true) : aL t B (((args.map (vr t B)).map Slot.val ++ List.replicate (n - args.length) Slot.unset).toArray) (args ++ List.replicate (n - args.length) aU) := by
  have hg : ∀ (i : Nat) (x : Slot), (((args.map (vr t B)).map Slot.val ++ List.replicate (n - args.length) Slot.unset).toArray)[i]? = some x → x = .unset ∨ ∃ v, x = .val v ∧ v.category = 1 := by
    intro i x hx
    rw [List.getElem?_toArray] at hx
    rcases List.mem_append.mp (List.mem_of_getElem? hx) with h | h
    · obtain ⟨w, hw, rfl⟩ := List.mem_map.mp h
      obtain ⟨v, hv, rfl⟩ := List.mem_map.mp hw
      exact Or.inr ⟨_, rfl, vr_cat (List.all_eq_true.mp ho v hv)⟩
    · exact Or.inl (List.eq_of_mem_replicate h)
  refine ⟨by simp, ⟨fun i v hx hc => ?_, fun i hx => ?_⟩, fun i v hi hv => ?_⟩
  · rcases hg i _ hx with h | ⟨w, h, h1⟩
    · cases h
    · cases h; omega
  · rcases hg i _ hx with h | ⟨w, h, -⟩ <;> cases h
  · rw [List.getElem?_toArray]
    by_cases hl : i < args.length
    · rw [List.getElem?_append_left hl] at hi
      rw [List.getElem?_append_left (by simp; exact hl)]
      simp [hi]
    · rw [List.getElem?_append_right (by omega)] at hi
      have := List.eq_of_mem_replicate (List.mem_of_getElem? hi)
      rw [this] at hv
      simp [aU, aOk] at hv
/-! the words that stay true while the tables are warmed, and the others that are used -/
def gtbl : List Jvm.Cond := lw_tbl.filter goodWord
def inT (w : Jvm.Cond) : Bool := decide (w ∈ lw_tbl) && goodWord w
theorem inT_mem {w : Jvm.Cond} (h : inT w = true) : w ∈ gtbl := by
  simp only [inT, Bool.and_eq_true, decide_eq_true_eq] at h
  exact List.mem_filter.mpr h
theorem gtbl_in {w : Jvm.Cond} (h : w ∈ gtbl) : w ∈ lw_tbl ∧ goodWord w = true := List.mem_filter.mp h
def xA : List String := ["WordHides$Text", "WordHides$Board"]
def xD : List MethodName := [⟨"WordHides$Search", "look", "()V"⟩, ⟨"WordHides$Search", "meetLaying", "()V"⟩, ⟨"WordHides$Search", "keepPlaces", "()V"⟩, ⟨"WordHides$Search", "hasHope", "()Z"⟩, ⟨"WordHides$Search", "firstPlace", "(I)I"⟩]
def xF : List (String × Nat × String) := [("WordHides$Lattice", 28, "ROW_STEPS"), ("WordHides$Lattice", 31, "COLUMN_STEPS"), ("WordHides$Board", 11, "MOST_LETTERS")]
def aNx (U : State) : Prop := (∀ C ∈ xA, va_AO C U) ∧ (∀ x ∈ xD, va_Nw (.declares x) U) ∧ ∀ q ∈ xF, va_Nw (.fieldLinkNest q.1 q.2.1 "WordHides" q.2.2 "[I" "WordHides") U
theorem aNx.warm {s U : State} (hW : s.WarmedH U.vm) (h : aNx s) : aNx U := ⟨fun C hC => (h.1 C hC).moved hW.alike, fun x hx => va_Nw.warmD hW (h.2.1 x hx), fun q hq => va_Nw.warmF hW (h.2.2 q hq)⟩
theorem aNx.same {s U : State} (hv : s.vm = U.vm) (h : aNx s) : aNx U := ⟨fun C hC => (h.1 C hC).moved (by rw [hv]; exact Vm.Alike.refl _), fun x hx => va_Nw.same rfl hv (h.2.1 x hx), fun q hq => va_Nw.same rfl hv (h.2.2 q hq)⟩
end
section
/-! One instruction of the small machine is one of the real machine: rows by kind. -/
def aKK (p : Program) (l : Launch) (e : Env) (R : Room) (s : State) (m : MethodId) (args : Array Value) (below : List Frame) (meth : Method) (c : Code) (Q : State → Prop) (D : va_G) (t : Nat → Nat) (B cells slots : Nat) (h : aH) (k : aK) : Prop :=
  ∀ (H' : Heap) (locs' : List Loc) (arr' : Array Slot), aSim D t B k.2.2.2 s H' → aL t B arr' k.2.1 → k.2.1.length = c.maxLocals → (∀ q ∈ locs', B ≤ q.base) → W p l e R s m args below meth c H' locs' (cells + (k.2.2.2.length - h.length)) (slots + (asl k.2.2.2 - asl h)) Q (F0 m k.1 arr' (k.2.2.1.map (vr t B)))
theorem asl_app (h : aH) (c : aC) : asl (h ++ [c]) = asl h + acs c := by simp [asl]
theorem asl_set : ∀ {h : aH} {a : Nat} {c c' : aC}, h[a]? = some c → acs c' = acs c → asl (h.set a c') = asl h
  | [], a, c, c', hk, hc => by simp at hk
  | x :: h, 0, c, c', hk, hc => by
    rw [List.getElem?_cons_zero] at hk
    cases hk
    simp [asl, hc]
  | x :: h, a + 1, c, c', hk, hc => by
    rw [List.getElem?_cons_succ] at hk
    have := asl_set (h := h) hk hc
    simp only [asl, List.set_cons_succ, List.map_cons, List.sum_cons] at this ⊢
    omega
section SP
variable {p : Program} {l : Launch} {e : Env} {R : Room} {s : State} {m : MethodId} {args : Array Value} {below : List Frame} {meth : Method} {c : Code} {H : Heap} {locs : List Loc} {cells slots : Nat} {Q : State → Prop}
variable {D : va_G} {t : Nat → Nat} {B : Nat} {h : aH} {arr : Array Slot} {ls st : List Value} {pc q : Nat} {cc : ByteArray} {k : aK}
theorem aKK.use (kk : aKK p l e R s m args below meth c Q D t B cells slots h k) {i j : Nat} (hi : k.2.2.2.length = h.length + i) (hj : asl k.2.2.2 = asl h + j) {H' : Heap} {locs' : List Loc} {arr' : Array Slot} (S : aSim D t B k.2.2.2 s H') (hl : aL t B arr' k.2.1) (hn : k.2.1.length = c.maxLocals) (hloc : ∀ q ∈ locs', B ≤ q.base) :
    W p l e R s m args below meth c H' locs' (cells + i) (slots + j) Q (F0 m k.1 arr' (k.2.2.1.map (vr t B))) := by
  have := kk H' locs' arr' S hl hn hloc
  rwa [hi, hj, Nat.add_sub_cancel_left, Nat.add_sub_cancel_left] at this
theorem loc_app {a i : Nat} (hloc : ∀ q ∈ locs, B ≤ q.base) (ha : B ≤ a) : ∀ q ∈ locs ++ [(⟨a, i⟩ : Loc)], B ≤ q.base := by
  intro q hq
  rcases List.mem_append.mp hq with h | h
  · exact hloc q h
  · rw [List.mem_singleton.mp h]; exact ha
theorem sp_push {v : Value} (S : aSim D t B h s H) (hl : aL t B arr ls) (hn : ls.length = c.maxLocals) (hloc : ∀ q ∈ locs, B ≤ q.base) (hp : k_push v q ls st h = some k) (kk : aKK p l e R s m args below meth c Q D t B cells slots h k)
    (row : ∀ rest, W p l e R s m args below meth c H locs cells slots Q (F0 m q arr (vr t B v :: rest)) → W p l e R s m args below meth c H locs cells slots Q (F0 m pc arr rest)) : W p l e R s m args below meth c H locs cells slots Q (F0 m pc arr (st.map (vr t B))) := by
  cases hp
  exact row _ (kk.use (i := 0) (j := 0) rfl rfl S hl hn hloc)
theorem sp_iload {i : Nat} (S : aSim D t B h s H) (hl : aL t B arr ls) (hn : ls.length = c.maxLocals) (hloc : ∀ q ∈ locs, B ≤ q.base) (hp : k_iload i q ls st h = some k) (kk : aKK p l e R s m args below meth c Q D t B cells slots h k)
    (row : ∀ x rest, arr[i]? = some (.val (.int x)) → W p l e R s m args below meth c H locs cells slots Q (F0 m q arr (.int x :: rest)) → W p l e R s m args below meth c H locs cells slots Q (F0 m pc arr rest)) : W p l e R s m args below meth c H locs cells slots Q (F0 m pc arr (st.map (vr t B))) := by
  unfold k_iload at hp
  split at hp
  · rename_i x hx
    cases hp
    exact row x _ (hl.2.2 i _ hx rfl) (kk.use (i := 0) (j := 0) rfl rfl S hl hn hloc)
  · cases hp
theorem sp_aload {i : Nat} (S : aSim D t B h s H) (hl : aL t B arr ls) (hn : ls.length = c.maxLocals) (hloc : ∀ q ∈ locs, B ≤ q.base) (hp : k_aload i q ls st h = some k) (kk : aKK p l e R s m args below meth c Q D t B cells slots h k)
    (row : ∀ x rest, arr[i]? = some (.val (.ref x)) → W p l e R s m args below meth c H locs cells slots Q (F0 m q arr (.ref x :: rest)) → W p l e R s m args below meth c H locs cells slots Q (F0 m pc arr rest))
    (rowN : ∀ rest, arr[i]? = some (.val .null) → W p l e R s m args below meth c H locs cells slots Q (F0 m q arr (.null :: rest)) → W p l e R s m args below meth c H locs cells slots Q (F0 m pc arr rest)) : W p l e R s m args below meth c H locs cells slots Q (F0 m pc arr (st.map (vr t B))) := by
  unfold k_aload at hp
  split at hp
  · rename_i x hx
    cases hp
    exact row _ _ (hl.2.2 i _ hx rfl) (kk.use (i := 0) (j := 0) rfl rfl S hl hn hloc)
  · rename_i hx
    cases hp
    exact rowN _ (hl.2.2 i _ hx rfl) (kk.use (i := 0) (j := 0) rfl rfl S hl hn hloc)
  · cases hp
theorem sp_istore {i : Nat} (S : aSim D t B h s H) (hl : aL t B arr ls) (hn : ls.length = c.maxLocals) (hloc : ∀ q ∈ locs, B ≤ q.base) (hp : k_istore i q ls st h = some k) (kk : aKK p l e R s m args below meth c Q D t B cells slots h k)
    (row : ∀ x rest, i < ls.length → (∀ arr', lv_has arr' ls.length ((i, .int x) :: (lkl t B ls).filter (fun q => !(q.1 == i) && !(q.1 + 1 == i && q.2.category == 2))) → W p l e R s m args below meth c H locs cells slots Q (F0 m q arr' rest)) → W p l e R s m args below meth c H locs cells slots Q (F0 m pc arr (.int x :: rest))) : W p l e R s m args below meth c H locs cells slots Q (F0 m pc arr (st.map (vr t B))) := by
  unfold k_istore at hp
  split at hp
  · split at hp
    · rename_i x r hi
      cases hp
      exact row x _ hi fun arr' ha => kk.use (i := 0) (j := 0) rfl rfl S (aL.put (v := .int x) rfl hi ha) (by simpa using hn) hloc
    · cases hp
  · cases hp
theorem sp_astore {i : Nat} (S : aSim D t B h s H) (hl : aL t B arr ls) (hn : ls.length = c.maxLocals) (hloc : ∀ q ∈ locs, B ≤ q.base) (hp : k_astore i q ls st h = some k) (kk : aKK p l e R s m args below meth c Q D t B cells slots h k)
    (row : ∀ x rest, i < ls.length → (∀ arr', lv_has arr' ls.length ((i, .ref x) :: (lkl t B ls).filter (fun q => !(q.1 == i) && !(q.1 + 1 == i && q.2.category == 2))) → W p l e R s m args below meth c H locs cells slots Q (F0 m q arr' rest)) → W p l e R s m args below meth c H locs cells slots Q (F0 m pc arr (.ref x :: rest)))
    (rowN : ∀ rest, i < ls.length → (∀ arr', lv_has arr' ls.length ((i, .null) :: (lkl t B ls).filter (fun q => !(q.1 == i) && !(q.1 + 1 == i && q.2.category == 2))) → W p l e R s m args below meth c H locs cells slots Q (F0 m q arr' rest)) → W p l e R s m args below meth c H locs cells slots Q (F0 m pc arr (.null :: rest))) : W p l e R s m args below meth c H locs cells slots Q (F0 m pc arr (st.map (vr t B))) := by
  unfold k_astore at hp
  split at hp
  · split at hp
    · rename_i x r hi
      cases hp
      exact row _ _ hi fun arr' ha => kk.use (i := 0) (j := 0) rfl rfl S (aL.put (v := .ref x) rfl hi ha) (by simpa using hn) hloc
    · cases hp
  · split at hp
    · rename_i r hi
      cases hp
      exact rowN _ hi fun arr' ha => kk.use (i := 0) (j := 0) rfl rfl S (aL.put (v := .null) rfl hi ha) (by simpa using hn) hloc
    · cases hp
  · cases hp
theorem sp_iinc {i : Nat} {n : Int} (S : aSim D t B h s H) (hl : aL t B arr ls) (hn : ls.length = c.maxLocals) (hloc : ∀ q ∈ locs, B ≤ q.base) (hp : k_iinc i n q ls st h = some k) (kk : aKK p l e R s m args below meth c Q D t B cells slots h k)
    (row : ∀ (x : Int32) (j : Nat) rest, i < ls.length → (lkl t B ls)[j]? = some (i, .int x) → (∀ arr', lv_has arr' ls.length ((i, .int (x + Int32.ofInt n)) :: (lkl t B ls).filter (fun q => !(q.1 == i) && !(q.1 + 1 == i && q.2.category == 2))) → W p l e R s m args below meth c H locs cells slots Q (F0 m q arr' rest)) → W p l e R s m args below meth c H locs cells slots Q (F0 m pc arr rest)) : W p l e R s m args below meth c H locs cells slots Q (F0 m pc arr (st.map (vr t B))) := by
  unfold k_iinc at hp
  split at hp
  · rename_i x hx
    cases hp
    have hi := (List.getElem?_eq_some_iff.mp hx).1
    obtain ⟨j, hj⟩ := List.getElem?_of_mem (lkl_mem (t := t) (B := B) (q := (i, .int x)).mpr ⟨_, hx, rfl, rfl⟩)
    exact row x j _ hi hj fun arr' ha => kk.use (i := 0) (j := 0) rfl rfl S (aL.put (v := .int (x + Int32.ofInt n)) rfl hi ha) (by simpa using hn) hloc
  · cases hp
theorem sp_bin {f : Int32 → Int32 → Int32} (S : aSim D t B h s H) (hl : aL t B arr ls) (hn : ls.length = c.maxLocals) (hloc : ∀ q ∈ locs, B ≤ q.base) (hp : k_bin f q ls st h = some k) (kk : aKK p l e R s m args below meth c Q D t B cells slots h k)
    (row : ∀ x y rest, W p l e R s m args below meth c H locs cells slots Q (F0 m q arr (.int (f x y) :: rest)) → W p l e R s m args below meth c H locs cells slots Q (F0 m pc arr (.int y :: .int x :: rest))) : W p l e R s m args below meth c H locs cells slots Q (F0 m pc arr (st.map (vr t B))) := by
  unfold k_bin at hp
  split at hp
  · cases hp
    exact row _ _ _ (kk.use (i := 0) (j := 0) rfl rfl S hl hn hloc)
  · cases hp
theorem sp_div {f : Int32 → Int32 → Int32} (S : aSim D t B h s H) (hl : aL t B arr ls) (hn : ls.length = c.maxLocals) (hloc : ∀ q ∈ locs, B ≤ q.base) (hp : k_div f q ls st h = some k) (kk : aKK p l e R s m args below meth c Q D t B cells slots h k)
    (row : ∀ x y rest, ¬ y = 0 → W p l e R s m args below meth c H locs cells slots Q (F0 m q arr (.int (f x y) :: rest)) → W p l e R s m args below meth c H locs cells slots Q (F0 m pc arr (.int y :: .int x :: rest))) : W p l e R s m args below meth c H locs cells slots Q (F0 m pc arr (st.map (vr t B))) := by
  unfold k_div at hp
  split at hp
  · split at hp
    · cases hp
    · rename_i hy
      cases hp
      exact row _ _ _ hy (kk.use (i := 0) (j := 0) rfl rfl S hl hn hloc)
  · cases hp
theorem sp_if1 {f : Int32 → Bool} {tg : Nat} (S : aSim D t B h s H) (hl : aL t B arr ls) (hn : ls.length = c.maxLocals) (hloc : ∀ q ∈ locs, B ≤ q.base) (hp : k_if1 f tg q ls st h = some k) (kk : aKK p l e R s m args below meth c Q D t B cells slots h k)
    (row : ∀ x rest, (f x = true → W p l e R s m args below meth c H locs cells slots Q (F0 m tg arr rest)) → (¬ f x = true → W p l e R s m args below meth c H locs cells slots Q (F0 m q arr rest)) → W p l e R s m args below meth c H locs cells slots Q (F0 m pc arr (.int x :: rest))) : W p l e R s m args below meth c H locs cells slots Q (F0 m pc arr (st.map (vr t B))) := by
  unfold k_if1 at hp
  split at hp
  · cases hp
    have kw := kk.use (i := 0) (j := 0) rfl rfl S hl hn hloc
    refine row _ _ (fun hf => ?_) (fun hf => ?_)
    · simp only [if_pos hf] at kw
      exact kw
    · simp only [if_neg hf] at kw
      exact kw
  · cases hp
theorem sp_if2 {f : Int32 → Int32 → Bool} {tg : Nat} (S : aSim D t B h s H) (hl : aL t B arr ls) (hn : ls.length = c.maxLocals) (hloc : ∀ q ∈ locs, B ≤ q.base) (hp : k_if2 f tg q ls st h = some k) (kk : aKK p l e R s m args below meth c Q D t B cells slots h k)
    (row : ∀ x y rest, (f x y = true → W p l e R s m args below meth c H locs cells slots Q (F0 m tg arr rest)) → (¬ f x y = true → W p l e R s m args below meth c H locs cells slots Q (F0 m q arr rest)) → W p l e R s m args below meth c H locs cells slots Q (F0 m pc arr (.int y :: .int x :: rest))) : W p l e R s m args below meth c H locs cells slots Q (F0 m pc arr (st.map (vr t B))) := by
  unfold k_if2 at hp
  split at hp
  · cases hp
    have kw := kk.use (i := 0) (j := 0) rfl rfl S hl hn hloc
    refine row _ _ _ (fun hf => ?_) (fun hf => ?_)
    · simp only [if_pos hf] at kw
      exact kw
    · simp only [if_neg hf] at kw
      exact kw
  · cases hp
theorem sp_null {tr tn : Nat} (S : aSim D t B h s H) (hl : aL t B arr ls) (hn : ls.length = c.maxLocals) (hloc : ∀ q ∈ locs, B ≤ q.base) (hp : k_null tr tn ls st h = some k) (kk : aKK p l e R s m args below meth c Q D t B cells slots h k)
    (row : ∀ x rest, W p l e R s m args below meth c H locs cells slots Q (F0 m tr arr rest) → W p l e R s m args below meth c H locs cells slots Q (F0 m pc arr (.ref x :: rest)))
    (rowN : ∀ rest, W p l e R s m args below meth c H locs cells slots Q (F0 m tn arr rest) → W p l e R s m args below meth c H locs cells slots Q (F0 m pc arr (.null :: rest))) : W p l e R s m args below meth c H locs cells slots Q (F0 m pc arr (st.map (vr t B))) := by
  unfold k_null at hp
  split at hp
  · cases hp
    exact row _ _ (kk.use (i := 0) (j := 0) rfl rfl S hl hn hloc)
  · cases hp
    exact rowN _ (kk.use (i := 0) (j := 0) rfl rfl S hl hn hloc)
  · cases hp
theorem sp_dup (S : aSim D t B h s H) (hl : aL t B arr ls) (hn : ls.length = c.maxLocals) (hloc : ∀ q ∈ locs, B ≤ q.base) (hp : k_dup q ls st h = some k) (kk : aKK p l e R s m args below meth c Q D t B cells slots h k)
    (row : ∀ (v : Value) rest, v.category = 1 → W p l e R s m args below meth c H locs cells slots Q (F0 m q arr (v :: v :: rest)) → W p l e R s m args below meth c H locs cells slots Q (F0 m pc arr (v :: rest))) : W p l e R s m args below meth c H locs cells slots Q (F0 m pc arr (st.map (vr t B))) := by
  unfold k_dup at hp
  split at hp
  · split at hp
    · rename_i ho
      cases hp
      exact row _ _ (vr_cat ho) (kk.use (i := 0) (j := 0) rfl rfl S hl hn hloc)
    · cases hp
  · cases hp
theorem sp_pop (S : aSim D t B h s H) (hl : aL t B arr ls) (hn : ls.length = c.maxLocals) (hloc : ∀ q ∈ locs, B ≤ q.base) (hp : k_pop q ls st h = some k) (kk : aKK p l e R s m args below meth c Q D t B cells slots h k)
    (row : ∀ (v : Value) rest, v.category = 1 → W p l e R s m args below meth c H locs cells slots Q (F0 m q arr rest) → W p l e R s m args below meth c H locs cells slots Q (F0 m pc arr (v :: rest))) : W p l e R s m args below meth c H locs cells slots Q (F0 m pc arr (st.map (vr t B))) := by
  unfold k_pop at hp
  split at hp
  · split at hp
    · rename_i ho
      cases hp
      exact row _ _ (vr_cat ho) (kk.use (i := 0) (j := 0) rfl rfl S hl hn hloc)
    · cases hp
  · cases hp
theorem sp_dup2 (S : aSim D t B h s H) (hl : aL t B arr ls) (hn : ls.length = c.maxLocals) (hloc : ∀ q ∈ locs, B ≤ q.base) (hp : k_dup2 q ls st h = some k) (kk : aKK p l e R s m args below meth c Q D t B cells slots h k)
    (row : ∀ (v w : Value) rest, v.category = 1 → w.category = 1 → W p l e R s m args below meth c H locs cells slots Q (F0 m q arr (v :: w :: v :: w :: rest)) → W p l e R s m args below meth c H locs cells slots Q (F0 m pc arr (v :: w :: rest))) : W p l e R s m args below meth c H locs cells slots Q (F0 m pc arr (st.map (vr t B))) := by
  unfold k_dup2 at hp
  split at hp
  · split at hp
    · rename_i ho
      cases hp
      exact row _ _ _ (vr_cat ho.1) (vr_cat ho.2) (kk.use (i := 0) (j := 0) rfl rfl S hl hn hloc)
    · cases hp
  · cases hp
theorem sp_table {df lo hi : Int} {offs : Array Int} {len : Nat} (hx : p.tables.exec = Jvm.exec) (hb : c.code = cc) (hd : decode cc pc = .ok (.tableswitch df lo hi offs, len)) (S : aSim D t B h s H) (hl : aL t B arr ls) (hn : ls.length = c.maxLocals) (hloc : ∀ q ∈ locs, B ≤ q.base) (hp : k_table pc df lo hi offs ls st h = some k) (kk : aKK p l e R s m args below meth c Q D t B cells slots h k) : W p l e R s m args below meth c H locs cells slots Q (F0 m pc arr (st.map (vr t B))) := by
  unfold k_table at hp
  split at hp
  · split at hp
    · rename_i ho
      split at hp
      · rename_i hz
        cases hp
        exact lv_tableOut hx hb hd ho (Int.toNat_of_nonneg hz).symm (kk.use (i := 0) (j := 0) rfl rfl S hl hn hloc)
      · cases hp
    · rename_i ho
      split at hp
      · rename_i off hoff
        split at hp
        · rename_i hz
          cases hp
          exact lv_tableIn hx hb hd (fun g => ho (Or.inl g)) (fun g => ho (Or.inr g)) hoff (Int.toNat_of_nonneg hz).symm (kk.use (i := 0) (j := 0) rfl rfl S hl hn hloc)
        · cases hp
      · cases hp
  · cases hp
end SP
end
section
/-! what the tables must hold of an entry, to be looked at by a program -/
def gF (own : String) (idx j ci : Nat) (rf : String) : Bool := match vwCl[ci]? with
  | some r => decide (j < r.2.2) && (inT (Jvm.Cond.fieldLink own idx rf (r.2.1 j).2.1 (r.2.1 j).2.2.1) && (decide (rf = (r.2.1 j).1) || inT (Jvm.Cond.sameField rf (r.2.1 j).1 (r.2.1 j).2.1 (r.2.1 j).2.2.1)))
  | none => false
def gK (kd : Nat) (ty : FieldType) : Bool := match ty with
  | .int => kd == 0
  | .boolean => kd == 1
  | .object _ => kd == 2
  | .array _ => kd == 2
  | _ => false
def tyOf (T : u_T) (k : Nat) : FieldType := (parseFieldDescriptor (T k).2.2.1).getD .int
def gP (own nm : String) (j ci kd : Nat) : Bool := match vwCl[ci]? with
  | some r => gK kd (tyOf r.2.1 j) && (!(r.2.1 j).2.2.2 || (decide (nm = "<init>") && decide ((r.2.1 j).1 = own)))
  | none => false
/-- what is true of each class of the tables -/
def gCl (ci : Nat) (r : vw_C) : Bool := (List.range r.2.2).all (fun k => decide (parseFieldDescriptor (r.2.1 k).2.2.1 = some (tyOf r.2.1 k)) && inT (u_lay r.1 r.2.1 k) && decide (vp_V (dfl ci) k = defaultValue (tyOf r.2.1 k)) && (List.range r.2.2).all (fun j => decide (k = j) || decide ((r.2.1 k).2.1 ≠ (r.2.1 j).2.1)))
  && decide ((dfl ci).length = r.2.2) && inT (Jvm.Cond.instantiable r.1 r.2.2) && inT (Jvm.Cond.initialized r.1) && (dfl ci).all (fun v => decide (v = .int 0) || decide (v = .null))
theorem gCl_all : ∀ (ci : Nat) (r : vw_C), vwCl[ci]? = some r → gCl ci r = true := by
  intro ci r h
  match ci, h with
  | 0, h => cases h; decide +kernel
  | 1, h => cases h; decide +kernel
  | 2, h => cases h; decide +kernel
  | 3, h => cases h; decide +kernel
  | 4, h => cases h; decide +kernel
  | 5, h => cases h; decide +kernel
  | 6, h => cases h; decide +kernel
  | 7, h => cases h; decide +kernel
  | 8, h => cases h; decide +kernel
  | ci + 9, h => simp [vwCl] at h
theorem gCl_at {ci : Nat} {r : vw_C} (h : vwCl[ci]? = some r) : (∀ k, k < r.2.2 → parseFieldDescriptor (r.2.1 k).2.2.1 = some (tyOf r.2.1 k)) ∧ (∀ w ∈ u_ws r.1 r.2.1 r.2.2, w ∈ gtbl) ∧ (∀ k, k < r.2.2 → vp_V (dfl ci) k = defaultValue (tyOf r.2.1 k)) ∧ (∀ a, a < r.2.2 → ∀ b, b < r.2.2 → a ≠ b → (r.2.1 a).2.1 ≠ (r.2.1 b).2.1) ∧ (dfl ci).length = r.2.2 ∧ Jvm.Cond.instantiable r.1 r.2.2 ∈ gtbl ∧ Jvm.Cond.initialized r.1 ∈ gtbl ∧ ∀ v ∈ dfl ci, v = .int 0 ∨ v = .null := by
  have g := gCl_all ci r h
  simp only [gCl, Bool.and_eq_true, List.all_eq_true, List.mem_range, decide_eq_true_eq, Bool.or_eq_true] at g
  obtain ⟨⟨⟨⟨g1, g2⟩, g3⟩, g4⟩, g5⟩ := g
  refine ⟨fun k hk => (g1 k hk).1.1.1, fun w hw => ?_, fun k hk => (g1 k hk).1.2, fun a ha b hb hab => ?_, g2, inT_mem g3, inT_mem g4, g5⟩
  · obtain ⟨k, hk, rfl⟩ := List.mem_map.mp hw
    exact inT_mem (g1 k (List.mem_range.mp hk)).1.1.2
  · rcases (g1 a ha).2 b hb with z | z
    · exact absurd z hab
    · exact z
theorem fit_ok {t : Nat → Nat} {B kd : Nat} {ty : FieldType} {v : Value} (hg : gK kd ty = true) (hf : fitK kd v = true) : narrow ty (vr t B v) = vr t B v ∧ fits ty (vr t B v) = true := by
  cases ty <;> simp [gK] at hg <;> subst hg <;> cases v <;> simp [fitK] at hf <;> first
    | exact ⟨rfl, rfl⟩
    | (rcases hf with rfl | rfl
       · exact ⟨show narrow .boolean (.int 0) = .int 0 by decide, show fits .boolean (.int 0) = true by decide⟩
       · exact ⟨show narrow .boolean (.int 1) = .int 1 by decide, show fits .boolean (.int 1) = true by decide⟩)
theorem arr_st {xs : List Int32} {i : Nat} {x : Int32} (hi : i < xs.length) : updV (fun j => .int (xs.getD j 0)) i (.int x) = fun j => .int ((xs.set i x).getD j 0) := by
  funext j
  simp only [updV, List.getD_eq_getElem?_getD]
  by_cases hj : j = i
  · subst hj
    simp [hi]
  · simp [hj, List.getElem?_set_ne (Ne.symm hj)]
section INV
variable {h : aH} {ls st : List Value} {q : Nat} {k : aK}
theorem k_getf_inv {j c0 c1 : Nat} (hp : k_getf j c0 c1 q ls st h = some k) : ∃ a r ci fs v, st = .ref a :: r ∧ h[a]? = some (.inl (ci, fs)) ∧ (ci = c0 ∨ ci = c1) ∧ fs[j]? = some v ∧ k = (q, ls, v :: r, h) := by
  unfold k_getf at hp
  repeat' split at hp
  all_goals first | (cases hp; done) | exact ⟨_, _, _, _, _, rfl, by assumption, by assumption, by assumption, (Option.some.inj hp).symm⟩
theorem k_putf_inv {j c0 c1 kd : Nat} (hp : k_putf j c0 c1 kd q ls st h = some k) : ∃ v a r ci fs, st = v :: .ref a :: r ∧ h[a]? = some (.inl (ci, fs)) ∧ ((ci = c0 ∨ ci = c1) ∧ j < fs.length ∧ fitK kd v = true) ∧ k = (q, ls, r, h.set a (.inl (ci, fs.set j v))) := by
  unfold k_putf at hp
  repeat' split at hp
  all_goals first | (cases hp; done) | exact ⟨_, _, _, _, _, rfl, by assumption, by assumption, (Option.some.inj hp).symm⟩
theorem k_iald_inv (hp : k_iald q ls st h = some k) : ∃ i a r z xs x, st = .int i :: .ref a :: r ∧ h[a]? = some (.inr (.inl (z, xs))) ∧ ((z = 0 ∨ z = 2) ∧ ¬ i < 0) ∧ xs[i.toNatClampNeg]? = some x ∧ k = (q, ls, .int x :: r, h) := by
  unfold k_iald at hp
  repeat' split at hp
  all_goals first | (cases hp; done) | exact ⟨_, _, _, _, _, _, rfl, by assumption, by assumption, by assumption, (Option.some.inj hp).symm⟩
theorem k_zald_inv (hp : k_zald q ls st h = some k) : ∃ i a r z xs x, st = .int i :: .ref a :: r ∧ h[a]? = some (.inr (.inl (z, xs))) ∧ (z = 1 ∧ ¬ i < 0) ∧ xs[i.toNatClampNeg]? = some x ∧ k = (q, ls, .int x :: r, h) := by
  unfold k_zald at hp
  repeat' split at hp
  all_goals first | (cases hp; done) | exact ⟨_, _, _, _, _, _, rfl, by assumption, by assumption, by assumption, (Option.some.inj hp).symm⟩
theorem k_iast_inv (hp : k_iast q ls st h = some k) : ∃ x i a r z xs, st = .int x :: .int i :: .ref a :: r ∧ h[a]? = some (.inr (.inl (z, xs))) ∧ (z = 0 ∧ ¬ i < 0 ∧ i.toNatClampNeg < xs.length) ∧ k = (q, ls, r, h.set a (.inr (.inl (0, xs.set i.toNatClampNeg x)))) := by
  unfold k_iast at hp
  repeat' split at hp
  all_goals first | (cases hp; done) | exact ⟨_, _, _, _, _, _, rfl, by assumption, by assumption, (Option.some.inj hp).symm⟩
theorem k_zast_inv (hp : k_zast q ls st h = some k) : ∃ x i a r z xs, st = .int x :: .int i :: .ref a :: r ∧ h[a]? = some (.inr (.inl (z, xs))) ∧ (z = 1 ∧ (x = 0 ∨ x = 1) ∧ ¬ i < 0 ∧ i.toNatClampNeg < xs.length) ∧ k = (q, ls, r, h.set a (.inr (.inl (1, xs.set i.toNatClampNeg x)))) := by
  unfold k_zast at hp
  repeat' split at hp
  all_goals first | (cases hp; done) | exact ⟨_, _, _, _, _, _, rfl, by assumption, by assumption, (Option.some.inj hp).symm⟩
theorem k_aald_inv (hp : k_aald q ls st h = some k) : ∃ i a r z os o, st = .int i :: .ref a :: r ∧ h[a]? = some (.inr (.inr (z, os))) ∧ ¬ i < 0 ∧ os[i.toNatClampNeg]? = some o ∧ k = (q, ls, va_rf o :: r, h) := by
  unfold k_aald at hp
  repeat' split at hp
  all_goals first | (cases hp; done) | exact ⟨_, _, _, _, _, _, rfl, by assumption, by assumption, by assumption, (Option.some.inj hp).symm⟩
theorem k_aast_inv (hp : k_aast q ls st h = some k) : ∃ v i a r e os ci fs, st = .ref v :: .int i :: .ref a :: r ∧ h[a]? = some (.inr (.inr (e, os))) ∧ h[v]? = some (.inl (ci, fs)) ∧ (ci = e ∧ ¬ i < 0 ∧ i.toNatClampNeg < os.length) ∧ k = (q, ls, r, h.set a (.inr (.inr (e, os.set i.toNatClampNeg (some v))))) := by
  unfold k_aast at hp
  repeat' split at hp
  all_goals first | (cases hp; done) | exact ⟨_, _, _, _, _, _, _, _, rfl, by assumption, by assumption, by assumption, (Option.some.inj hp).symm⟩
theorem k_alen_inv (hp : k_alen q ls st h = some k) : ∃ a r z xs, st = .ref a :: r ∧ h[a]? = some (.inr (.inl (z, xs))) ∧ k = (q, ls, .int (Int32.ofNat xs.length) :: r, h) := by
  unfold k_alen at hp
  repeat' split at hp
  all_goals first | (cases hp; done) | exact ⟨_, _, _, _, rfl, by assumption, (Option.some.inj hp).symm⟩
end INV
section HP
variable {p : Program} {l : Launch} {e : Env} {R : Room} {s : State} {m : MethodId} {args : Array Value} {below : List Frame} {meth : Method} {c : Code} {H : Heap} {locs : List Loc} {cells slots : Nat} {Q : State → Prop}
variable {D : va_G} {t : Nat → Nat} {B : Nat} {h : aH} {arr : Array Slot} {ls st : List Value} {pc q : Nat} {cc : ByteArray} {k : aK} {own rf : String} {idx : Nat}
theorem gF_at {j ci : Nat} {r : vw_C} (hts : ∀ w ∈ gtbl, w.before args s = true) (hr : vwCl[ci]? = some r) (g : gF own idx j ci rf = true) : j < r.2.2 ∧ (Jvm.Cond.fieldLink own idx rf (r.2.1 j).2.1 (r.2.1 j).2.2.1).before args s = true ∧ ∀ x, s.fieldFound? (r.2.1 j).1 (r.2.1 j).2.1 (r.2.1 j).2.2.1 = some x → s.fieldFound? rf (r.2.1 j).2.1 (r.2.1 j).2.2.1 = some x := by
  unfold gF at g
  rw [hr] at g
  simp only [Bool.and_eq_true, decide_eq_true_eq, Bool.or_eq_true] at g
  obtain ⟨g1, g2, g3⟩ := g
  refine ⟨g1, hts _ (inT_mem g2), fun x hx => ?_⟩
  rcases g3 with z | z
  · rw [z]; exact hx
  · exact u_same (hts _ (inT_mem z)) x hx
theorem sp_getf {j c0 c1 : Nat} (hx : p.tables.exec = Jvm.exec) (hb : c.code = cc) (hts : ∀ w ∈ gtbl, w.before args s = true) (hown : s.vm.findClass own = some m.cls) (g0 : gF own idx j c0 rf = true) (g1 : gF own idx j c1 rf = true) (hd : decode cc pc = .ok (.getfield idx, 3))
    (S : aSim D t B h s H) (hl : aL t B arr ls) (hn : ls.length = c.maxLocals) (hloc : ∀ q ∈ locs, B ≤ q.base) (hp : k_getf j c0 c1 (pc + 3) ls st h = some k) (kk : aKK p l e R s m args below meth c Q D t B cells slots h k) : W p l e R s m args below meth c H locs cells slots Q (F0 m pc arr (st.map (vr t B))) := by
  obtain ⟨a, r, ci, fs, v, rfl, ha, hc, hv, rfl⟩ := k_getf_inv hp
  obtain ⟨h5, ⟨C, T, N⟩, hr, hlen, hob⟩ := S.2.1 a _ ha
  have g : gF own idx j ci rf = true := by rcases hc with rfl | rfl <;> assumption
  obtain ⟨hj, hlk, hsame⟩ := gF_at hts hr g
  have hP : va_P D vwCl [(aA t B a, .inr (ci, fs.map (vr t B)))] H := by
    intro k' q' hq'
    cases k' with
    | zero => cases hq'; exact ⟨_, hr, hob⟩
    | succ n => simp at hq'
  exact va_get (D := D) (cl := vwCl) (tys := []) (C := C) (T := T) (N := N) hx hb hts (gCl_at hr).2.1 hown S.1 hP 0 rfl hr j hj hlk hsame (v := vr t B v) (by rw [List.getElem?_map, hv]; rfl) hd (kk.use (i := 0) (j := 0) rfl rfl S hl hn hloc)
theorem sp_putf {j c0 c1 kd : Nat} {nm : String} (hx : p.tables.exec = Jvm.exec) (hb : c.code = cc) (hts : ∀ w ∈ gtbl, w.before args s = true) (hown : s.vm.findClass own = some m.cls) (hnm : nm = "<init>" → meth.name = "<init>") (g0 : gF own idx j c0 rf = true) (g1 : gF own idx j c1 rf = true) (p0 : gP own nm j c0 kd = true) (p1 : gP own nm j c1 kd = true) (hd : decode cc pc = .ok (.putfield idx, 3))
    (S : aSim D t B h s H) (hl : aL t B arr ls) (hn : ls.length = c.maxLocals) (hloc : ∀ q ∈ locs, B ≤ q.base) (hp : k_putf j c0 c1 kd (pc + 3) ls st h = some k) (kk : aKK p l e R s m args below meth c Q D t B cells slots h k) : W p l e R s m args below meth c H locs cells slots Q (F0 m pc arr (st.map (vr t B))) := by
  obtain ⟨v, a, r, ci, fs, rfl, ha, hc, rfl⟩ := k_putf_inv hp
  obtain ⟨hci, hjl, hfk⟩ := hc
  obtain ⟨h5, ⟨C, T, N⟩, hr, hlen, cell, q1, q2, q3, q4⟩ := S.2.1 a _ ha
  have g : gF own idx j ci rf = true := by rcases hci with rfl | rfl <;> assumption
  have gp : gP own nm j ci kd = true := by rcases hci with rfl | rfl <;> assumption
  obtain ⟨hj, hlk, hsame⟩ := gF_at hts hr g
  obtain ⟨y1, y2, y3, y4, -⟩ := gCl_at hr
  unfold gP at gp
  rw [hr] at gp
  simp only [Bool.and_eq_true, decide_eq_true_eq, Bool.or_eq_true, Bool.not_eq_true'] at gp
  obtain ⟨gk, gfin⟩ := gp
  obtain ⟨hnar, hfit⟩ := fit_ok (t := t) (B := B) gk hfk
  have hap := va_apart (own := own) hts y2 (tyOf T) y1 y4 S.1 hr
  obtain ⟨hS, hfc, kC, hkC, hkind⟩ := S.1.1 ci _ hr
  obtain ⟨cf, kf, fi, f, hi, hsl⟩ := hS j hj
  have hst := (u_facts hfc hkC (u_lays hts y2 hj) hi).1
  have fin : ∀ (H' : Heap) (lc : List Loc), H'[aA t B a]? = some (cell.setSlot f.slot (vr t B v)) → H'.size = H.size → (∀ q, q ≠ aA t B a → H'[q]? = H[q]?) → (∀ q ∈ lc, B ≤ q.base) → W p l e R s m args below meth c H' lc cells slots Q (F0 m (pc + 3) arr (r.map (vr t B))) := by
    intro H' lc e1 e2 e3 hlc
    rw [hsl] at e1
    refine kk.use (i := 0) (j := 0) (by simp) (asl_set ha (by simp [acs])) (S.set ha h5 e2 e3 ⟨h5, ⟨C, T, N⟩, hr, by simpa using hlen, t_OB.to (V := updV (vp_V (fs.map (vr t B))) j (vr t B v)) ⟨_, e1, q2, q3, t_set q4 hap hj _⟩ (fun i _ => ?_)⟩) hl hn hlc
    rw [vp_updV_set (by simpa using hjl), List.map_set]
  have hlc : ∀ q ∈ locs ++ [(⟨aA t B a, f.slot⟩ : Loc)], B ≤ q.base := loc_app hloc (by rw [aA_ge h5]; omega)
  have hlay := hts _ (y2 _ (u_in_lay hj))
  unfold u_lay at hlay
  by_cases hf : (T j).2.2.2 = true
  · rw [if_pos hf] at hlay
    obtain ⟨gi, go⟩ : nm = "<init>" ∧ (T j).1 = own := by
      rcases gfin with z | z
      · rw [hf] at z; cases z
      · exact z
    have hcf : m.cls = cf := by
      obtain ⟨_, _, c', _, _, _, -, -, hf', -, -, -, hown2, -⟩ := Cond.laysFinal_spec hlay
      have e1 : c' = cf := by have := hi.symm.trans hf'; simp at this; exact this.1.symm
      rw [go] at hown2
      rw [← e1]; exact Option.some.inj (hown.symm.trans hown2)
    have h6 := u_fits hfc hkC hkind (Or.inr hlay) hi (y1 j hj) hnar hfit
    exact W.putFinK hx hb hown hlk (hsame _ hi) hst hcf (hnm gi) (by rw [q2]; exact h6) q1 q3 (by rw [hsl]; exact k2_hasslot (q4 j hj)) rfl rfl hd fun H' e1 e2 e3 => fin H' _ e1 e2 e3 hlc
  · rw [if_neg hf] at hlay
    have h6 := u_store hfc hkC hkind hlay hi (y1 j hj) hnar hfit
    exact W.putK hx hb (f := f) ⟨hown, hlk, ⟨_, _, _, hsame _ hi⟩, hst⟩ (by rw [q2]; exact h6) q1 q3 (by rw [hsl]; exact k2_hasslot (q4 j hj)) rfl rfl hd fun H' e1 e2 e3 => fin H' _ e1 e2 e3 hlc
theorem sp_iald (hx : p.tables.exec = Jvm.exec) (hb : c.code = cc) (hd : decode cc pc = .ok (.iaload, 1))
    (S : aSim D t B h s H) (hl : aL t B arr ls) (hn : ls.length = c.maxLocals) (hloc : ∀ q ∈ locs, B ≤ q.base) (hp : k_iald (pc + 1) ls st h = some k) (kk : aKK p l e R s m args below meth c Q D t B cells slots h k) : W p l e R s m args below meth c H locs cells slots Q (F0 m pc arr (st.map (vr t B))) := by
  obtain ⟨i, a, r, z, xs, x, rfl, ha, hc, hxs, rfl⟩ := k_iald_inv hp
  have hlt := (List.getElem?_eq_some_iff.mp hxs).1
  have hg : xs.getD i.toNatClampNeg 0 = x := by simp [List.getD_eq_getElem?_getD, hxs]
  have kw := kk.use (i := 0) (j := 0) rfl rfl S hl hn hloc
  rcases S.2.1 a _ ha with ⟨h1, h2, cell, e1, e2, e3, e4, e5, e6, e7⟩ | ⟨h1, h2, cA, h3, h4⟩
  · exact W.iald (v := .int x) hx hb e1 e2 e3 (fun z => z.elim hc.2 (fun z => by omega)) (by rw [e6 _ hlt]; exact congrArg (fun z => some (Value.int z)) hg) rfl rfl hd kw
  · have hz : z = 0 := hc.1.elim id (fun z0 => absurd z0 h1)
    subst hz
    exact W.iald (v := .int x) hx hb h3 (h4 _ _) (fun z => by cases z) (by rw [arrV_size]; exact fun z => z.elim hc.2 (fun z => by omega)) (by rw [arrV_read _ _ hlt, hg]) rfl rfl hd kw
theorem sp_zald (hx : p.tables.exec = Jvm.exec) (hb : c.code = cc) (hd : decode cc pc = .ok (.baload, 1))
    (S : aSim D t B h s H) (hl : aL t B arr ls) (hn : ls.length = c.maxLocals) (hloc : ∀ q ∈ locs, B ≤ q.base) (hp : k_zald (pc + 1) ls st h = some k) (kk : aKK p l e R s m args below meth c Q D t B cells slots h k) : W p l e R s m args below meth c H locs cells slots Q (F0 m pc arr (st.map (vr t B))) := by
  obtain ⟨i, a, r, z, xs, x, rfl, ha, hc, hxs, rfl⟩ := k_zald_inv hp
  have hlt := (List.getElem?_eq_some_iff.mp hxs).1
  have hg : xs.getD i.toNatClampNeg 0 = x := by simp [List.getD_eq_getElem?_getD, hxs]
  have kw := kk.use (i := 0) (j := 0) rfl rfl S hl hn hloc
  obtain ⟨hz, hi⟩ := hc
  subst hz
  rcases S.2.1 a _ ha with ⟨h1, -⟩ | ⟨h1, h2, cA, h3, h4⟩
  · cases h1
  · exact W.zald (v := .int x) hx hb h3 (h4 _ _) (fun z => by cases z) (by rw [arrV_size]; exact fun z => z.elim hi (fun z => by omega)) (by rw [arrV_read _ _ hlt, hg]) rfl rfl hd kw
theorem sp_iast (hx : p.tables.exec = Jvm.exec) (hb : c.code = cc) (hd : decode cc pc = .ok (.iastore, 1))
    (S : aSim D t B h s H) (hl : aL t B arr ls) (hn : ls.length = c.maxLocals) (hloc : ∀ q ∈ locs, B ≤ q.base) (hp : k_iast (pc + 1) ls st h = some k) (kk : aKK p l e R s m args below meth c Q D t B cells slots h k) : W p l e R s m args below meth c H locs cells slots Q (F0 m pc arr (st.map (vr t B))) := by
  obtain ⟨x, i, a, r, z, xs, rfl, ha, hc, rfl⟩ := k_iast_inv hp
  obtain ⟨hz, hi, hlt⟩ := hc
  subst hz
  rcases S.2.1 a _ ha with ⟨h1, -⟩ | ⟨h1, h2, cA, h3, h4⟩
  · cases h1
  · refine W.iast hx hb h3 (h4 _ _) (fun z => by cases z) (by rw [arrV_size]; exact fun z => z.elim hi (fun z => by omega)) rfl rfl hd fun H' e1 e2 e3 => ?_
    refine kk.use (i := 0) (j := 0) (by simp) (asl_set ha (by simp [acs])) (S.set ha h2 e2 e3 (Or.inr ⟨by decide, h2, cA, ?_, h4⟩)) hl hn (loc_app hloc (by rw [aA_ge h2]; omega))
    rw [e1, arrV_store, arr_st hlt, List.length_set]
theorem sp_zast (hx : p.tables.exec = Jvm.exec) (hb : c.code = cc) (hd : decode cc pc = .ok (.bastore, 1))
    (S : aSim D t B h s H) (hl : aL t B arr ls) (hn : ls.length = c.maxLocals) (hloc : ∀ q ∈ locs, B ≤ q.base) (hp : k_zast (pc + 1) ls st h = some k) (kk : aKK p l e R s m args below meth c Q D t B cells slots h k) : W p l e R s m args below meth c H locs cells slots Q (F0 m pc arr (st.map (vr t B))) := by
  obtain ⟨x, i, a, r, z, xs, rfl, ha, hc, rfl⟩ := k_zast_inv hp
  obtain ⟨hz, hx01, hi, hlt⟩ := hc
  subst hz
  rcases S.2.1 a _ ha with ⟨h1, -⟩ | ⟨h1, h2, cA, h3, h4⟩
  · cases h1
  · refine W.zast hx hb h3 (h4 _ _) (fun z => by cases z) (by rw [arrV_size]; exact fun z => z.elim hi (fun z => by omega)) rfl rfl hd fun H' e1 e2 e3 => ?_
    have hnar : narrow .boolean (.int x) = .int x := by rcases hx01 with rfl | rfl <;> decide
    rw [hnar] at e1
    refine kk.use (i := 0) (j := 0) (by simp) (asl_set ha (by simp [acs])) (S.set ha h2 e2 e3 (Or.inr ⟨by decide, h2, cA, ?_, h4⟩)) hl hn (loc_app hloc (by rw [aA_ge h2]; omega))
    rw [e1, arrV_store, arr_st hlt, List.length_set]
theorem sp_aald (hx : p.tables.exec = Jvm.exec) (hb : c.code = cc) (hd : decode cc pc = .ok (.aaload, 1))
    (S : aSim D t B h s H) (hl : aL t B arr ls) (hn : ls.length = c.maxLocals) (hloc : ∀ q ∈ locs, B ≤ q.base) (hp : k_aald (pc + 1) ls st h = some k) (kk : aKK p l e R s m args below meth c Q D t B cells slots h k) : W p l e R s m args below meth c H locs cells slots Q (F0 m pc arr (st.map (vr t B))) := by
  obtain ⟨i, a, r, z, os, o, rfl, ha, hi, ho, rfl⟩ := k_aald_inv hp
  have hlt := (List.getElem?_eq_some_iff.mp ho).1
  obtain ⟨h1, r', cA, h2, h3, h4, h5⟩ := S.2.1 a _ ha
  have hg : va_rf (aOn t B os i.toNatClampNeg) = vr t B (va_rf o) := by rw [vr_rf]; simp [aOn, List.getD_eq_getElem?_getD, ho]
  exact W.aald (v := vr t B (va_rf o)) (ty := .object r'.1) hx hb h3 (h4 _ _) rfl (fun z => by cases z) (by rw [arrV_size]; exact fun z => z.elim hi (fun z => by omega)) (by rw [arrV_read _ _ hlt, hg]) rfl rfl hd (kk.use (i := 0) (j := 0) rfl rfl S hl hn hloc)
theorem sp_aast (hx : p.tables.exec = Jvm.exec) (hb : c.code = cc) (hd : decode cc pc = .ok (.aastore, 1))
    (S : aSim D t B h s H) (hl : aL t B arr ls) (hn : ls.length = c.maxLocals) (hloc : ∀ q ∈ locs, B ≤ q.base) (hp : k_aast (pc + 1) ls st h = some k) (kk : aKK p l e R s m args below meth c Q D t B cells slots h k) : W p l e R s m args below meth c H locs cells slots Q (F0 m pc arr (st.map (vr t B))) := by
  obtain ⟨v, i, a, r, z, os, ci, fs, rfl, ha, hv, hc, rfl⟩ := k_aast_inv hp
  obtain ⟨rfl, hi, hlt⟩ := hc
  obtain ⟨h1, r', cA, h2, h3, h4, h5⟩ := S.2.1 a _ ha
  obtain ⟨v5, r'', hr'', hlen, cellV, g1, g2, g3, g4⟩ := S.2.1 v _ hv
  have hrr : r'' = r' := Option.some.inj (hr''.symm.trans h2)
  subst hrr
  obtain ⟨hS, hcls⟩ := S.1.1 _ _ h2
  obtain ⟨kA, comp, k1, k2, k3, k4⟩ := h5
  have hcomp : comp = D.1 ci := Option.some.inj (k3.symm.trans hcls.1)
  subst hcomp
  obtain ⟨kC, hkC, hkk⟩ := hcls.2
  refine W.aast hx hb h3 (fun q z => by cases z) (fun z => by cases z) k1 k2 rfl hkC ⟨hi, by rw [arrV_size]; exact hlt⟩ g1 (fun q z => by rw [g3] at z; cases z) (by rw [g2]; exact hkC) (by rw [g2]; exact va_assign hcls) rfl rfl hd fun H' e1 e2 e3 => ?_
  refine kk.use (i := 0) (j := 0) (by simp) (asl_set ha (by simp [acs])) (S.set ha h1 e2 e3 ⟨h1, r'', cA, h2, ?_, h4, ⟨kA, _, k1, k2, k3, k4⟩⟩) hl hn (loc_app hloc (by rw [aA_ge h1]; omega))
  rw [e1, arrV_store, List.length_set]
  congr 2
  funext j
  by_cases hj : j = i.toNatClampNeg
  · subst hj
    simp [updV, aOn, List.getD_eq_getElem?_getD, hlt, va_rf]
  · simp [updV, aOn, List.getD_eq_getElem?_getD, hj, List.getElem?_set_ne (Ne.symm hj)]
theorem sp_alen (hx : p.tables.exec = Jvm.exec) (hb : c.code = cc) (hd : decode cc pc = .ok (.arraylength, 1))
    (S : aSim D t B h s H) (hl : aL t B arr ls) (hn : ls.length = c.maxLocals) (hloc : ∀ q ∈ locs, B ≤ q.base) (hp : k_alen (pc + 1) ls st h = some k) (kk : aKK p l e R s m args below meth c Q D t B cells slots h k) : W p l e R s m args below meth c H locs cells slots Q (F0 m pc arr (st.map (vr t B))) := by
  obtain ⟨a, r, z, xs, rfl, ha, rfl⟩ := k_alen_inv hp
  have kw := kk.use (i := 0) (j := 0) rfl rfl S hl hn hloc
  rcases S.2.1 a _ ha with ⟨h1, h2, cell, e1, e2, e3, e4, e5, e6, e7⟩ | ⟨h1, h2, cA, h3, h4⟩
  · exact W.alen (n := Int32.ofNat xs.length) hx hb e1 e2 e5 rfl rfl hd kw
  · exact W.alen (n := Int32.ofNat xs.length) hx hb h3 (h4 _ _) (by rw [arrV_size]) rfl rfl hd kw
end HP
end
section
/-! what makes cells; Object's constructor; statics; arraycopy -/
section INV2
variable {h : aH} {ls st : List Value} {q : Nat} {k : aK}
theorem k_newa_inv {z : Nat} (hp : k_newa z q ls st h = some k) : ∃ n r, st = .int n :: r ∧ (¬ n < 0 ∧ n.toNatClampNeg ≤ 65536) ∧ k = (q, ls, .ref h.length :: r, h ++ [.inr (.inl (z, List.replicate n.toNatClampNeg 0))]) := by
  unfold k_newa at hp
  repeat' split at hp
  all_goals first | (cases hp; done) | exact ⟨_, _, rfl, by assumption, (Option.some.inj hp).symm⟩
theorem k_newq_inv {z : Nat} (hp : k_newq z q ls st h = some k) : ∃ n r, st = .int n :: r ∧ (¬ n < 0 ∧ n.toNatClampNeg ≤ 65536) ∧ k = (q, ls, .ref h.length :: r, h ++ [.inr (.inr (z, List.replicate n.toNatClampNeg none))]) := by
  unfold k_newq at hp
  repeat' split at hp
  all_goals first | (cases hp; done) | exact ⟨_, _, rfl, by assumption, (Option.some.inj hp).symm⟩
theorem k_oini_inv (hp : k_oini q ls st h = some k) : ∃ a r, st = .ref a :: r ∧ (r.length ≤ 8 ∧ r.all aOk = true) ∧ k = (q, ls, r, h) := by
  unfold k_oini at hp
  repeat' split at hp
  all_goals first | (cases hp; done) | exact ⟨_, _, rfl, by assumption, (Option.some.inj hp).symm⟩
theorem k_copy_inv (hp : k_copy q ls st h = some k) : ∃ n dp b sp a r t xs u ys, st = .int n :: .int dp :: .ref b :: .int sp :: .ref a :: r ∧ h[a]? = some (.inr (.inl (t, xs))) ∧ h[b]? = some (.inr (.inl (u, ys))) ∧ ((t = 0 ∧ u = 0 ∧ sp = 0 ∧ dp = 0) ∧ ¬ n < 0 ∧ n.toNatClampNeg ≤ xs.length ∧ n.toNatClampNeg ≤ ys.length ∧ r.length ≤ 8 ∧ r.all aOk = true) ∧ k = (q, ls, r, h.set b (.inr (.inl (0, xs.take n.toNatClampNeg ++ ys.drop n.toNatClampNeg)))) := by
  unfold k_copy at hp
  repeat' split at hp
  all_goals first | (cases hp; done) | exact ⟨_, _, _, _, _, _, _, _, _, _, rfl, by assumption, by assumption, by assumption, (Option.some.inj hp).symm⟩
theorem k_mm_inv {f : Int32 → Int32 → Int32} (hp : k_mm f q ls st h = some k) : ∃ y x r, st = .int y :: .int x :: r ∧ (r.length ≤ 8 ∧ r.all aOk = true) ∧ k = (q, ls, .int (f x y) :: r, h) := by
  unfold k_mm at hp
  repeat' split at hp
  all_goals first | (cases hp; done) | exact ⟨_, _, _, rfl, by assumption, (Option.some.inj hp).symm⟩
end INV2
theorem rep_getD (n j : Nat) : (List.replicate n (0 : Int32)).getD j 0 = 0 := by
  rw [List.getD_eq_getElem?_getD, List.getElem?_replicate]
  split <;> rfl
theorem rep_getO (n j : Nat) : (List.replicate n (none : Option Nat)).getD j none = none := by
  rw [List.getD_eq_getElem?_getD, List.getElem?_replicate]
  split <;> rfl
section MR
variable {p : Program} {l : Launch} {e : Env} {R : Room} {s : State} {m : MethodId} {args : Array Value} {below : List Frame} {meth : Method} {c : Code} {H : Heap} {locs : List Loc} {cells slots : Nat} {Q : State → Prop}
variable {D : va_G} {t : Nat → Nat} {B : Nat} {h : aH} {arr : Array Slot} {ls st : List Value} {pc q : Nat} {cc : ByteArray} {k : aK} {own rf : String} {idx : Nat}
theorem sp_newa {z : Nat} {atype : ArrayType} (hx : p.tables.exec = Jvm.exec) (hb : c.code = cc) (harr : (Jvm.Cond.arrayClass (newarray.typeOf atype)).before args s = true) (hz : (z = 0 ∧ atype = .int) ∨ (z = 1 ∧ atype = .boolean)) (hd : decode cc pc = .ok (.newarray atype, 2))
    (S : aSim D t B h s H) (hl : aL t B arr ls) (hn : ls.length = c.maxLocals) (hloc : ∀ q ∈ locs, B ≤ q.base) (hp : k_newa z (pc + 2) ls st h = some k) (hc : cells + (k.2.2.2.length - h.length) ≤ R.cells) (hs : slots + (asl k.2.2.2 - asl h) ≤ R.slots) (kk : aKK p l e R s m args below meth c Q D t B cells slots h k) : W p l e R s m args below meth c H locs cells slots Q (F0 m pc arr (st.map (vr t B))) := by
  obtain ⟨n, r, rfl, hN, rfl⟩ := k_newa_inv hp
  simp only [List.length_append, List.length_cons, List.length_nil, asl_app, acs, List.length_replicate, Nat.add_sub_cancel_left] at hc hs
  have h5 := S.2.2.1.2
  have hnew := S.new
  have by1 : n.toNatClampNeg * componentBytes (newarray.typeOf atype) ≤ 536870912 := by
    rcases hz with ⟨-, rfl⟩ | ⟨-, rfl⟩
    · show n.toNatClampNeg * 4 ≤ _; omega
    · show n.toNatClampNeg * 1 ≤ _; omega
  refine va_newaK hx hb harr rfl hd rfl hN.1 rfl by1 (by omega) hs rfl fun H' cA e1 z1 o1 hAr hNm => ?_
  have ety : newarray.typeOf atype = aTy z := by rcases hz with ⟨rfl, rfl⟩ | ⟨rfl, rfl⟩ <;> rfl
  have edv : defaultValue (newarray.typeOf atype) = .int 0 := by rcases hz with ⟨-, rfl⟩ | ⟨-, rfl⟩ <;> rfl
  have hz2 : z ≠ 2 := by rcases hz with ⟨rfl, -⟩ | ⟨rfl, -⟩ <;> decide
  have kw := kk.use (i := 1) (j := n.toNatClampNeg) (by simp) (by simp [asl_app, acs]) (H' := H') (locs' := locs) (arr' := arr) (S.push z1 o1 (Or.inr ⟨hz2, h5, cA, ?_, ety ▸ hAr⟩)) hl hn hloc
  · simp only [List.map_cons, vr_ref, hnew] at kw
    exact kw
  · rw [hnew, e1, List.length_replicate, edv]
    congr 2
    funext j
    rw [rep_getD]
theorem sp_newq {z : Nat} {r' : vw_C} (hx : p.tables.exec = Jvm.exec) (hb : c.code = cc) (hown : s.vm.findClass own = some m.cls) (hz : vwCl[z]? = some r') (hcl : (Jvm.Cond.classLink own idx r'.1).before args s = true) (hov : (Jvm.Cond.arrayOver (.object r'.1)).before args s = true) (hd : decode cc pc = .ok (.anewarray idx, 3))
    (S : aSim D t B h s H) (hl : aL t B arr ls) (hn : ls.length = c.maxLocals) (hloc : ∀ q ∈ locs, B ≤ q.base) (hp : k_newq z (pc + 3) ls st h = some k) (hc : cells + (k.2.2.2.length - h.length) ≤ R.cells) (hs : slots + (asl k.2.2.2 - asl h) ≤ R.slots) (kk : aKK p l e R s m args below meth c Q D t B cells slots h k) : W p l e R s m args below meth c H locs cells slots Q (F0 m pc arr (st.map (vr t B))) := by
  obtain ⟨n, r, rfl, hN, rfl⟩ := k_newq_inv hp
  simp only [List.length_append, List.length_cons, List.length_nil, asl_app, acs, List.length_replicate, Nat.add_sub_cancel_left] at hc hs
  have h5 := S.2.2.1.2
  have hnew := S.new
  refine W.anew hx hb hown hcl hov rfl hd rfl hN.1 (by omega) (by omega) hs fun cA kA comp f1 f2 f3 f4 => ?_
  generalize hH1 : H.push ({ cls := cA, slots := Array.replicate n.toNatClampNeg .null, vm := .none } : Cell) = H'
  have z1 : H'.size = H.size + 1 := by rw [← hH1, Array.size_push]
  have e1 : H'[H.size]? = some (arrV cA n.toNatClampNeg (fun _ => .null)) := by rw [← hH1, Array.getElem?_push_size, ← arrV_new]
  have o1 : ∀ q : Nat, q < H.size → H'[q]? = H[q]? := fun q hq => by rw [← hH1, Array.getElem?_push, if_neg (Nat.ne_of_lt hq)]
  have hAr : ArrOfT s cA (.object r'.1) := fun N z => ⟨(fun k h => by cases h), kA, f2, comp, f3⟩
  have kw := kk.use (i := 1) (j := n.toNatClampNeg) (by simp) (by simp [asl_app, acs]) (H' := H') (locs' := locs) (arr' := arr) (S.push z1 o1 ⟨h5, r', cA, hz, ?_, hAr, ⟨kA, comp, f2, f3, f4, f1⟩⟩) hl hn hloc
  · simp only [List.map_cons, vr_ref, hnew] at kw
    exact kw
  · rw [hnew, e1, List.length_replicate]
    congr 2
    funext j
    simp only [aOn, rep_getO]
    rfl
theorem sp_new {z : Nat} {r' : vw_C} (hx : p.tables.exec = Jvm.exec) (hb : c.code = cc) (hts : ∀ w ∈ gtbl, w.before args s = true) (hown : s.vm.findClass own = some m.cls) (hz : vwCl[z]? = some r') (hcl : (Jvm.Cond.classLink own idx r'.1).before args s = true) (hd : decode cc pc = .ok (.new idx, 3))
    (S : aSim D t B h s H) (hl : aL t B arr ls) (hn : ls.length = c.maxLocals) (hloc : ∀ q ∈ locs, B ≤ q.base) (hp : k_new z (pc + 3) ls st h = some k) (hc : cells + (k.2.2.2.length - h.length) ≤ R.cells) (hs : slots + (asl k.2.2.2 - asl h) ≤ R.slots) (kk : aKK p l e R s m args below meth c Q D t B cells slots h k) : W p l e R s m args below meth c H locs cells slots Q (F0 m pc arr (st.map (vr t B))) := by
  unfold k_new at hp
  cases hp
  obtain ⟨y1, y2, y3, y4, y5, y6, y7, y8⟩ := gCl_at hz
  simp only [List.length_append, List.length_cons, List.length_nil, asl_app, acs, Nat.add_sub_cancel_left, y5] at hc hs
  have h5 := S.2.2.1.2
  have hnew := S.new
  have hKn := S.1.1 z _ hz
  refine W.newcK hx hb hown hcl (hts _ y6) (hts _ y7) rfl hd (by omega) hs hKn.2.1 rfl fun H' kC hkC e1 z1 o1 => ?_
  have ob := u_born (tyOf r'.2.1) hts y2 hKn hkC e1 y1
  have kw := kk.use (i := 1) (j := r'.2.2) (by simp) (by simp [asl_app, acs, y5]) (H' := H') (locs' := locs) (arr' := arr) (S.push z1 o1 ⟨h5, r', hz, y5, ?_⟩) hl hn hloc
  · simp only [List.map_cons, vr_ref, hnew] at kw
    exact kw
  · rw [hnew]
    refine ob.to fun j hj => ?_
    rw [← y3 j hj]
    simp only [vp_V, List.getD_eq_getElem?_getD, List.getElem?_map]
    cases hv : (dfl z)[j]? with
    | none => rfl
    | some v =>
      rcases y8 v (List.mem_of_getElem? hv) with rfl | rfl <;> rfl
theorem sp_oini (hx : p.tables.exec = Jvm.exec) (hb : c.code = cc) (hown : s.vm.findClass own = some m.cls) (hlk : (Jvm.Cond.methodLink own idx Lib.objectInit).before args s = true) (hin : (Jvm.Cond.instanceMethod Lib.objectInit).before args s = true) (hco : (Jvm.Cond.code Lib.objectInit ⟨#[0xb1]⟩ 1 none).before args s = true) (hf : 1 ≤ R.frames) (hlo : 64 ≤ R.locals) (hd : decode cc pc = .ok (.invokespecial idx, 3))
    (S : aSim D t B h s H) (hl : aL t B arr ls) (hn : ls.length = c.maxLocals) (hloc : ∀ q ∈ locs, B ≤ q.base) (hp : k_oini (pc + 3) ls st h = some k) (kk : aKK p l e R s m args below meth c Q D t B cells slots h k) : W p l e R s m args below meth c H locs cells slots Q (F0 m pc arr (st.map (vr t B))) := by
  obtain ⟨a, r, rfl, ⟨hr1, hr2⟩, rfl⟩ := k_oini_inv hp
  refine W.objInit hx hb hown hlk hin hco rfl (hl.1.trans hn) rfl hd hf ?_ (kk.use (i := 0) (j := 0) rfl rfl S hl hn hloc)
  rw [cats hr2]
  show 2 * 0 + _ + 12 ≤ _
  omega
theorem sp_gets {i : Nat} {n : String} (hx : p.tables.exec = Jvm.exec) (hb : c.code = cc) (hown : s.vm.findClass own = some m.cls) (hi : stNames[i]? = some n) (hlk : (Jvm.Cond.fieldLink own idx "WordHides" n "[I").before args s = true ∨ (Jvm.Cond.fieldLinkNest own idx "WordHides" n "[I" "WordHides").before args s = true) (hd : decode cc pc = .ok (.getstatic idx, 3))
    (S : aSim D t B h s H) (hl : aL t B arr ls) (hn : ls.length = c.maxLocals) (hloc : ∀ q ∈ locs, B ≤ q.base) (hp : k_push (.ref i) (pc + 3) ls st h = some k) (kk : aKK p l e R s m args below meth c Q D t B cells slots h k) : W p l e R s m args below meth c H locs cells slots Q (F0 m pc arr (st.map (vr t B))) := by
  have hi5 : i < 5 := by
    have := (List.getElem?_eq_some_iff.mp hi).1
    simp only [stNames, List.length_cons, List.length_nil] at this
    omega
  refine sp_push S hl hn hloc hp kk fun rest kw => ?_
  rw [vr_ref, aA_lt hi5] at kw
  obtain ⟨cf, kf, fi, f, a, cell, e1, e2, e3, e4, e5, e6, e7, e8⟩ := S.2.2.2.1 i n hi
  rcases hlk with hlk | hlk
  · exact W.gets hx hb hown hlk e1 e2 e3 e4 e5 (fun z => by rw [z] at e6; cases e6) e7 rfl hd kw
  · exact va_WgetsN hx hb hown hlk e1 e2 e3 e4 e5 (fun z => by rw [z] at e6; cases e6) e7 rfl hd kw
theorem sp_copy (hx : p.tables.exec = Jvm.exec) (hb : c.code = cc) (hown : s.vm.findClass own = some m.cls) (hlk : (Jvm.Cond.methodLink own idx arraycopyName).before args s = true) (hnat : (Jvm.Cond.native arraycopyName).before args s = true) (hsta : (Jvm.Cond.static arraycopyName).before args s = true) (hini : (Jvm.Cond.initialized "java/lang/System").before args s = true) (hf : 1 ≤ R.frames) (hlo : 64 ≤ R.locals) (hd : decode cc pc = .ok (.invokestatic idx, 3))
    (S : aSim D t B h s H) (hl : aL t B arr ls) (hn : ls.length = c.maxLocals) (hloc : ∀ q ∈ locs, B ≤ q.base) (hp : k_copy (pc + 3) ls st h = some k) (kk : aKK p l e R s m args below meth c Q D t B cells slots h k) : W p l e R s m args below meth c H locs cells slots Q (F0 m pc arr (st.map (vr t B))) := by
  obtain ⟨n, dp, b, sp, a, r, z, xs, u, ys, rfl, ha, hb', ⟨⟨rfl, rfl, rfl, rfl⟩, hn0, hnx, hny, hr1, hr2⟩, rfl⟩ := k_copy_inv hp
  rcases S.2.1 a _ ha with ⟨h1, -⟩ | ⟨-, ha5, cA, ea, tA⟩
  · cases h1
  rcases S.2.1 b _ hb' with ⟨h1, -⟩ | ⟨-, hb5, cB, eb, tB⟩
  · cases h1
  intro T hT X
  obtain ⟨-, kA, hkA, cmA, hkkA⟩ := tA xs.length (fun j => .int (xs.getD j 0))
  obtain ⟨-, kB, hkB, cmB, hkkB⟩ := tB ys.length (fun j => .int (ys.getD j 0))
  have n2 : n.toInt = (n.toNatClampNeg : Int) := by
    have hz0 : (0 : Int) ≤ n.toInt := by
      have := Int32.not_lt.mp hn0
      simpa using Int32.le_iff_toInt_le.mp this
    show n.toInt = ((n.toInt.toNat : Nat) : Int)
    omega
  have z0 : (0 : Int32).toInt = 0 := by decide
  have z1 : (0 : Int32).toNatClampNeg = 0 := by decide
  have rd : ∀ i, i < n.toNatClampNeg → (arrV cA xs.length (fun j => Value.int (xs.getD j 0))).slots.getD ((0 : Int32).toNatClampNeg + i) .null = .int (xs.getD i 0) := by
    intro i hi
    rw [z1, Nat.zero_add, Array.getD_eq_getD_getElem?, arrV_read _ _ (by omega)]
    rfl
  obtain ⟨vm', X', step⟩ := X.arraycopy hx hown hlk hnat hsta hini (src := aA t B a) (dst := aA t B b) (srcPos := 0) (destPos := 0) (n := n) (by rw [hT]; exact ea) (by rw [hT]; exact eb)
    (fun _ z => by cases z) (fun _ z => by cases z) (fun z => by cases z) (fun z => by cases z) hkA hkB hkkA hkkB (by decide) (by decide) (by decide) hn0
    (by rw [n2, z0, arrV_size]; omega) (by rw [n2, z0, arrV_size]; omega)
    (fun vm₁ _ i hi => by rw [rd i hi]; exact ⟨rfl, trivial⟩)
    (g := F0 m pc arr (.int n :: .int 0 :: .ref (aA t B b) :: .int 0 :: .ref (aA t B a) :: r.map (vr t B))) rfl (hl.1.trans hn) (rest := r.map (vr t B)) rfl (by rw [hb]; exact hd) hf
    (by rw [cats hr2]; show 2 * 0 + _ + (nativeFrameWords "java/lang/System" "arraycopy" 5 + 11) ≤ _; rw [show nativeFrameWords "java/lang/System" "arraycopy" 5 = 7 by decide +kernel]; omega)
  have ec : copied (arrV cA xs.length (fun j => Value.int (xs.getD j 0))) (arrV cB ys.length (fun j => Value.int (ys.getD j 0))) 0 0 n = arrV cB (xs.take n.toNatClampNeg ++ ys.drop n.toNatClampNeg).length (fun j => Value.int ((xs.take n.toNatClampNeg ++ ys.drop n.toNatClampNeg).getD j 0)) := by
    refine (va_copied (fun z => Value.int z) cA cB (sp := (0 : Int32).toNatClampNeg) (dp := (0 : Int32).toNatClampNeg) (fun j => xs.getD j 0) (fun j => ys.getD j 0) (by rw [z1, Nat.zero_add]; exact hnx)).trans ?_
    have el : (xs.take n.toNatClampNeg ++ ys.drop n.toNatClampNeg).length = ys.length := by
      simp only [List.length_append, List.length_take, List.length_drop]
      omega
    rw [el]
    congr 1
    funext j
    congr 1
    simp only [va_cpy, z1, Nat.zero_add, Nat.zero_le, true_and, Nat.sub_zero, List.getD_eq_getElem?_getD]
    by_cases hj : j < n.toNatClampNeg
    · rw [if_pos hj, List.getElem?_append_left (by simp only [List.length_take]; omega), List.getElem?_take_of_lt hj]
    · rw [if_neg hj, List.getElem?_append_right (by simp only [List.length_take]; omega), List.getElem?_drop]
      congr 3
      simp only [List.length_take]
      omega
  rw [ec] at X' step
  have hlt : aA t B b < T.heap.size := by rw [hT]; exact (Array.getElem?_eq_some_iff.mp eb).1
  obtain ⟨t2, a1, b1⟩ := kk.use (i := 0) (j := 0) (by simp) (asl_set hb' (by simp only [acs, List.length_append, List.length_take, List.length_drop]; omega))
    (S.set hb' hb5 (H1 := ((T.setVm vm').setCell (aA t B b) (arrV cB (xs.take n.toNatClampNeg ++ ys.drop n.toNatClampNeg).length (fun j => Value.int ((xs.take n.toNatClampNeg ++ ys.drop n.toNatClampNeg).getD j 0)))).heap) (by rw [size_setCell]; exact congrArg Array.size hT)
      (fun q hq => by rw [heapAt_setCell_ne _ (Ne.symm hq)]; exact congrArg (fun z : Heap => z[q]?) hT) (Or.inr ⟨by decide, hb5, cB, heapAt_setCell_self _ hlt, tB⟩)) hl hn
    (fun q hq => by
      rcases List.mem_append.mp hq with z | z
      · exact hloc q z
      · obtain ⟨w, -, hw⟩ := List.mem_map.mp z
        rw [← hw]
        show B ≤ aA t B b
        rw [aA_ge hb5]
        omega) _ rfl X'
  exact ⟨t2, step t2 a1, b1⟩
theorem sp_mm {f : Int32 → Int32 → Int32} (hlo : 64 ≤ R.locals) (S : aSim D t B h s H) (hl : aL t B arr ls) (hn : ls.length = c.maxLocals) (hloc : ∀ q ∈ locs, B ≤ q.base) (hp : k_mm f q ls st h = some k) (kk : aKK p l e R s m args below meth c Q D t B cells slots h k)
    (row : ∀ x y (rest : List Value), (rest.map fun v => v.category).sum + 13 ≤ R.locals → W p l e R s m args below meth c H locs cells slots Q (F0 m q arr (.int (f x y) :: rest)) → W p l e R s m args below meth c H locs cells slots Q (F0 m pc arr (.int y :: .int x :: rest))) : W p l e R s m args below meth c H locs cells slots Q (F0 m pc arr (st.map (vr t B))) := by
  obtain ⟨y, x, r, rfl, ⟨hr1, hr2⟩, rfl⟩ := k_mm_inv hp
  exact row _ _ _ (by rw [cats hr2]; omega) (kk.use (i := 0) (j := 0) rfl rfl S hl hn hloc)
end MR
end
section
/-! what the entries ask of the tables, each once -/
/-- a method as a callee: its words, its room -/
def gJ (J : wM) : Bool := decide (J.2.2.1 ≤ 45) && (decide (J.2.2.2.2.1 ≤ J.2.2.1) && (plainName J.1.cls && (inT (Jvm.Cond.code J.1 J.2.1 J.2.2.1 J.2.2.2.1) && (inT (Jvm.Cond.initialized J.1.cls) && (decide (J.1.cls ≠ "java/lang/invoke/MethodHandle") && decide (J.1.cls ≠ "java/lang/invoke/VarHandle"))))))
def gJm (M : Nat) : Bool := match prog[M]? with
  | some J => gJ J
  | none => false
def jT0 : List (Nat) := [0, 1, 10, 100, 101, 102, 103, 104, 105, 106, 107, 108, 109, 11, 110, 111, 112, 113, 114, 115]
theorem jT0_ok : jT0.all (gJm) = true := by decide +kernel
def jT1 : List (Nat) := [116, 117, 118, 119, 12, 122, 13, 14, 15, 16, 17, 18, 19, 2, 20, 21, 22, 23, 24, 25]
theorem jT1_ok : jT1.all (gJm) = true := by decide +kernel
def jT2 : List (Nat) := [26, 27, 28, 29, 3, 30, 31, 32, 33, 34, 35, 36, 37, 38, 39, 4, 40, 41, 42, 43]
theorem jT2_ok : jT2.all (gJm) = true := by decide +kernel
def jT3 : List (Nat) := [44, 45, 46, 47, 48, 49, 5, 50, 51, 52, 53, 54, 55, 56, 57, 58, 59, 6, 60, 61]
theorem jT3_ok : jT3.all (gJm) = true := by decide +kernel
def jT4 : List (Nat) := [62, 63, 64, 65, 66, 67, 68, 69, 7, 70, 71, 72, 73, 74, 75, 76, 77, 78, 79, 8]
theorem jT4_ok : jT4.all (gJm) = true := by decide +kernel
def jT5 : List (Nat) := [80, 81, 82, 83, 84, 85, 86, 87, 88, 89, 9, 90, 91, 92, 93, 94, 95, 96, 97, 98]
theorem jT5_ok : jT5.all (gJm) = true := by decide +kernel
def jT6 : List (Nat) := [99]
theorem jT6_ok : jT6.all (gJm) = true := by decide +kernel
def jT : List (Nat) := jT0 ++ (jT1 ++ (jT2 ++ (jT3 ++ (jT4 ++ (jT5 ++ (jT6))))))
theorem jT_ok : ∀ q ∈ jT, (gJm) q = true := List.forall_mem_append.mpr ⟨List.all_eq_true.mp jT0_ok, List.forall_mem_append.mpr ⟨List.all_eq_true.mp jT1_ok, List.forall_mem_append.mpr ⟨List.all_eq_true.mp jT2_ok, List.forall_mem_append.mpr ⟨List.all_eq_true.mp jT3_ok, List.forall_mem_append.mpr ⟨List.all_eq_true.mp jT4_ok, List.forall_mem_append.mpr ⟨List.all_eq_true.mp jT5_ok, List.all_eq_true.mp jT6_ok⟩⟩⟩⟩⟩⟩
def inJ (M : Nat) : Bool := decide (M ∈ jT)
theorem inJ_at {M : Nat} {J : wM} (h : inJ M = true) (hJ : prog[M]? = some J) : gJ J = true := by
  have := jT_ok M (of_decide_eq_true h)
  unfold gJm at this
  rw [hJ] at this
  exact this
def gPar (desc : String) (a : Nat) : Bool := decide ((parseMethodDescriptor desc).map (fun d => d.parameters.length) = some a)
def gSp (own : String) (idx a M' : Nat) : Bool := match prog[M']? with
  | some J => inJ M' && (gPar J.1.desc a && (inT (Jvm.Cond.methodLink own idx J.1) && (inT (Jvm.Cond.instanceMethod J.1) && (decide (J.1.name = "<init>") && decide (J.2.2.2.1 = none)))))
  | none => false
def gSt (own : String) (idx a M' : Nat) : Bool := match prog[M']? with
  | some J => inJ M' && (gPar J.1.desc a && (inT (Jvm.Cond.methodLink own idx J.1) && (inT (Jvm.Cond.static J.1) && decide (J.2.2.2.2.1 = a))))
  | none => false
def gVi (own : String) (idx a ci M' : Nat) (x : MethodName) (rf : String) : Bool := match prog[M']? with
  | some J => (match vwCl[ci]? with
    | some r => inJ M' && (gPar x.desc a && (inT (Jvm.Cond.methodLink own idx x) && (inT (Jvm.Cond.instanceMethod J.1) && (inT (Jvm.Cond.selects r.1 x J.1) &&
        (if rf = "" then decide (x = J.1) else (inT (Jvm.Cond.sameMethod x.cls rf x.name x.desc) && (decide ((⟨rf, x.name, x.desc⟩ : MethodName) ∈ xD) && (decide (rf ≠ "java/lang/invoke/MethodHandle") && decide (rf ≠ "java/lang/invoke/VarHandle")))))))))
    | none => false)
  | none => false
def fT0 : List (Nat × Nat × Nat × String × String) := [(107, 10, 8, "WordHidesModel", "WordHidesModel"), (11, 0, 6, "WordHides$TextList", "WordHides$TextList"), (110, 1, 6, "WordHides", "WordHides$TextList"), (113, 3, 0, "WordHides", "WordHides$Board"), (114, 1, 6, "WordHides$Search", "WordHides$TextList"), (117, 7, 8, "WordHidesModel", "WordHidesModel"), (120, 8, 8, "WordHidesModel", "WordHidesModel"), (123, 1, 3, "WordHides", "WordHides$Lattice"), (123, 9, 8, "WordHidesModel", "WordHidesModel"), (126, 0, 5, "WordHides", "WordHides$Text"), (13, 1, 8, "WordHidesModel", "WordHidesModel"), (13, 8, 1, "WordHides$CrossedSearch", "WordHides$CrossedSearch"), (137, 1, 0, "WordHides", "WordHides$Board"), (14, 0, 7, "WordHides", "WordHides"), (15, 1, 4, "WordHides$Square", "WordHides$Square"), (15, 3, 1, "WordHides$Search", "WordHides$Search"), (15, 3, 2, "WordHides$Search", "WordHides$Search"), (15, 4, 3, "WordHides$Lattice", "WordHides$Lattice"), (157, 2, 3, "WordHides", "WordHides$Lattice"), (16, 2, 8, "WordHidesModel", "WordHidesModel"), (16, 3, 1, "WordHides$CrossedSearch", "WordHides$CrossedSearch"), (17, 0, 0, "WordHides$GoodSearch", "WordHides$Board"), (17, 1, 6, "WordHides$TextList", "WordHides$TextList"), (170, 5, 1, "WordHides", "WordHides$CrossedSearch"), (176, 7, 1, "WordHides", "WordHides$CrossedSearch")]
theorem fT0_ok : fT0.all (fun q => gF q.2.2.2.1 q.1 q.2.1 q.2.2.1 q.2.2.2.2) = true := by decide +kernel
def fT1 : List (Nat × Nat × Nat × String × String) := [(179, 8, 1, "WordHides", "WordHides$CrossedSearch"), (18, 0, 3, "WordHides$Lattice", "WordHides$Lattice"), (18, 1, 0, "WordHides$Board", "WordHides$Board"), (18, 1, 7, "WordHides", "WordHides"), (18, 4, 1, "WordHides$Search", "WordHides$Search"), (18, 4, 2, "WordHides$Search", "WordHides$Search"), (19, 0, 5, "WordHides$Text", "WordHides$Text"), (190, 5, 2, "WordHides", "WordHides$GoodSearch"), (192, 8, 2, "WordHides", "WordHides$GoodSearch"), (195, 9, 2, "WordHides", "WordHides$GoodSearch"), (20, 3, 8, "WordHidesModel", "WordHidesModel"), (200, 2, 0, "WordHides", "WordHides$Board"), (21, 5, 1, "WordHides$Search", "WordHides$Search"), (21, 5, 2, "WordHides$Search", "WordHides$Search"), (210, 6, 1, "WordHides", "WordHides$CrossedSearch"), (214, 6, 2, "WordHides", "WordHides$GoodSearch"), (22, 1, 3, "WordHides$Lattice", "WordHides$Lattice"), (23, 1, 4, "WordHides$GoodSearch", "WordHides$Square"), (23, 5, 8, "WordHidesModel", "WordHidesModel"), (24, 2, 0, "WordHides$Board", "WordHides$Board"), (25, 2, 3, "WordHides$Lattice", "WordHides$Lattice"), (25, 6, 1, "WordHides$Search", "WordHides$Search"), (25, 6, 2, "WordHides$Search", "WordHides$Search"), (26, 2, 7, "WordHides", "WordHides"), (26, 5, 1, "WordHides$CrossedSearch", "WordHides$CrossedSearch")]
theorem fT1_ok : fT1.all (fun q => gF q.2.2.2.1 q.1 q.2.1 q.2.2.1 q.2.2.2.2) = true := by decide +kernel
def fT2 : List (Nat × Nat × Nat × String × String) := [(26, 6, 8, "WordHidesModel", "WordHidesModel"), (29, 0, 1, "WordHides$Search", "WordHides$Search"), (29, 0, 2, "WordHides$Search", "WordHides$Search"), (29, 11, 8, "WordHidesModel", "WordHidesModel"), (30, 3, 0, "WordHides$Board", "WordHides$Board"), (30, 3, 7, "WordHides", "WordHides"), (30, 7, 2, "WordHides$GoodSearch", "WordHides$GoodSearch"), (31, 1, 5, "WordHides$Square", "WordHides$Text"), (33, 8, 2, "WordHides$GoodSearch", "WordHides$GoodSearch"), (35, 0, 0, "WordHides$Search", "WordHides$Board"), (36, 1, 2, "WordHides$GoodSearch", "WordHides$GoodSearch"), (37, 4, 7, "WordHides", "WordHides"), (39, 0, 0, "WordHides$Board", "WordHides$Board"), (41, 1, 4, "WordHides$Search", "WordHides$Square"), (43, 3, 3, "WordHides$Square", "WordHides$Lattice"), (44, 5, 7, "WordHides", "WordHides"), (46, 0, 5, "WordHides$Square", "WordHides$Text"), (47, 0, 2, "WordHides$GoodSearch", "WordHides$GoodSearch"), (47, 4, 8, "WordHidesModel", "WordHidesModel"), (48, 1, 1, "WordHides$Search", "WordHides$Search"), (48, 1, 2, "WordHides$Search", "WordHides$Search"), (49, 1, 3, "WordHides$Square", "WordHides$Lattice"), (51, 3, 0, "WordHides$GoodSearch", "WordHides$Board"), (53, 6, 7, "WordHides", "WordHides"), (56, 4, 3, "WordHides$Square", "WordHides$Lattice")]
theorem fT2_ok : fT2.all (fun q => gF q.2.2.2.1 q.1 q.2.1 q.2.2.1 q.2.2.2.2) = true := by decide +kernel
def fT3 : List (Nat × Nat × Nat × String × String) := [(59, 5, 2, "WordHides$GoodSearch", "WordHides$GoodSearch"), (60, 7, 7, "WordHides", "WordHides"), (64, 8, 7, "WordHides", "WordHides"), (65, 1, 0, "WordHides$Search", "WordHides$Board"), (66, 2, 0, "WordHides$GoodSearch", "WordHides$Board"), (68, 0, 0, "WordHides", "WordHides$Board"), (7, 0, 8, "WordHidesModel", "WordHidesModel"), (7, 1, 5, "WordHides$Text", "WordHides$Text"), (7, 7, 1, "WordHides$CrossedSearch", "WordHides$CrossedSearch"), (70, 1, 6, "WordHides$GoodSearch", "WordHides$TextList"), (71, 1, 4, "WordHides", "WordHides$Square"), (74, 0, 3, "WordHides", "WordHides$Lattice"), (75, 0, 6, "WordHides$GoodSearch", "WordHides$TextList"), (82, 2, 3, "WordHides$Search", "WordHides$Lattice"), (83, 1, 0, "WordHides$GoodSearch", "WordHides$Board"), (9, 0, 4, "WordHides$Square", "WordHides$Square"), (9, 2, 1, "WordHides$Search", "WordHides$Search"), (9, 2, 2, "WordHides$Search", "WordHides$Search"), (9, 3, 3, "WordHides$Lattice", "WordHides$Lattice"), (9, 9, 2, "WordHides$GoodSearch", "WordHides$GoodSearch"), (90, 0, 4, "WordHides", "WordHides$Square"), (91, 1, 5, "WordHides$Search", "WordHides$Text"), (94, 1, 5, "WordHides", "WordHides$Text"), (99, 12, 8, "WordHidesModel", "WordHidesModel")]
theorem fT3_ok : fT3.all (fun q => gF q.2.2.2.1 q.1 q.2.1 q.2.2.1 q.2.2.2.2) = true := by decide +kernel
def fT : List (Nat × Nat × Nat × String × String) := fT0 ++ (fT1 ++ (fT2 ++ (fT3)))
theorem fT_ok : ∀ q ∈ fT, (fun q => gF q.2.2.2.1 q.1 q.2.1 q.2.2.1 q.2.2.2.2) q = true := List.forall_mem_append.mpr ⟨List.all_eq_true.mp fT0_ok, List.forall_mem_append.mpr ⟨List.all_eq_true.mp fT1_ok, List.forall_mem_append.mpr ⟨List.all_eq_true.mp fT2_ok, List.all_eq_true.mp fT3_ok⟩⟩⟩
def inF (own : String) (idx j ci : Nat) (rf : String) : Bool := decide ((idx, j, ci, own, rf) ∈ fT)
theorem inF_at {own : String} {idx j ci : Nat} {rf : String} (h : inF own idx j ci rf = true) : gF own idx j ci rf = true := fT_ok _ (of_decide_eq_true h)
def pT0 : List (Nat × Nat × Nat × String × String) := [(0, 0, 2, "WordHides$Board", "<init>"), (0, 1, 2, "WordHides$Search", "<init>"), (0, 2, 2, "WordHides$Search", "<init>"), (0, 3, 0, "WordHides$Lattice", "<init>"), (0, 4, 2, "WordHides$Square", "<init>"), (0, 5, 2, "WordHides$Text", "<init>"), (0, 6, 2, "WordHides$TextList", "<init>"), (0, 7, 2, "WordHides", "<init>"), (0, 8, 2, "WordHidesModel", "<init>"), (1, 0, 2, "WordHides$Board", "<init>"), (1, 1, 2, "WordHides$Search", "<init>"), (1, 2, 2, "WordHides$Search", "<init>"), (1, 3, 0, "WordHides$Lattice", "<init>"), (1, 4, 2, "WordHides$Square", "<init>"), (1, 4, 2, "WordHides$Square", "clear"), (1, 4, 2, "WordHides$Square", "copyFrom"), (1, 5, 0, "WordHides", "fill"), (1, 5, 0, "WordHides", "take"), (1, 5, 0, "WordHides", "wipe"), (1, 5, 0, "WordHides$Text", "<init>"), (1, 5, 0, "WordHides$Text", "append"), (1, 5, 0, "WordHides$Text", "copyFrom"), (1, 6, 0, "WordHides", "drop"), (1, 6, 0, "WordHides$TextList", "<init>"), (1, 6, 0, "WordHides$TextList", "append")]
theorem pT0_ok : pT0.all (fun q => gP q.2.2.2.1 q.2.2.2.2 q.1 q.2.1 q.2.2.1) = true := by decide +kernel
def pT1 : List (Nat × Nat × Nat × String × String) := [(1, 6, 0, "WordHides$TextList", "copyFrom"), (1, 7, 2, "WordHides", "<init>"), (1, 8, 2, "WordHidesModel", "<init>"), (10, 8, 0, "WordHidesModel", "goThrough"), (10, 8, 0, "WordHidesModel", "see"), (11, 8, 2, "WordHidesModel", "<init>"), (12, 8, 1, "WordHidesModel", "goThrough"), (2, 0, 2, "WordHides$Board", "<init>"), (2, 1, 2, "WordHides$Search", "<init>"), (2, 2, 2, "WordHides$Search", "<init>"), (2, 3, 0, "WordHides$Lattice", "<init>"), (2, 7, 2, "WordHides", "<init>"), (2, 8, 2, "WordHidesModel", "<init>"), (3, 0, 2, "WordHides$Board", "<init>"), (3, 1, 2, "WordHides$Search", "<init>"), (3, 2, 2, "WordHides$Search", "<init>"), (3, 3, 2, "WordHides$Lattice", "<init>"), (3, 7, 2, "WordHides", "<init>"), (3, 8, 2, "WordHidesModel", "<init>"), (4, 1, 2, "WordHides$Search", "<init>"), (4, 2, 2, "WordHides$Search", "<init>"), (4, 3, 2, "WordHides$Lattice", "<init>"), (4, 7, 2, "WordHides", "<init>"), (4, 8, 0, "WordHidesModel", "fill"), (4, 8, 0, "WordHidesModel", "say")]
theorem pT1_ok : pT1.all (fun q => gP q.2.2.2.1 q.2.2.2.2 q.1 q.2.1 q.2.2.1) = true := by decide +kernel
def pT2 : List (Nat × Nat × Nat × String × String) := [(4, 8, 0, "WordHidesModel", "take"), (4, 8, 0, "WordHidesModel", "takeRest"), (4, 8, 0, "WordHidesModel", "wipe"), (5, 1, 0, "WordHides$CrossedSearch", "meetLaying"), (5, 1, 0, "WordHides$Search", "<init>"), (5, 1, 0, "WordHides$Search", "look"), (5, 2, 0, "WordHides$GoodSearch", "meetLaying"), (5, 2, 0, "WordHides$Search", "<init>"), (5, 2, 0, "WordHides$Search", "look"), (5, 7, 2, "WordHides", "<init>"), (5, 8, 2, "WordHidesModel", "<init>"), (6, 1, 1, "WordHides", "forgetLayings"), (6, 1, 1, "WordHides$Search", "<init>"), (6, 1, 1, "WordHides$Search", "look"), (6, 2, 1, "WordHides", "forgetLayings"), (6, 2, 1, "WordHides$Search", "<init>"), (6, 2, 1, "WordHides$Search", "look"), (6, 7, 2, "WordHides", "<init>"), (6, 8, 2, "WordHidesModel", "<init>"), (7, 1, 0, "WordHides$CrossedSearch", "<init>"), (7, 1, 0, "WordHides$CrossedSearch", "meetLaying"), (7, 2, 2, "WordHides$GoodSearch", "<init>"), (7, 7, 2, "WordHides", "<init>"), (7, 8, 0, "WordHidesModel", "goThrough"), (7, 8, 0, "WordHidesModel", "see")]
theorem pT2_ok : pT2.all (fun q => gP q.2.2.2.1 q.2.2.2.2 q.1 q.2.1 q.2.2.1) = true := by decide +kernel
def pT3 : List (Nat × Nat × Nat × String × String) := [(8, 1, 0, "WordHides$CrossedSearch", "<init>"), (8, 1, 0, "WordHides$CrossedSearch", "meetLaying"), (8, 2, 2, "WordHides$GoodSearch", "<init>"), (8, 7, 0, "WordHides", "<init>"), (8, 7, 0, "WordHides", "image"), (8, 8, 0, "WordHidesModel", "goThrough"), (8, 8, 0, "WordHidesModel", "see"), (9, 2, 0, "WordHides$GoodSearch", "<init>"), (9, 2, 0, "WordHides$GoodSearch", "meetLaying"), (9, 8, 0, "WordHidesModel", "goThrough"), (9, 8, 0, "WordHidesModel", "see")]
theorem pT3_ok : pT3.all (fun q => gP q.2.2.2.1 q.2.2.2.2 q.1 q.2.1 q.2.2.1) = true := by decide +kernel
def pT : List (Nat × Nat × Nat × String × String) := pT0 ++ (pT1 ++ (pT2 ++ (pT3)))
theorem pT_ok : ∀ q ∈ pT, (fun q => gP q.2.2.2.1 q.2.2.2.2 q.1 q.2.1 q.2.2.1) q = true := List.forall_mem_append.mpr ⟨List.all_eq_true.mp pT0_ok, List.forall_mem_append.mpr ⟨List.all_eq_true.mp pT1_ok, List.forall_mem_append.mpr ⟨List.all_eq_true.mp pT2_ok, List.all_eq_true.mp pT3_ok⟩⟩⟩
def inP (own nm : String) (j ci kd : Nat) : Bool := decide ((j, ci, kd, own, nm) ∈ pT)
theorem inP_at {own nm : String} {j ci kd : Nat} (h : inP own nm j ci kd = true) : gP own nm j ci kd = true := pT_ok _ (of_decide_eq_true h)
def uT0 : List (Nat × Nat × Nat × String) := [(1, 1, 16, "WordHides$CrossedSearch"), (11, 1, 9, "WordHides"), (12, 0, 64, "WordHidesLaw"), (15, 1, 36, "WordHides$Board"), (21, 1, 32, "WordHides$TextList"), (23, 1, 0, "WordHides"), (27, 1, 21, "WordHides$GoodSearch"), (29, 1, 32, "WordHides$Board"), (3, 1, 16, "WordHides$GoodSearch"), (36, 1, 21, "WordHides$Board"), (36, 1, 32, "WordHides"), (43, 1, 21, "WordHides"), (45, 1, 21, "WordHides$Search"), (50, 1, 2, "WordHides"), (59, 1, 5, "WordHides"), (9, 0, 40, "WordHidesLaw")]
theorem uT0_ok : uT0.all (fun q => gSp q.2.2.2 q.1 q.2.1 q.2.2.1) = true := by decide +kernel
def uT : List (Nat × Nat × Nat × String) := uT0
theorem uT_ok : ∀ q ∈ uT, (fun q => gSp q.2.2.2 q.1 q.2.1 q.2.2.1) q = true := List.all_eq_true.mp uT0_ok
def inSp (own : String) (idx a M' : Nat) : Bool := decide ((idx, a, M', own) ∈ uT)
theorem inSp_at {own : String} {idx a M' : Nat} (h : inSp own idx a M' = true) : gSp own idx a M' = true := uT_ok _ (of_decide_eq_true h)
def sT0 : List (Nat × Nat × Nat × String) := [(151, 1, 119, "WordHides"), (164, 1, 61, "WordHides"), (19, 2, 122, "WordHides$Square"), (20, 1, 119, "WordHides$CrossedSearch"), (36, 3, 65, "WordHidesModel"), (44, 1, 68, "WordHidesModel"), (55, 2, 122, "WordHides$Search"), (59, 1, 119, "WordHides$Square"), (61, 2, 18, "WordHides$Search"), (66, 1, 83, "WordHidesModel"), (70, 1, 84, "WordHidesModel"), (87, 1, 60, "WordHides")]
theorem sT0_ok : sT0.all (fun q => gSt q.2.2.2 q.1 q.2.1 q.2.2.1) = true := by decide +kernel
def sT : List (Nat × Nat × Nat × String) := sT0
theorem sT_ok : ∀ q ∈ sT, (fun q => gSt q.2.2.2 q.1 q.2.1 q.2.2.1) q = true := List.all_eq_true.mp sT0_ok
def inSt (own : String) (idx a M' : Nat) : Bool := decide ((idx, a, M', own) ∈ sT)
theorem inSt_at {own : String} {idx a M' : Nat} (h : inSt own idx a M' = true) : gSt own idx a M' = true := sT_ok _ (of_decide_eq_true h)
def vT0 : List (Nat × Nat × Nat × Nat × String × MethodName × String) := [(100, 2, 4, 25, "WordHides$Search", ⟨"WordHides$Square", "lay", "(LWordHides$Text;I)I"⟩, ""), (103, 0, 8, 110, "WordHidesModel", ⟨"WordHidesModel", "isGood", "()Z"⟩, ""), (104, 1, 4, 26, "WordHides$Search", ⟨"WordHides$Square", "lift", "(I)V"⟩, ""), (106, 1, 7, 62, "WordHides", ⟨"WordHides", "listOf", "(I)LWordHides$TextList;"⟩, ""), (110, 3, 8, 100, "WordHidesModel", ⟨"WordHidesModel", "keep", "(III)V"⟩, ""), (114, 0, 8, 98, "WordHidesModel", ⟨"WordHidesModel", "crossed", "()I"⟩, ""), (116, 1, 5, 34, "WordHides", ⟨"WordHides$Text", "copyFrom", "(LWordHides$Text;)V"⟩, ""), (120, 1, 6, 38, "WordHides", ⟨"WordHides$TextList", "append", "(LWordHides$Text;)I"⟩, ""), (126, 1, 8, 90, "WordHidesModel", ⟨"WordHidesModel", "placesOf", "(I)I"⟩, ""), (129, 1, 6, 37, "WordHides", ⟨"WordHides$TextList", "find", "(I)LWordHides$Text;"⟩, ""), (129, 2, 8, 91, "WordHidesModel", ⟨"WordHidesModel", "layStep", "(II)Z"⟩, ""), (13, 1, 7, 41, "WordHidesLaw", ⟨"WordHides", "side", "(I)I"⟩, ""), (132, 2, 8, 103, "WordHidesModel", ⟨"WordHidesModel", "goLast", "(II)V"⟩, ""), (133, 2, 4, 28, "WordHides", ⟨"WordHides$Square", "standing", "(LWordHides$Text;I)I"⟩, ""), (136, 3, 8, 101, "WordHidesModel", ⟨"WordHidesModel", "see", "(III)V"⟩, ""), (139, 1, 8, 102, "WordHidesModel", ⟨"WordHidesModel", "goThrough", "(Z)V"⟩, ""), (141, 1, 3, 13, "WordHides", ⟨"WordHides$Lattice", "hasPlace", "(I)Z"⟩, ""), (143, 2, 8, 104, "WordHidesModel", ⟨"WordHidesModel", "placeTold", "(IZ)I"⟩, ""), (144, 2, 4, 24, "WordHides", ⟨"WordHides$Square", "accepts", "(LWordHides$Text;I)Z"⟩, ""), (147, 3, 8, 106, "WordHidesModel", ⟨"WordHidesModel", "areNone", "(III)Z"⟩, ""), (148, 2, 4, 25, "WordHides", ⟨"WordHides$Square", "lay", "(LWordHides$Text;I)I"⟩, ""), (150, 0, 8, 99, "WordHidesModel", ⟨"WordHidesModel", "covered", "()I"⟩, ""), (153, 0, 8, 108, "WordHidesModel", ⟨"WordHidesModel", "fillRest", "()I"⟩, ""), (156, 3, 8, 93, "WordHidesModel", ⟨"WordHidesModel", "timesIn", "(III)I"⟩, ""), (159, 1, 8, 109, "WordHidesModel", ⟨"WordHidesModel", "isSame", "(I)Z"⟩, "")]
theorem vT0_ok : vT0.all (fun q => gVi q.2.2.2.2.1 q.1 q.2.1 q.2.2.1 q.2.2.2.1 q.2.2.2.2.2.1 q.2.2.2.2.2.2) = true := by decide +kernel
def vT1 : List (Nat × Nat × Nat × Nat × String × MethodName × String) := [(160, 2, 3, 14, "WordHides", ⟨"WordHides$Lattice", "holds", "(II)Z"⟩, ""), (162, 0, 8, 111, "WordHidesModel", ⟨"WordHidesModel", "fillFirst", "()I"⟩, ""), (165, 0, 8, 116, "WordHidesModel", ⟨"WordHidesModel", "empties", "()I"⟩, ""), (167, 0, 1, 17, "WordHides", ⟨"WordHides$CrossedSearch", "look", "()V"⟩, "WordHides$Search"), (168, 0, 8, 117, "WordHidesModel", ⟨"WordHidesModel", "letters", "()I"⟩, ""), (17, 1, 8, 73, "WordHidesLaw", ⟨"WordHidesModel", "side", "(I)I"⟩, ""), (173, 1, 1, 20, "WordHides", ⟨"WordHides$CrossedSearch", "firstPlace", "(I)I"⟩, "WordHides$Search"), (18, 2, 7, 42, "WordHidesLaw", ⟨"WordHides", "set", "(II)I"⟩, ""), (182, 1, 4, 23, "WordHides", ⟨"WordHides$Square", "copyFrom", "(LWordHides$Square;)V"⟩, ""), (185, 2, 3, 15, "WordHides", ⟨"WordHides$Lattice", "cellSet", "(II)I"⟩, ""), (189, 0, 2, 17, "WordHides", ⟨"WordHides$GoodSearch", "look", "()V"⟩, "WordHides$Search"), (191, 1, 2, 20, "WordHides", ⟨"WordHides$GoodSearch", "firstPlace", "(I)I"⟩, "WordHides$Search"), (198, 1, 0, 1, "WordHides", ⟨"WordHides$Board", "copyFrom", "(LWordHides$Board;)V"⟩, ""), (203, 0, 4, 30, "WordHides", ⟨"WordHides$Square", "emptyCells", "()I"⟩, ""), (207, 0, 4, 31, "WordHides", ⟨"WordHides$Square", "unlikeLetters", "()I"⟩, ""), (22, 2, 8, 74, "WordHidesLaw", ⟨"WordHidesModel", "set", "(II)I"⟩, ""), (23, 1, 7, 43, "WordHidesLaw", ⟨"WordHides", "at", "(I)I"⟩, ""), (24, 1, 5, 34, "WordHides$TextList", ⟨"WordHides$Text", "copyFrom", "(LWordHides$Text;)V"⟩, ""), (26, 1, 8, 75, "WordHidesLaw", ⟨"WordHidesModel", "at", "(I)I"⟩, ""), (27, 1, 7, 44, "WordHidesLaw", ⟨"WordHides", "say", "(I)I"⟩, ""), (29, 0, 1, 19, "WordHides$CrossedSearch", ⟨"WordHides$CrossedSearch", "keepPlaces", "()V"⟩, "WordHides$Search"), (30, 1, 8, 76, "WordHidesLaw", ⟨"WordHidesModel", "say", "(I)I"⟩, ""), (31, 0, 7, 45, "WordHidesLaw", ⟨"WordHides", "wipe", "()I"⟩, ""), (32, 0, 8, 66, "WordHidesModel", ⟨"WordHidesModel", "cells", "()I"⟩, ""), (34, 2, 3, 10, "WordHides$Lattice", ⟨"WordHides$Lattice", "measureReaches", "(II)V"⟩, "")]
theorem vT1_ok : vT1.all (fun q => gVi q.2.2.2.2.1 q.1 q.2.1 q.2.2.1 q.2.2.2.1 q.2.2.2.2.2.1 q.2.2.2.2.2.2) = true := by decide +kernel
def vT2 : List (Nat × Nat × Nat × Nat × String × MethodName × String) := [(35, 0, 8, 77, "WordHidesLaw", ⟨"WordHidesModel", "wipe", "()I"⟩, ""), (36, 1, 7, 46, "WordHidesLaw", ⟨"WordHides", "take", "(I)I"⟩, ""), (37, 2, 3, 14, "WordHides$Square", ⟨"WordHides$Lattice", "holds", "(II)Z"⟩, ""), (38, 2, 3, 11, "WordHides$Lattice", ⟨"WordHides$Lattice", "runOf", "(II)I"⟩, ""), (39, 1, 2, 8, "WordHides$GoodSearch", ⟨"WordHides$GoodSearch", "isSpoiled", "(LWordHides$Square;)Z"⟩, ""), (39, 1, 8, 79, "WordHidesLaw", ⟨"WordHidesModel", "take", "(I)I"⟩, ""), (40, 1, 7, 47, "WordHidesLaw", ⟨"WordHides", "drop", "(I)I"⟩, ""), (40, 1, 8, 67, "WordHidesModel", ⟨"WordHidesModel", "isCell", "(I)Z"⟩, ""), (43, 1, 4, 23, "WordHides$GoodSearch", ⟨"WordHides$Square", "copyFrom", "(LWordHides$Square;)V"⟩, ""), (43, 1, 5, 33, "WordHides$Board", ⟨"WordHides$Text", "append", "(I)V"⟩, ""), (43, 1, 8, 80, "WordHidesLaw", ⟨"WordHidesModel", "drop", "(I)I"⟩, ""), (44, 0, 7, 48, "WordHidesLaw", ⟨"WordHides", "fill", "()I"⟩, ""), (46, 1, 4, 23, "WordHides$Board", ⟨"WordHides$Square", "copyFrom", "(LWordHides$Square;)V"⟩, ""), (47, 0, 8, 81, "WordHidesLaw", ⟨"WordHidesModel", "fill", "()I"⟩, ""), (47, 1, 3, 13, "WordHides$Lattice", ⟨"WordHides$Lattice", "hasPlace", "(I)Z"⟩, ""), (48, 3, 7, 49, "WordHidesLaw", ⟨"WordHides", "letter", "(III)I"⟩, ""), (50, 1, 6, 39, "WordHides$Board", ⟨"WordHides$TextList", "copyFrom", "(LWordHides$TextList;)V"⟩, ""), (51, 0, 8, 78, "WordHidesModel", ⟨"WordHidesModel", "takeRest", "()I"⟩, ""), (51, 1, 4, 23, "WordHides$Search", ⟨"WordHides$Square", "copyFrom", "(LWordHides$Square;)V"⟩, ""), (52, 2, 4, 29, "WordHides$Square", ⟨"WordHides$Square", "showsAt", "(LWordHides$Text;I)Z"⟩, ""), (52, 3, 8, 82, "WordHidesLaw", ⟨"WordHidesModel", "letter", "(III)I"⟩, ""), (53, 1, 5, 34, "WordHides$Board", ⟨"WordHides$Text", "copyFrom", "(LWordHides$Text;)V"⟩, ""), (53, 3, 7, 50, "WordHidesLaw", ⟨"WordHides", "stands", "(III)I"⟩, ""), (54, 2, 8, 70, "WordHidesModel", ⟨"WordHidesModel", "isWord", "(II)Z"⟩, ""), (55, 1, 4, 27, "WordHides$GoodSearch", ⟨"WordHides$Square", "pour", "(LWordHides$Text;)I"⟩, "")]
theorem vT2_ok : vT2.all (fun q => gVi q.2.2.2.2.1 q.1 q.2.1 q.2.2.1 q.2.2.2.1 q.2.2.2.2.2.1 q.2.2.2.2.2.2) = true := by decide +kernel
def vT3 : List (Nat × Nat × Nat × Nat × String × MethodName × String) := [(56, 3, 8, 94, "WordHidesLaw", ⟨"WordHidesModel", "stands", "(III)I"⟩, ""), (57, 2, 7, 51, "WordHidesLaw", ⟨"WordHides", "put", "(II)I"⟩, ""), (58, 2, 8, 71, "WordHidesModel", ⟨"WordHidesModel", "longOf", "(II)I"⟩, ""), (60, 2, 8, 96, "WordHidesLaw", ⟨"WordHidesModel", "put", "(II)I"⟩, ""), (61, 2, 7, 52, "WordHidesLaw", ⟨"WordHides", "fits", "(II)I"⟩, ""), (62, 0, 2, 19, "WordHides$GoodSearch", ⟨"WordHides$GoodSearch", "keepPlaces", "()V"⟩, "WordHides$Search"), (62, 3, 8, 72, "WordHidesModel", ⟨"WordHidesModel", "letterOf", "(III)I"⟩, ""), (64, 2, 8, 97, "WordHidesLaw", ⟨"WordHidesModel", "fits", "(II)I"⟩, ""), (65, 1, 7, 53, "WordHidesLaw", ⟨"WordHides", "most", "(I)I"⟩, ""), (68, 1, 8, 105, "WordHidesLaw", ⟨"WordHidesModel", "most", "(I)I"⟩, ""), (69, 1, 6, 37, "WordHides$Search", ⟨"WordHides$TextList", "find", "(I)LWordHides$Text;"⟩, ""), (69, 3, 7, 54, "WordHidesLaw", ⟨"WordHides", "covers", "(III)I"⟩, ""), (72, 3, 8, 107, "WordHidesLaw", ⟨"WordHidesModel", "covers", "(III)I"⟩, ""), (73, 1, 7, 55, "WordHidesLaw", ⟨"WordHides", "good", "(I)I"⟩, ""), (73, 2, 8, 85, "WordHidesModel", ⟨"WordHidesModel", "cellAt", "(II)I"⟩, ""), (75, 0, 1, 4, "WordHides$Search", ⟨"WordHides$Search", "meetLaying", "()V"⟩, "WordHides$Search"), (75, 0, 2, 7, "WordHides$Search", ⟨"WordHides$Search", "meetLaying", "()V"⟩, "WordHides$Search"), (76, 1, 8, 112, "WordHidesLaw", ⟨"WordHidesModel", "good", "(I)I"⟩, ""), (76, 2, 8, 86, "WordHidesModel", ⟨"WordHidesModel", "canLie", "(II)Z"⟩, ""), (77, 0, 7, 56, "WordHidesLaw", ⟨"WordHides", "hide", "()I"⟩, ""), (77, 1, 4, 22, "WordHides", ⟨"WordHides$Square", "clear", "(LWordHides$Lattice;)V"⟩, ""), (78, 0, 1, 3, "WordHides$Search", ⟨"WordHides$Search", "hasHope", "()Z"⟩, "WordHides$Search"), (78, 0, 2, 6, "WordHides$Search", ⟨"WordHides$Search", "hasHope", "()Z"⟩, "WordHides$Search"), (79, 1, 8, 88, "WordHidesModel", ⟨"WordHidesModel", "copyStep", "(I)V"⟩, ""), (79, 2, 4, 28, "WordHides$GoodSearch", ⟨"WordHides$Square", "standing", "(LWordHides$Text;I)I"⟩, "")]
theorem vT3_ok : vT3.all (fun q => gVi q.2.2.2.2.1 q.1 q.2.1 q.2.2.1 q.2.2.2.1 q.2.2.2.2.2.1 q.2.2.2.2.2.2) = true := by decide +kernel
def vT4 : List (Nat × Nat × Nat × Nat × String × MethodName × String) := [(80, 0, 7, 63, "WordHides", ⟨"WordHides", "forgetLayings", "()V"⟩, ""), (80, 0, 8, 113, "WordHidesLaw", ⟨"WordHidesModel", "hide", "()I"⟩, ""), (81, 1, 7, 57, "WordHidesLaw", ⟨"WordHides", "image", "(I)I"⟩, ""), (83, 1, 3, 12, "WordHides", ⟨"WordHides$Lattice", "hasCell", "(I)Z"⟩, ""), (83, 2, 8, 89, "WordHidesModel", ⟨"WordHidesModel", "layWord", "(II)Z"⟩, ""), (84, 1, 8, 114, "WordHidesLaw", ⟨"WordHidesModel", "image", "(I)I"⟩, ""), (85, 1, 7, 58, "WordHidesLaw", ⟨"WordHides", "restore", "(I)I"⟩, ""), (86, 0, 5, 35, "WordHides$GoodSearch", ⟨"WordHides$Text", "isSameFromEnd", "()Z"⟩, ""), (86, 4, 8, 92, "WordHidesModel", ⟨"WordHidesModel", "standsIn", "(IIII)Z"⟩, ""), (87, 2, 4, 24, "WordHides$Search", ⟨"WordHides$Square", "accepts", "(LWordHides$Text;I)Z"⟩, ""), (88, 1, 8, 115, "WordHidesLaw", ⟨"WordHidesModel", "restore", "(I)I"⟩, ""), (89, 1, 7, 59, "WordHidesLaw", ⟨"WordHides", "count", "(I)I"⟩, ""), (90, 0, 8, 87, "WordHidesModel", ⟨"WordHidesModel", "begin", "()V"⟩, ""), (92, 1, 8, 118, "WordHidesLaw", ⟨"WordHidesModel", "count", "(I)I"⟩, ""), (93, 1, 8, 69, "WordHidesModel", ⟨"WordHidesModel", "isPlace", "(I)Z"⟩, ""), (96, 2, 3, 15, "WordHides$Search", ⟨"WordHides$Lattice", "cellSet", "(II)I"⟩, ""), (96, 2, 8, 95, "WordHidesModel", ⟨"WordHidesModel", "canPut", "(II)Z"⟩, ""), (97, 1, 5, 33, "WordHides", ⟨"WordHides$Text", "append", "(I)V"⟩, "")]
theorem vT4_ok : vT4.all (fun q => gVi q.2.2.2.2.1 q.1 q.2.1 q.2.2.1 q.2.2.2.1 q.2.2.2.2.2.1 q.2.2.2.2.2.2) = true := by decide +kernel
def vT : List (Nat × Nat × Nat × Nat × String × MethodName × String) := vT0 ++ (vT1 ++ (vT2 ++ (vT3 ++ (vT4))))
theorem vT_ok : ∀ q ∈ vT, (fun q => gVi q.2.2.2.2.1 q.1 q.2.1 q.2.2.1 q.2.2.2.1 q.2.2.2.2.2.1 q.2.2.2.2.2.2) q = true := List.forall_mem_append.mpr ⟨List.all_eq_true.mp vT0_ok, List.forall_mem_append.mpr ⟨List.all_eq_true.mp vT1_ok, List.forall_mem_append.mpr ⟨List.all_eq_true.mp vT2_ok, List.forall_mem_append.mpr ⟨List.all_eq_true.mp vT3_ok, List.all_eq_true.mp vT4_ok⟩⟩⟩⟩
def inVi (own : String) (idx a ci M' : Nat) (x : MethodName) (rf : String) : Bool := decide ((idx, a, ci, M', own, x, rf) ∈ vT)
theorem inVi_at {own : String} {idx a ci M' : Nat} {x : MethodName} {rf : String} (h : inVi own idx a ci M' x rf = true) : gVi own idx a ci M' x rf = true := vT_ok _ (of_decide_eq_true h)
end
section
/-! what is looked at in each entry, by a program -/
def lnOf (i : Instr) : Nat := match i with
  | .bipush _ => 2
  | .iload _ => 2
  | .aload _ => 2
  | .istore _ => 2
  | .astore _ => 2
  | .newarray _ => 2
  | .sipush _ => 3
  | .ldc_w _ => 3
  | .getstatic _ => 3
  | .getfield _ => 3
  | .putfield _ => 3
  | .if_icmp _ _ => 3
  | .ifCond _ _ => 3
  | .ifnull _ => 3
  | .ifnonnull _ => 3
  | .goto _ => 3
  | .iinc _ _ => 3
  | .anewarray _ => 3
  | .new _ => 3
  | .invokevirtual _ => 3
  | .invokespecial _ => 3
  | .invokestatic _ => 3
  | _ => 1
def lnE (e : wE) : Nat := match e.2.1 with
  | .tableswitch _ _ _ _ => e.2.2.1
  | i => lnOf i
def gX (J : wM) (e : wE) : Bool := match e with
  | (pc, i, _, (a, b, c, d, f), x, rf) => match i with
    | .if_icmp _ off => decide ((pc : Int) + off = (a : Int))
    | .ifCond _ off => decide ((pc : Int) + off = (a : Int))
    | .goto off => decide ((pc : Int) + off = (a : Int))
    | .ifnull off => decide ((pc : Int) + off = (a : Int))
    | .ifnonnull off => decide ((pc : Int) + off = (a : Int))
    | .ldc_w idx => inT (Jvm.Cond.constant J.1.cls idx (Int32.ofNat a))
    | .getfield idx => inF J.1.cls idx a b rf && inF J.1.cls idx a c rf
    | .putfield idx => inF J.1.cls idx a b rf && (inF J.1.cls idx a c rf && (inP J.1.cls J.1.name a b d && inP J.1.cls J.1.name a c d))
    | .getstatic idx => decide (stNames[a]? = some x.name) && (inT (Jvm.Cond.fieldLink J.1.cls idx "WordHides" x.name "[I") || decide ((J.1.cls, idx, x.name) ∈ xF))
    | .newarray .int => inT (Jvm.Cond.arrayClass .int)
    | .newarray .boolean => inT (Jvm.Cond.arrayClass .boolean)
    | .anewarray idx => (match vwCl[a]? with
      | some r => inT (Jvm.Cond.classLink J.1.cls idx r.1) && decide (r.1 ∈ xA)
      | none => false)
    | .new idx => (match vwCl[a]? with
      | some r => inT (Jvm.Cond.classLink J.1.cls idx r.1)
      | none => false)
    | .invokespecial idx => if f = 1 then inT (Jvm.Cond.methodLink J.1.cls idx Lib.objectInit) && (inT (Jvm.Cond.instanceMethod Lib.objectInit) && inT (Jvm.Cond.code Lib.objectInit ⟨#[0xb1]⟩ 1 none)) else inSp J.1.cls idx a c
    | .invokestatic idx => if f = 1 then inT (Jvm.Cond.methodLink J.1.cls idx arraycopyName) && (inT (Jvm.Cond.native arraycopyName) && (inT (Jvm.Cond.static arraycopyName) && inT (Jvm.Cond.initialized "java/lang/System"))) else if f = 2 then inT (Jvm.Cond.methodLink J.1.cls idx Lib.Math.max.name) && (inT (Jvm.Cond.static Lib.Math.max.name) && (inT (Jvm.Cond.initialized "java/lang/Math") && inT (Jvm.Cond.code Lib.Math.max.name Lib.Math.max.code 2 (some .int)))) else if f = 3 then inT (Jvm.Cond.methodLink J.1.cls idx Lib.Math.min.name) && (inT (Jvm.Cond.static Lib.Math.min.name) && (inT (Jvm.Cond.initialized "java/lang/Math") && inT (Jvm.Cond.code Lib.Math.min.name Lib.Math.min.code 2 (some .int)))) else inSt J.1.cls idx a c
    | .invokevirtual idx => inVi J.1.cls idx a b c x rf && inVi J.1.cls idx a d f x rf
    | .ireturn => if a = 1 then decide (J.2.2.2.1 = some .boolean) else decide (J.2.2.2.1 = some .int)
    | .areturn => (match J.2.2.2.1 with
      | some (.object _) => true
      | _ => false)
    | .return_ => decide (J.2.2.2.1 = none)
    | _ => true
def goodE (J : wM) (e : wE) : Bool := decide (decode J.2.1 e.1 = .ok (e.2.1, lnE e)) && gX J e
/-! heaps only grow -/
theorem mono_all {e : wE} {ls st : List Value} {h : aH} {k : aK} (hp : aplain e ls st h = some k) : h.length ≤ k.2.2.2.length ∧ asl h ≤ asl k.2.2.2 := by
  have same : ∀ {k : aK}, k.2.2.2 = h → h.length ≤ k.2.2.2.length ∧ asl h ≤ asl k.2.2.2 := fun hk => by rw [hk]; exact ⟨Nat.le_refl _, Nat.le_refl _⟩
  have sets : ∀ {k : aK} {a : Nat} {c c' : aC}, h[a]? = some c → acs c' = acs c → k.2.2.2 = h.set a c' → h.length ≤ k.2.2.2.length ∧ asl h ≤ asl k.2.2.2 := fun ha hc hk => by rw [hk, asl_set ha hc, List.length_set]; exact ⟨Nat.le_refl _, Nat.le_refl _⟩
  have app : ∀ {k : aK} {c : aC}, k.2.2.2 = h ++ [c] → h.length ≤ k.2.2.2.length ∧ asl h ≤ asl k.2.2.2 := fun hk => by rw [hk, asl_app, List.length_append]; exact ⟨Nat.le_add_right _ _, Nat.le_add_right _ _⟩
  obtain ⟨pc, i, ln, ⟨a, b, c, d, f⟩, x, rf⟩ := e
  unfold aplain at hp
  simp only at hp
  split at hp
  all_goals first
    | (obtain ⟨a, r, ci, fs, v, -, ha, hc, hv, rfl⟩ := k_getf_inv hp; exact same rfl)
    | (obtain ⟨v, a, r, ci, fs, -, ha, hc, rfl⟩ := k_putf_inv hp; exact sets ha (by simp [acs]) rfl)
    | (obtain ⟨i, a, r, z, xs, x, -, ha, hc, hxs, rfl⟩ := k_iald_inv hp; exact same rfl)
    | (obtain ⟨i, a, r, z, xs, x, -, ha, hc, hxs, rfl⟩ := k_zald_inv hp; exact same rfl)
    | (obtain ⟨x, i, a, r, z, xs, -, ha, hc, rfl⟩ := k_iast_inv hp; exact sets ha (by simp [acs]) rfl)
    | (obtain ⟨x, i, a, r, z, xs, -, ha, hc, rfl⟩ := k_zast_inv hp; exact sets ha (by simp [acs]) rfl)
    | (obtain ⟨i, a, r, z, os, o, -, ha, hi, ho, rfl⟩ := k_aald_inv hp; exact same rfl)
    | (obtain ⟨v, i, a, r, z, os, ci, fs, -, ha, hv, hc, rfl⟩ := k_aast_inv hp; exact sets ha (by simp [acs]) rfl)
    | (obtain ⟨a, r, z, xs, -, ha, rfl⟩ := k_alen_inv hp; exact same rfl)
    | (obtain ⟨n, r, -, hN, rfl⟩ := k_newa_inv hp; exact app rfl)
    | (obtain ⟨n, r, -, hN, rfl⟩ := k_newq_inv hp; exact app rfl)
    | (unfold k_new at hp; cases hp; exact app rfl)
    | (unfold k_push at hp; cases hp; exact same rfl)
    | (unfold k_iload at hp; split at hp <;> first | (cases hp; done) | (cases hp; exact same rfl))
    | (unfold k_aload at hp; split at hp <;> first | (cases hp; done) | (cases hp; exact same rfl))
    | (unfold k_istore at hp; repeat' split at hp
       all_goals first | (cases hp; done) | (cases hp; exact same rfl))
    | (unfold k_astore at hp; repeat' split at hp
       all_goals first | (cases hp; done) | (cases hp; exact same rfl))
    | (unfold k_iinc at hp; repeat' split at hp
       all_goals first | (cases hp; done) | (cases hp; exact same rfl))
    | (unfold k_bin at hp; repeat' split at hp
       all_goals first | (cases hp; done) | (cases hp; exact same rfl))
    | (unfold k_div at hp; repeat' split at hp
       all_goals first | (cases hp; done) | (cases hp; exact same rfl))
    | (unfold k_if1 at hp; split at hp <;> first | (cases hp; done) | (cases hp; exact same rfl))
    | (unfold k_if2 at hp; split at hp <;> first | (cases hp; done) | (cases hp; exact same rfl))
    | (unfold k_null at hp; split at hp <;> first | (cases hp; done) | (cases hp; exact same rfl))
    | (unfold k_dup at hp; repeat' split at hp
       all_goals first | (cases hp; done) | (cases hp; exact same rfl))
    | (unfold k_pop at hp; repeat' split at hp
       all_goals first | (cases hp; done) | (cases hp; exact same rfl))
    | (unfold k_dup2 at hp; repeat' split at hp
       all_goals first | (cases hp; done) | (cases hp; exact same rfl))
    | (unfold k_table at hp; repeat' split at hp
       all_goals first | (cases hp; done) | (cases hp; exact same rfl))
    | (cases hp; exact same rfl)
    | (split at hp
       · obtain ⟨a, r, -, hr, rfl⟩ := k_oini_inv hp; exact same rfl
       · cases hp)
    | (split at hp
       · obtain ⟨n, dp, b, sp, a, r, z, xs, u, ys, -, ha, hb, hc, rfl⟩ := k_copy_inv hp
         exact sets hb (by simp only [acs, List.length_append, List.length_take, List.length_drop]; omega) rfl
       · split at hp
         · obtain ⟨y, x, r, -, -, rfl⟩ := k_mm_inv hp; exact same rfl
         · split at hp
           · obtain ⟨y, x, r, -, -, rfl⟩ := k_mm_inv hp; exact same rfl
           · cases hp)
    | (cases hp; done)
end
section
/-! the small machine's run is the real machine's -/
section AL
variable {p : Program} {l : Launch} {e : Env} {R : Room} {s : State} {m : MethodId} {args : Array Value} {below : List Frame} {meth : Method} {c : Code} {H : Heap} {locs : List Loc} {cells slots : Nat} {Q : State → Prop}
variable {D : va_G} {t : Nat → Nat} {B : Nat} {h : aH} {arr : Array Slot} {ls st : List Value} {k : aK}
set_option maxHeartbeats 4000000 in
theorem sp_all {J : wM} {en : wE} (hx : p.tables.exec = Jvm.exec) (hb : c.code = J.2.1) (hts : ∀ w ∈ gtbl, w.before args s = true) (hown : s.vm.findClass J.1.cls = some m.cls) (hnx : aNx s) (hnm : J.1.name = "<init>" → meth.name = "<init>") (hg : goodE J en = true) (hRf : 1 ≤ R.frames) (hRl : 64 ≤ R.locals)
    (S : aSim D t B h s H) (hl : aL t B arr ls) (hn : ls.length = c.maxLocals) (hloc : ∀ q ∈ locs, B ≤ q.base) (hp : aplain en ls st h = some k) (hRc : cells + (k.2.2.2.length - h.length) ≤ R.cells) (hRs : slots + (asl k.2.2.2 - asl h) ≤ R.slots) (kk : aKK p l e R s m args below meth c Q D t B cells slots h k) : W p l e R s m args below meth c H locs cells slots Q (F0 m en.1 arr (st.map (vr t B))) := by
  obtain ⟨pc, i, ln, ⟨a, b, c', d, f⟩, x, rf⟩ := en
  simp only [goodE, Bool.and_eq_true, decide_eq_true_eq] at hg
  obtain ⟨hd, gx⟩ := hg
  cases i
  case iconst n => exact sp_push S hl hn hloc hp kk fun rest kw => lv_iconst hx hb hd rfl kw
  case bipush n => exact sp_push S hl hn hloc hp kk fun rest kw => lv_bipush hx hb hd rfl kw
  case sipush n => exact sp_push S hl hn hloc hp kk fun rest kw => lv_sipush hx hb hd rfl kw
  case ldc_w idx => exact sp_push S hl hn hloc hp kk fun rest kw => lv_ldcw hx hb hown (hts _ (inT_mem gx)) hd kw
  case aconst_null => exact sp_push S hl hn hloc hp kk fun rest kw => lv_null hx hb hd kw
  case getstatic idx =>
    simp only [gX, Bool.and_eq_true, decide_eq_true_eq, Bool.or_eq_true] at gx
    exact sp_gets hx hb hown gx.1 (gx.2.imp (fun z => hts _ (inT_mem z)) (fun z => va_Nw.use rfl (hnx.2.2 _ z))) hd S hl hn hloc hp kk
  case iload_n n => exact sp_iload S hl hn hloc hp kk fun x rest ha kw => lv_iload_n hx hb hd rfl ha kw
  case iload n => exact sp_iload S hl hn hloc hp kk fun x rest ha kw => lv_iload hx hb hd ha kw
  case aload_n n => exact sp_aload S hl hn hloc hp kk (fun x rest ha kw => lv_aload_n hx hb hd rfl ha kw) (fun rest ha kw => lv_aload_nN hx hb hd rfl ha kw)
  case aload n => exact sp_aload S hl hn hloc hp kk (fun x rest ha kw => lv_aload hx hb hd ha kw) (fun rest ha kw => lv_aloadN hx hb hd ha kw)
  case istore_n n => exact sp_istore S hl hn hloc hp kk fun x rest hi kw => lv_istore_n hx hb hd rfl hl.has hi rfl kw
  case istore n => exact sp_istore S hl hn hloc hp kk fun x rest hi kw => lv_istore hx hb hd hl.has hi rfl kw
  case astore_n n => exact sp_astore S hl hn hloc hp kk (fun x rest hi kw => lv_astore_n hx hb hd rfl hl.has hi rfl kw) (fun rest hi kw => lv_astore_nN hx hb hd rfl hl.has hi rfl kw)
  case astore n => exact sp_astore S hl hn hloc hp kk (fun x rest hi kw => lv_astore hx hb hd hl.has hi rfl kw) (fun rest hi kw => lv_astoreN hx hb hd hl.has hi rfl kw)
  case iinc n z => exact sp_iinc S hl hn hloc hp kk fun x j rest hi hj kw => lv_iinc hx hb hd hl.has hj rfl hi rfl kw
  case iadd => exact sp_bin S hl hn hloc hp kk fun x y rest kw => lv_iadd hx hb hd kw
  case isub => exact sp_bin S hl hn hloc hp kk fun x y rest kw => lv_isub hx hb hd kw
  case imul => exact sp_bin S hl hn hloc hp kk fun x y rest kw => lv_imul hx hb hd kw
  case iand => exact sp_bin S hl hn hloc hp kk fun x y rest kw => lv_iand hx hb hd kw
  case ior => exact sp_bin S hl hn hloc hp kk fun x y rest kw => lv_ior hx hb hd kw
  case ishl => exact sp_bin S hl hn hloc hp kk fun x y rest kw => lv_ishl hx hb hd kw
  case ishr => exact sp_bin S hl hn hloc hp kk fun x y rest kw => lv_ishr hx hb hd kw
  case iushr => exact sp_bin S hl hn hloc hp kk fun x y rest kw => lv_iushr hx hb hd rfl kw
  case idiv => exact sp_div S hl hn hloc hp kk fun x y rest hy kw => lv_idiv hx hb hd hy kw
  case irem => exact sp_div S hl hn hloc hp kk fun x y rest hy kw => lv_irem hx hb hd hy kw
  case if_icmp cd off =>
    have ht : (pc : Int) + off = (a : Int) := of_decide_eq_true gx
    cases cd
    case eq => exact sp_if2 S hl hn hloc hp kk fun x y rest k1 k2 => lv_icmp_eq hx hb hd ht (fun z => k1 (decide_eq_true z)) (fun z => k2 (fun w => z (of_decide_eq_true w)))
    case ne => exact sp_if2 S hl hn hloc hp kk fun x y rest k1 k2 => lv_icmp_ne hx hb hd ht (fun z => k1 (decide_eq_true z)) (fun z => k2 (fun w => (of_decide_eq_true w) z))
    case lt => exact sp_if2 S hl hn hloc hp kk fun x y rest k1 k2 => lv_icmp_lt hx hb hd ht (fun z => k1 (decide_eq_true z)) (fun z => k2 (fun w => z (of_decide_eq_true w)))
    case ge => exact sp_if2 S hl hn hloc hp kk fun x y rest k1 k2 => lv_icmp_ge hx hb hd ht (fun z => k1 (decide_eq_true z)) (fun z => k2 (fun w => z (of_decide_eq_true w)))
    case gt => exact sp_if2 S hl hn hloc hp kk fun x y rest k1 k2 => lv_icmp_gt hx hb hd ht (fun z => k1 (decide_eq_true z)) (fun z => k2 (fun w => z (of_decide_eq_true w)))
    case le => exact sp_if2 S hl hn hloc hp kk fun x y rest k1 k2 => lv_icmp_le hx hb hd ht (fun z => k1 (decide_eq_true z)) (fun z => k2 (fun w => z (of_decide_eq_true w)))
  case ifCond cd off =>
    have ht : (pc : Int) + off = (a : Int) := of_decide_eq_true gx
    cases cd
    case eq => exact sp_if1 S hl hn hloc hp kk fun x rest k1 k2 => lv_if_eq hx hb hd ht (fun z => k1 (decide_eq_true z)) (fun z => k2 (fun w => z (of_decide_eq_true w)))
    case ne => exact sp_if1 S hl hn hloc hp kk fun x rest k1 k2 => lv_if_ne hx hb hd ht (fun z => k1 (decide_eq_true z)) (fun z => k2 (fun w => (of_decide_eq_true w) z))
    case lt => exact sp_if1 S hl hn hloc hp kk fun x rest k1 k2 => lv_if_lt hx hb hd ht (fun z => k1 (decide_eq_true z)) (fun z => k2 (fun w => z (of_decide_eq_true w)))
    case ge => exact sp_if1 S hl hn hloc hp kk fun x rest k1 k2 => lv_if_ge hx hb hd ht (fun z => k1 (decide_eq_true z)) (fun z => k2 (fun w => z (of_decide_eq_true w)))
    case gt => exact sp_if1 S hl hn hloc hp kk fun x rest k1 k2 => lv_if_gt hx hb hd ht (fun z => k1 (decide_eq_true z)) (fun z => k2 (fun w => z (of_decide_eq_true w)))
    case le => exact sp_if1 S hl hn hloc hp kk fun x rest k1 k2 => lv_if_le hx hb hd ht (fun z => k1 (decide_eq_true z)) (fun z => k2 (fun w => z (of_decide_eq_true w)))
  case ifnull off => exact sp_null S hl hn hloc hp kk (fun x rest kw => lv_ifnull hx hb hd kw) (fun rest kw => lv_ifnullN hx hb hd (of_decide_eq_true gx) kw)
  case ifnonnull off => exact sp_null S hl hn hloc hp kk (fun x rest kw => lv_ifnonnull hx hb hd (of_decide_eq_true gx) kw) (fun rest kw => lv_ifnonnullN hx hb hd kw)
  case goto off =>
    have hp : some (a, ls, st, h) = some k := hp
    cases hp
    exact lv_goto hx hb hd (of_decide_eq_true gx) (kk.use (i := 0) (j := 0) rfl rfl S hl hn hloc)
  case dup => exact sp_dup S hl hn hloc hp kk fun v rest hv kw => lv_dup hx hb hd hv kw
  case pop => exact sp_pop S hl hn hloc hp kk fun v rest hv kw => lv_pop hx hb hd hv kw
  case dup2 => exact sp_dup2 S hl hn hloc hp kk fun v w rest hv hw kw => lv_dup2_11 hx hb hd hv hw kw
  case tableswitch df lo hi offs => exact sp_table hx hb hd S hl hn hloc hp kk
  case getfield idx =>
    simp only [gX, Bool.and_eq_true] at gx
    exact sp_getf hx hb hts hown (inF_at gx.1) (inF_at gx.2) hd S hl hn hloc hp kk
  case putfield idx =>
    simp only [gX, Bool.and_eq_true] at gx
    exact sp_putf hx hb hts hown hnm (inF_at gx.1) (inF_at gx.2.1) (inP_at gx.2.2.1) (inP_at gx.2.2.2) hd S hl hn hloc hp kk
  case iaload => exact sp_iald hx hb hd S hl hn hloc hp kk
  case iastore => exact sp_iast hx hb hd S hl hn hloc hp kk
  case baload => exact sp_zald hx hb hd S hl hn hloc hp kk
  case bastore => exact sp_zast hx hb hd S hl hn hloc hp kk
  case aaload => exact sp_aald hx hb hd S hl hn hloc hp kk
  case aastore => exact sp_aast hx hb hd S hl hn hloc hp kk
  case arraylength => exact sp_alen hx hb hd S hl hn hloc hp kk
  case newarray ty =>
    cases ty
    case int => exact sp_newa (atype := .int) hx hb (hts _ (inT_mem gx)) (Or.inl ⟨rfl, rfl⟩) hd S hl hn hloc hp hRc hRs kk
    case boolean => exact sp_newa (atype := .boolean) hx hb (hts _ (inT_mem gx)) (Or.inr ⟨rfl, rfl⟩) hd S hl hn hloc hp hRc hRs kk
    all_goals (have hp : (none : Option aK) = some k := hp; cases hp)
  case anewarray idx =>
    simp only [gX] at gx
    split at gx
    · rename_i r hr
      simp only [Bool.and_eq_true, decide_eq_true_eq] at gx
      exact sp_newq hx hb hown hr (hts _ (inT_mem gx.1)) (va_AO.use (hnx.1 _ gx.2)) hd S hl hn hloc hp hRc hRs kk
    · cases gx
  case new idx =>
    simp only [gX] at gx
    split at gx
    · rename_i r hr
      exact sp_new hx hb hts hown hr (hts _ (inT_mem gx)) hd S hl hn hloc hp hRc hRs kk
    · cases gx
  case invokespecial idx =>
    have hp : (if f = 1 then k_oini (pc + 3) ls st h else none) = some k := hp
    split at hp
    · rename_i hf
      simp only [gX, hf, if_true, Bool.and_eq_true, decide_eq_true_eq] at gx
      exact sp_oini hx hb hown (hts _ (inT_mem gx.1)) (hts _ (inT_mem gx.2.1)) (hts _ (inT_mem gx.2.2)) hRf hRl hd S hl hn hloc hp kk
    · cases hp
  case invokestatic idx =>
    simp only [aplain] at hp
    by_cases hf1 : f = 1
    · rw [if_pos hf1] at hp
      simp only [gX, hf1, if_true, Bool.and_eq_true] at gx
      exact sp_copy hx hb hown (hts _ (inT_mem gx.1)) (hts _ (inT_mem gx.2.1)) (hts _ (inT_mem gx.2.2.1)) (hts _ (inT_mem gx.2.2.2)) hRf hRl hd S hl hn hloc hp kk
    · rw [if_neg hf1] at hp
      by_cases hf2 : f = 2
      · rw [if_pos hf2] at hp
        simp only [gX] at gx
        rw [if_neg hf1, if_pos hf2] at gx
        simp only [Bool.and_eq_true] at gx
        exact sp_mm hRl S hl hn hloc hp kk fun x y rest hlo kw => va_mmax hx hb (hn.symm.trans hl.1.symm) hown (hts _ (inT_mem gx.1)) (hts _ (inT_mem gx.2.1)) (hts _ (inT_mem gx.2.2.1)) (hts _ (inT_mem gx.2.2.2)) hRf hlo (by omega) (by omega) hd kw
      · rw [if_neg hf2] at hp
        by_cases hf3 : f = 3
        · rw [if_pos hf3] at hp
          simp only [gX] at gx
          rw [if_neg hf1, if_neg hf2, if_pos hf3] at gx
          simp only [Bool.and_eq_true] at gx
          exact sp_mm hRl S hl hn hloc hp kk fun x y rest hlo kw => va_mmin hx hb (hn.symm.trans hl.1.symm) hown (hts _ (inT_mem gx.1)) (hts _ (inT_mem gx.2.1)) (hts _ (inT_mem gx.2.2.1)) (hts _ (inT_mem gx.2.2.2)) hRf hlo (by omega) (by omega) hd kw
        · rw [if_neg hf3] at hp
          cases hp
  all_goals (have hp : (none : Option aK) = some k := hp; cases hp)
/-- a call by a contract, whatever it answers -/
theorem ca_go {pc mc ms : Nat} {st0 rest : List Value} {Qa : State → Outcome → State → Prop} {free : Addr → Prop} (hr : va_Run p l e R s m args below meth c H locs cells slots mc ms (F0 m pc arr st0) rest Qa free)
    (kk : ∀ (v : Option Value) (s0 t' : State) (L : List Loc), s.vm.Alike t'.vm → Qa s0 (.returned v) t' → (∀ q ∈ L, free q.base) → W p l e R s m args below meth c t'.heap (locs ++ L) (cells + mc) (slots + ms) Q (F0 m (pc + 3) arr (v.toList ++ rest))) : W p l e R s m args below meth c H locs cells slots Q (F0 m pc arr st0) := by
  intro T hT X
  obtain ⟨v, s0, t', T', L, h0, X', hL, e1, e2, hq, stp⟩ := hr T hT X
  obtain ⟨t2, a1, b1⟩ := kk v s0 t' L (by rw [← e2]; exact X'.warmed.alike) hq hL T' e1 X'
  exact ⟨t2, stp t2 a1, b1⟩
end AL
/-- the words of a method -/
def aws (J : wM) : List Jvm.Cond := Jvm.Cond.code J.1 J.2.1 J.2.2.1 J.2.2.2.1 :: gtbl
def arm (d mc ms : Nat) : Room := { frames := d + 2, cells := mc, slots := ms, locals := 64 * (d + 1) }
def aPc (D : va_G) (t : Nat → Nat) (B : Nat) (as : List Value) (h : aH) : Array Value → State → Prop := va_Pc (as.map (vr t B)) (fun U => aSim D t B h U U.heap ∧ aNx U)
def aQc (D : va_G) (t : Nat → Nat) (B : Nat) (r : Option Value) (h' : aH) : Array Value → State → Outcome → State → Prop := fun _ _ oc t' => oc = .returned (r.map (vr t B)) ∧ aSim D t B h' t' t'.heap
theorem aws_good {J : wM} (h : Jvm.Cond.code J.1 J.2.1 J.2.2.1 J.2.2.2.1 ∈ gtbl) : GoodIn gtbl (aws J) := by
  intro w hw
  rcases List.mem_cons.mp hw with rfl | hw
  · exact ⟨h, good_of_word (gtbl_in h).2⟩
  · exact ⟨hw, good_of_word (gtbl_in hw).2⟩
theorem aPc_blind {D : va_G} {t : Nat → Nat} {B : Nat} {as : List Value} {h : aH} : FrameBlind (aPc D t B as h) := by
  intro a U g mk q
  obtain ⟨q0, q1, q2⟩ := q
  exact ⟨q0, aSim.moved (u := U) (U := U.calling g mk a) (Vm.Alike.refl U.vm) q1, q2.same rfl⟩
end
section
/-! runs of the small machine are runs of the real one -/
def aRet (J : wM) (pc : Nat) (r : Option Value) : Prop :=
  (r = none ∧ decode J.2.1 pc = .ok (.return_, 1) ∧ J.2.2.2.1 = none) ∨
  (∃ v : Int32, r = some (.int v) ∧ decode J.2.1 pc = .ok (.ireturn, 1) ∧ (J.2.2.2.1 = some .int ∨ (J.2.2.2.1 = some .boolean ∧ (v = 0 ∨ v = 1)))) ∨
  (∃ v : Value, r = some v ∧ (v = .null ∨ ∃ a, v = .ref a) ∧ decode J.2.1 pc = .ok (.areturn, 1) ∧ ∃ n, J.2.2.2.1 = some (.object n))
def aWk (l : Launch) (D : va_G) (t : Nat → Nat) (B d M pc : Nat) (ls st : List Value) (h : aH) (r : Option Value) (h' : aH) : Prop :=
  ∀ (J : wM), prog[M]? = some J → ∀ (p : Program) (e : Env) (R : Room) (s : State) (m : MethodId) (args : Array Value) (below : List Frame) (meth : Method) (c : Code) (H : Heap) (locs : List Loc) (cells slots : Nat) (Q : State → Prop) (arr : Array Slot),
    p.tables.exec = Jvm.exec → c.code = J.2.1 → c.maxLocals = J.2.2.1 → s.vm.findClass J.1.cls = some m.cls → (∀ w ∈ gtbl, w.before args s = true) → aNx s → (J.1.name = "<init>" → meth.name = "<init>") →
    d + 2 ≤ R.frames → 64 * (d + 1) ≤ R.locals → cells + (h'.length - h.length) ≤ R.cells → slots + (asl h' - asl h) ≤ R.slots → aSim D t B h s H → aL t B arr ls → ls.length = c.maxLocals → (∀ q ∈ locs, B ≤ q.base) →
    (∀ (pc' : Nat) (H' : Heap) (locs' : List Loc) (arr' : Array Slot), aRet J pc' r → aSim D t B h' s H' → (∀ q ∈ locs', B ≤ q.base) → W p l e R s m args below meth c H' locs' (cells + (h'.length - h.length)) (slots + (asl h' - asl h)) Q (F0 m pc' arr' (r.toList.map (vr t B)))) →
    W p l e R s m args below meth c H locs cells slots Q (F0 m pc arr (st.map (vr t B)))
theorem gJ_at {J : wM} (g : gJ J = true) : J.2.2.1 ≤ 45 ∧ J.2.2.2.2.1 ≤ J.2.2.1 ∧ plainName J.1.cls = true ∧ Jvm.Cond.code J.1 J.2.1 J.2.2.1 J.2.2.2.1 ∈ gtbl ∧ Jvm.Cond.initialized J.1.cls ∈ gtbl ∧ J.1.cls ≠ "java/lang/invoke/MethodHandle" ∧ J.1.cls ≠ "java/lang/invoke/VarHandle" := by
  simp only [gJ, Bool.and_eq_true, decide_eq_true_eq] at g
  exact ⟨g.1, g.2.1, g.2.2.1, inT_mem g.2.2.2.1, inT_mem g.2.2.2.2.1, g.2.2.2.2.2.1, g.2.2.2.2.2.2⟩
theorem aent_at {M : Nat} {as rest L : List Value} (h : aent M as rest = some L) : ∃ J, prog[M]? = some J ∧ as.length = J.2.2.2.2.1 ∧ as.all aOk = true ∧ rest.length ≤ 8 ∧ rest.all aOk = true ∧ L = as ++ List.replicate (J.2.2.1 - as.length) aU := by
  unfold aent at h
  split at h
  · rename_i J hJ
    split at h
    · rename_i hc
      exact ⟨J, hJ, hc.1, hc.2.1, hc.2.2.1, hc.2.2.2, (Option.some.inj h).symm⟩
    · cases h
  · cases h
theorem met_of {l : Launch} {D : va_G} {t : Nat → Nat} {B d M : Nat} {as rest L : List Value} {h h' : aH} {r : Option Value} {J : wM} (hw : aWk l D t B d M 0 L [] h r h') (hJ : prog[M]? = some J) (g : gJ J = true) (hL : aent M as rest = some L) :
    Met l J.1 (aws J) (arm d (h'.length - h.length) (asl h' - asl h)) (aPc D t B as h) (aQc D t B r h') (h'.length - h.length) (asl h' - asl h) (fun q => B ≤ q) := by
  obtain ⟨J', hJ', e1, e2, -, -, rfl⟩ := aent_at hL
  cases hJ.symm.trans hJ'
  obtain ⟨g1, g2, g3, -⟩ := gJ_at g
  refine Met.ofW (cc := J.2.1) (maxL := J.2.2.1) (ret := J.2.2.2.1) g3 rfl ?_
  intro p e s m args below meth c s₁ Bd hml hv
  obtain ⟨rfl, hS, hN⟩ := hv
  have hts := atoms_spec (ws := aws J) Bd.pre
  have hown : s.vm.findClass J.1.cls = some m.cls := findClass_of_methodNamed Bd.named
  have hlocks := Bd.notSynchronized
  have hr := Bd.returns
  have hx := Bd.exec
  have hb := Bd.bytes
  rw [entry_eq m (as.map (vr t B)) (fun v hv => by
    obtain ⟨w, hw1, rfl⟩ := List.mem_map.mp hv
    exact vr_cat (List.all_eq_true.mp e2 w hw1)), List.length_map]
  refine hw J hJ p e _ s m _ below meth c s.heap [] 0 0 _ _ hx hb hml hown (fun w hw1 => hts w (List.mem_cons_of_mem _ hw1)) hN (fun hi => (name_of_methodNamed Bd.named Bd.method).1.trans hi) (Nat.le_refl _) (Nat.le_refl _) (Nat.le_of_eq (Nat.zero_add _)) (Nat.le_of_eq (Nat.zero_add _)) hS (aL.entry e2) ?_ (fun q hq => by cases hq) ?_
  · rw [List.length_append, List.length_replicate, hml]
    omega
  · intro pc' H' locs' arr' hret S' hloc'
    rw [Nat.zero_add, Nat.zero_add]
    rcases hret with ⟨rfl, hd, hj⟩ | ⟨v, rfl, hd, hj⟩ | ⟨v, rfl, hv, hd, n, hj⟩
    · exact W.vret hx hb (hr.trans hj) (fun t' ht hW => ⟨rfl, by rw [ht]; exact S'.moved hW.alike⟩) hloc' hd
    · rcases hj with hj | ⟨hj, h01⟩
      · exact W.iret (v := v) hx hb (hr.trans hj) (fun t' ht hW => ⟨rfl, by rw [ht]; exact S'.moved hW.alike⟩) hloc' hd
      · exact W.zret (v := v) (ty := .boolean) hx hb (hr.trans hj) (by rcases h01 with rfl | rfl <;> decide) (fun t' ht hW => ⟨rfl, by rw [ht]; exact S'.moved hW.alike⟩) hloc' hd
    · refine W.aret (v := vr t B v) (rt := .object n) hx hb (hr.trans hj) (Or.inl ⟨n, rfl⟩) ?_ (fun t' ht hW => ⟨rfl, by rw [ht]; exact S'.moved hW.alike⟩) hloc' hd
      rcases hv with rfl | ⟨a, rfl⟩
      · exact Or.inl rfl
      · exact Or.inr ⟨_, rfl⟩
theorem gPar_at {desc : String} {a : Nat} (g : gPar desc a = true) : ∀ sig, parseMethodDescriptor desc = some sig → a = sig.parameters.length := by
  intro sig hs
  have := of_decide_eq_true g
  rw [hs] at this
  exact (Option.some.inj this).symm
section CL
variable {p : Program} {l : Launch} {e : Env} {R : Room} {s : State} {m : MethodId} {args : Array Value} {below : List Frame} {meth : Method} {c : Code} {H : Heap} {locs : List Loc} {cells slots : Nat} {Q : State → Prop}
variable {D : va_G} {t : Nat → Nat} {B : Nat} {h h1 : aH} {arr : Array Slot} {st : List Value} {v : Option Value} {d pc : Nat}
/-- the call of an entry, by the callee's contract -/
theorem ca_run {J J' : wM} {en : wE} {M' : Nat} {as rest L : List Value} (hx : p.tables.exec = Jvm.exec) (hb : c.code = J.2.1) (hml : c.maxLocals = arr.size) (hts : ∀ w ∈ gtbl, w.before args s = true) (hown : s.vm.findClass J.1.cls = some m.cls) (hnx : aNx s) (hg : goodE J en = true) (hc : acall en st h = some (M', as, rest)) (hL : aent M' as rest = some L) (hJ' : prog[M']? = some J')
    (hM : gJ J' = true → Met l J'.1 (aws J') (arm d (h1.length - h.length) (asl h1 - asl h)) (aPc D t B as h) (aQc D t B v h1) (h1.length - h.length) (asl h1 - asl h) (fun q => B ≤ q))
    (hRf : d + 3 ≤ R.frames) (hRl : 64 * (d + 2) ≤ R.locals) (hRc : cells + (h1.length - h.length) ≤ R.cells) (hRs : slots + (asl h1 - asl h) ≤ R.slots) (S : aSim D t B h s H) :
    va_Run p l e R s m args below meth c H locs cells slots (h1.length - h.length) (asl h1 - asl h) (F0 m en.1 arr (st.map (vr t B))) (rest.map (vr t B)) (fun _ oc t' => oc = .returned (v.map (vr t B)) ∧ aSim D t B h1 t' t'.heap) (fun q => B ≤ q) := by
  obtain ⟨J2, hJ2, a1, a2, a3, a4, -⟩ := aent_at hL
  cases hJ'.symm.trans hJ2
  obtain ⟨pc, i, ln, ⟨a, b, c', dd, f⟩, x, rf⟩ := en
  simp only [goodE, Bool.and_eq_true, decide_eq_true_eq] at hg
  obtain ⟨hd, gx⟩ := hg
  have hroom : 2 * (F0 m pc arr (st.map (vr t B))).monitorRoom + ((rest.map (vr t B)).map fun v => v.category).sum ≤ 8 := by
    rw [cats a4]
    show 2 * 0 + _ ≤ 8
    omega
  have hpre : ∀ U : State, U.heap = H → s.WarmedH U.vm → aPc D t B as h (as.map (vr t B)).toArray U := fun U hU hW => ⟨rfl, by rw [hU]; exact S.moved hW.alike, hnx.warm hW⟩
  have key : ∀ (hgj : gJ J' = true), (arm d (h1.length - h.length) (asl h1 - asl h)).frames + 1 ≤ R.frames ∧ 8 + (J'.2.2.1 + 11) + (arm d (h1.length - h.length) (asl h1 - asl h)).locals ≤ R.locals := by
    intro hgj
    have := (gJ_at hgj).1
    exact ⟨by show d + 2 + 1 ≤ _; omega, by show 8 + (J'.2.2.1 + 11) + 64 * (d + 1) ≤ _; omega⟩
  cases i
  case invokevirtual idx =>
    simp only [gX, Bool.and_eq_true] at gx
    simp only [acall] at hc
    have key2 : ∃ r s0 ci fs, st.drop a = .ref r :: s0 ∧ h[r]? = some (.inl (ci, fs)) ∧ as = .ref r :: (st.take a).reverse ∧ rest = s0 ∧ inVi J.1.cls idx a ci M' x rf = true := by
      split at hc
      · rename_i r s0 hst
        split at hc
        · rename_i ci fs hci
          split at hc
          · rename_i hb1
            cases hc
            subst hb1
            exact ⟨r, _, _, _, hst, hci, rfl, rfl, gx.1⟩
          · split at hc
            · rename_i hb2
              cases hc
              subst hb2
              exact ⟨r, _, _, _, hst, hci, rfl, rfl, gx.2⟩
            · cases hc
        · cases hc
      · cases hc
    obtain ⟨r, s0, ci, fs, hst, hci, rfl, rfl, gv⟩ := key2
    have gv := inVi_at gv
    unfold gVi at gv
    rw [hJ'] at gv
    simp only at gv
    obtain ⟨h5, ⟨C, T, N⟩, hr, hlen, hob⟩ := S.2.1 r _ hci
    rw [hr] at gv
    simp only [Bool.and_eq_true] at gv
    obtain ⟨gj, gp, gl, gi, gs, gv⟩ := gv
    have gj := inJ_at gj hJ'
    have hP : va_P D vwCl [(aA t B r, .inr (ci, fs.map (vr t B)))] H := by
      intro k' q' hq'
      cases k' with
      | zero => cases hq'; exact ⟨_, hr, hob⟩
      | succ n => simp at hq'
    have hrecv := va_recv S.1 hP (ci := ci) (q0 := 0) hr rfl
    have hal : a ≤ st.length := by
      have := congrArg List.length hst
      simp only [List.length_drop, List.length_cons] at this
      omega
    have hstack : st.map (vr t B) = (((st.take a).reverse).map (vr t B)).reverse ++ .ref (aA t B r) :: rest.map (vr t B) := by
      rw [← List.map_reverse, List.reverse_reverse]
      have : st.map (vr t B) = (st.take a ++ st.drop a).map (vr t B) := by rw [List.take_append_drop]
      rw [this, List.map_append, hst]
      rfl
    have hn : (((st.take a).reverse).map (vr t B)).length = a := by simp; omega
    obtain ⟨y1, y2, y3, y4, y5, y6, y7⟩ := gJ_at gj
    by_cases hrf : rf = ""
    · rw [if_pos hrf] at gv
      have hxJ : x = J'.1 := of_decide_eq_true gv
      subst hxJ
      exact va_runV (As := ((st.take a).reverse).map (vr t B)) (C := C) ⟨hx, hb, hml, hown, hts⟩ (hM gj) ⟨callB_of a hts (aws_good y4) rfl rfl rfl (hts _ y5) (hts _ (inT_mem gl)) ⟨y6, y7, of_decide_eq_true gp⟩ (key gj), hts _ (inT_mem gi), hts _ (inT_mem gs)⟩ ⟨aPc_blind, hrecv, hpre⟩ rfl hn rfl hstack hroom hd ⟨hRc, hRs⟩
    · rw [if_neg hrf] at gv
      simp only [Bool.and_eq_true, decide_eq_true_eq] at gv
      obtain ⟨v1, v2, v3, v4⟩ := gv
      exact va_runU (As := ((st.take a).reverse).map (vr t B)) (C := C) (owner := rf) ⟨hx, hb, hml, hown, hts⟩ (hM gj) ⟨⟨rfl, rfl, (key gj).1, (key gj).2, pay_in hts (aws_good y4), List.mem_cons_self⟩, hts _ y4, hts _ y5, ⟨v3, v4⟩, gPar_at gp, hts _ (inT_mem gl), hts _ (inT_mem v1), va_Decl.abs (hnx.2.1 _ v2), hts _ (inT_mem gs), hts _ (inT_mem gi)⟩ ⟨aPc_blind, hrecv, hpre⟩ rfl hn rfl hstack hroom hd ⟨hRc, hRs⟩
  case invokespecial idx =>
    simp only [acall] at hc
    split at hc
    · cases hc
    · rename_i hf
      simp only [gX, hf, if_false] at gx
      split at hc
      · rename_i r s0 hst
        cases hc
        have gx := inSp_at gx
        unfold gSp at gx
        rw [hJ'] at gx
        simp only [Bool.and_eq_true, decide_eq_true_eq] at gx
        obtain ⟨gj, gp, gl, gi, gn, gr⟩ := gx
        have gj := inJ_at gj hJ'
        obtain ⟨y1, y2, y3, y4, y5, y6, y7⟩ := gJ_at gj
        have hal : a ≤ st.length := by
          have := congrArg List.length hst
          simp only [List.length_drop, List.length_cons] at this
          omega
        have hstack : st.map (vr t B) = (((st.take a).reverse).map (vr t B)).reverse ++ .ref (aA t B r) :: rest.map (vr t B) := by
          rw [← List.map_reverse, List.reverse_reverse]
          have : st.map (vr t B) = (st.take a ++ st.drop a).map (vr t B) := by rw [List.take_append_drop]
          rw [this, List.map_append, hst]
          rfl
        have hn : (((st.take a).reverse).map (vr t B)).length = a := by simp; omega
        have hw : aws J' = Jvm.Cond.code J'.1 J'.2.1 J'.2.2.1 none :: gtbl := by unfold aws; rw [gr]
        exact va_runI (As := ((st.take a).reverse).map (vr t B)) ⟨hx, hb, hml, hown, hts⟩ (hM gj) ⟨callB_of a hts (aws_good y4) hw rfl rfl (hts _ y5) (hts _ (inT_mem gl)) ⟨y6, y7, of_decide_eq_true gp⟩ (key gj), gn, hts _ (inT_mem gi)⟩ ⟨aPc_blind, hpre⟩ rfl hn rfl hstack hroom hd ⟨hRc, hRs⟩
      · cases hc
  case invokestatic idx =>
    simp only [acall] at hc
    split at hc
    · rename_i hf
      subst hf
      have gx : inSt J.1.cls idx a c' = true := gx
      cases hc
      have gx := inSt_at gx
      unfold gSt at gx
      rw [hJ'] at gx
      simp only [Bool.and_eq_true, decide_eq_true_eq] at gx
      obtain ⟨gj, gp, gl, gi, gn⟩ := gx
      have gj := inJ_at gj hJ'
      obtain ⟨y1, y2, y3, y4, y5, y6, y7⟩ := gJ_at gj
      have hstack : st.map (vr t B) = (((st.take a).reverse).map (vr t B)).reverse ++ (st.drop a).map (vr t B) := by
        rw [← List.map_reverse, List.reverse_reverse, ← List.map_append, List.take_append_drop]
      have hn : (((st.take a).reverse).map (vr t B)).length = a := by rw [List.length_map, a1, gn]
      exact va_runS (As := ((st.take a).reverse).map (vr t B)) ⟨hx, hb, hml, hown, hts⟩ (hM gj) ⟨callB_of a hts (aws_good y4) rfl rfl rfl (hts _ y5) (hts _ (inT_mem gl)) ⟨y6, y7, of_decide_eq_true gp⟩ (key gj), hts _ (inT_mem gi)⟩ ⟨aPc_blind, hpre⟩ rfl hn rfl hstack hroom hd ⟨hRc, hRs⟩
    · cases hc
  all_goals (have hc : (none : Option (Nat × List Value × List Value)) = some (M', as, rest) := hc; cases hc)
end CL
theorem aret_at {J : wM} {en : wE} {st : List Value} {r : Option Value} (hg : goodE J en = true) (hr : aret en st = some r) : aRet J en.1 r ∧ st = r.toList := by
  obtain ⟨pc, i, ln, ⟨a, b, c', dd, f⟩, x, rf⟩ := en
  simp only [goodE, Bool.and_eq_true, decide_eq_true_eq] at hg
  obtain ⟨hd, gx⟩ := hg
  cases i
  case ireturn =>
    simp only [aret] at hr
    simp only [gX] at gx
    split at hr
    · split at hr
      · rename_i v ha
        rw [if_pos ha] at gx
        split at hr
        · rename_i h01
          cases hr
          exact ⟨Or.inr (Or.inl ⟨v, rfl, hd, Or.inr ⟨of_decide_eq_true gx, h01⟩⟩), rfl⟩
        · cases hr
      · rename_i v ha
        rw [if_neg ha] at gx
        cases hr
        exact ⟨Or.inr (Or.inl ⟨v, rfl, hd, Or.inl (of_decide_eq_true gx)⟩), rfl⟩
    · cases hr
  case areturn =>
    simp only [aret] at hr
    simp only [gX] at gx
    have hj : ∃ n, J.2.2.2.1 = some (.object n) := by
      split at gx
      · rename_i n hn
        exact ⟨n, hn⟩
      · cases gx
    split at hr
    · cases hr
      exact ⟨Or.inr (Or.inr ⟨_, rfl, Or.inr ⟨_, rfl⟩, hd, hj⟩), rfl⟩
    · cases hr
      exact ⟨Or.inr (Or.inr ⟨_, rfl, Or.inl rfl, hd, hj⟩), rfl⟩
    · cases hr
  case return_ =>
    simp only [aret] at hr
    split at hr
    · cases hr
      exact ⟨Or.inl ⟨rfl, hd, of_decide_eq_true gx⟩, rfl⟩
    · cases hr
  all_goals (have hr : (none : Option (Option Value)) = some r := hr; cases hr)
theorem alook_at {M pc : Nat} {en : wE} (h : alook M pc = some en) : ∃ J, prog[M]? = some J ∧ en ∈ J.2.2.2.2.2 ∧ en.1 = pc := by
  unfold alook at h
  split at h
  · rename_i J hJ
    exact ⟨J, hJ, List.mem_of_find?_eq_some h, by simpa using List.find?_some h⟩
  · cases h
set_option maxHeartbeats 1000000 in
theorem sound (l : Launch) (D : va_G) (t : Nat → Nat) (B : Nat) (hgood : ∀ (M : Nat) (J : wM), prog[M]? = some J → ∀ en ∈ J.2.2.2.2.2, goodE J en = true) :
    ∀ (n d M pc : Nat) (ls st : List Value) (h : aH) (r : Option Value) (h' : aH), arun n d M pc ls st h = some (r, h') → (h.length ≤ h'.length ∧ asl h ≤ asl h') ∧ aWk l D t B d M pc ls st h r h'
  | 0, d, M, pc, ls, st, h, r, h', hr => by simp [arun] at hr
  | n + 1, d, M, pc, ls, st, h, r, h', hr => by
    simp only [arun] at hr
    cases he : alook M pc with
    | none => rw [he] at hr; cases hr
    | some en =>
      rw [he] at hr
      simp only at hr
      obtain ⟨J0, hJ0, hmem, hpc⟩ := alook_at he
      have hg := hgood M J0 hJ0 en hmem
      subst hpc
      cases hp : aplain en ls st h with
      | some q =>
        rw [hp] at hr
        obtain ⟨pc', ls', st', h1⟩ := q
        simp only at hr
        obtain ⟨⟨m1, m2⟩, w⟩ := sound l D t B hgood n d M pc' ls' st' h1 r h' hr
        obtain ⟨n1, n2⟩ := mono_all hp
        simp only at n1 n2
        refine ⟨⟨Nat.le_trans n1 m1, Nat.le_trans n2 m2⟩, ?_⟩
        intro J hJ p e R s m args below meth c H locs cells slots Q arr hx hb hml hown hts hnx hnm hRf hRl hRc hRs S hl hn hloc kk
        cases hJ.symm.trans hJ0
        refine sp_all hx hb hts hown hnx hnm hg (by omega) (by omega) S hl hn hloc hp (by simp only; omega) (by simp only; omega) ?_
        intro H' locs' arr' S' hl' hn' hloc'
        refine w _ hJ p e R s m args below meth c H' locs' _ _ Q arr' hx hb hml hown hts hnx hnm hRf hRl (by simp only; omega) (by simp only; omega) S' hl' hn' hloc' ?_
        intro pc2 H2 locs2 arr2 hret S2 hloc2
        have := kk pc2 H2 locs2 arr2 hret S2 hloc2
        simp only
        rw [show cells + (h1.length - h.length) + (h'.length - h1.length) = cells + (h'.length - h.length) by omega, show slots + (asl h1 - asl h) + (asl h' - asl h1) = slots + (asl h' - asl h) by omega]
        exact this
      | none =>
        rw [hp] at hr
        simp only at hr
        cases hc : acall en st h with
        | some q =>
          rw [hc] at hr
          obtain ⟨M', as, rest⟩ := q
          simp only at hr
          cases hL : aent M' as rest with
          | none => rw [hL] at hr; cases hr
          | some L =>
            rw [hL] at hr
            simp only at hr
            cases d with
            | zero => cases hr
            | succ d' =>
              simp only at hr
              cases hy : arun n d' M' 0 L [] h with
              | none => rw [hy] at hr; cases hr
              | some w0 =>
                obtain ⟨v, h1⟩ := w0
                rw [hy] at hr
                simp only at hr
                obtain ⟨⟨n1, n2⟩, wc⟩ := sound l D t B hgood n d' M' 0 L [] h v h1 hy
                obtain ⟨⟨m1, m2⟩, w⟩ := sound l D t B hgood n (d' + 1) M (en.1 + 3) ls (v.toList ++ rest) h1 r h' hr
                refine ⟨⟨Nat.le_trans n1 m1, Nat.le_trans n2 m2⟩, ?_⟩
                intro J hJ p e R s m args below meth c H locs cells slots Q arr hx hb hml hown hts hnx hnm hRf hRl hRc hRs S hl hn hloc kk
                cases hJ.symm.trans hJ0
                obtain ⟨J', hJ', -⟩ := aent_at hL
                refine ca_go (ca_run (d := d') (J := J0) (J' := J') hx hb (hn.symm.trans hl.1.symm) hts hown hnx hg hc hL hJ' (fun gj => met_of wc hJ' gj hL) (by omega) (by omega) (by omega) (by omega) S) ?_
                intro v' s0 t' Lc hAl hQ hLc
                obtain ⟨hv, S'⟩ := hQ
                have hv : v' = v.map (vr t B) := Outcome.returned.inj hv
                subst hv
                have e1 : (v.map (vr t B)).toList ++ rest.map (vr t B) = (v.toList ++ rest).map (vr t B) := by cases v <;> simp
                rw [e1]
                refine w _ hJ p e R s m args below meth c t'.heap (locs ++ Lc) _ _ Q arr hx hb hml hown hts hnx hnm hRf hRl (by omega) (by omega) (S'.moved hAl.symm) hl hn (fun q hq => (List.mem_append.mp hq).elim (hloc q) (hLc q)) ?_
                intro pc2 H2 locs2 arr2 hret S2 hloc2
                have := kk pc2 H2 locs2 arr2 hret S2 hloc2
                rw [show cells + (h1.length - h.length) + (h'.length - h1.length) = cells + (h'.length - h.length) by omega, show slots + (asl h1 - asl h) + (asl h' - asl h1) = slots + (asl h' - asl h) by omega]
                exact this
        | none =>
          rw [hc] at hr
          simp only at hr
          cases ha : aret en st with
          | none => rw [ha] at hr; cases hr
          | some v =>
            rw [ha] at hr
            cases hr
            refine ⟨⟨Nat.le_refl _, Nat.le_refl _⟩, ?_⟩
            intro J hJ p e R s m args below meth c H locs cells slots Q arr hx hb hml hown hts hnx hnm hRf hRl hRc hRs S hl hn hloc kk
            cases hJ.symm.trans hJ0
            obtain ⟨hret, rfl⟩ := aret_at hg ha
            have := kk en.1 H locs arr hret S hloc
            rw [Nat.sub_self, Nat.sub_self] at this
            exact this
end
section
/-! every entry of every method is as the tables have it: looked at by the kernel -/
theorem all_drop {α : Type} {p : α → Bool} {l : List α} (c : Nat) (h1 : ((l.drop c).take 50).all p = true) (h2 : (l.drop (c + 50)).all p = true) : (l.drop c).all p = true := by
  have : l.drop c = (l.drop c).take 50 ++ l.drop (c + 50) := by rw [← List.drop_drop, List.take_append_drop]
  rw [this, List.all_append, h1, h2]
  rfl
theorem all_cut {α : Type} {p : α → Bool} {l : List α} (c : Nat) (h : (l.drop 0).all p = true) : l.all p = true := h
theorem g_X0_init : pX0_init.2.2.2.2.2.all (goodE pX0_init) = true := by decide +kernel
theorem g_X0_copyFrom : pX0_copyFrom.2.2.2.2.2.all (goodE pX0_copyFrom) = true := by decide +kernel
theorem g_X1_init : pX1_init.2.2.2.2.2.all (goodE pX1_init) = true := by decide +kernel
theorem g_X1_hasHope : pX1_hasHope.2.2.2.2.2.all (goodE pX1_hasHope) = true := by decide +kernel
theorem g_X1_meetLaying : pX1_meetLaying.2.2.2.2.2.all (goodE pX1_meetLaying) = true := by decide +kernel
theorem g_X2_init : pX2_init.2.2.2.2.2.all (goodE pX2_init) = true := by decide +kernel
theorem g_X2_hasHope : pX2_hasHope.2.2.2.2.2.all (goodE pX2_hasHope) = true := by decide +kernel
theorem g_X2_meetLaying : pX2_meetLaying.2.2.2.2.2.all (goodE pX2_meetLaying) = true := by decide +kernel
theorem g_X2_isSpoiled : pX2_isSpoiled.2.2.2.2.2.all (goodE pX2_isSpoiled) = true := by decide +kernel
theorem g_X3_init : pX3_init.2.2.2.2.2.all (goodE pX3_init) = true := by decide +kernel
theorem g_X3_measureReaches : pX3_measureReaches.2.2.2.2.2.all (goodE pX3_measureReaches) = true := by decide +kernel
theorem g_X3_runOf : pX3_runOf.2.2.2.2.2.all (goodE pX3_runOf) = true := by decide +kernel
theorem g_X3_hasCell : pX3_hasCell.2.2.2.2.2.all (goodE pX3_hasCell) = true := by decide +kernel
theorem g_X3_hasPlace : pX3_hasPlace.2.2.2.2.2.all (goodE pX3_hasPlace) = true := by decide +kernel
theorem g_X3_holds : pX3_holds.2.2.2.2.2.all (goodE pX3_holds) = true := by decide +kernel
theorem g_X3_cellSet : pX3_cellSet.2.2.2.2.2.all (goodE pX3_cellSet) = true := by decide +kernel
theorem g_X4_init : pX4_init.2.2.2.2.2.all (goodE pX4_init) = true := by decide +kernel
theorem g_X4_look : pX4_look.2.2.2.2.2.all (goodE pX4_look) = true := by decide +kernel
theorem g_X4_layFrom : pX4_layFrom.2.2.2.2.2.all (goodE pX4_layFrom) = true := by decide +kernel
theorem g_X4_keepPlaces : pX4_keepPlaces.2.2.2.2.2.all (goodE pX4_keepPlaces) = true := by decide +kernel
theorem g_X4_firstPlace : pX4_firstPlace.2.2.2.2.2.all (goodE pX4_firstPlace) = true := by decide +kernel
theorem g_X5_init : pX5_init.2.2.2.2.2.all (goodE pX5_init) = true := by decide +kernel
theorem g_X5_clear : pX5_clear.2.2.2.2.2.all (goodE pX5_clear) = true := by decide +kernel
theorem g_X5_copyFrom : pX5_copyFrom.2.2.2.2.2.all (goodE pX5_copyFrom) = true := by decide +kernel
theorem g_X5_accepts : pX5_accepts.2.2.2.2.2.all (goodE pX5_accepts) = true := by decide +kernel
theorem g_X5_lay : pX5_lay.2.2.2.2.2.all (goodE pX5_lay) = true := by decide +kernel
theorem g_X5_lift : pX5_lift.2.2.2.2.2.all (goodE pX5_lift) = true := by decide +kernel
theorem g_X5_pour : pX5_pour.2.2.2.2.2.all (goodE pX5_pour) = true := by decide +kernel
theorem g_X5_standing : pX5_standing.2.2.2.2.2.all (goodE pX5_standing) = true := by decide +kernel
theorem g_X5_showsAt : pX5_showsAt.2.2.2.2.2.all (goodE pX5_showsAt) = true := by decide +kernel
theorem g_X5_emptyCells : pX5_emptyCells.2.2.2.2.2.all (goodE pX5_emptyCells) = true := by decide +kernel
theorem g_X5_unlikeLetters : pX5_unlikeLetters.2.2.2.2.2.all (goodE pX5_unlikeLetters) = true := by decide +kernel
theorem g_X6_init : pX6_init.2.2.2.2.2.all (goodE pX6_init) = true := by decide +kernel
theorem g_X6_append : pX6_append.2.2.2.2.2.all (goodE pX6_append) = true := by decide +kernel
theorem g_X6_copyFrom : pX6_copyFrom.2.2.2.2.2.all (goodE pX6_copyFrom) = true := by decide +kernel
theorem g_X6_isSameFromEnd : pX6_isSameFromEnd.2.2.2.2.2.all (goodE pX6_isSameFromEnd) = true := by decide +kernel
theorem g_X7_init : pX7_init.2.2.2.2.2.all (goodE pX7_init) = true := by decide +kernel
theorem g_X7_find : pX7_find.2.2.2.2.2.all (goodE pX7_find) = true := by decide +kernel
theorem g_X7_append : pX7_append.2.2.2.2.2.all (goodE pX7_append) = true := by decide +kernel
theorem g_X7_copyFrom : pX7_copyFrom.2.2.2.2.2.all (goodE pX7_copyFrom) = true := by decide +kernel
theorem g_X8_init_0 : ((pX8_init.2.2.2.2.2.drop 0).take 50).all (goodE pX8_init) = true := by decide +kernel
theorem g_X8_init_50 : ((pX8_init.2.2.2.2.2.drop 50).take 50).all (goodE pX8_init) = true := by decide +kernel
theorem g_X8_init_e : (pX8_init.2.2.2.2.2.drop 100) = [] := by decide +kernel
theorem g_X8_init : pX8_init.2.2.2.2.2.all (goodE pX8_init) = true := all_cut 0 (all_drop 0 g_X8_init_0 (all_drop 50 g_X8_init_50 (by rw [g_X8_init_e]; rfl)))
theorem g_X8_side : pX8_side.2.2.2.2.2.all (goodE pX8_side) = true := by decide +kernel
theorem g_X8_set : pX8_set.2.2.2.2.2.all (goodE pX8_set) = true := by decide +kernel
theorem g_X8_at : pX8_at.2.2.2.2.2.all (goodE pX8_at) = true := by decide +kernel
theorem g_X8_say : pX8_say.2.2.2.2.2.all (goodE pX8_say) = true := by decide +kernel
theorem g_X8_wipe : pX8_wipe.2.2.2.2.2.all (goodE pX8_wipe) = true := by decide +kernel
theorem g_X8_take : pX8_take.2.2.2.2.2.all (goodE pX8_take) = true := by decide +kernel
theorem g_X8_drop : pX8_drop.2.2.2.2.2.all (goodE pX8_drop) = true := by decide +kernel
theorem g_X8_fill : pX8_fill.2.2.2.2.2.all (goodE pX8_fill) = true := by decide +kernel
theorem g_X8_letter : pX8_letter.2.2.2.2.2.all (goodE pX8_letter) = true := by decide +kernel
theorem g_X8_stands : pX8_stands.2.2.2.2.2.all (goodE pX8_stands) = true := by decide +kernel
theorem g_X8_put : pX8_put.2.2.2.2.2.all (goodE pX8_put) = true := by decide +kernel
theorem g_X8_fits : pX8_fits.2.2.2.2.2.all (goodE pX8_fits) = true := by decide +kernel
theorem g_X8_most : pX8_most.2.2.2.2.2.all (goodE pX8_most) = true := by decide +kernel
theorem g_X8_covers_0 : ((pX8_covers.2.2.2.2.2.drop 0).take 50).all (goodE pX8_covers) = true := by decide +kernel
theorem g_X8_covers_50 : ((pX8_covers.2.2.2.2.2.drop 50).take 50).all (goodE pX8_covers) = true := by decide +kernel
theorem g_X8_covers_e : (pX8_covers.2.2.2.2.2.drop 100) = [] := by decide +kernel
theorem g_X8_covers : pX8_covers.2.2.2.2.2.all (goodE pX8_covers) = true := all_cut 0 (all_drop 0 g_X8_covers_0 (all_drop 50 g_X8_covers_50 (by rw [g_X8_covers_e]; rfl)))
theorem g_X8_good : pX8_good.2.2.2.2.2.all (goodE pX8_good) = true := by decide +kernel
theorem g_X8_hide : pX8_hide.2.2.2.2.2.all (goodE pX8_hide) = true := by decide +kernel
theorem g_X8_image : pX8_image.2.2.2.2.2.all (goodE pX8_image) = true := by decide +kernel
theorem g_X8_restore : pX8_restore.2.2.2.2.2.all (goodE pX8_restore) = true := by decide +kernel
theorem g_X8_count : pX8_count.2.2.2.2.2.all (goodE pX8_count) = true := by decide +kernel
theorem g_X8_isLetter : pX8_isLetter.2.2.2.2.2.all (goodE pX8_isLetter) = true := by decide +kernel
theorem g_X8_isPlaceAsked : pX8_isPlaceAsked.2.2.2.2.2.all (goodE pX8_isPlaceAsked) = true := by decide +kernel
theorem g_X8_listOf : pX8_listOf.2.2.2.2.2.all (goodE pX8_listOf) = true := by decide +kernel
theorem g_X8_forgetLayings : pX8_forgetLayings.2.2.2.2.2.all (goodE pX8_forgetLayings) = true := by decide +kernel
theorem g_X9_init : pX9_init.2.2.2.2.2.all (goodE pX9_init) = true := by decide +kernel
theorem g_X9_in : pX9_in.2.2.2.2.2.all (goodE pX9_in) = true := by decide +kernel
theorem g_X9_cells : pX9_cells.2.2.2.2.2.all (goodE pX9_cells) = true := by decide +kernel
theorem g_X9_isCell : pX9_isCell.2.2.2.2.2.all (goodE pX9_isCell) = true := by decide +kernel
theorem g_X9_isLetter : pX9_isLetter.2.2.2.2.2.all (goodE pX9_isLetter) = true := by decide +kernel
theorem g_X9_isPlace : pX9_isPlace.2.2.2.2.2.all (goodE pX9_isPlace) = true := by decide +kernel
theorem g_X9_isWord : pX9_isWord.2.2.2.2.2.all (goodE pX9_isWord) = true := by decide +kernel
theorem g_X9_longOf : pX9_longOf.2.2.2.2.2.all (goodE pX9_longOf) = true := by decide +kernel
theorem g_X9_letterOf : pX9_letterOf.2.2.2.2.2.all (goodE pX9_letterOf) = true := by decide +kernel
theorem g_X9_side : pX9_side.2.2.2.2.2.all (goodE pX9_side) = true := by decide +kernel
theorem g_X9_set : pX9_set.2.2.2.2.2.all (goodE pX9_set) = true := by decide +kernel
theorem g_X9_at : pX9_at.2.2.2.2.2.all (goodE pX9_at) = true := by decide +kernel
theorem g_X9_say : pX9_say.2.2.2.2.2.all (goodE pX9_say) = true := by decide +kernel
theorem g_X9_wipe : pX9_wipe.2.2.2.2.2.all (goodE pX9_wipe) = true := by decide +kernel
theorem g_X9_takeRest : pX9_takeRest.2.2.2.2.2.all (goodE pX9_takeRest) = true := by decide +kernel
theorem g_X9_take_0 : ((pX9_take.2.2.2.2.2.drop 0).take 50).all (goodE pX9_take) = true := by decide +kernel
theorem g_X9_take_50 : ((pX9_take.2.2.2.2.2.drop 50).take 50).all (goodE pX9_take) = true := by decide +kernel
theorem g_X9_take_e : (pX9_take.2.2.2.2.2.drop 100) = [] := by decide +kernel
theorem g_X9_take : pX9_take.2.2.2.2.2.all (goodE pX9_take) = true := all_cut 0 (all_drop 0 g_X9_take_0 (all_drop 50 g_X9_take_50 (by rw [g_X9_take_e]; rfl)))
theorem g_X9_drop : pX9_drop.2.2.2.2.2.all (goodE pX9_drop) = true := by decide +kernel
theorem g_X9_fill : pX9_fill.2.2.2.2.2.all (goodE pX9_fill) = true := by decide +kernel
theorem g_X9_letter : pX9_letter.2.2.2.2.2.all (goodE pX9_letter) = true := by decide +kernel
theorem g_X9_across : pX9_across.2.2.2.2.2.all (goodE pX9_across) = true := by decide +kernel
theorem g_X9_down : pX9_down.2.2.2.2.2.all (goodE pX9_down) = true := by decide +kernel
theorem g_X9_cellAt : pX9_cellAt.2.2.2.2.2.all (goodE pX9_cellAt) = true := by decide +kernel
theorem g_X9_canLie : pX9_canLie.2.2.2.2.2.all (goodE pX9_canLie) = true := by decide +kernel
theorem g_X9_begin : pX9_begin.2.2.2.2.2.all (goodE pX9_begin) = true := by decide +kernel
theorem g_X9_copyStep : pX9_copyStep.2.2.2.2.2.all (goodE pX9_copyStep) = true := by decide +kernel
theorem g_X9_layWord_0 : ((pX9_layWord.2.2.2.2.2.drop 0).take 50).all (goodE pX9_layWord) = true := by decide +kernel
theorem g_X9_layWord_50 : ((pX9_layWord.2.2.2.2.2.drop 50).take 50).all (goodE pX9_layWord) = true := by decide +kernel
theorem g_X9_layWord_e : (pX9_layWord.2.2.2.2.2.drop 100) = [] := by decide +kernel
theorem g_X9_layWord : pX9_layWord.2.2.2.2.2.all (goodE pX9_layWord) = true := all_cut 0 (all_drop 0 g_X9_layWord_0 (all_drop 50 g_X9_layWord_50 (by rw [g_X9_layWord_e]; rfl)))
theorem g_X9_placesOf : pX9_placesOf.2.2.2.2.2.all (goodE pX9_placesOf) = true := by decide +kernel
theorem g_X9_layStep : pX9_layStep.2.2.2.2.2.all (goodE pX9_layStep) = true := by decide +kernel
theorem g_X9_standsIn : pX9_standsIn.2.2.2.2.2.all (goodE pX9_standsIn) = true := by decide +kernel
theorem g_X9_timesIn : pX9_timesIn.2.2.2.2.2.all (goodE pX9_timesIn) = true := by decide +kernel
theorem g_X9_stands : pX9_stands.2.2.2.2.2.all (goodE pX9_stands) = true := by decide +kernel
theorem g_X9_canPut : pX9_canPut.2.2.2.2.2.all (goodE pX9_canPut) = true := by decide +kernel
theorem g_X9_put : pX9_put.2.2.2.2.2.all (goodE pX9_put) = true := by decide +kernel
theorem g_X9_fits : pX9_fits.2.2.2.2.2.all (goodE pX9_fits) = true := by decide +kernel
theorem g_X9_crossed : pX9_crossed.2.2.2.2.2.all (goodE pX9_crossed) = true := by decide +kernel
theorem g_X9_covered : pX9_covered.2.2.2.2.2.all (goodE pX9_covered) = true := by decide +kernel
theorem g_X9_keep : pX9_keep.2.2.2.2.2.all (goodE pX9_keep) = true := by decide +kernel
theorem g_X9_see : pX9_see.2.2.2.2.2.all (goodE pX9_see) = true := by decide +kernel
theorem g_X9_goThrough : pX9_goThrough.2.2.2.2.2.all (goodE pX9_goThrough) = true := by decide +kernel
theorem g_X9_goLast : pX9_goLast.2.2.2.2.2.all (goodE pX9_goLast) = true := by decide +kernel
theorem g_X9_placeTold : pX9_placeTold.2.2.2.2.2.all (goodE pX9_placeTold) = true := by decide +kernel
theorem g_X9_most : pX9_most.2.2.2.2.2.all (goodE pX9_most) = true := by decide +kernel
theorem g_X9_areNone : pX9_areNone.2.2.2.2.2.all (goodE pX9_areNone) = true := by decide +kernel
theorem g_X9_covers : pX9_covers.2.2.2.2.2.all (goodE pX9_covers) = true := by decide +kernel
theorem g_X9_fillRest : pX9_fillRest.2.2.2.2.2.all (goodE pX9_fillRest) = true := by decide +kernel
theorem g_X9_isSame : pX9_isSame.2.2.2.2.2.all (goodE pX9_isSame) = true := by decide +kernel
theorem g_X9_isGood : pX9_isGood.2.2.2.2.2.all (goodE pX9_isGood) = true := by decide +kernel
theorem g_X9_fillFirst : pX9_fillFirst.2.2.2.2.2.all (goodE pX9_fillFirst) = true := by decide +kernel
theorem g_X9_good : pX9_good.2.2.2.2.2.all (goodE pX9_good) = true := by decide +kernel
theorem g_X9_hide : pX9_hide.2.2.2.2.2.all (goodE pX9_hide) = true := by decide +kernel
theorem g_X9_image : pX9_image.2.2.2.2.2.all (goodE pX9_image) = true := by decide +kernel
theorem g_X9_restore : pX9_restore.2.2.2.2.2.all (goodE pX9_restore) = true := by decide +kernel
theorem g_X9_empties : pX9_empties.2.2.2.2.2.all (goodE pX9_empties) = true := by decide +kernel
theorem g_X9_letters : pX9_letters.2.2.2.2.2.all (goodE pX9_letters) = true := by decide +kernel
theorem g_X9_count : pX9_count.2.2.2.2.2.all (goodE pX9_count) = true := by decide +kernel
theorem g_J6_bitCount_0f7a4 : pJ6_bitCount_0f7a4.2.2.2.2.2.all (goodE pJ6_bitCount_0f7a4) = true := by decide +kernel
theorem g_J9_max_7cf53 : pJ9_max_7cf53.2.2.2.2.2.all (goodE pJ9_max_7cf53) = true := by decide +kernel
theorem g_J9_min_7cf53 : pJ9_min_7cf53.2.2.2.2.2.all (goodE pJ9_min_7cf53) = true := by decide +kernel
theorem g_J7_fill_53178 : pJ7_fill_53178.2.2.2.2.2.all (goodE pJ7_fill_53178) = true := by decide +kernel
theorem g_L_law_0 : ((pL_law.2.2.2.2.2.drop 0).take 50).all (goodE pL_law) = true := by decide +kernel
theorem g_L_law_50 : ((pL_law.2.2.2.2.2.drop 50).take 50).all (goodE pL_law) = true := by decide +kernel
theorem g_L_law_100 : ((pL_law.2.2.2.2.2.drop 100).take 50).all (goodE pL_law) = true := by decide +kernel
theorem g_L_law_150 : ((pL_law.2.2.2.2.2.drop 150).take 50).all (goodE pL_law) = true := by decide +kernel
theorem g_L_law_200 : ((pL_law.2.2.2.2.2.drop 200).take 50).all (goodE pL_law) = true := by decide +kernel
theorem g_L_law_250 : ((pL_law.2.2.2.2.2.drop 250).take 50).all (goodE pL_law) = true := by decide +kernel
theorem g_L_law_300 : ((pL_law.2.2.2.2.2.drop 300).take 50).all (goodE pL_law) = true := by decide +kernel
theorem g_L_law_350 : ((pL_law.2.2.2.2.2.drop 350).take 50).all (goodE pL_law) = true := by decide +kernel
theorem g_L_law_400 : ((pL_law.2.2.2.2.2.drop 400).take 50).all (goodE pL_law) = true := by decide +kernel
theorem g_L_law_e : (pL_law.2.2.2.2.2.drop 450) = [] := by decide +kernel
theorem g_L_law : pL_law.2.2.2.2.2.all (goodE pL_law) = true := all_cut 0 (all_drop 0 g_L_law_0 (all_drop 50 g_L_law_50 (all_drop 100 g_L_law_100 (all_drop 150 g_L_law_150 (all_drop 200 g_L_law_200 (all_drop 250 g_L_law_250 (all_drop 300 g_L_law_300 (all_drop 350 g_L_law_350 (all_drop 400 g_L_law_400 (by rw [g_L_law_e]; rfl))))))))))
set_option maxRecDepth 100000 in
theorem good_prog : ∀ J ∈ prog, J.2.2.2.2.2.all (goodE J) = true := List.forall_mem_cons.mpr ⟨g_X0_init, List.forall_mem_cons.mpr ⟨g_X0_copyFrom, List.forall_mem_cons.mpr ⟨g_X1_init, List.forall_mem_cons.mpr ⟨g_X1_hasHope, List.forall_mem_cons.mpr ⟨g_X1_meetLaying, List.forall_mem_cons.mpr ⟨g_X2_init, List.forall_mem_cons.mpr ⟨g_X2_hasHope, List.forall_mem_cons.mpr ⟨g_X2_meetLaying, List.forall_mem_cons.mpr ⟨g_X2_isSpoiled, List.forall_mem_cons.mpr ⟨g_X3_init, List.forall_mem_cons.mpr ⟨g_X3_measureReaches, List.forall_mem_cons.mpr ⟨g_X3_runOf, List.forall_mem_cons.mpr ⟨g_X3_hasCell, List.forall_mem_cons.mpr ⟨g_X3_hasPlace, List.forall_mem_cons.mpr ⟨g_X3_holds, List.forall_mem_cons.mpr ⟨g_X3_cellSet, List.forall_mem_cons.mpr ⟨g_X4_init, List.forall_mem_cons.mpr ⟨g_X4_look, List.forall_mem_cons.mpr ⟨g_X4_layFrom, List.forall_mem_cons.mpr ⟨g_X4_keepPlaces, List.forall_mem_cons.mpr ⟨g_X4_firstPlace, List.forall_mem_cons.mpr ⟨g_X5_init, List.forall_mem_cons.mpr ⟨g_X5_clear, List.forall_mem_cons.mpr ⟨g_X5_copyFrom, List.forall_mem_cons.mpr ⟨g_X5_accepts, List.forall_mem_cons.mpr ⟨g_X5_lay, List.forall_mem_cons.mpr ⟨g_X5_lift, List.forall_mem_cons.mpr ⟨g_X5_pour, List.forall_mem_cons.mpr ⟨g_X5_standing, List.forall_mem_cons.mpr ⟨g_X5_showsAt, List.forall_mem_cons.mpr ⟨g_X5_emptyCells, List.forall_mem_cons.mpr ⟨g_X5_unlikeLetters, List.forall_mem_cons.mpr ⟨g_X6_init, List.forall_mem_cons.mpr ⟨g_X6_append, List.forall_mem_cons.mpr ⟨g_X6_copyFrom, List.forall_mem_cons.mpr ⟨g_X6_isSameFromEnd, List.forall_mem_cons.mpr ⟨g_X7_init, List.forall_mem_cons.mpr ⟨g_X7_find, List.forall_mem_cons.mpr ⟨g_X7_append, List.forall_mem_cons.mpr ⟨g_X7_copyFrom, List.forall_mem_cons.mpr ⟨g_X8_init, List.forall_mem_cons.mpr ⟨g_X8_side, List.forall_mem_cons.mpr ⟨g_X8_set, List.forall_mem_cons.mpr ⟨g_X8_at, List.forall_mem_cons.mpr ⟨g_X8_say, List.forall_mem_cons.mpr ⟨g_X8_wipe, List.forall_mem_cons.mpr ⟨g_X8_take, List.forall_mem_cons.mpr ⟨g_X8_drop, List.forall_mem_cons.mpr ⟨g_X8_fill, List.forall_mem_cons.mpr ⟨g_X8_letter, List.forall_mem_cons.mpr ⟨g_X8_stands, List.forall_mem_cons.mpr ⟨g_X8_put, List.forall_mem_cons.mpr ⟨g_X8_fits, List.forall_mem_cons.mpr ⟨g_X8_most, List.forall_mem_cons.mpr ⟨g_X8_covers, List.forall_mem_cons.mpr ⟨g_X8_good, List.forall_mem_cons.mpr ⟨g_X8_hide, List.forall_mem_cons.mpr ⟨g_X8_image, List.forall_mem_cons.mpr ⟨g_X8_restore, List.forall_mem_cons.mpr ⟨g_X8_count, List.forall_mem_cons.mpr ⟨g_X8_isLetter, List.forall_mem_cons.mpr ⟨g_X8_isPlaceAsked, List.forall_mem_cons.mpr ⟨g_X8_listOf, List.forall_mem_cons.mpr ⟨g_X8_forgetLayings, List.forall_mem_cons.mpr ⟨g_X9_init, List.forall_mem_cons.mpr ⟨g_X9_in, List.forall_mem_cons.mpr ⟨g_X9_cells, List.forall_mem_cons.mpr ⟨g_X9_isCell, List.forall_mem_cons.mpr ⟨g_X9_isLetter, List.forall_mem_cons.mpr ⟨g_X9_isPlace, List.forall_mem_cons.mpr ⟨g_X9_isWord, List.forall_mem_cons.mpr ⟨g_X9_longOf, List.forall_mem_cons.mpr ⟨g_X9_letterOf, List.forall_mem_cons.mpr ⟨g_X9_side, List.forall_mem_cons.mpr ⟨g_X9_set, List.forall_mem_cons.mpr ⟨g_X9_at, List.forall_mem_cons.mpr ⟨g_X9_say, List.forall_mem_cons.mpr ⟨g_X9_wipe, List.forall_mem_cons.mpr ⟨g_X9_takeRest, List.forall_mem_cons.mpr ⟨g_X9_take, List.forall_mem_cons.mpr ⟨g_X9_drop, List.forall_mem_cons.mpr ⟨g_X9_fill, List.forall_mem_cons.mpr ⟨g_X9_letter, List.forall_mem_cons.mpr ⟨g_X9_across, List.forall_mem_cons.mpr ⟨g_X9_down, List.forall_mem_cons.mpr ⟨g_X9_cellAt, List.forall_mem_cons.mpr ⟨g_X9_canLie, List.forall_mem_cons.mpr ⟨g_X9_begin, List.forall_mem_cons.mpr ⟨g_X9_copyStep, List.forall_mem_cons.mpr ⟨g_X9_layWord, List.forall_mem_cons.mpr ⟨g_X9_placesOf, List.forall_mem_cons.mpr ⟨g_X9_layStep, List.forall_mem_cons.mpr ⟨g_X9_standsIn, List.forall_mem_cons.mpr ⟨g_X9_timesIn, List.forall_mem_cons.mpr ⟨g_X9_stands, List.forall_mem_cons.mpr ⟨g_X9_canPut, List.forall_mem_cons.mpr ⟨g_X9_put, List.forall_mem_cons.mpr ⟨g_X9_fits, List.forall_mem_cons.mpr ⟨g_X9_crossed, List.forall_mem_cons.mpr ⟨g_X9_covered, List.forall_mem_cons.mpr ⟨g_X9_keep, List.forall_mem_cons.mpr ⟨g_X9_see, List.forall_mem_cons.mpr ⟨g_X9_goThrough, List.forall_mem_cons.mpr ⟨g_X9_goLast, List.forall_mem_cons.mpr ⟨g_X9_placeTold, List.forall_mem_cons.mpr ⟨g_X9_most, List.forall_mem_cons.mpr ⟨g_X9_areNone, List.forall_mem_cons.mpr ⟨g_X9_covers, List.forall_mem_cons.mpr ⟨g_X9_fillRest, List.forall_mem_cons.mpr ⟨g_X9_isSame, List.forall_mem_cons.mpr ⟨g_X9_isGood, List.forall_mem_cons.mpr ⟨g_X9_fillFirst, List.forall_mem_cons.mpr ⟨g_X9_good, List.forall_mem_cons.mpr ⟨g_X9_hide, List.forall_mem_cons.mpr ⟨g_X9_image, List.forall_mem_cons.mpr ⟨g_X9_restore, List.forall_mem_cons.mpr ⟨g_X9_empties, List.forall_mem_cons.mpr ⟨g_X9_letters, List.forall_mem_cons.mpr ⟨g_X9_count, List.forall_mem_cons.mpr ⟨g_J6_bitCount_0f7a4, List.forall_mem_cons.mpr ⟨g_J9_max_7cf53, List.forall_mem_cons.mpr ⟨g_J9_min_7cf53, List.forall_mem_cons.mpr ⟨g_J7_fill_53178, List.forall_mem_cons.mpr ⟨g_L_law, fun _ h => absurd h List.not_mem_nil⟩⟩⟩⟩⟩⟩⟩⟩⟩⟩⟩⟩⟩⟩⟩⟩⟩⟩⟩⟩⟩⟩⟩⟩⟩⟩⟩⟩⟩⟩⟩⟩⟩⟩⟩⟩⟩⟩⟩⟩⟩⟩⟩⟩⟩⟩⟩⟩⟩⟩⟩⟩⟩⟩⟩⟩⟩⟩⟩⟩⟩⟩⟩⟩⟩⟩⟩⟩⟩⟩⟩⟩⟩⟩⟩⟩⟩⟩⟩⟩⟩⟩⟩⟩⟩⟩⟩⟩⟩⟩⟩⟩⟩⟩⟩⟩⟩⟩⟩⟩⟩⟩⟩⟩⟩⟩⟩⟩⟩⟩⟩⟩⟩⟩⟩⟩⟩⟩⟩⟩⟩⟩⟩⟩
theorem good_all (M : Nat) (J : wM) (h : prog[M]? = some J) (en : wE) (he : en ∈ J.2.2.2.2.2) : goodE J en = true := List.all_eq_true.mp (good_prog J (List.mem_of_getElem? h)) en he
end
section
/-! THE CLAIM OUT OF ONE WALK OF THE LAW'S BODY. Your part is whole_start (and what it stands on); all else here is the same for every law, but numbers. -/
def R_law : String := "WordHidesLaw"
def lw_P (b : Addr) (xs : List Int32) (args : Array Value) (s : State) : Prop := args = #[.ref b] ∧ s.IntsAt b xs ∧ xs.length ≤ 2048 ∧ (Jvm.Cond.and given_1 narrow_1).before args s = true
def lw_Q (_ : Array Value) (s : State) (o : Outcome) (t : State) : Prop := o = .returned (some (.int 1)) ∧ Framed s o t [] 600000 7302250
def lw_Z (below : List Frame) (a : Array Value) (s : State) : State → Prop := fun t => ∃ o, t.status = .running ∧ Ended t below o ∧ lw_Q a s o t
/-- the law's own end, with 1 on the stack, nothing written that was there before, its room as the claim has it -/
theorem lw_ret {p : Program} {l : Launch} {e : Env} {s : State} {m : MethodId} {below : List Frame} {meth : Method} {c : Code} {b : Nat} (hx : p.tables.exec = Jvm.exec) (hb : c.code = code) (hr : meth.sig.returnType = ret) (hlocks : meth.locks = false) {pc : Nat} {H : Heap} {ls : Array Slot} (hdg : decode code pc = .ok (.ireturn, 1)) : W p l e room_1 s m #[Value.ref b] below meth c H [] 600000 7302250 (lw_Z below #[Value.ref b] s) (F0 m pc ls [.int 1]) := by
  intro T hT X
  obtain ⟨fs, hret, hrun, hended, hW, hframe⟩ := X.leave (v := some (.int 1)) (hlocks := hlocks) (fun h => by rw [hr] at h; cases h)
  have hmeth' : T.vm.method? m = some meth := X.method'
  refine ⟨T.setFrames fs, ?_, .returned (some (.int 1)), hrun, hended, rfl, ⟨_, rfl⟩, hW, hframe⟩
  jvm_step X.here [X.here.top, hx, hb, hdg, hmeth', hr, ret, narrow_b1]
  (try refine ⟨rfl, ?_⟩); (try refine ⟨rfl, ?_⟩)
  first | (intro acts; rw [hret _ acts rfl rfl rfl]) | rw [hret _ _ rfl rfl rfl]
  exact Steps.refl _
/-- what holds at the law's entry: the machine, the code, the tables' words (any of lw_tbl by 'hts w (by decide +kernel)'), the script of L ints xs at the cell b, what the Statement gives of the start (any of its parts by flat_of_before) -/
def lw_At (p : Program) (s : State) (m : MethodId) (meth : Method) (c : Code) (b L : Nat) (xs : Nat → Int32) : Prop :=
  p.tables.exec = Jvm.exec ∧ c.code = code ∧ meth.sig.returnType = ret ∧ c.maxLocals = 4 ∧ s.vm.findClass R_law = some m.cls ∧ (∀ w ∈ lw_tbl, w.before #[Value.ref b] s = true) ∧ va_X b L xs s s.heap ∧ b < s.heap.size ∧ meth.locks = false ∧ (Jvm.Cond.and given_1 narrow_1).before #[Value.ref b] s = true

/-- what was there before: the static rows, the script -/
def h0 (xs : List Int32) : aH := [.inr (.inl (2, [0, 1, 1, 1, 0, -1, -1, -1])), .inr (.inl (2, [1, 1, 0, -1, -1, -1, 0, 1])), .inr (.inl (2, [3, 2, 1])), .inr (.inl (2, [4, 4, 9])), .inr (.inl (2, xs))]
/-- the law over the small machine, for one script -/
def LawRuns (xs : List Int32) : Prop := ∃ h', go 40 123 0 [.ref 4, aU, aU, aU] [] (h0 xs) = some (some (.int 1), h') ∧ h'.length ≤ 600 ∧ asl h' ≤ 20000
section ST
variable {s : State} {args : Array Value}
theorem st_row {n : String} {N : Nat} {xs : List Int32} (hts : ∀ w ∈ lw_tbl, w.before args s = true) (hs : ∀ w ∈ flatC (Jvm.Cond.and given_1 narrow_1), w.before args s = true) (hN : N < 2 ^ 31) (hxs : xs.length = N)
    (h1 : Jvm.Cond.arrayOf (.static "WordHides" n "[I") .int ∈ flatC (Jvm.Cond.and given_1 narrow_1)) (h2 : Jvm.Cond.eq (.length (.static "WordHides" n "[I")) (.int (Int32.ofNat N)) ∈ flatC (Jvm.Cond.and given_1 narrow_1))
    (h3 : ∀ j, j < N → Jvm.Cond.eq (.elem (.static "WordHides" n "[I") (.int (Int32.ofNat j))) (.int (xs.getD j 0)) ∈ flatC (Jvm.Cond.and given_1 narrow_1))
    (h4 : Jvm.Cond.laysStatic "WordHides" n "[I" ∈ lw_tbl) (h5 : Jvm.Cond.initialized "WordHides" ∈ lw_tbl) :
    ∃ a, va_T .int a xs.length (fun j => .int (xs.getD j 0)) (fun q => s.heap.size ≤ q) s s.heap ∧ va_Z "WordHides" n "[I" (.ref a) (fun q => s.heap.size ≤ q) s s.heap := by
  have hA : ∀ a : Nat, a < s.heap.size → ¬ (fun q => s.heap.size ≤ q) a := fun a h => Nat.not_le.mpr h
  obtain ⟨a, e1, e2⟩ := va_Tof (A := fun q => s.heap.size ≤ q) (f := fun j => .int (xs.getD j 0)) hN (hs _ h1) (va_eqt (hs _ h2)) (fun j hj => va_eqt (hs _ (h3 j hj))) hA
  rw [hxs]
  exact ⟨a, e2, va_Zof (hts _ h4) (hts _ h5) e1 hA⟩
end ST
set_option maxRecDepth 100000 in
set_option maxHeartbeats 4000000 in
theorem start_of {p : Program} {e : Env} {s : State} {m : MethodId} {below : List Frame} {meth : Method} {c : Code} (l : Launch) {b L : Nat} {xs : Nat → Int32} (hL : L ≤ 2048) (C0 : lw_At p s m meth c b L xs) (hlaw : LawRuns ((List.range L).map xs)) : W p l e room_1 s m #[Value.ref b] below meth c s.heap [] 0 0 (lw_Z below #[Value.ref b] s) (entryFrame m ([Value.ref b] : List Value).toArray 4) := by
  obtain ⟨hx, hb, hr, hml, hown, hts, hX, hbl, hlocks, hgv⟩ := id C0
  have hs := flat_of_before _ hgv
  obtain ⟨t0, T0, Z0⟩ := st_row (n := "ROW_STEPS") (xs := [0, 1, 1, 1, 0, -1, -1, -1]) hts hs (N := 8) (by decide) rfl (by decide +kernel) (by decide +kernel) (by decide +kernel) (by decide +kernel) (by decide +kernel)
  obtain ⟨t1, T1, Z1⟩ := st_row (n := "COLUMN_STEPS") (xs := [1, 1, 0, -1, -1, -1, 0, 1]) hts hs (N := 8) (by decide) rfl (by decide +kernel) (by decide +kernel) (by decide +kernel) (by decide +kernel) (by decide +kernel)
  obtain ⟨t2, T2, Z2⟩ := st_row (n := "LEAST_LETTERS") (xs := [3, 2, 1]) hts hs (N := 3) (by decide) rfl (by decide +kernel) (by decide +kernel) (by decide +kernel) (by decide +kernel) (by decide +kernel)
  obtain ⟨t3, T3, Z3⟩ := st_row (n := "MOST_LETTERS") (xs := [4, 4, 9]) hts hs (N := 3) (by decide) rfl (by decide +kernel) (by decide +kernel) (by decide +kernel) (by decide +kernel) (by decide +kernel)
  obtain ⟨D, hD⟩ : ∃ D : va_G, ∀ (k : Nat) (q : vw_C), vwCl[k]? = some q → u_Kn s q.1 q.2.1 q.2.2 (D.1 k) (D.2 k) := by
    have hk : ∀ k : Nat, ∃ q : ClassId × (Nat → Nat), ∀ r : vw_C, vwCl[k]? = some r → u_Kn s r.1 r.2.1 r.2.2 q.1 q.2 := by
      intro k
      cases hv : vwCl[k]? with
      | none => exact ⟨(0, fun _ => 0), fun r h => by cases h⟩
      | some r =>
        obtain ⟨y1, y2, y3, y4, y5, y6, y7, y8⟩ := gCl_at hv
        obtain ⟨cC, iS, hK⟩ := u_known (C := r.1) (T := r.2.1) (N := r.2.2) (n := r.2.2) (ws := lw_tbl) hts (fun w hw => (gtbl_in (y2 w hw)).1) (hts _ (gtbl_in y6).1)
        exact ⟨(cC, iS), fun r' h => by cases h; exact hK⟩
    exact ⟨(fun k => (Classical.choose (hk k)).1, fun k => (Classical.choose (hk k)).2), fun k q hq => Classical.choose_spec (hk k) q hq⟩
  obtain ⟨h', hgo, hl1, hl2⟩ := hlaw
  obtain ⟨n, hn⟩ := go_run hgo
  have tlt : ∀ {a N : Nat} {f : Nat → Value}, va_T .int a N f (fun q => s.heap.size ≤ q) s s.heap → a < s.heap.size := fun hz => by obtain ⟨z1, h1, -⟩ := hz; exact (Array.getElem?_eq_some_iff.mp h1).1
  have hT4 : va_T .int b ((List.range L).map xs).length (fun j => .int (((List.range L).map xs).getD j 0)) (fun q => s.heap.size ≤ q) s s.heap := by
    obtain ⟨scr, x1, x2, x3, x4, x5⟩ := hX
    refine ⟨scr, x1, x2, x3, by rw [x4]; simp, by rw [x4]; simp, fun j hj => ?_, Nat.not_le.mpr hbl⟩
    have hj : j < L := by simpa using hj
    rw [x5 j hj]
    simp [List.getD_eq_getElem?_getD, hj]
  have tb : ∀ k, k < 5 → (fun k => match k with | 0 => t0 | 1 => t1 | 2 => t2 | 3 => t3 | _ => b : Nat → Nat) k < s.heap.size := by
    intro k hk
    match k, hk with
    | 0, _ => exact tlt T0
    | 1, _ => exact tlt T1
    | 2, _ => exact tlt T2
    | 3, _ => exact tlt T3
    | 4, _ => exact hbl
  have S : aSim D (fun k => match k with | 0 => t0 | 1 => t1 | 2 => t2 | 3 => t3 | _ => b) s.heap.size (h0 ((List.range L).map xs)) s s.heap := by
    refine ⟨⟨hD, fun k q h => by simp at h⟩, fun k c hk => ?_, ⟨rfl, Nat.le_refl _⟩, fun i n hn => ?_, tb⟩
    · match k, hk with
      | 0, hk => cases hk; exact Or.inl ⟨rfl, by decide, T0⟩
      | 1, hk => cases hk; exact Or.inl ⟨rfl, by decide, T1⟩
      | 2, hk => cases hk; exact Or.inl ⟨rfl, by decide, T2⟩
      | 3, hk => cases hk; exact Or.inl ⟨rfl, by decide, T3⟩
      | 4, hk => cases hk; exact Or.inl ⟨rfl, by decide, hT4⟩
      | k + 5, hk => simp [h0] at hk
    · match i, hn with
      | 0, hn => cases hn; exact Z0
      | 1, hn => cases hn; exact Z1
      | 2, hn => cases hn; exact Z2
      | 3, hn => cases hn; exact Z3
      | i + 4, hn => simp [stNames] at hn
  have hnx : aNx s := by
    refine ⟨fun C hC => ?_, fun x hx => ?_, fun q hq => ?_⟩
    · have : ∀ C ∈ xA, Jvm.Cond.arrayOver (.object C) ∈ lw_tbl := by decide +kernel
      exact va_AO.of (hts _ (this C hC))
    · have : ∀ x ∈ xD, Jvm.Cond.declares x ∈ lw_tbl := by decide +kernel
      exact va_Nw.of rfl (hts _ (this x hx))
    · have : ∀ q ∈ xF, Jvm.Cond.fieldLinkNest q.1 q.2.1 "WordHides" q.2.2 "[I" "WordHides" ∈ lw_tbl := by decide +kernel
      exact va_Nw.of rfl (hts _ (this q hq))
  rw [show ([Value.ref b] : List Value) = ([Value.ref 4] : List Value).map (vr (fun k => match k with | 0 => t0 | 1 => t1 | 2 => t2 | 3 => t3 | _ => b) s.heap.size) from rfl]
  rw [entry_eq m _ (fun v hv => by
    obtain ⟨w, hw1, rfl⟩ := List.mem_map.mp hv
    exact vr_cat (by rw [List.mem_singleton.mp hw1]; rfl)) 4, List.length_map]
  refine (sound l D _ s.heap.size good_all n 40 123 0 _ _ _ _ _ hn).2 pL_law rfl p e room_1 s m _ below meth c s.heap [] 0 0 _ _ hx hb hml hown (fun w hw => hts w (gtbl_in hw).1) hnx (fun h => absurd h (by decide)) (by decide) (by decide) ?_ ?_ S (aL.entry (args := [.ref 4]) (n := 4) rfl) hml.symm (fun q hq => by cases hq) ?_
  · show 0 + (h'.length - _) ≤ 600000
    omega
  · show 0 + (asl h' - _) ≤ 7302250
    omega
  · intro pc' H' locs' arr' hret S' hloc'
    rcases hret with ⟨h, -⟩ | ⟨v, hv, hd, -⟩ | ⟨v, hv, hv2, -⟩
    · cases h
    · cases hv
      exact va_forget hloc' (W.widen (k := 600000) (n := 7302250) (by omega) (by omega) (lw_ret hx hb hr hlocks hd))
    · cases hv
      rcases hv2 with h | ⟨a, h⟩ <;> cases h
end
