-- ===== PART A: goes FIRST, ahead of the names: the tables' words, and 'selects' of the private methods out of them =====
/-- a private method of a class that the tables say can be made, by its rows of tables_1 -/
def lw_okq (q : MethodName × Nat) : Prop := (q.1.cls ≠ "java/lang/invoke/MethodHandle" ∧ q.1.cls ≠ "java/lang/invoke/VarHandle") ∧ Cond.instantiable q.1.cls q.2 ∈ tables_1 ∧ Cond.privateMethod q.1 ∈ tables_1 ∧ Cond.instanceMethod q.1 ∈ tables_1
theorem lw_p0 : lw_okq (⟨"WordHides$Lattice", "measureReaches", "(II)V"⟩, 5) := ⟨⟨by decide +kernel, by decide +kernel⟩, List.mem_of_getElem? (i := 24) (by decide +kernel), List.mem_of_getElem? (i := 34) (by decide +kernel), List.mem_of_getElem? (i := 35) (by decide +kernel)⟩
theorem lw_p1 : lw_okq (⟨"WordHides$Lattice", "runOf", "(II)I"⟩, 5) := ⟨⟨by decide +kernel, by decide +kernel⟩, List.mem_of_getElem? (i := 24) (by decide +kernel), List.mem_of_getElem? (i := 38) (by decide +kernel), List.mem_of_getElem? (i := 39) (by decide +kernel)⟩
theorem lw_p2 : lw_okq (⟨"WordHides", "forgetLayings", "()V"⟩, 9) := ⟨⟨by decide +kernel, by decide +kernel⟩, List.mem_of_getElem? (i := 16) (by decide +kernel), List.mem_of_getElem? (i := 290) (by decide +kernel), List.mem_of_getElem? (i := 291) (by decide +kernel)⟩
theorem lw_p3 : lw_okq (⟨"WordHides", "listOf", "(I)LWordHides$TextList;"⟩, 9) := ⟨⟨by decide +kernel, by decide +kernel⟩, List.mem_of_getElem? (i := 16) (by decide +kernel), List.mem_of_getElem? (i := 325) (by decide +kernel), List.mem_of_getElem? (i := 326) (by decide +kernel)⟩
theorem lw_p4 : lw_okq (⟨"WordHides$Square", "showsAt", "(LWordHides$Text;I)Z"⟩, 2) := ⟨⟨by decide +kernel, by decide +kernel⟩, List.mem_of_getElem? (i := 118) (by decide +kernel), List.mem_of_getElem? (i := 366) (by decide +kernel), List.mem_of_getElem? (i := 367) (by decide +kernel)⟩
theorem lw_p5 : lw_okq (⟨"WordHides$GoodSearch", "isSpoiled", "(LWordHides$Square;)Z"⟩, 10) := ⟨⟨by decide +kernel, by decide +kernel⟩, List.mem_of_getElem? (i := 224) (by decide +kernel), List.mem_of_getElem? (i := 447) (by decide +kernel), List.mem_of_getElem? (i := 448) (by decide +kernel)⟩
theorem lw_p6 : lw_okq (⟨"WordHidesModel", "isCell", "(I)Z"⟩, 13) := ⟨⟨by decide +kernel, by decide +kernel⟩, List.mem_of_getElem? (i := 535) (by decide +kernel), List.mem_of_getElem? (i := 593) (by decide +kernel), List.mem_of_getElem? (i := 594) (by decide +kernel)⟩
theorem lw_p7 : lw_okq (⟨"WordHidesModel", "cells", "()I"⟩, 13) := ⟨⟨by decide +kernel, by decide +kernel⟩, List.mem_of_getElem? (i := 535) (by decide +kernel), List.mem_of_getElem? (i := 597) (by decide +kernel), List.mem_of_getElem? (i := 598) (by decide +kernel)⟩
theorem lw_p8 : lw_okq (⟨"WordHidesModel", "takeRest", "()I"⟩, 13) := ⟨⟨by decide +kernel, by decide +kernel⟩, List.mem_of_getElem? (i := 535) (by decide +kernel), List.mem_of_getElem? (i := 620) (by decide +kernel), List.mem_of_getElem? (i := 621) (by decide +kernel)⟩
theorem lw_p9 : lw_okq (⟨"WordHidesModel", "isWord", "(II)Z"⟩, 13) := ⟨⟨by decide +kernel, by decide +kernel⟩, List.mem_of_getElem? (i := 535) (by decide +kernel), List.mem_of_getElem? (i := 636) (by decide +kernel), List.mem_of_getElem? (i := 637) (by decide +kernel)⟩
theorem lw_p10 : lw_okq (⟨"WordHidesModel", "longOf", "(II)I"⟩, 13) := ⟨⟨by decide +kernel, by decide +kernel⟩, List.mem_of_getElem? (i := 535) (by decide +kernel), List.mem_of_getElem? (i := 640) (by decide +kernel), List.mem_of_getElem? (i := 641) (by decide +kernel)⟩
theorem lw_p11 : lw_okq (⟨"WordHidesModel", "letterOf", "(III)I"⟩, 13) := ⟨⟨by decide +kernel, by decide +kernel⟩, List.mem_of_getElem? (i := 535) (by decide +kernel), List.mem_of_getElem? (i := 644) (by decide +kernel), List.mem_of_getElem? (i := 645) (by decide +kernel)⟩
theorem lw_p12 : lw_okq (⟨"WordHidesModel", "begin", "()V"⟩, 13) := ⟨⟨by decide +kernel, by decide +kernel⟩, List.mem_of_getElem? (i := 535) (by decide +kernel), List.mem_of_getElem? (i := 652) (by decide +kernel), List.mem_of_getElem? (i := 653) (by decide +kernel)⟩
theorem lw_p13 : lw_okq (⟨"WordHidesModel", "standsIn", "(IIII)Z"⟩, 13) := ⟨⟨by decide +kernel, by decide +kernel⟩, List.mem_of_getElem? (i := 535) (by decide +kernel), List.mem_of_getElem? (i := 656) (by decide +kernel), List.mem_of_getElem? (i := 657) (by decide +kernel)⟩
theorem lw_p14 : lw_okq (⟨"WordHidesModel", "canLie", "(II)Z"⟩, 13) := ⟨⟨by decide +kernel, by decide +kernel⟩, List.mem_of_getElem? (i := 535) (by decide +kernel), List.mem_of_getElem? (i := 660) (by decide +kernel), List.mem_of_getElem? (i := 661) (by decide +kernel)⟩
theorem lw_p15 : lw_okq (⟨"WordHidesModel", "cellAt", "(II)I"⟩, 13) := ⟨⟨by decide +kernel, by decide +kernel⟩, List.mem_of_getElem? (i := 535) (by decide +kernel), List.mem_of_getElem? (i := 664) (by decide +kernel), List.mem_of_getElem? (i := 665) (by decide +kernel)⟩
def lw_privs_1 : List (MethodName × Nat) := [(⟨"WordHides$Lattice", "measureReaches", "(II)V"⟩, 5), (⟨"WordHides$Lattice", "runOf", "(II)I"⟩, 5), (⟨"WordHides", "forgetLayings", "()V"⟩, 9), (⟨"WordHides", "listOf", "(I)LWordHides$TextList;"⟩, 9), (⟨"WordHides$Square", "showsAt", "(LWordHides$Text;I)Z"⟩, 2), (⟨"WordHides$GoodSearch", "isSpoiled", "(LWordHides$Square;)Z"⟩, 10), (⟨"WordHidesModel", "isCell", "(I)Z"⟩, 13), (⟨"WordHidesModel", "cells", "()I"⟩, 13), (⟨"WordHidesModel", "takeRest", "()I"⟩, 13), (⟨"WordHidesModel", "isWord", "(II)Z"⟩, 13), (⟨"WordHidesModel", "longOf", "(II)I"⟩, 13), (⟨"WordHidesModel", "letterOf", "(III)I"⟩, 13), (⟨"WordHidesModel", "begin", "()V"⟩, 13), (⟨"WordHidesModel", "standsIn", "(IIII)Z"⟩, 13), (⟨"WordHidesModel", "canLie", "(II)Z"⟩, 13), (⟨"WordHidesModel", "cellAt", "(II)I"⟩, 13)]
theorem lw_r1 : ∀ q ∈ lw_privs_1, lw_okq q := List.forall_mem_cons.mpr ⟨lw_p0, List.forall_mem_cons.mpr ⟨lw_p1, List.forall_mem_cons.mpr ⟨lw_p2, List.forall_mem_cons.mpr ⟨lw_p3, List.forall_mem_cons.mpr ⟨lw_p4, List.forall_mem_cons.mpr ⟨lw_p5, List.forall_mem_cons.mpr ⟨lw_p6, List.forall_mem_cons.mpr ⟨lw_p7, List.forall_mem_cons.mpr ⟨lw_p8, List.forall_mem_cons.mpr ⟨lw_p9, List.forall_mem_cons.mpr ⟨lw_p10, List.forall_mem_cons.mpr ⟨lw_p11, List.forall_mem_cons.mpr ⟨lw_p12, List.forall_mem_cons.mpr ⟨lw_p13, List.forall_mem_cons.mpr ⟨lw_p14, List.forall_mem_cons.mpr ⟨lw_p15, fun _ h => absurd h List.not_mem_nil⟩⟩⟩⟩⟩⟩⟩⟩⟩⟩⟩⟩⟩⟩⟩⟩
theorem lw_p16 : lw_okq (⟨"WordHidesModel", "isPlace", "(I)Z"⟩, 13) := ⟨⟨by decide +kernel, by decide +kernel⟩, List.mem_of_getElem? (i := 535) (by decide +kernel), List.mem_of_getElem? (i := 678) (by decide +kernel), List.mem_of_getElem? (i := 679) (by decide +kernel)⟩
theorem lw_p17 : lw_okq (⟨"WordHidesModel", "canPut", "(II)Z"⟩, 13) := ⟨⟨by decide +kernel, by decide +kernel⟩, List.mem_of_getElem? (i := 535) (by decide +kernel), List.mem_of_getElem? (i := 682) (by decide +kernel), List.mem_of_getElem? (i := 683) (by decide +kernel)⟩
theorem lw_p18 : lw_okq (⟨"WordHidesModel", "goThrough", "(Z)V"⟩, 13) := ⟨⟨by decide +kernel, by decide +kernel⟩, List.mem_of_getElem? (i := 535) (by decide +kernel), List.mem_of_getElem? (i := 694) (by decide +kernel), List.mem_of_getElem? (i := 695) (by decide +kernel)⟩
theorem lw_p19 : lw_okq (⟨"WordHidesModel", "placesOf", "(I)I"⟩, 13) := ⟨⟨by decide +kernel, by decide +kernel⟩, List.mem_of_getElem? (i := 535) (by decide +kernel), List.mem_of_getElem? (i := 698) (by decide +kernel), List.mem_of_getElem? (i := 699) (by decide +kernel)⟩
theorem lw_p20 : lw_okq (⟨"WordHidesModel", "layStep", "(II)Z"⟩, 13) := ⟨⟨by decide +kernel, by decide +kernel⟩, List.mem_of_getElem? (i := 535) (by decide +kernel), List.mem_of_getElem? (i := 702) (by decide +kernel), List.mem_of_getElem? (i := 703) (by decide +kernel)⟩
theorem lw_p21 : lw_okq (⟨"WordHidesModel", "copyStep", "(I)V"⟩, 13) := ⟨⟨by decide +kernel, by decide +kernel⟩, List.mem_of_getElem? (i := 535) (by decide +kernel), List.mem_of_getElem? (i := 706) (by decide +kernel), List.mem_of_getElem? (i := 707) (by decide +kernel)⟩
theorem lw_p22 : lw_okq (⟨"WordHidesModel", "layWord", "(II)Z"⟩, 13) := ⟨⟨by decide +kernel, by decide +kernel⟩, List.mem_of_getElem? (i := 535) (by decide +kernel), List.mem_of_getElem? (i := 710) (by decide +kernel), List.mem_of_getElem? (i := 711) (by decide +kernel)⟩
theorem lw_p23 : lw_okq (⟨"WordHidesModel", "goLast", "(II)V"⟩, 13) := ⟨⟨by decide +kernel, by decide +kernel⟩, List.mem_of_getElem? (i := 535) (by decide +kernel), List.mem_of_getElem? (i := 714) (by decide +kernel), List.mem_of_getElem? (i := 715) (by decide +kernel)⟩
theorem lw_p24 : lw_okq (⟨"WordHidesModel", "see", "(III)V"⟩, 13) := ⟨⟨by decide +kernel, by decide +kernel⟩, List.mem_of_getElem? (i := 535) (by decide +kernel), List.mem_of_getElem? (i := 718) (by decide +kernel), List.mem_of_getElem? (i := 719) (by decide +kernel)⟩
theorem lw_p25 : lw_okq (⟨"WordHidesModel", "isGood", "()Z"⟩, 13) := ⟨⟨by decide +kernel, by decide +kernel⟩, List.mem_of_getElem? (i := 535) (by decide +kernel), List.mem_of_getElem? (i := 722) (by decide +kernel), List.mem_of_getElem? (i := 723) (by decide +kernel)⟩
theorem lw_p26 : lw_okq (⟨"WordHidesModel", "fillRest", "()I"⟩, 13) := ⟨⟨by decide +kernel, by decide +kernel⟩, List.mem_of_getElem? (i := 535) (by decide +kernel), List.mem_of_getElem? (i := 726) (by decide +kernel), List.mem_of_getElem? (i := 727) (by decide +kernel)⟩
theorem lw_p27 : lw_okq (⟨"WordHidesModel", "timesIn", "(III)I"⟩, 13) := ⟨⟨by decide +kernel, by decide +kernel⟩, List.mem_of_getElem? (i := 535) (by decide +kernel), List.mem_of_getElem? (i := 730) (by decide +kernel), List.mem_of_getElem? (i := 731) (by decide +kernel)⟩
theorem lw_p28 : lw_okq (⟨"WordHidesModel", "isSame", "(I)Z"⟩, 13) := ⟨⟨by decide +kernel, by decide +kernel⟩, List.mem_of_getElem? (i := 535) (by decide +kernel), List.mem_of_getElem? (i := 734) (by decide +kernel), List.mem_of_getElem? (i := 735) (by decide +kernel)⟩
theorem lw_p29 : lw_okq (⟨"WordHidesModel", "keep", "(III)V"⟩, 13) := ⟨⟨by decide +kernel, by decide +kernel⟩, List.mem_of_getElem? (i := 535) (by decide +kernel), List.mem_of_getElem? (i := 738) (by decide +kernel), List.mem_of_getElem? (i := 739) (by decide +kernel)⟩
theorem lw_p30 : lw_okq (⟨"WordHidesModel", "crossed", "()I"⟩, 13) := ⟨⟨by decide +kernel, by decide +kernel⟩, List.mem_of_getElem? (i := 535) (by decide +kernel), List.mem_of_getElem? (i := 742) (by decide +kernel), List.mem_of_getElem? (i := 743) (by decide +kernel)⟩
theorem lw_p31 : lw_okq (⟨"WordHidesModel", "placeTold", "(IZ)I"⟩, 13) := ⟨⟨by decide +kernel, by decide +kernel⟩, List.mem_of_getElem? (i := 535) (by decide +kernel), List.mem_of_getElem? (i := 746) (by decide +kernel), List.mem_of_getElem? (i := 747) (by decide +kernel)⟩
def lw_privs_2 : List (MethodName × Nat) := [(⟨"WordHidesModel", "isPlace", "(I)Z"⟩, 13), (⟨"WordHidesModel", "canPut", "(II)Z"⟩, 13), (⟨"WordHidesModel", "goThrough", "(Z)V"⟩, 13), (⟨"WordHidesModel", "placesOf", "(I)I"⟩, 13), (⟨"WordHidesModel", "layStep", "(II)Z"⟩, 13), (⟨"WordHidesModel", "copyStep", "(I)V"⟩, 13), (⟨"WordHidesModel", "layWord", "(II)Z"⟩, 13), (⟨"WordHidesModel", "goLast", "(II)V"⟩, 13), (⟨"WordHidesModel", "see", "(III)V"⟩, 13), (⟨"WordHidesModel", "isGood", "()Z"⟩, 13), (⟨"WordHidesModel", "fillRest", "()I"⟩, 13), (⟨"WordHidesModel", "timesIn", "(III)I"⟩, 13), (⟨"WordHidesModel", "isSame", "(I)Z"⟩, 13), (⟨"WordHidesModel", "keep", "(III)V"⟩, 13), (⟨"WordHidesModel", "crossed", "()I"⟩, 13), (⟨"WordHidesModel", "placeTold", "(IZ)I"⟩, 13)]
theorem lw_r2 : ∀ q ∈ lw_privs_2, lw_okq q := List.forall_mem_cons.mpr ⟨lw_p16, List.forall_mem_cons.mpr ⟨lw_p17, List.forall_mem_cons.mpr ⟨lw_p18, List.forall_mem_cons.mpr ⟨lw_p19, List.forall_mem_cons.mpr ⟨lw_p20, List.forall_mem_cons.mpr ⟨lw_p21, List.forall_mem_cons.mpr ⟨lw_p22, List.forall_mem_cons.mpr ⟨lw_p23, List.forall_mem_cons.mpr ⟨lw_p24, List.forall_mem_cons.mpr ⟨lw_p25, List.forall_mem_cons.mpr ⟨lw_p26, List.forall_mem_cons.mpr ⟨lw_p27, List.forall_mem_cons.mpr ⟨lw_p28, List.forall_mem_cons.mpr ⟨lw_p29, List.forall_mem_cons.mpr ⟨lw_p30, List.forall_mem_cons.mpr ⟨lw_p31, fun _ h => absurd h List.not_mem_nil⟩⟩⟩⟩⟩⟩⟩⟩⟩⟩⟩⟩⟩⟩⟩⟩
theorem lw_p32 : lw_okq (⟨"WordHidesModel", "areNone", "(III)Z"⟩, 13) := ⟨⟨by decide +kernel, by decide +kernel⟩, List.mem_of_getElem? (i := 535) (by decide +kernel), List.mem_of_getElem? (i := 754) (by decide +kernel), List.mem_of_getElem? (i := 755) (by decide +kernel)⟩
theorem lw_p33 : lw_okq (⟨"WordHidesModel", "covered", "()I"⟩, 13) := ⟨⟨by decide +kernel, by decide +kernel⟩, List.mem_of_getElem? (i := 535) (by decide +kernel), List.mem_of_getElem? (i := 758) (by decide +kernel), List.mem_of_getElem? (i := 759) (by decide +kernel)⟩
theorem lw_p34 : lw_okq (⟨"WordHidesModel", "fillFirst", "()I"⟩, 13) := ⟨⟨by decide +kernel, by decide +kernel⟩, List.mem_of_getElem? (i := 535) (by decide +kernel), List.mem_of_getElem? (i := 766) (by decide +kernel), List.mem_of_getElem? (i := 767) (by decide +kernel)⟩
theorem lw_p35 : lw_okq (⟨"WordHidesModel", "empties", "()I"⟩, 13) := ⟨⟨by decide +kernel, by decide +kernel⟩, List.mem_of_getElem? (i := 535) (by decide +kernel), List.mem_of_getElem? (i := 786) (by decide +kernel), List.mem_of_getElem? (i := 787) (by decide +kernel)⟩
theorem lw_p36 : lw_okq (⟨"WordHidesModel", "letters", "()I"⟩, 13) := ⟨⟨by decide +kernel, by decide +kernel⟩, List.mem_of_getElem? (i := 535) (by decide +kernel), List.mem_of_getElem? (i := 790) (by decide +kernel), List.mem_of_getElem? (i := 791) (by decide +kernel)⟩
def lw_privs_3 : List (MethodName × Nat) := [(⟨"WordHidesModel", "areNone", "(III)Z"⟩, 13), (⟨"WordHidesModel", "covered", "()I"⟩, 13), (⟨"WordHidesModel", "fillFirst", "()I"⟩, 13), (⟨"WordHidesModel", "empties", "()I"⟩, 13), (⟨"WordHidesModel", "letters", "()I"⟩, 13)]
theorem lw_r3 : ∀ q ∈ lw_privs_3, lw_okq q := List.forall_mem_cons.mpr ⟨lw_p32, List.forall_mem_cons.mpr ⟨lw_p33, List.forall_mem_cons.mpr ⟨lw_p34, List.forall_mem_cons.mpr ⟨lw_p35, List.forall_mem_cons.mpr ⟨lw_p36, fun _ h => absurd h List.not_mem_nil⟩⟩⟩⟩⟩
def lw_privs : List (MethodName × Nat) := lw_privs_1 ++ (lw_privs_2 ++ (lw_privs_3))
def lw_tbl : List Cond := k2_sels lw_privs ++ tables_1
theorem lw_privs_ok : ∀ q ∈ lw_privs, lw_okq q := by
  show ∀ q ∈ lw_privs_1 ++ (lw_privs_2 ++ (lw_privs_3)), lw_okq q
  exact List.forall_mem_append.mpr ⟨lw_r1, List.forall_mem_append.mpr ⟨lw_r2, lw_r3⟩⟩

def RX0 : String := "WordHides$Board"
def TX0 : u_T := fun k => match k with
  | 0 => ("WordHides$Board", "square", "LWordHides$Square;", true)
  | 1 => ("WordHides$Board", "words", "LWordHides$TextList;", true)
  | 2 => ("WordHides$Board", "barred", "LWordHides$TextList;", true)
  | _ => ("WordHides$Board", "rest", "LWordHides$Text;", true)
def RX1 : String := "WordHides$CrossedSearch"
def TX1 : u_T := fun k => match k with
  | 0 => ("WordHides$Search", "board", "LWordHides$Board;", true)
  | 1 => ("WordHides$Search", "laid", "LWordHides$Square;", true)
  | 2 => ("WordHides$Search", "places", "[I", true)
  | 3 => ("WordHides$Search", "cellSets", "[I", true)
  | 4 => ("WordHides$Search", "firstPlaces", "[I", true)
  | 5 => ("WordHides$Search", "total", "I", false)
  | 6 => ("WordHides$Search", "known", "Z", false)
  | 7 => ("WordHides$CrossedSearch", "mostCrossed", "I", false)
  | _ => ("WordHides$CrossedSearch", "withMost", "I", false)
def RX2 : String := "WordHides$GoodSearch"
def TX2 : u_T := fun k => match k with
  | 0 => ("WordHides$Search", "board", "LWordHides$Board;", true)
  | 1 => ("WordHides$Search", "laid", "LWordHides$Square;", true)
  | 2 => ("WordHides$Search", "places", "[I", true)
  | 3 => ("WordHides$Search", "cellSets", "[I", true)
  | 4 => ("WordHides$Search", "firstPlaces", "[I", true)
  | 5 => ("WordHides$Search", "total", "I", false)
  | 6 => ("WordHides$Search", "known", "Z", false)
  | 7 => ("WordHides$GoodSearch", "filled", "LWordHides$Square;", true)
  | 8 => ("WordHides$GoodSearch", "firstFilled", "LWordHides$Square;", true)
  | _ => ("WordHides$GoodSearch", "firstFromRest", "I", false)
def RX3 : String := "WordHides$Lattice"
def TX3 : u_T := fun k => match k with
  | 0 => ("WordHides$Lattice", "side", "I", true)
  | 1 => ("WordHides$Lattice", "cellCount", "I", true)
  | 2 => ("WordHides$Lattice", "placeCount", "I", true)
  | 3 => ("WordHides$Lattice", "steps", "[I", true)
  | _ => ("WordHides$Lattice", "reaches", "[I", true)
def RX4 : String := "WordHides$Search"
def TX4 : u_T := fun k => match k with
  | _ => ("", "", "", false)
def RX5 : String := "WordHides$Square"
def TX5 : u_T := fun k => match k with
  | 0 => ("WordHides$Square", "cells", "[I", true)
  | _ => ("WordHides$Square", "lattice", "LWordHides$Lattice;", false)
def RX6 : String := "WordHides$Text"
def TX6 : u_T := fun k => match k with
  | 0 => ("WordHides$Text", "letters", "[I", true)
  | _ => ("WordHides$Text", "size", "I", false)
def RX7 : String := "WordHides$TextList"
def TX7 : u_T := fun k => match k with
  | 0 => ("WordHides$TextList", "texts", "[LWordHides$Text;", true)
  | _ => ("WordHides$TextList", "size", "I", false)
def RX8 : String := "WordHides"
def TX8 : u_T := fun k => match k with
  | 0 => ("WordHides", "smallLattice", "LWordHides$Lattice;", true)
  | 1 => ("WordHides", "largeLattice", "LWordHides$Lattice;", true)
  | 2 => ("WordHides", "board", "LWordHides$Board;", true)
  | 3 => ("WordHides", "images", "[LWordHides$Board;", true)
  | 4 => ("WordHides", "pad", "LWordHides$Text;", true)
  | 5 => ("WordHides", "trial", "LWordHides$Square;", true)
  | 6 => ("WordHides", "crossedSearch", "LWordHides$CrossedSearch;", true)
  | 7 => ("WordHides", "goodSearch", "LWordHides$GoodSearch;", true)
  | _ => ("WordHides", "keptImages", "I", false)
def RX9 : String := "WordHidesModel"
def TX9 : u_T := fun k => match k with
  | 0 => ("WordHidesModel", "state", "[I", true)
  | 1 => ("WordHidesModel", "images", "[I", true)
  | 2 => ("WordHidesModel", "isKept", "[Z", true)
  | 3 => ("WordHidesModel", "pad", "[I", true)
  | 4 => ("WordHidesModel", "said", "I", false)
  | 5 => ("WordHidesModel", "square", "[I", true)
  | 6 => ("WordHidesModel", "cover", "[I", true)
  | 7 => ("WordHidesModel", "layings", "I", false)
  | 8 => ("WordHidesModel", "mostCrossed", "I", false)
  | 9 => ("WordHidesModel", "asMany", "I", false)
  | 10 => ("WordHidesModel", "goods", "I", false)
  | 11 => ("WordHidesModel", "firstPlace", "[I", true)
  | _ => ("WordHidesModel", "isForGood", "Z", false)
abbrev vwCl : List vw_C := [(RX0, TX0, 4), (RX1, TX1, 9), (RX2, TX2, 10), (RX3, TX3, 5), (RX5, TX5, 2), (RX6, TX6, 2), (RX7, TX7, 2), (RX8, TX8, 9), (RX9, TX9, 13)]
