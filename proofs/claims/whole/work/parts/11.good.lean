/-! every entry of every method is as the tables have it: looked at by the kernel -/
theorem all_drop {α : Type} {p : α → Bool} {l : List α} (c : Nat) (h1 : ((l.drop c).take 50).all p = true) (h2 : (l.drop (c + 50)).all p = true) : (l.drop c).all p = true := by
  have : l.drop c = (l.drop c).take 50 ++ l.drop (c + 50) := by rw [← List.drop_drop, List.take_append_drop]
  rw [this, List.all_append, h1, h2]
  rfl
theorem all_cut {α : Type} {p : α → Bool} {l : List α} (c : Nat) (h : (l.drop 0).all p = true) : l.all p = true := h
theorem g_X0_init : pX0_init.2.2.2.2.2.all (goodE pX0_init) = true := by decide +kernel
theorem g_X0_copyFrom : pX0_copyFrom.2.2.2.2.2.all (goodE pX0_copyFrom) = true := by decide +kernel
theorem g_X1_init : pX1_init.2.2.2.2.2.all (goodE pX1_init) = true := by decide +kernel
theorem g_X1_hasHope : pX1_hasHope.2.2.2.2.2.all (goodE pX1_hasHope) = true := by decide +kernel
theorem g_X1_meetLaying : pX1_meetLaying.2.2.2.2.2.all (goodE pX1_meetLaying) = true := by decide +kernel
theorem g_X2_init : pX2_init.2.2.2.2.2.all (goodE pX2_init) = true := by decide +kernel
theorem g_X2_hasHope : pX2_hasHope.2.2.2.2.2.all (goodE pX2_hasHope) = true := by decide +kernel
theorem g_X2_meetLaying : pX2_meetLaying.2.2.2.2.2.all (goodE pX2_meetLaying) = true := by decide +kernel
theorem g_X2_isSpoiled : pX2_isSpoiled.2.2.2.2.2.all (goodE pX2_isSpoiled) = true := by decide +kernel
theorem g_X3_init : pX3_init.2.2.2.2.2.all (goodE pX3_init) = true := by decide +kernel
theorem g_X3_measureReaches : pX3_measureReaches.2.2.2.2.2.all (goodE pX3_measureReaches) = true := by decide +kernel
theorem g_X3_runOf : pX3_runOf.2.2.2.2.2.all (goodE pX3_runOf) = true := by decide +kernel
theorem g_X3_hasCell : pX3_hasCell.2.2.2.2.2.all (goodE pX3_hasCell) = true := by decide +kernel
theorem g_X3_hasPlace : pX3_hasPlace.2.2.2.2.2.all (goodE pX3_hasPlace) = true := by decide +kernel
theorem g_X3_holds : pX3_holds.2.2.2.2.2.all (goodE pX3_holds) = true := by decide +kernel
theorem g_X3_cellSet : pX3_cellSet.2.2.2.2.2.all (goodE pX3_cellSet) = true := by decide +kernel
theorem g_X4_init : pX4_init.2.2.2.2.2.all (goodE pX4_init) = true := by decide +kernel
theorem g_X4_look : pX4_look.2.2.2.2.2.all (goodE pX4_look) = true := by decide +kernel
theorem g_X4_layFrom : pX4_layFrom.2.2.2.2.2.all (goodE pX4_layFrom) = true := by decide +kernel
theorem g_X4_keepPlaces : pX4_keepPlaces.2.2.2.2.2.all (goodE pX4_keepPlaces) = true := by decide +kernel
theorem g_X4_firstPlace : pX4_firstPlace.2.2.2.2.2.all (goodE pX4_firstPlace) = true := by decide +kernel
theorem g_X5_init : pX5_init.2.2.2.2.2.all (goodE pX5_init) = true := by decide +kernel
theorem g_X5_clear : pX5_clear.2.2.2.2.2.all (goodE pX5_clear) = true := by decide +kernel
theorem g_X5_copyFrom : pX5_copyFrom.2.2.2.2.2.all (goodE pX5_copyFrom) = true := by decide +kernel
theorem g_X5_accepts : pX5_accepts.2.2.2.2.2.all (goodE pX5_accepts) = true := by decide +kernel
theorem g_X5_lay : pX5_lay.2.2.2.2.2.all (goodE pX5_lay) = true := by decide +kernel
theorem g_X5_lift : pX5_lift.2.2.2.2.2.all (goodE pX5_lift) = true := by decide +kernel
theorem g_X5_pour : pX5_pour.2.2.2.2.2.all (goodE pX5_pour) = true := by decide +kernel
theorem g_X5_standing : pX5_standing.2.2.2.2.2.all (goodE pX5_standing) = true := by decide +kernel
theorem g_X5_showsAt : pX5_showsAt.2.2.2.2.2.all (goodE pX5_showsAt) = true := by decide +kernel
theorem g_X5_emptyCells : pX5_emptyCells.2.2.2.2.2.all (goodE pX5_emptyCells) = true := by decide +kernel
theorem g_X5_unlikeLetters : pX5_unlikeLetters.2.2.2.2.2.all (goodE pX5_unlikeLetters) = true := by decide +kernel
theorem g_X6_init : pX6_init.2.2.2.2.2.all (goodE pX6_init) = true := by decide +kernel
theorem g_X6_append : pX6_append.2.2.2.2.2.all (goodE pX6_append) = true := by decide +kernel
theorem g_X6_copyFrom : pX6_copyFrom.2.2.2.2.2.all (goodE pX6_copyFrom) = true := by decide +kernel
theorem g_X6_isSameFromEnd : pX6_isSameFromEnd.2.2.2.2.2.all (goodE pX6_isSameFromEnd) = true := by decide +kernel
theorem g_X7_init : pX7_init.2.2.2.2.2.all (goodE pX7_init) = true := by decide +kernel
theorem g_X7_find : pX7_find.2.2.2.2.2.all (goodE pX7_find) = true := by decide +kernel
theorem g_X7_append : pX7_append.2.2.2.2.2.all (goodE pX7_append) = true := by decide +kernel
theorem g_X7_copyFrom : pX7_copyFrom.2.2.2.2.2.all (goodE pX7_copyFrom) = true := by decide +kernel
theorem g_X8_init_0 : ((pX8_init.2.2.2.2.2.drop 0).take 50).all (goodE pX8_init) = true := by decide +kernel
theorem g_X8_init_50 : ((pX8_init.2.2.2.2.2.drop 50).take 50).all (goodE pX8_init) = true := by decide +kernel
theorem g_X8_init_e : (pX8_init.2.2.2.2.2.drop 100) = [] := by decide +kernel
theorem g_X8_init : pX8_init.2.2.2.2.2.all (goodE pX8_init) = true := all_cut 0 (all_drop 0 g_X8_init_0 (all_drop 50 g_X8_init_50 (by rw [g_X8_init_e]; rfl)))
theorem g_X8_side : pX8_side.2.2.2.2.2.all (goodE pX8_side) = true := by decide +kernel
theorem g_X8_set : pX8_set.2.2.2.2.2.all (goodE pX8_set) = true := by decide +kernel
theorem g_X8_at : pX8_at.2.2.2.2.2.all (goodE pX8_at) = true := by decide +kernel
theorem g_X8_say : pX8_say.2.2.2.2.2.all (goodE pX8_say) = true := by decide +kernel
theorem g_X8_wipe : pX8_wipe.2.2.2.2.2.all (goodE pX8_wipe) = true := by decide +kernel
theorem g_X8_take : pX8_take.2.2.2.2.2.all (goodE pX8_take) = true := by decide +kernel
theorem g_X8_drop : pX8_drop.2.2.2.2.2.all (goodE pX8_drop) = true := by decide +kernel
theorem g_X8_fill : pX8_fill.2.2.2.2.2.all (goodE pX8_fill) = true := by decide +kernel
theorem g_X8_letter : pX8_letter.2.2.2.2.2.all (goodE pX8_letter) = true := by decide +kernel
theorem g_X8_stands : pX8_stands.2.2.2.2.2.all (goodE pX8_stands) = true := by decide +kernel
theorem g_X8_put : pX8_put.2.2.2.2.2.all (goodE pX8_put) = true := by decide +kernel
theorem g_X8_fits : pX8_fits.2.2.2.2.2.all (goodE pX8_fits) = true := by decide +kernel
theorem g_X8_most : pX8_most.2.2.2.2.2.all (goodE pX8_most) = true := by decide +kernel
theorem g_X8_covers_0 : ((pX8_covers.2.2.2.2.2.drop 0).take 50).all (goodE pX8_covers) = true := by decide +kernel
theorem g_X8_covers_50 : ((pX8_covers.2.2.2.2.2.drop 50).take 50).all (goodE pX8_covers) = true := by decide +kernel
theorem g_X8_covers_e : (pX8_covers.2.2.2.2.2.drop 100) = [] := by decide +kernel
theorem g_X8_covers : pX8_covers.2.2.2.2.2.all (goodE pX8_covers) = true := all_cut 0 (all_drop 0 g_X8_covers_0 (all_drop 50 g_X8_covers_50 (by rw [g_X8_covers_e]; rfl)))
theorem g_X8_good : pX8_good.2.2.2.2.2.all (goodE pX8_good) = true := by decide +kernel
theorem g_X8_hide : pX8_hide.2.2.2.2.2.all (goodE pX8_hide) = true := by decide +kernel
theorem g_X8_image : pX8_image.2.2.2.2.2.all (goodE pX8_image) = true := by decide +kernel
theorem g_X8_restore : pX8_restore.2.2.2.2.2.all (goodE pX8_restore) = true := by decide +kernel
theorem g_X8_count : pX8_count.2.2.2.2.2.all (goodE pX8_count) = true := by decide +kernel
theorem g_X8_isLetter : pX8_isLetter.2.2.2.2.2.all (goodE pX8_isLetter) = true := by decide +kernel
theorem g_X8_isPlaceAsked : pX8_isPlaceAsked.2.2.2.2.2.all (goodE pX8_isPlaceAsked) = true := by decide +kernel
theorem g_X8_listOf : pX8_listOf.2.2.2.2.2.all (goodE pX8_listOf) = true := by decide +kernel
theorem g_X8_forgetLayings : pX8_forgetLayings.2.2.2.2.2.all (goodE pX8_forgetLayings) = true := by decide +kernel
theorem g_X9_init : pX9_init.2.2.2.2.2.all (goodE pX9_init) = true := by decide +kernel
theorem g_X9_in : pX9_in.2.2.2.2.2.all (goodE pX9_in) = true := by decide +kernel
theorem g_X9_cells : pX9_cells.2.2.2.2.2.all (goodE pX9_cells) = true := by decide +kernel
theorem g_X9_isCell : pX9_isCell.2.2.2.2.2.all (goodE pX9_isCell) = true := by decide +kernel
theorem g_X9_isLetter : pX9_isLetter.2.2.2.2.2.all (goodE pX9_isLetter) = true := by decide +kernel
theorem g_X9_isPlace : pX9_isPlace.2.2.2.2.2.all (goodE pX9_isPlace) = true := by decide +kernel
theorem g_X9_isWord : pX9_isWord.2.2.2.2.2.all (goodE pX9_isWord) = true := by decide +kernel
theorem g_X9_longOf : pX9_longOf.2.2.2.2.2.all (goodE pX9_longOf) = true := by decide +kernel
theorem g_X9_letterOf : pX9_letterOf.2.2.2.2.2.all (goodE pX9_letterOf) = true := by decide +kernel
theorem g_X9_side : pX9_side.2.2.2.2.2.all (goodE pX9_side) = true := by decide +kernel
theorem g_X9_set : pX9_set.2.2.2.2.2.all (goodE pX9_set) = true := by decide +kernel
theorem g_X9_at : pX9_at.2.2.2.2.2.all (goodE pX9_at) = true := by decide +kernel
theorem g_X9_say : pX9_say.2.2.2.2.2.all (goodE pX9_say) = true := by decide +kernel
theorem g_X9_wipe : pX9_wipe.2.2.2.2.2.all (goodE pX9_wipe) = true := by decide +kernel
theorem g_X9_takeRest : pX9_takeRest.2.2.2.2.2.all (goodE pX9_takeRest) = true := by decide +kernel
theorem g_X9_take_0 : ((pX9_take.2.2.2.2.2.drop 0).take 50).all (goodE pX9_take) = true := by decide +kernel
theorem g_X9_take_50 : ((pX9_take.2.2.2.2.2.drop 50).take 50).all (goodE pX9_take) = true := by decide +kernel
theorem g_X9_take_e : (pX9_take.2.2.2.2.2.drop 100) = [] := by decide +kernel
theorem g_X9_take : pX9_take.2.2.2.2.2.all (goodE pX9_take) = true := all_cut 0 (all_drop 0 g_X9_take_0 (all_drop 50 g_X9_take_50 (by rw [g_X9_take_e]; rfl)))
theorem g_X9_drop : pX9_drop.2.2.2.2.2.all (goodE pX9_drop) = true := by decide +kernel
theorem g_X9_fill : pX9_fill.2.2.2.2.2.all (goodE pX9_fill) = true := by decide +kernel
theorem g_X9_letter : pX9_letter.2.2.2.2.2.all (goodE pX9_letter) = true := by decide +kernel
theorem g_X9_across : pX9_across.2.2.2.2.2.all (goodE pX9_across) = true := by decide +kernel
theorem g_X9_down : pX9_down.2.2.2.2.2.all (goodE pX9_down) = true := by decide +kernel
theorem g_X9_cellAt : pX9_cellAt.2.2.2.2.2.all (goodE pX9_cellAt) = true := by decide +kernel
theorem g_X9_canLie : pX9_canLie.2.2.2.2.2.all (goodE pX9_canLie) = true := by decide +kernel
theorem g_X9_begin : pX9_begin.2.2.2.2.2.all (goodE pX9_begin) = true := by decide +kernel
theorem g_X9_copyStep : pX9_copyStep.2.2.2.2.2.all (goodE pX9_copyStep) = true := by decide +kernel
theorem g_X9_layWord_0 : ((pX9_layWord.2.2.2.2.2.drop 0).take 50).all (goodE pX9_layWord) = true := by decide +kernel
theorem g_X9_layWord_50 : ((pX9_layWord.2.2.2.2.2.drop 50).take 50).all (goodE pX9_layWord) = true := by decide +kernel
theorem g_X9_layWord_e : (pX9_layWord.2.2.2.2.2.drop 100) = [] := by decide +kernel
theorem g_X9_layWord : pX9_layWord.2.2.2.2.2.all (goodE pX9_layWord) = true := all_cut 0 (all_drop 0 g_X9_layWord_0 (all_drop 50 g_X9_layWord_50 (by rw [g_X9_layWord_e]; rfl)))
theorem g_X9_placesOf : pX9_placesOf.2.2.2.2.2.all (goodE pX9_placesOf) = true := by decide +kernel
theorem g_X9_layStep : pX9_layStep.2.2.2.2.2.all (goodE pX9_layStep) = true := by decide +kernel
theorem g_X9_standsIn : pX9_standsIn.2.2.2.2.2.all (goodE pX9_standsIn) = true := by decide +kernel
theorem g_X9_timesIn : pX9_timesIn.2.2.2.2.2.all (goodE pX9_timesIn) = true := by decide +kernel
theorem g_X9_stands : pX9_stands.2.2.2.2.2.all (goodE pX9_stands) = true := by decide +kernel
theorem g_X9_canPut : pX9_canPut.2.2.2.2.2.all (goodE pX9_canPut) = true := by decide +kernel
theorem g_X9_put : pX9_put.2.2.2.2.2.all (goodE pX9_put) = true := by decide +kernel
theorem g_X9_fits : pX9_fits.2.2.2.2.2.all (goodE pX9_fits) = true := by decide +kernel
theorem g_X9_crossed : pX9_crossed.2.2.2.2.2.all (goodE pX9_crossed) = true := by decide +kernel
theorem g_X9_covered : pX9_covered.2.2.2.2.2.all (goodE pX9_covered) = true := by decide +kernel
theorem g_X9_keep : pX9_keep.2.2.2.2.2.all (goodE pX9_keep) = true := by decide +kernel
theorem g_X9_see : pX9_see.2.2.2.2.2.all (goodE pX9_see) = true := by decide +kernel
theorem g_X9_goThrough : pX9_goThrough.2.2.2.2.2.all (goodE pX9_goThrough) = true := by decide +kernel
theorem g_X9_goLast : pX9_goLast.2.2.2.2.2.all (goodE pX9_goLast) = true := by decide +kernel
theorem g_X9_placeTold : pX9_placeTold.2.2.2.2.2.all (goodE pX9_placeTold) = true := by decide +kernel
theorem g_X9_most : pX9_most.2.2.2.2.2.all (goodE pX9_most) = true := by decide +kernel
theorem g_X9_areNone : pX9_areNone.2.2.2.2.2.all (goodE pX9_areNone) = true := by decide +kernel
theorem g_X9_covers : pX9_covers.2.2.2.2.2.all (goodE pX9_covers) = true := by decide +kernel
theorem g_X9_fillRest : pX9_fillRest.2.2.2.2.2.all (goodE pX9_fillRest) = true := by decide +kernel
theorem g_X9_isSame : pX9_isSame.2.2.2.2.2.all (goodE pX9_isSame) = true := by decide +kernel
theorem g_X9_isGood : pX9_isGood.2.2.2.2.2.all (goodE pX9_isGood) = true := by decide +kernel
theorem g_X9_fillFirst : pX9_fillFirst.2.2.2.2.2.all (goodE pX9_fillFirst) = true := by decide +kernel
theorem g_X9_good : pX9_good.2.2.2.2.2.all (goodE pX9_good) = true := by decide +kernel
theorem g_X9_hide : pX9_hide.2.2.2.2.2.all (goodE pX9_hide) = true := by decide +kernel
theorem g_X9_image : pX9_image.2.2.2.2.2.all (goodE pX9_image) = true := by decide +kernel
theorem g_X9_restore : pX9_restore.2.2.2.2.2.all (goodE pX9_restore) = true := by decide +kernel
theorem g_X9_empties : pX9_empties.2.2.2.2.2.all (goodE pX9_empties) = true := by decide +kernel
theorem g_X9_letters : pX9_letters.2.2.2.2.2.all (goodE pX9_letters) = true := by decide +kernel
theorem g_X9_count : pX9_count.2.2.2.2.2.all (goodE pX9_count) = true := by decide +kernel
theorem g_J6_bitCount_0f7a4 : pJ6_bitCount_0f7a4.2.2.2.2.2.all (goodE pJ6_bitCount_0f7a4) = true := by decide +kernel
theorem g_J9_max_7cf53 : pJ9_max_7cf53.2.2.2.2.2.all (goodE pJ9_max_7cf53) = true := by decide +kernel
theorem g_J9_min_7cf53 : pJ9_min_7cf53.2.2.2.2.2.all (goodE pJ9_min_7cf53) = true := by decide +kernel
theorem g_J7_fill_53178 : pJ7_fill_53178.2.2.2.2.2.all (goodE pJ7_fill_53178) = true := by decide +kernel
theorem g_L_law_0 : ((pL_law.2.2.2.2.2.drop 0).take 50).all (goodE pL_law) = true := by decide +kernel
theorem g_L_law_50 : ((pL_law.2.2.2.2.2.drop 50).take 50).all (goodE pL_law) = true := by decide +kernel
theorem g_L_law_100 : ((pL_law.2.2.2.2.2.drop 100).take 50).all (goodE pL_law) = true := by decide +kernel
theorem g_L_law_150 : ((pL_law.2.2.2.2.2.drop 150).take 50).all (goodE pL_law) = true := by decide +kernel
theorem g_L_law_200 : ((pL_law.2.2.2.2.2.drop 200).take 50).all (goodE pL_law) = true := by decide +kernel
theorem g_L_law_250 : ((pL_law.2.2.2.2.2.drop 250).take 50).all (goodE pL_law) = true := by decide +kernel
theorem g_L_law_300 : ((pL_law.2.2.2.2.2.drop 300).take 50).all (goodE pL_law) = true := by decide +kernel
theorem g_L_law_350 : ((pL_law.2.2.2.2.2.drop 350).take 50).all (goodE pL_law) = true := by decide +kernel
theorem g_L_law_400 : ((pL_law.2.2.2.2.2.drop 400).take 50).all (goodE pL_law) = true := by decide +kernel
theorem g_L_law_e : (pL_law.2.2.2.2.2.drop 450) = [] := by decide +kernel
theorem g_L_law : pL_law.2.2.2.2.2.all (goodE pL_law) = true := all_cut 0 (all_drop 0 g_L_law_0 (all_drop 50 g_L_law_50 (all_drop 100 g_L_law_100 (all_drop 150 g_L_law_150 (all_drop 200 g_L_law_200 (all_drop 250 g_L_law_250 (all_drop 300 g_L_law_300 (all_drop 350 g_L_law_350 (all_drop 400 g_L_law_400 (by rw [g_L_law_e]; rfl))))))))))
set_option maxRecDepth 100000 in
theorem good_prog : ∀ J ∈ prog, J.2.2.2.2.2.all (goodE J) = true := List.forall_mem_cons.mpr ⟨g_X0_init, List.forall_mem_cons.mpr ⟨g_X0_copyFrom, List.forall_mem_cons.mpr ⟨g_X1_init, List.forall_mem_cons.mpr ⟨g_X1_hasHope, List.forall_mem_cons.mpr ⟨g_X1_meetLaying, List.forall_mem_cons.mpr ⟨g_X2_init, List.forall_mem_cons.mpr ⟨g_X2_hasHope, List.forall_mem_cons.mpr ⟨g_X2_meetLaying, List.forall_mem_cons.mpr ⟨g_X2_isSpoiled, List.forall_mem_cons.mpr ⟨g_X3_init, List.forall_mem_cons.mpr ⟨g_X3_measureReaches, List.forall_mem_cons.mpr ⟨g_X3_runOf, List.forall_mem_cons.mpr ⟨g_X3_hasCell, List.forall_mem_cons.mpr ⟨g_X3_hasPlace, List.forall_mem_cons.mpr ⟨g_X3_holds, List.forall_mem_cons.mpr ⟨g_X3_cellSet, List.forall_mem_cons.mpr ⟨g_X4_init, List.forall_mem_cons.mpr ⟨g_X4_look, List.forall_mem_cons.mpr ⟨g_X4_layFrom, List.forall_mem_cons.mpr ⟨g_X4_keepPlaces, List.forall_mem_cons.mpr ⟨g_X4_firstPlace, List.forall_mem_cons.mpr ⟨g_X5_init, List.forall_mem_cons.mpr ⟨g_X5_clear, List.forall_mem_cons.mpr ⟨g_X5_copyFrom, List.forall_mem_cons.mpr ⟨g_X5_accepts, List.forall_mem_cons.mpr ⟨g_X5_lay, List.forall_mem_cons.mpr ⟨g_X5_lift, List.forall_mem_cons.mpr ⟨g_X5_pour, List.forall_mem_cons.mpr ⟨g_X5_standing, List.forall_mem_cons.mpr ⟨g_X5_showsAt, List.forall_mem_cons.mpr ⟨g_X5_emptyCells, List.forall_mem_cons.mpr ⟨g_X5_unlikeLetters, List.forall_mem_cons.mpr ⟨g_X6_init, List.forall_mem_cons.mpr ⟨g_X6_append, List.forall_mem_cons.mpr ⟨g_X6_copyFrom, List.forall_mem_cons.mpr ⟨g_X6_isSameFromEnd, List.forall_mem_cons.mpr ⟨g_X7_init, List.forall_mem_cons.mpr ⟨g_X7_find, List.forall_mem_cons.mpr ⟨g_X7_append, List.forall_mem_cons.mpr ⟨g_X7_copyFrom, List.forall_mem_cons.mpr ⟨g_X8_init, List.forall_mem_cons.mpr ⟨g_X8_side, List.forall_mem_cons.mpr ⟨g_X8_set, List.forall_mem_cons.mpr ⟨g_X8_at, List.forall_mem_cons.mpr ⟨g_X8_say, List.forall_mem_cons.mpr ⟨g_X8_wipe, List.forall_mem_cons.mpr ⟨g_X8_take, List.forall_mem_cons.mpr ⟨g_X8_drop, List.forall_mem_cons.mpr ⟨g_X8_fill, List.forall_mem_cons.mpr ⟨g_X8_letter, List.forall_mem_cons.mpr ⟨g_X8_stands, List.forall_mem_cons.mpr ⟨g_X8_put, List.forall_mem_cons.mpr ⟨g_X8_fits, List.forall_mem_cons.mpr ⟨g_X8_most, List.forall_mem_cons.mpr ⟨g_X8_covers, List.forall_mem_cons.mpr ⟨g_X8_good, List.forall_mem_cons.mpr ⟨g_X8_hide, List.forall_mem_cons.mpr ⟨g_X8_image, List.forall_mem_cons.mpr ⟨g_X8_restore, List.forall_mem_cons.mpr ⟨g_X8_count, List.forall_mem_cons.mpr ⟨g_X8_isLetter, List.forall_mem_cons.mpr ⟨g_X8_isPlaceAsked, List.forall_mem_cons.mpr ⟨g_X8_listOf, List.forall_mem_cons.mpr ⟨g_X8_forgetLayings, List.forall_mem_cons.mpr ⟨g_X9_init, List.forall_mem_cons.mpr ⟨g_X9_in, List.forall_mem_cons.mpr ⟨g_X9_cells, List.forall_mem_cons.mpr ⟨g_X9_isCell, List.forall_mem_cons.mpr ⟨g_X9_isLetter, List.forall_mem_cons.mpr ⟨g_X9_isPlace, List.forall_mem_cons.mpr ⟨g_X9_isWord, List.forall_mem_cons.mpr ⟨g_X9_longOf, List.forall_mem_cons.mpr ⟨g_X9_letterOf, List.forall_mem_cons.mpr ⟨g_X9_side, List.forall_mem_cons.mpr ⟨g_X9_set, List.forall_mem_cons.mpr ⟨g_X9_at, List.forall_mem_cons.mpr ⟨g_X9_say, List.forall_mem_cons.mpr ⟨g_X9_wipe, List.forall_mem_cons.mpr ⟨g_X9_takeRest, List.forall_mem_cons.mpr ⟨g_X9_take, List.forall_mem_cons.mpr ⟨g_X9_drop, List.forall_mem_cons.mpr ⟨g_X9_fill, List.forall_mem_cons.mpr ⟨g_X9_letter, List.forall_mem_cons.mpr ⟨g_X9_across, List.forall_mem_cons.mpr ⟨g_X9_down, List.forall_mem_cons.mpr ⟨g_X9_cellAt, List.forall_mem_cons.mpr ⟨g_X9_canLie, List.forall_mem_cons.mpr ⟨g_X9_begin, List.forall_mem_cons.mpr ⟨g_X9_copyStep, List.forall_mem_cons.mpr ⟨g_X9_layWord, List.forall_mem_cons.mpr ⟨g_X9_placesOf, List.forall_mem_cons.mpr ⟨g_X9_layStep, List.forall_mem_cons.mpr ⟨g_X9_standsIn, List.forall_mem_cons.mpr ⟨g_X9_timesIn, List.forall_mem_cons.mpr ⟨g_X9_stands, List.forall_mem_cons.mpr ⟨g_X9_canPut, List.forall_mem_cons.mpr ⟨g_X9_put, List.forall_mem_cons.mpr ⟨g_X9_fits, List.forall_mem_cons.mpr ⟨g_X9_crossed, List.forall_mem_cons.mpr ⟨g_X9_covered, List.forall_mem_cons.mpr ⟨g_X9_keep, List.forall_mem_cons.mpr ⟨g_X9_see, List.forall_mem_cons.mpr ⟨g_X9_goThrough, List.forall_mem_cons.mpr ⟨g_X9_goLast, List.forall_mem_cons.mpr ⟨g_X9_placeTold, List.forall_mem_cons.mpr ⟨g_X9_most, List.forall_mem_cons.mpr ⟨g_X9_areNone, List.forall_mem_cons.mpr ⟨g_X9_covers, List.forall_mem_cons.mpr ⟨g_X9_fillRest, List.forall_mem_cons.mpr ⟨g_X9_isSame, List.forall_mem_cons.mpr ⟨g_X9_isGood, List.forall_mem_cons.mpr ⟨g_X9_fillFirst, List.forall_mem_cons.mpr ⟨g_X9_good, List.forall_mem_cons.mpr ⟨g_X9_hide, List.forall_mem_cons.mpr ⟨g_X9_image, List.forall_mem_cons.mpr ⟨g_X9_restore, List.forall_mem_cons.mpr ⟨g_X9_empties, List.forall_mem_cons.mpr ⟨g_X9_letters, List.forall_mem_cons.mpr ⟨g_X9_count, List.forall_mem_cons.mpr ⟨g_J6_bitCount_0f7a4, List.forall_mem_cons.mpr ⟨g_J9_max_7cf53, List.forall_mem_cons.mpr ⟨g_J9_min_7cf53, List.forall_mem_cons.mpr ⟨g_J7_fill_53178, List.forall_mem_cons.mpr ⟨g_L_law, fun _ h => absurd h List.not_mem_nil⟩⟩⟩⟩⟩⟩⟩⟩⟩⟩⟩⟩⟩⟩⟩⟩⟩⟩⟩⟩⟩⟩⟩⟩⟩⟩⟩⟩⟩⟩⟩⟩⟩⟩⟩⟩⟩⟩⟩⟩⟩⟩⟩⟩⟩⟩⟩⟩⟩⟩⟩⟩⟩⟩⟩⟩⟩⟩⟩⟩⟩⟩⟩⟩⟩⟩⟩⟩⟩⟩⟩⟩⟩⟩⟩⟩⟩⟩⟩⟩⟩⟩⟩⟩⟩⟩⟩⟩⟩⟩⟩⟩⟩⟩⟩⟩⟩⟩⟩⟩⟩⟩⟩⟩⟩⟩⟩⟩⟩⟩⟩⟩⟩⟩⟩⟩⟩⟩⟩⟩⟩⟩⟩⟩
theorem good_all (M : Nat) (J : wM) (h : prog[M]? = some J) (en : wE) (he : en ∈ J.2.2.2.2.2) : goodE J en = true := List.all_eq_true.mp (good_prog J (List.mem_of_getElem? h)) en he
