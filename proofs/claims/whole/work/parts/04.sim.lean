/-! The small machine's cells in the real heap: number k lies at aA t B k; t k (k below 5) are the addresses of what was there before, B is the first new address. -/
def aA (t : Nat → Nat) (B k : Nat) : Nat := if k < 5 then t k else B + (k - 5)
def vr (t : Nat → Nat) (B : Nat) (v : Value) : Value := match v with
  | .ref k => .ref (aA t B k)
  | v => v
def aTy (z : Nat) : FieldType := if z = 1 then .boolean else .int
def aOn (t : Nat → Nat) (B : Nat) (os : List (Option Nat)) : Nat → Option Nat := fun j => (os.getD j none).map (aA t B)
def stNames : List String := ["ROW_STEPS", "COLUMN_STEPS", "LEAST_LETTERS", "MOST_LETTERS"]
def cOK (D : va_G) (t : Nat → Nat) (B : Nat) (U : State) (H : Heap) (k : Nat) (c : aC) : Prop := match c with
  | .inl (ci, fs) => 5 ≤ k ∧ ∃ r : vw_C, vwCl[ci]? = some r ∧ fs.length = r.2.2 ∧ t_OB (aA t B k) (D.1 ci) r.2.2 (D.2 ci) H (vp_V (fs.map (vr t B)))
  | .inr (.inl (z, xs)) => (z = 2 ∧ k < 5 ∧ va_T .int (aA t B k) xs.length (fun j => .int (xs.getD j 0)) (fun q => B ≤ q) U H) ∨
      (z ≠ 2 ∧ 5 ≤ k ∧ ∃ cA : ClassId, H[aA t B k]? = some (arrV cA xs.length (fun j => .int (xs.getD j 0))) ∧ ArrOfT U cA (aTy z))
  | .inr (.inr (e, os)) => 5 ≤ k ∧ ∃ (r : vw_C) (cA : ClassId), vwCl[e]? = some r ∧ H[aA t B k]? = some (arrV cA os.length (fun j => va_rf (aOn t B os j))) ∧ ArrOfT U cA (.object r.1) ∧ va_RA U cA (.object r.1)
def aSim (D : va_G) (t : Nat → Nat) (B : Nat) (h : aH) (U : State) (H : Heap) : Prop :=
  va_K D vwCl [] U ∧ (∀ (k : Nat) (c : aC), h[k]? = some c → cOK D t B U H k c) ∧ (H.size + 5 = B + h.length ∧ 5 ≤ h.length) ∧
  (∀ (i : Nat) (n : String), stNames[i]? = some n → va_Z "WordHides" n "[I" (.ref (t i)) (fun q => B ≤ q) U H) ∧ ∀ k, k < 5 → t k < B
def aL (t : Nat → Nat) (B : Nat) (arr : Array Slot) (ls : List Value) : Prop := arr.size = ls.length ∧ lv_wf arr ∧ ∀ (i : Nat) (v : Value), ls[i]? = some v → aOk v = true → arr[i]? = some (.val (vr t B v))
/-- how many fields and places a heap of cells has -/
def acs (c : aC) : Nat := match c with
  | .inl (_, fs) => fs.length
  | .inr (.inl (_, xs)) => xs.length
  | .inr (.inr (_, os)) => os.length
def asl (h : aH) : Nat := (h.map acs).sum
theorem aA_ge {t : Nat → Nat} {B k : Nat} (h : 5 ≤ k) : aA t B k = B + (k - 5) := by unfold aA; rw [if_neg (by omega)]
theorem aA_lt {t : Nat → Nat} {B k : Nat} (h : k < 5) : aA t B k = t k := by unfold aA; rw [if_pos h]
theorem aA_ne {t : Nat → Nat} {B k j : Nat} (ht : ∀ k, k < 5 → t k < B) (hk : 5 ≤ k) (hj : j ≠ k) : aA t B j ≠ aA t B k := by
  by_cases h : j < 5
  · rw [aA_lt h, aA_ge hk]
    have := ht j h
    omega
  · rw [aA_ge (by omega), aA_ge hk]
    omega
theorem vr_cat {t : Nat → Nat} {B : Nat} {v : Value} (h : aOk v = true) : (vr t B v).category = 1 := by
  cases v <;> first | rfl | (simp [aOk] at h)
theorem vr_int {t : Nat → Nat} {B : Nat} {x : Int32} : vr t B (.int x) = .int x := rfl
theorem vr_ref {t : Nat → Nat} {B k : Nat} : vr t B (.ref k) = .ref (aA t B k) := rfl
theorem vr_null {t : Nat → Nat} {B : Nat} : vr t B .null = .null := rfl
theorem vr_rf {t : Nat → Nat} {B : Nat} (o : Option Nat) : vr t B (va_rf o) = va_rf (o.map (aA t B)) := by cases o <;> rfl
theorem cats {t : Nat → Nat} {B : Nat} : ∀ {st : List Value}, st.all aOk = true → ((st.map (vr t B)).map fun v => v.category).sum = st.length
  | [], _ => rfl
  | v :: st, h => by
    simp only [List.all_cons, Bool.and_eq_true] at h
    simp only [List.map_cons, List.sum_cons, List.length_cons, vr_cat h.1, cats h.2]
    omega
theorem cOK.moved {D : va_G} {t : Nat → Nat} {B : Nat} {u U : State} {H : Heap} {k : Nat} {c : aC} (hvm : u.vm.Alike U.vm) (h : cOK D t B u H k c) : cOK D t B U H k c := by
  rcases c with ⟨ci, fs⟩ | ⟨z, xs⟩ | ⟨e, os⟩
  · exact h
  · rcases h with ⟨h1, h2, h3⟩ | ⟨h1, h2, cA, h3, h4⟩
    · exact Or.inl ⟨h1, h2, va_T.moved hvm h3⟩
    · exact Or.inr ⟨h1, h2, cA, h3, arrOfT_moved hvm h4⟩
  · obtain ⟨h1, r, cA, h2, h3, h4, h5⟩ := h
    exact ⟨h1, r, cA, h2, h3, arrOfT_moved hvm h4, h5.moved hvm⟩
theorem cOK.kept {D : va_G} {t : Nat → Nat} {B : Nat} {U : State} {H H1 : Heap} {k : Nat} {c : aC} (h : cOK D t B U H k c) (hq : H1[aA t B k]? = H[aA t B k]?) : cOK D t B U H1 k c := by
  rcases c with ⟨ci, fs⟩ | ⟨z, xs⟩ | ⟨e, os⟩
  · obtain ⟨h1, r, h2, h3, h4⟩ := h
    exact ⟨h1, r, h2, h3, h4.kept hq⟩
  · rcases h with ⟨h1, h2, cell, h3, h4⟩ | ⟨h1, h2, cA, h3, h4⟩
    · exact Or.inl ⟨h1, h2, cell, hq.trans h3, h4⟩
    · exact Or.inr ⟨h1, h2, cA, hq.trans h3, h4⟩
  · obtain ⟨h1, r, cA, h2, h3, h4, h5⟩ := h
    exact ⟨h1, r, cA, h2, hq.trans h3, h4, h5⟩
theorem cOK.lt {D : va_G} {t : Nat → Nat} {B : Nat} {U : State} {H : Heap} {k : Nat} {c : aC} (h : cOK D t B U H k c) : aA t B k < H.size := by
  rcases c with ⟨ci, fs⟩ | ⟨z, xs⟩ | ⟨e, os⟩
  · obtain ⟨h1, r, h2, h3, cell, h4, -⟩ := h
    exact (Array.getElem?_eq_some_iff.mp h4).1
  · rcases h with ⟨h1, h2, cell, h3, h4⟩ | ⟨h1, h2, cA, h3, h4⟩
    · exact (Array.getElem?_eq_some_iff.mp h3).1
    · exact (Array.getElem?_eq_some_iff.mp h3).1
  · obtain ⟨h1, r, cA, h2, h3, h4, h5⟩ := h
    exact (Array.getElem?_eq_some_iff.mp h3).1
theorem aSim.moved {D : va_G} {t : Nat → Nat} {B : Nat} {h : aH} {u U : State} {H : Heap} (hvm : u.vm.Alike U.vm) (S : aSim D t B h u H) : aSim D t B h U H :=
  ⟨va_K.moved hvm S.1, fun k c hk => (S.2.1 k c hk).moved hvm, S.2.2.1, fun i n hn => va_Z.moved hvm (S.2.2.2.1 i n hn), S.2.2.2.2⟩
/-- a cell gets other contents -/
theorem aSim.set {D : va_G} {t : Nat → Nat} {B : Nat} {h : aH} {U : State} {H H1 : Heap} {k : Nat} {c0 c : aC} (S : aSim D t B h U H) (hk : h[k]? = some c0) (h5 : 5 ≤ k) (z : H1.size = H.size) (oq : ∀ q : Nat, q ≠ aA t B k → H1[q]? = H[q]?) (hc : cOK D t B U H1 k c) : aSim D t B (h.set k c) U H1 := by
  obtain ⟨s1, s2, s3, s4, s5⟩ := S
  have hl := (List.getElem?_eq_some_iff.mp hk).1
  refine ⟨s1, fun j x hj => ?_, by rw [List.length_set, z]; exact s3, fun i n hn => ?_, s5⟩
  · by_cases hjk : j = k
    · subst hjk
      rw [List.getElem?_set_self hl] at hj
      cases hj
      exact hc
    · rw [List.getElem?_set_ne (Ne.symm hjk)] at hj
      exact (s2 j x hj).kept (oq _ (aA_ne s5 h5 hjk))
  · obtain ⟨cf, kf, fi, f, a, cell, e1, e2, e3, e4, e5, e6, e7, e8⟩ := s4 i n hn
    refine ⟨cf, kf, fi, f, a, cell, e1, e2, e3, e4, ?_, e6, e7, e8⟩
    rw [oq a (fun e => e8 (by show B ≤ a; rw [e, aA_ge h5]; omega))]
    exact e5
/-- a cell more -/
theorem aSim.push {D : va_G} {t : Nat → Nat} {B : Nat} {h : aH} {U : State} {H H1 : Heap} {c : aC} (S : aSim D t B h U H) (z : H1.size = H.size + 1) (oq : ∀ q : Nat, q < H.size → H1[q]? = H[q]?) (hc : cOK D t B U H1 h.length c) : aSim D t B (h ++ [c]) U H1 := by
  obtain ⟨s1, s2, s3, s4, s5⟩ := S
  refine ⟨s1, fun j x hj => ?_, by rw [List.length_append, z]; simp only [List.length_cons, List.length_nil]; omega, fun i n hn => ?_, s5⟩
  · by_cases hl : j < h.length
    · rw [List.getElem?_append_left hl] at hj
      exact (s2 j x hj).kept (oq _ (s2 j x hj).lt)
    · rw [List.getElem?_append_right (by omega)] at hj
      have hz : j - h.length < 1 := (List.getElem?_eq_some_iff.mp hj).1
      have hj0 : j = h.length := by omega
      subst hj0
      rw [Nat.sub_self] at hj
      cases hj
      exact hc
  · obtain ⟨cf, kf, fi, f, a, cell, e1, e2, e3, e4, e5, e6, e7, e8⟩ := s4 i n hn
    exact ⟨cf, kf, fi, f, a, cell, e1, e2, e3, e4, by rw [oq a (Array.getElem?_eq_some_iff.mp e5).1]; exact e5, e6, e7, e8⟩
theorem aSim.new {D : va_G} {t : Nat → Nat} {B : Nat} {h : aH} {U : State} {H : Heap} (S : aSim D t B h U H) : aA t B h.length = H.size := by
  obtain ⟨-, -, ⟨e, g⟩, -⟩ := S
  rw [aA_ge g]
  omega
/-! locals -/
def lkl (t : Nat → Nat) (B : Nat) (ls : List Value) : List (Nat × Value) := (List.range ls.length).filterMap fun i => match ls[i]? with
  | some v => if aOk v = true then some (i, vr t B v) else none
  | none => none
theorem lkl_mem {t : Nat → Nat} {B : Nat} {ls : List Value} {q : Nat × Value} : q ∈ lkl t B ls ↔ ∃ v, ls[q.1]? = some v ∧ aOk v = true ∧ q.2 = vr t B v := by
  unfold lkl
  rw [List.mem_filterMap]
  constructor
  · rintro ⟨i, -, hi⟩
    cases hv : ls[i]? with
    | none => rw [hv] at hi; cases hi
    | some v =>
      rw [hv] at hi
      by_cases ho : aOk v = true
      · simp only [ho, if_true] at hi
        cases hi
        exact ⟨v, hv, ho, rfl⟩
      · simp only [ho, if_false] at hi
        cases hi
  · rintro ⟨v, hv, ho, he⟩
    refine ⟨q.1, List.mem_range.mpr (List.getElem?_eq_some_iff.mp hv).1, ?_⟩
    rw [hv]
    simp only [ho, if_true]
    rw [← he]
theorem aL.has {t : Nat → Nat} {B : Nat} {arr : Array Slot} {ls : List Value} (h : aL t B arr ls) : lv_has arr ls.length (lkl t B ls) := by
  refine ⟨h.1, h.2.1, fun q hq => ?_⟩
  obtain ⟨v, hv, ho, he⟩ := lkl_mem.mp hq
  rw [he]
  exact h.2.2 _ v hv ho
theorem aL.put {t : Nat → Nat} {B : Nat} {arr' : Array Slot} {ls : List Value} {i : Nat} {v : Value} (hv : aOk v = true) (hi : i < ls.length)
    (h : lv_has arr' ls.length ((i, vr t B v) :: (lkl t B ls).filter (fun q => !(q.1 == i) && !(q.1 + 1 == i && q.2.category == 2)))) : aL t B arr' (ls.set i v) := by
  refine ⟨by rw [List.length_set]; exact h.1, h.2.1, fun j w hj ho => ?_⟩
  by_cases hji : j = i
  · subst hji
    rw [List.getElem?_set_self hi] at hj
    cases hj
    exact h.2.2 (j, vr t B v) List.mem_cons_self
  · rw [List.getElem?_set_ne (Ne.symm hji)] at hj
    refine h.2.2 (j, vr t B w) (List.mem_cons_of_mem _ (List.mem_filter.mpr ⟨lkl_mem.mpr ⟨w, hj, ho, rfl⟩, ?_⟩))
    simp [hji, vr_cat ho]
theorem aL.entry {t : Nat → Nat} {B : Nat} {args : List Value} {n : Nat} (ho : args.all aOk = true) : aL t B (((args.map (vr t B)).map Slot.val ++ List.replicate (n - args.length) Slot.unset).toArray) (args ++ List.replicate (n - args.length) aU) := by
  have hg : ∀ (i : Nat) (x : Slot), (((args.map (vr t B)).map Slot.val ++ List.replicate (n - args.length) Slot.unset).toArray)[i]? = some x → x = .unset ∨ ∃ v, x = .val v ∧ v.category = 1 := by
    intro i x hx
    rw [List.getElem?_toArray] at hx
    rcases List.mem_append.mp (List.mem_of_getElem? hx) with h | h
    · obtain ⟨w, hw, rfl⟩ := List.mem_map.mp h
      obtain ⟨v, hv, rfl⟩ := List.mem_map.mp hw
      exact Or.inr ⟨_, rfl, vr_cat (List.all_eq_true.mp ho v hv)⟩
    · exact Or.inl (List.eq_of_mem_replicate h)
  refine ⟨by simp, ⟨fun i v hx hc => ?_, fun i hx => ?_⟩, fun i v hi hv => ?_⟩
  · rcases hg i _ hx with h | ⟨w, h, h1⟩
    · cases h
    · cases h; omega
  · rcases hg i _ hx with h | ⟨w, h, -⟩ <;> cases h
  · rw [List.getElem?_toArray]
    by_cases hl : i < args.length
    · rw [List.getElem?_append_left hl] at hi
      rw [List.getElem?_append_left (by simp; exact hl)]
      simp [hi]
    · rw [List.getElem?_append_right (by omega)] at hi
      have := List.eq_of_mem_replicate (List.mem_of_getElem? hi)
      rw [this] at hv
      simp [aU, aOk] at hv
/-! the words that stay true while the tables are warmed, and the others that are used -/
def gtbl : List Jvm.Cond := lw_tbl.filter goodWord
def inT (w : Jvm.Cond) : Bool := decide (w ∈ lw_tbl) && goodWord w
theorem inT_mem {w : Jvm.Cond} (h : inT w = true) : w ∈ gtbl := by
  simp only [inT, Bool.and_eq_true, decide_eq_true_eq] at h
  exact List.mem_filter.mpr h
theorem gtbl_in {w : Jvm.Cond} (h : w ∈ gtbl) : w ∈ lw_tbl ∧ goodWord w = true := List.mem_filter.mp h
def xA : List String := ["WordHides$Text", "WordHides$Board"]
def xD : List MethodName := [⟨"WordHides$Search", "look", "()V"⟩, ⟨"WordHides$Search", "meetLaying", "()V"⟩, ⟨"WordHides$Search", "keepPlaces", "()V"⟩, ⟨"WordHides$Search", "hasHope", "()Z"⟩, ⟨"WordHides$Search", "firstPlace", "(I)I"⟩]
def xF : List (String × Nat × String) := [("WordHides$Lattice", 28, "ROW_STEPS"), ("WordHides$Lattice", 31, "COLUMN_STEPS"), ("WordHides$Board", 11, "MOST_LETTERS")]
def aNx (U : State) : Prop := (∀ C ∈ xA, va_AO C U) ∧ (∀ x ∈ xD, va_Nw (.declares x) U) ∧ ∀ q ∈ xF, va_Nw (.fieldLinkNest q.1 q.2.1 "WordHides" q.2.2 "[I" "WordHides") U
theorem aNx.warm {s U : State} (hW : s.WarmedH U.vm) (h : aNx s) : aNx U := ⟨fun C hC => (h.1 C hC).moved hW.alike, fun x hx => va_Nw.warmD hW (h.2.1 x hx), fun q hq => va_Nw.warmF hW (h.2.2 q hq)⟩
theorem aNx.same {s U : State} (hv : s.vm = U.vm) (h : aNx s) : aNx U := ⟨fun C hC => (h.1 C hC).moved (by rw [hv]; exact Vm.Alike.refl _), fun x hx => va_Nw.same rfl hv (h.2.1 x hx), fun q hq => va_Nw.same rfl hv (h.2.2 q hq)⟩
