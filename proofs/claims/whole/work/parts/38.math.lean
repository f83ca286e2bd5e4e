/-! what stands, what spoils: the two ways of saying it -/
theorem cnt_countP (f : Nat → Bool) : ∀ N, (List.range' 0 N).countP f = cnt f N
  | 0 => rfl
  | N + 1 => by
    rw [List.range'_1_concat, List.countP_append, cnt_countP f N, Nat.zero_add]
    show _ = cnt f N + (if f N = true then 1 else 0)
    rw [List.countP_singleton]
theorem scan_cnt {s : Nat} {cs w : List Int32} {i : Nat} (hi : i < 2 ^ 31) : ∀ (l : List Nat) (seen : Nat), seen ≤ i → ((∃ p ∈ l, scan s cs w (nI i) l seen = .inl p) ∧ i < seen + l.countP (sh s cs w)) ∨ (scan s cs w (nI i) l seen = .inr (seen + l.countP (sh s cs w)) ∧ seen + l.countP (sh s cs w) ≤ i)
  | [], seen, h => Or.inr ⟨rfl, by simpa using h⟩
  | p :: l, seen, h => by
    rw [scan, List.countP_cons]
    by_cases hs : sh s cs w p = true
    · rw [if_pos hs, if_pos hs]
      by_cases hk : seen = i
      · rw [if_pos (by rw [hk])]
        exact Or.inl ⟨⟨p, List.mem_cons_self, rfl⟩, by omega⟩
      · rw [if_neg (by rw [nI_eq (by omega) hi]; exact hk)]
        rcases scan_cnt hi l (seen + 1) (by omega) with ⟨⟨q, hq, e⟩, h2⟩ | ⟨e, h2⟩
        · exact Or.inl ⟨⟨q, List.mem_cons_of_mem _ hq, e⟩, by omega⟩
        · exact Or.inr ⟨by rw [e]; congr 1; omega, by omega⟩
    · rw [if_neg hs, if_neg hs, Nat.add_zero]
      rcases scan_cnt hi l seen h with ⟨⟨q, hq, e⟩, h2⟩ | ⟨e, h2⟩
      · exact Or.inl ⟨⟨q, List.mem_cons_of_mem _ hq, e⟩, h2⟩
      · exact Or.inr ⟨e, h2⟩
theorem stand_cnt {s i : Nat} {cs w : List Int32} (hs : sideOk s) (hi : i < 1000) : standN s cs w (nI i) = -6 ↔ cnt (sh s cs w) (8 * s * s) ≤ i := by
  have hq := (sq_lt hs).2
  unfold standN
  rw [show 8 * (s * s) = 8 * s * s from (Nat.mul_assoc 8 s s).symm]
  have key := scan_cnt (s := s) (cs := cs) (w := w) (i := i) (by omega) (List.range' 0 (8 * s * s)) 0 (by omega)
  rw [cnt_countP, Nat.zero_add] at key
  rcases key with ⟨⟨p, hp, e⟩, h2⟩ | ⟨e, h2⟩
  · rw [e, scanV]
    have hp' := List.mem_range'_1.mp hp
    constructor
    · intro z
      have := nI_pos (n := p) (by omega)
      rw [z] at this
      exact absurd (by decide) this
    · intro z; omega
  · rw [e, scanV]
    have : ¬ nI i = -1 := by
      intro z
      have h3 := nI_pos (n := i) (by omega)
      rw [z] at h3
      exact absurd (by decide) h3
    simp only [this, if_false, true_iff]
    exact h2
def bdN (w : List Int32) : Nat := if pal w = true then 2 else 1
theorem bnd_bdN (w : List Int32) : bnd w = nI (bdN w) := by
  unfold bnd bdN
  split <;> rfl
theorem spoil_iff {s : Nat} {ws bs : List (List Int32)} {cs : List Int32} (hs : sideOk s) : spoil s ws bs cs = true ↔ (∃ w ∈ bs, 0 < cnt (sh s cs w) (8 * s * s)) ∨ (∃ w ∈ ws, bdN w < cnt (sh s cs w) (8 * s * s)) := by
  unfold spoil spB spW
  rw [Bool.or_eq_true, List.any_eq_true, List.any_eq_true]
  have k1 : ∀ w, decide (¬ standN s cs w 0 = -6) = true ↔ 0 < cnt (sh s cs w) (8 * s * s) := by
    intro w
    rw [decide_eq_true_eq, show (0 : Int32) = nI 0 by decide, stand_cnt hs (by decide)]
    omega
  have k2 : ∀ w, decide (¬ standN s cs w (bnd w) = -6) = true ↔ bdN w < cnt (sh s cs w) (8 * s * s) := by
    intro w
    rw [decide_eq_true_eq, bnd_bdN, stand_cnt hs (by unfold bdN; split <;> omega)]
    omega
  simp only [k1, k2]
theorem good_iff {g : gG} {fl : List Int32} : goodB g fl = true ↔ (∀ w ∈ g.2.2.2.1, cnt (sh g.1 fl w) (8 * g.1 * g.1) = 0) ∧ (∀ w ∈ g.2.2.1, cnt (sh g.1 fl w) (8 * g.1 * g.1) = bdN w) := by
  unfold goodB bdN
  rw [Bool.and_eq_true, List.all_eq_true, List.all_eq_true]
  simp only [decide_eq_true_eq]
/-! letters that lie stay -/
def ext (cs cs' : List Int32) : Prop := ∀ c, ¬ cs.getD c 0 = 0 → cs'.getD c 0 = cs.getD c 0
theorem isL_ne {x : Int32} (h : isL x) : ¬ x = 0 := by
  intro z
  subst z
  exact absurd h (by decide)
section EX
variable {s p : Nat} {cs cs' w rs : List Int32}
theorem shB_at {n : Nat} : shB s cs w p 0 n = true ↔ ∀ i, i < n → cs.getD (cl s p i) 0 = w.getD i 0 := by
  unfold shB
  rw [List.all_eq_true]
  constructor
  · intro h i hi
    have := h i (List.mem_range'_1.mpr ⟨Nat.zero_le _, by omega⟩)
    rw [decide_eq_true_eq] at this
    exact this
  · intro h i hi
    rw [decide_eq_true_eq]
    have := (List.mem_range'_1.mp hi).2
    exact h i (by omega)
theorem sh_at : sh s cs w p = true ↔ w.length ≤ rN s p ∧ ∀ i, i < w.length → cs.getD (cl s p i) 0 = w.getD i 0 := by
  unfold sh
  rw [Bool.and_eq_true, decide_eq_true_eq, shB_at]
theorem sh_ext (hw : ∀ x ∈ w, isL x) (he : ext cs cs') (h : sh s cs w p = true) : sh s cs' w p = true := by
  rw [sh_at] at h ⊢
  refine ⟨h.1, fun i hi => ?_⟩
  rw [he _ (by rw [h.2 i hi]; exact isL_ne (hw _ (getD_mem hi))), h.2 i hi]
theorem ext_lay (hs : sideOk s) (hp : p < 8 * s * s) (ha : acc s cs w p = true) (hl : cs.length = 16) : ext cs (layF s w p 0 w.length (cs, 0)).1 := by
  intro c hc
  rw [(lay_put hs hp ha hl).1]
  by_cases h : ∃ j, j < w.length ∧ cl s p j = c
  · obtain ⟨j, hj, rfl⟩ := h
    rw [putF_in hs hp hl _ (acc_r ha) j hj]
    exact ((acc_at ha j hj).resolve_right hc).symm
  · exact putF_out _ (fun j hj z => h ⟨j, hj, z⟩)
theorem sh_lay (hs : sideOk s) (hp : p < 8 * s * s) (ha : acc s cs w p = true) (hl : cs.length = 16) : sh s (layF s w p 0 w.length (cs, 0)).1 w p = true := by
  rw [sh_at]
  refine ⟨acc_r ha, fun i hi => ?_⟩
  rw [(lay_put hs hp ha hl).1]
  exact putF_in hs hp hl _ (acc_r ha) i hi
theorem ext_pour : ∀ i, ext cs (pourP rs cs i).1
  | 0, _, _ => rfl
  | i + 1, c, hc => by
    have ih := ext_pour i c hc
    rw [pourP_s]
    unfold pour1
    split
    · rename_i hz
      simp only
      rw [getD_set]
      by_cases h : i = c ∧ i < (pourP rs cs i).1.length
      · obtain ⟨h1, -⟩ := h
        subst h1
        rw [ih] at hz
        exact absurd hz hc
      · rw [if_neg h]; exact ih
    · exact ih
theorem ext.trans {cs'' : List Int32} (a : ext cs cs') (b : ext cs' cs'') : ext cs cs'' := fun c hc => by
  rw [b c (by rw [a c hc]; exact hc), a c hc]
theorem cnt_mono {f f' : Nat → Bool} : ∀ N, (∀ i, i < N → f i = true → f' i = true) → cnt f N ≤ cnt f' N
  | 0, _ => Nat.le_refl 0
  | N + 1, h => by
    have ih := cnt_mono N (fun i hi => h i (by omega))
    have hN := h N (by omega)
    show cnt f N + (if f N = true then 1 else 0) ≤ cnt f' N + (if f' N = true then 1 else 0)
    by_cases hf : f N = true
    · rw [if_pos hf, if_pos (hN hf)]; omega
    · rw [if_neg hf]; omega
theorem spoil_ext {ws bs : List (List Int32)} (hs : sideOk s) (hw : ∀ w ∈ ws, ∀ x ∈ w, isL x) (hb : ∀ w ∈ bs, ∀ x ∈ w, isL x) (he : ext cs cs') (h : spoil s ws bs cs = true) : spoil s ws bs cs' = true := by
  rw [spoil_iff hs] at h ⊢
  rcases h with ⟨w, hm, h⟩ | ⟨w, hm, h⟩
  · exact Or.inl ⟨w, hm, Nat.lt_of_lt_of_le h (cnt_mono _ (fun i _ => sh_ext (hb w hm) he))⟩
  · exact Or.inr ⟨w, hm, Nat.lt_of_lt_of_le h (cnt_mono _ (fun i _ => sh_ext (hw w hm) he))⟩
/-- a word that reads the same from its end stands twice -/
def rv (s p n : Nat) : Nat := 8 * cl s p (n - 1) + (p % 8 + 4) % 8
def rvB (s p n : Nat) : Bool := decide (rv s p n < 8 * s * s) && decide (rv s p n ≠ p) && decide (n ≤ rN s (rv s p n)) && (List.range' 0 n).all fun i => decide (cl s (rv s p n) i = cl s p (n - 1 - i))
theorem rv_dec0 : ∀ s ∈ [3, 4], ∀ p, p < 8 * s * s → ∀ n ∈ [2, 3, 4], n ≤ rN s p → rvB s p n = true := by decide +kernel
theorem rv_dec {s p n : Nat} (hs : sideOk s) (hp : p < 8 * s * s) (h2 : 2 ≤ n) (h4 : n ≤ 4) (hr : n ≤ rN s p) : rv s p n < 8 * s * s ∧ rv s p n ≠ p ∧ n ≤ rN s (rv s p n) ∧ ∀ i, i < n → cl s (rv s p n) i = cl s p (n - 1 - i) := by
  have h := rv_dec0 s (by rcases hs with rfl | rfl <;> simp) p hp n (by simp; omega) hr
  unfold rvB at h
  simp only [Bool.and_eq_true, decide_eq_true_eq, List.all_eq_true] at h
  exact ⟨h.1.1.1, h.1.1.2, h.1.2, fun i hi => h.2 i (List.mem_range'_1.mpr ⟨Nat.zero_le _, by omega⟩)⟩
theorem cnt_pos {f : Nat → Bool} {p : Nat} (hf : f p = true) : ∀ N, p < N → 1 ≤ cnt f N
  | 0, h => absurd h (Nat.not_lt_zero p)
  | N + 1, h => by
    show 1 ≤ cnt f N + (if f N = true then 1 else 0)
    by_cases hp : p = N
    · subst hp; rw [if_pos hf]; omega
    · have := cnt_pos hf N (by omega); omega
theorem cnt_two {f : Nat → Bool} {p q : Nat} (hf : f p = true) (hg : f q = true) (hne : p ≠ q) : ∀ N, p < N → q < N → 2 ≤ cnt f N
  | 0, h, _ => absurd h (Nat.not_lt_zero p)
  | N + 1, h, h2 => by
    show 2 ≤ cnt f N + (if f N = true then 1 else 0)
    by_cases hp : p = N
    · subst hp
      have := cnt_pos hg p (by omega)
      rw [if_pos hf]; omega
    · by_cases hq : q = N
      · subst hq
        have := cnt_pos hf q (by omega)
        rw [if_pos hg]; omega
      · have := cnt_two hf hg hne N (by omega) (by omega); omega
theorem pal_at (h : pal w = true) : ∀ i, i < w.length → w.getD i 0 = w.getD (w.length - 1 - i) 0 := by
  unfold pal palB at h
  rw [List.all_eq_true] at h
  intro i hi
  have := h i (List.mem_range'_1.mpr ⟨Nat.zero_le _, by omega⟩)
  rw [decide_eq_true_eq] at this
  exact this
theorem stands_bd (hs : sideOk s) (hp : p < 8 * s * s) (h3 : 3 ≤ w.length) (h4 : w.length ≤ 4) (h : sh s cs w p = true) : bdN w ≤ cnt (sh s cs w) (8 * s * s) := by
  unfold bdN
  by_cases hpl : pal w = true
  · rw [if_pos hpl]
    have h' := sh_at.mp h
    obtain ⟨r1, r2, r3, r4⟩ := rv_dec hs hp (n := w.length) (by omega) h4 h'.1
    refine cnt_two h (sh_at.mpr ⟨r3, fun i hi => ?_⟩) (Ne.symm r2) _ hp r1
    rw [r4 i hi, h'.2 _ (by omega), pal_at hpl i hi]
  · rw [if_neg hpl]
    exact cnt_pos h _ hp
end EX
theorem spoil_good {g : gG} {fl : List Int32} (hs : sideOk g.1) (hlow : ∀ w ∈ g.2.2.1, bdN w ≤ cnt (sh g.1 fl w) (8 * g.1 * g.1)) : goodB g fl = !spoil g.1 g.2.2.1 g.2.2.2.1 fl := by
  cases hsp : spoil g.1 g.2.2.1 g.2.2.2.1 fl with
  | true =>
    rw [Bool.not_true]
    cases hg : goodB g fl with
    | false => rfl
    | true =>
      rw [good_iff] at hg
      rw [spoil_iff hs] at hsp
      rcases hsp with ⟨w, hm, h⟩ | ⟨w, hm, h⟩
      · have := hg.1 w hm; omega
      · have := hg.2 w hm; omega
  | false =>
    rw [Bool.not_false, good_iff]
    have hn : ¬ ((∃ w ∈ g.2.2.2.1, 0 < cnt (sh g.1 fl w) (8 * g.1 * g.1)) ∨ (∃ w ∈ g.2.2.1, bdN w < cnt (sh g.1 fl w) (8 * g.1 * g.1))) := by
      rw [← spoil_iff hs, hsp]
      simp
    refine ⟨fun w hm => ?_, fun w hm => ?_⟩
    · apply Decidable.byContradiction
      intro z
      exact hn (Or.inl ⟨w, hm, by omega⟩)
    · have h1 := hlow w hm
      apply Decidable.byContradiction
      intro z
      exact hn (Or.inr ⟨w, hm, by omega⟩)
theorem spoil_bad {g : gG} {fl : List Int32} (hs : sideOk g.1) (hsp : spoil g.1 g.2.2.1 g.2.2.2.1 fl = true) : goodB g fl = false := by
  cases hg : goodB g fl with
  | false => rfl
  | true =>
    rw [good_iff] at hg
    rw [spoil_iff hs] at hsp
    rcases hsp with ⟨w, hm, h⟩ | ⟨w, hm, h⟩
    · have := hg.1 w hm; omega
    · have := hg.2 w hm; omega
