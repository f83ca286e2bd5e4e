/-! laying a word: cell by cell; put -/
theorem cl_inj_dec : ∀ s ∈ [3, 4], ∀ p, p < 8 * s * s → ∀ i, i < rN s p → ∀ j, j < rN s p → cl s p i = cl s p j → i = j := by decide +kernel
theorem cl_inj {s p i j : Nat} (hs : sideOk s) (hp : p < 8 * s * s) (hi : i < rN s p) (hj : j < rN s p) (h : cl s p i = cl s p j) : i = j := cl_inj_dec s (by rcases hs with rfl | rfl <;> simp) p hp i hi j hj h
def putF (s : Nat) (w : List Int32) (p : Nat) (cs : List Int32) : Nat → List Int32
  | 0 => cs
  | i + 1 => (putF s w p cs i).set (cl s p i) (w.getD i 0)
def incF (s p : Nat) (cv : List Int32) : Nat → List Int32
  | 0 => cv
  | i + 1 => (incF s p cv i).set (cl s p i) ((incF s p cv i).getD (cl s p i) 0 + 1)
section LY
variable {s p : Nat} {w cs cv : List Int32}
theorem putF_len : ∀ i, (putF s w p cs i).length = cs.length
  | 0 => rfl
  | i + 1 => by rw [putF, List.length_set, putF_len i]
theorem incF_len : ∀ i, (incF s p cv i).length = cv.length
  | 0 => rfl
  | i + 1 => by rw [incF, List.length_set, incF_len i]
theorem putF_out {c : Nat} : ∀ i, (∀ j, j < i → cl s p j ≠ c) → (putF s w p cs i).getD c 0 = cs.getD c 0
  | 0, _ => rfl
  | i + 1, h => by rw [putF, getD_set, if_neg (fun z => h i (by omega) z.1), putF_out i (fun j hj => h j (by omega))]
theorem putF_in (hs : sideOk s) (hp : p < 8 * s * s) (hl : cs.length = 16) : ∀ i, i ≤ rN s p → ∀ j, j < i → (putF s w p cs i).getD (cl s p j) 0 = w.getD j 0
  | 0, _, j, hj => absurd hj (Nat.not_lt_zero j)
  | i + 1, hi, j, hj => by
    have hq := (sq_lt hs).1
    have hc := ((geo hs hp).2.2.2.2 i (by omega)).2
    rw [putF, getD_set, putF_len]
    by_cases h : i = j
    · subst h
      rw [if_pos ⟨rfl, by omega⟩]
    · rw [if_neg (fun z => h (cl_inj hs hp (by omega) (by omega) z.1))]
      exact putF_in hs hp hl i (by omega) j (by omega)
theorem set_id {xs : List Int32} {c : Nat} {x : Int32} (h : xs.getD c 0 = x) : xs.set c x = xs := by
  apply ext16 (List.length_set ..)
  intro e he
  rw [getD_set]
  by_cases hz : c = e ∧ c < xs.length
  · rw [if_pos hz, ← hz.1, h]
  · rw [if_neg hz]
theorem cnt_upd {f f' : Nat → Bool} {c : Nat} (h0 : f c = false) (h1 : f' c = true) (h : ∀ i, i ≠ c → f' i = f i) : ∀ n, cnt f' n = cnt f n + (if c < n then 1 else 0)
  | 0 => rfl
  | n + 1 => by
    rw [show cnt f' (n + 1) = cnt f' n + (if f' n = true then 1 else 0) from rfl, show cnt f (n + 1) = cnt f n + (if f n = true then 1 else 0) from rfl, cnt_upd h0 h1 h n]
    by_cases hn : n = c
    · subst hn
      simp only [h0, h1, if_true, Bool.false_eq_true, if_false, Nat.lt_irrefl, Nat.lt_succ_self, Nat.add_zero]
    · rw [h n hn]
      have e : (c < n + 1) ↔ (c < n) := by omega
      simp only [e]
      exact Nat.add_right_comm ..
def emp (s : Nat) (cs : List Int32) (p i : Nat) : Bool := decide (cs.getD (cl s p i) 0 = 0)
theorem accB_at {n : Nat} : ∀ i, accB s cs w p i n = true → ∀ j, i ≤ j → j < i + n → cs.getD (cl s p j) 0 = w.getD j 0 ∨ cs.getD (cl s p j) 0 = 0 := by
  intro i h j h1 h2
  unfold accB at h
  rw [List.all_eq_true] at h
  have := h j (List.mem_range'_1.mpr ⟨h1, h2⟩)
  simpa using this
theorem acc_at (ha : acc s cs w p = true) : ∀ j, j < w.length → cs.getD (cl s p j) 0 = w.getD j 0 ∨ cs.getD (cl s p j) 0 = 0 := by
  unfold acc at ha
  simp only [Bool.and_eq_true] at ha
  exact fun j hj => accB_at 0 ha.2 j (by omega) (by omega)
theorem ci_nI (hs : sideOk s) (hp : p < 8 * s * s) {i : Nat} (hi : i < rN s p) : ci s p i = nI (cl s p i) := ((geo hs hp).2.2.2.2 i hi).1
theorem cl_16 (hs : sideOk s) (hp : p < 8 * s * s) {i : Nat} (hi : i < rN s p) : cl s p i < 16 := by
  have := ((geo hs hp).2.2.2.2 i hi).2
  have := (sq_lt hs).1
  omega
theorem layF_all (hs : sideOk s) (hp : p < 8 * s * s) (ha : acc s cs w p = true) (hl : cs.length = 16) : ∀ (n i : Nat) (q : List Int32 × Int32), i + n = w.length → q.1 = putF s w p cs i → (∀ c, bt q.2 c = true → ∃ j, j < i ∧ cl s p j = c) → cnt (bt q.2) 32 = cnt (emp s cs p) i →
    (layF s w p i n q).1 = putF s w p cs w.length ∧ (∀ c, bt (layF s w p i n q).2 c = true → ∃ j, j < w.length ∧ cl s p j = c) ∧ cnt (bt (layF s w p i n q).2) 32 = cnt (emp s cs p) w.length
  | 0, i, q, hi, h1, h2, h3 => by
    rw [show i = w.length by omega] at h1 h2 h3
    exact ⟨h1, h2, h3⟩
  | n + 1, i, q, hi, h1, h2, h3 => by
    have hr := acc_r ha
    have hv : q.1.getD (cl s p i) 0 = cs.getD (cl s p i) 0 := by
      rw [h1]
      exact putF_out i (fun j hj z => absurd (cl_inj hs hp (by omega) (by omega) z) (by omega))
    have h16 := cl_16 hs hp (i := i) (by omega)
    unfold layF
    refine layF_all hs hp ha hl n (i + 1) _ (by omega) ?_ ?_ ?_
    · unfold lay1
      by_cases hz : q.1.getD (cl s p i) 0 = 0
      · rw [if_pos hz]
        simp only
        rw [h1, putF]
      · rw [if_neg hz, h1, putF, set_id]
        rw [← h1, hv]
        rw [hv] at hz
        exact (acc_at ha i (by omega)).resolve_right hz
    · intro c hc
      unfold lay1 at hc
      by_cases hz : q.1.getD (cl s p i) 0 = 0
      · rw [if_pos hz] at hc
        simp only at hc
        rw [ci_nI hs hp (by omega), b_or, Bool.or_eq_true] at hc
        rcases hc with hc | hc
        · obtain ⟨j, hj, e⟩ := h2 c hc
          exact ⟨j, by omega, e⟩
        · have hc32 : c < 32 := by
            apply Nat.lt_of_not_le
            intro z
            rw [b_big z] at hc
            cases hc
          rw [bt_one (by omega) hc32, decide_eq_true_eq] at hc
          exact ⟨i, by omega, hc.symm⟩
      · rw [if_neg hz] at hc
        obtain ⟨j, hj, e⟩ := h2 c hc
        exact ⟨j, by omega, e⟩
    · unfold lay1
      show _ = cnt (emp s cs p) i + (if emp s cs p i = true then 1 else 0)
      by_cases hz : q.1.getD (cl s p i) 0 = 0
      · rw [if_pos hz]
        simp only
        have he : emp s cs p i = true := by unfold emp; rw [← hv, decide_eq_true hz]
        rw [if_pos he, ci_nI hs hp (by omega)]
        have hnb : bt q.2 (cl s p i) = false := by
          cases hb : bt q.2 (cl s p i) with
          | false => rfl
          | true =>
            obtain ⟨j, hj, e⟩ := h2 _ hb
            exact absurd (cl_inj hs hp (by omega) (by omega) e) (by omega)
        have key : ∀ c, c < 32 → bt (q.2 ||| ((1 : Int32) <<< (nI (cl s p i) &&& 31))) c = (bt q.2 c || decide (c = cl s p i)) := by
          intro c hc
          rw [b_or, bt_one (by omega) hc]
        rw [← h3, cnt_congr 32 (f' := fun c => bt q.2 c || decide (c = cl s p i)) (fun c hc => key c hc), cnt_upd (f := bt q.2) (c := cl s p i) hnb (by simp) (fun j hj => by simp [hj]), if_pos (by omega)]
      · rw [if_neg hz]
        have he : emp s cs p i = false := by unfold emp; rw [← hv, decide_eq_false hz]
        rw [he, h3]
        rfl
theorem lay_put (hs : sideOk s) (hp : p < 8 * s * s) (ha : acc s cs w p = true) (hl : cs.length = 16) : (layF s w p 0 w.length (cs, 0)).1 = putF s w p cs w.length ∧ bcI (layF s w p 0 w.length (cs, 0)).2 = nI (cnt (emp s cs p) w.length) := by
  have h0 : cnt (bt 0) 32 = cnt (emp s cs p) 0 := by
    rw [cnt_congr 32 (f := bt 0) (f' := fun _ => false) (fun i _ => b_0 i)]
    show cnt (fun _ => false) 32 = 0
    decide
  have := layF_all hs hp ha hl w.length 0 (cs, 0) (by omega) rfl (fun c hc => by rw [b_0] at hc; cases hc) h0
  exact ⟨this.1, by rw [bc_cnt, this.2.2]⟩
/-- the set of a word's cells -/
theorem csetF_bt (hs : sideOk s) (hp : p < 8 * s * s) : ∀ (n i : Nat) (m : Int32) (c : Nat), i + n ≤ rN s p → c < 32 → (bt (csetF s p i n m) c = true ↔ (bt m c = true ∨ ∃ j, i ≤ j ∧ j < i + n ∧ cl s p j = c))
  | 0, i, m, c, _, _ => by
    unfold csetF
    constructor
    · exact Or.inl
    · rintro (h | ⟨j, h1, h2, -⟩)
      · exact h
      · omega
  | n + 1, i, m, c, hi, hc => by
    unfold csetF
    have h16 := cl_16 hs hp (i := i) (by omega)
    rw [csetF_bt hs hp n (i + 1) _ c (by omega) hc, ci_nI hs hp (by omega), b_or, bt_one (by omega) hc, Bool.or_eq_true, decide_eq_true_eq]
    constructor
    · rintro ((h | h) | ⟨j, h1, h2, h3⟩)
      · exact Or.inl h
      · exact Or.inr ⟨i, by omega, by omega, h.symm⟩
      · exact Or.inr ⟨j, by omega, by omega, h3⟩
    · rintro (h | ⟨j, h1, h2, h3⟩)
      · exact Or.inl (Or.inl h)
      · by_cases hj : j = i
        · subst hj; exact Or.inl (Or.inr h3.symm)
        · exact Or.inr ⟨j, by omega, by omega, h3⟩
theorem csetF_big (hs : sideOk s) (hp : p < 8 * s * s) {n c : Nat} (hn : n ≤ rN s p) (hc : 16 ≤ c) : bt (csetF s p 0 n 0) c = false := by
  by_cases h32 : c < 32
  · cases hb : bt (csetF s p 0 n 0) c with
    | false => rfl
    | true =>
      rcases (csetF_bt hs hp n 0 0 c (by omega) h32).mp hb with h | ⟨j, -, h2, h3⟩
      · rw [b_0] at h; cases h
      · have := cl_16 hs hp (i := j) (by omega); omega
  · exact b_big (by omega)
theorem incF_at (hs : sideOk s) (hp : p < 8 * s * s) (hl : cv.length = 16) {c : Nat} (hc : c < 16) : ∀ n, n ≤ rN s p → (incF s p cv n).getD c 0 = cv.getD c 0 + bI (bt (csetF s p 0 n 0) c)
  | 0, _ => by
    show cv.getD c 0 = cv.getD c 0 + bI (bt 0 c)
    rw [b_0, bI_f, Int32.add_zero]
  | n + 1, hn => by
    have h16 := cl_16 hs hp (i := n) (by omega)
    rw [incF, getD_set, incF_len]
    have k1 := csetF_bt hs hp (n + 1) 0 0 c (by omega) (by omega)
    have k0 := csetF_bt hs hp n 0 0 c (by omega) (by omega)
    by_cases hz : cl s p n = c
    · rw [if_pos ⟨hz, by omega⟩, hz, incF_at hs hp hl hc n (by omega)]
      have b0 : bt (csetF s p 0 n 0) c = false := by
        cases hb : bt (csetF s p 0 n 0) c with
        | false => rfl
        | true =>
          rcases k0.mp hb with h | ⟨j, -, h2, h3⟩
          · rw [b_0] at h; cases h
          · exact absurd (cl_inj hs hp (by omega) (by omega) (h3.trans hz.symm)) (by omega)
      have b1 : bt (csetF s p 0 (n + 1) 0) c = true := k1.mpr (Or.inr ⟨n, by omega, by omega, hz⟩)
      rw [b0, b1, bI_f, bI_t, Int32.add_zero]
    · rw [if_neg (fun z => hz z.1), incF_at hs hp hl hc n (by omega)]
      have : bt (csetF s p 0 (n + 1) 0) c = bt (csetF s p 0 n 0) c := by
        rw [Bool.eq_iff_iff, k1, k0]
        constructor
        · rintro (h | ⟨j, h1, h2, h3⟩)
          · exact Or.inl h
          · by_cases hj : j = n
            · subst hj; exact absurd h3 hz
            · exact Or.inr ⟨j, h1, by omega, h3⟩
        · rintro (h | ⟨j, h1, h2, h3⟩)
          · exact Or.inl h
          · exact Or.inr ⟨j, h1, by omega, h3⟩
      rw [this]
end LY
section MD5
variable {h h' h0 : aH} {g g' i0 i1 : gG} {P P' S I PD SQ CV FP : List Int32} {a b : Bool} {n l m k t f : Int32} {lo hi d : Nat}
/-- put -/
theorem o96_l {s j p : Nat} {cs w : List Int32} (hs : sideOk s) (hcs : ∀ c, c < 16 → S.getD (1 + c) 0 = cs.getD c 0) (hl : cs.length = 16) (W : WordAt S 0 j w) (M0 : ML h S I PD SQ CV FP a b n l m k t f) (e0 : S.getD 0 0 = nI s) (hp : p < 8 * s * s) (hr : w.length ≤ rN s p) : ∃ h' S', go (d + 4) 96 39 [.ref 96, .int (nI j), .int (nI p), .int 0, .int 0, aU] [] h = some (some (.int (nI (cnt (emp s cs p) w.length))), h') ∧ ML h' S' I PD SQ CV FP a b n l m k t f ∧ (∀ e, e < 59 → (e = 0 ∨ 17 ≤ e) → S'.getD e 0 = S.getD e 0) ∧ (∀ c, c < 16 → S'.getD (1 + c) 0 = (putF s w p cs w.length).getD c 0) ∧ Off h h' 96 104 := by
  have hq := (sq_lt hs).1
  have hl4 := W.1.2.2.2
  have hj3 := W.1.2.1
  have lp := go_iter (d := d + 4) (M := 96) (pc := 39) (fun i ls h' => ∃ S' l5, ls = [.ref 96, .int (nI j), .int (nI p), .int (nI (cnt (emp s cs p) i)), .int (nI i), l5] ∧ ML h' S' I PD SQ CV FP a b n l m k t f ∧ (∀ e, e < 59 → (e = 0 ∨ 17 ≤ e) → S'.getD e 0 = S.getD e 0) ∧ (∀ c, c < 16 → S'.getD (1 + c) 0 = (putF s w p cs i).getD c 0) ∧ Off h h' 96 104) w.length (by
    rintro i ls h2 hi ⟨S', l5, rfl, M2, q1, q2, O2⟩
    have h16 := cl_16 hs hp (i := i) (by omega)
    have W' : WordAt S' 0 j w := ⟨W.1, by rw [q1 _ (by omega) (by omega)]; exact W.2.1, fun i hi => by rw [q1 _ (by omega) (by omega)]; exact W.2.2 i hi⟩
    have e0' : S'.getD 0 0 = nI s := by rw [q1 0 (by omega) (by omega)]; exact e0
    have e71 := W'.long (d := d + 3) M2
    rw [nI_0] at e71
    have e72 := W'.let (d := d + 3) (i := i) M2 hi
    rw [nI_0] at e72
    have e85 := o85a (d := d + 1) hs M2 e0' hp (i := i) (by omega) (by omega)
    have n1 : ¬ nI w.length ≤ nI i := nI_nle2 (by omega) (by omega) hi
    have x1 : (1 : Int32) + nI (cl s p i) = nI (1 + cl s p i) := xI 1 _
    have r1 := M2.r97 (j := 1 + cl s p i) (by omega)
    rw [q2 _ h16, putF_out i (fun j hj z => absurd (cl_inj hs hp (by omega) (by omega) z) (by omega))] at r1
    obtain ⟨h3, w3, M3, O3⟩ := M2.w97 (j := 1 + cl s p i) (w.getD i 0) (by omega)
    refine ⟨_, h3, ?_, _, .int (nI (1 + cl s p i)), rfl, M3, fun e he h1 => by rw [getD_set, if_neg (by omega)]; exact q1 e he h1, fun c hc => ?_, O2.trans O3⟩
    · rw [ee_96_39]
      by_cases hz : cs.getD (cl s p i) 0 = 0
      · have he : emp s cs p i = true := decide_eq_true hz
        simp only [ee_96_0, ee_96_0N, ee_96_1, ee_96_2, ee_96_3, ee_96_6, ee_96_9, ee_96_10, ee_96_11, ee_96_11N, ee_96_12, ee_96_13, ee_96_16, ee_96_19, ee_96_21, ee_96_22, ee_96_22N, ee_96_23, ee_96_24, ee_96_25, ee_96_28, ee_96_31, ee_96_33, ee_96_34, ee_96_35, ee_96_36, ee_96_37, ee_96_41, ee_96_41N, ee_96_42, ee_96_43, ee_96_44, ee_96_47, ee_96_50, ee_96_51, ee_96_51N, ee_96_52, ee_96_53, ee_96_55, ee_96_58, ee_96_59, ee_96_61, ee_96_62, ee_96_62N, ee_96_63, ee_96_66, ee_96_68, ee_96_69, ee_96_72, ee_96_73, ee_96_76, ee_96_77, ee_96_78, ee_96_79, ee_96_79N, ee_96_80, ee_96_83, ee_96_85, ee_96_85N, ee_96_86, ee_96_87, ee_96_88, ee_96_90, ee_96_93, ee_96_94, ee_96_97, ee_96_100, ee_96_101, M2.F, KK, e71, n1, e85, x1, r1, hz, e72, w3, nI_1, cnt, he, Option.bind_some, Option.toList, List.cons_append, List.nil_append, List.append_nil, if_true, if_false, Bool.false_eq_true, eq_self, not_true_eq_false, not_false_eq_true]
      · have he : emp s cs p i = false := decide_eq_false hz
        simp only [ee_96_0, ee_96_0N, ee_96_1, ee_96_2, ee_96_3, ee_96_6, ee_96_9, ee_96_10, ee_96_11, ee_96_11N, ee_96_12, ee_96_13, ee_96_16, ee_96_19, ee_96_21, ee_96_22, ee_96_22N, ee_96_23, ee_96_24, ee_96_25, ee_96_28, ee_96_31, ee_96_33, ee_96_34, ee_96_35, ee_96_36, ee_96_37, ee_96_41, ee_96_41N, ee_96_42, ee_96_43, ee_96_44, ee_96_47, ee_96_50, ee_96_51, ee_96_51N, ee_96_52, ee_96_53, ee_96_55, ee_96_58, ee_96_59, ee_96_61, ee_96_62, ee_96_62N, ee_96_63, ee_96_66, ee_96_68, ee_96_69, ee_96_72, ee_96_73, ee_96_76, ee_96_77, ee_96_78, ee_96_79, ee_96_79N, ee_96_80, ee_96_83, ee_96_85, ee_96_85N, ee_96_86, ee_96_87, ee_96_88, ee_96_90, ee_96_93, ee_96_94, ee_96_97, ee_96_100, ee_96_101, M2.F, KK, e71, n1, e85, x1, r1, hz, e72, w3, nI_1, cnt, he, Int32.add_zero, Nat.add_zero, Option.bind_some, Option.toList, List.cons_append, List.nil_append, List.append_nil, if_true, if_false, Bool.false_eq_true, eq_self, not_true_eq_false, not_false_eq_true]
    · rw [getD_set, putF, getD_set, putF_len]
      by_cases hz : cl s p i = c
      · rw [if_pos ⟨by omega, by rw [M2.2.1.2]; omega⟩, if_pos ⟨hz, by omega⟩]
      · rw [if_neg (by omega), if_neg (by omega)]; exact q2 c hc)
  obtain ⟨ls, h3, e3, S', l5, rfl, M3, q1, q2, O3⟩ := lp [.ref 96, .int (nI j), .int (nI p), .int (nI (cnt (emp s cs p) 0)), .int (nI 0), aU] h ⟨S, aU, rfl, M0, fun _ _ _ => rfl, hcs, Off.rf⟩
  refine ⟨h3, S', ?_, M3, q1, q2, O3⟩
  rw [show cnt (emp s cs p) 0 = 0 from rfl, nI_0] at e3
  have W' : WordAt S' 0 j w := ⟨W.1, by rw [q1 _ (by have := W.1.2.1; omega) (by omega)]; exact W.2.1, fun i hi => by rw [q1 _ (by have := W.1.2.1; omega) (by omega)]; exact W.2.2 i hi⟩
  have e71 := W'.long (d := d + 3) M3
  rw [nI_0] at e71
  have nn : nI w.length ≤ nI w.length := Int32.le_refl _
  rw [e3, ee_96_39]
  simp only [ee_96_0, ee_96_0N, ee_96_1, ee_96_2, ee_96_3, ee_96_6, ee_96_9, ee_96_10, ee_96_11, ee_96_11N, ee_96_12, ee_96_13, ee_96_16, ee_96_19, ee_96_21, ee_96_22, ee_96_22N, ee_96_23, ee_96_24, ee_96_25, ee_96_28, ee_96_31, ee_96_33, ee_96_34, ee_96_35, ee_96_36, ee_96_37, ee_96_41, ee_96_41N, ee_96_42, ee_96_43, ee_96_44, ee_96_47, ee_96_50, ee_96_51, ee_96_51N, ee_96_52, ee_96_53, ee_96_55, ee_96_58, ee_96_59, ee_96_61, ee_96_62, ee_96_62N, ee_96_63, ee_96_66, ee_96_68, ee_96_69, ee_96_72, ee_96_73, ee_96_76, ee_96_77, ee_96_78, ee_96_79, ee_96_79N, ee_96_80, ee_96_83, ee_96_85, ee_96_85N, ee_96_86, ee_96_87, ee_96_88, ee_96_90, ee_96_93, ee_96_94, ee_96_97, ee_96_100, ee_96_101, M3.F, e71, nn, Option.bind_some, Option.toList, List.cons_append, List.nil_append, List.append_nil, if_true, if_false, Bool.false_eq_true, eq_self, not_true_eq_false, not_false_eq_true]
theorem o_put {y x : Int32} (G : GW g) (M : MI h g P i0 i1 a b) : ∃ h', go (d + 12) 96 0 [.ref 96, .int y, .int x, aU, aU, aU] [] h = some (some (.int (q_put g y x).1), h') ∧ MI h' (q_put g y x).2 P i0 i1 a b ∧ Off h h' 96 104 := by
  obtain ⟨S, I, PD, SQ, CV, FP, l, m, k, t, f, M0, E, r⟩ := id M
  have hs := G.1.1
  have hq := sq_lt hs
  have h3 := G.2.2.1
  have e70 := o70 (d := d + 10) (kd := 0) (x := y) M0 (by decide) (show g.2.2.1.length < 100 by omega) E.s.2.2.2.1.1
  rw [nI_0] at e70
  have e69 := o69 (d := d + 10) (x := x) hs M0 E.s.1
  unfold q_put fnd
  rcases pk_ix y (n := g.2.2.1.length) (by omega) with hc | hc | ⟨j, hj, rfl⟩
  · simp only [hc, true_or, if_true] at e70 ⊢
    refine ⟨h, ?_, M, Off.rf⟩
    simp only [ee_96_0, ee_96_0N, ee_96_1, ee_96_2, ee_96_3, ee_96_6, ee_96_9, ee_96_10, ee_96_11, ee_96_11N, ee_96_12, ee_96_13, ee_96_16, ee_96_19, ee_96_21, ee_96_22, ee_96_22N, ee_96_23, ee_96_24, ee_96_25, ee_96_28, ee_96_31, ee_96_33, ee_96_34, ee_96_35, ee_96_36, ee_96_37, ee_96_41, ee_96_41N, ee_96_42, ee_96_43, ee_96_44, ee_96_47, ee_96_50, ee_96_51, ee_96_51N, ee_96_52, ee_96_53, ee_96_55, ee_96_58, ee_96_59, ee_96_61, ee_96_62, ee_96_62N, ee_96_63, ee_96_66, ee_96_68, ee_96_69, ee_96_72, ee_96_73, ee_96_76, ee_96_77, ee_96_78, ee_96_79, ee_96_79N, ee_96_80, ee_96_83, ee_96_85, ee_96_85N, ee_96_86, ee_96_87, ee_96_88, ee_96_90, ee_96_93, ee_96_94, ee_96_97, ee_96_100, ee_96_101, M0.F, e70, Option.bind_some, Option.toList, List.cons_append, List.nil_append, List.append_nil, if_true, if_false, Bool.false_eq_true, eq_self, not_true_eq_false, not_false_eq_true]
  · simp only [hc, or_true, if_true] at e70 ⊢
    refine ⟨h, ?_, M, Off.rf⟩
    simp only [ee_96_0, ee_96_0N, ee_96_1, ee_96_2, ee_96_3, ee_96_6, ee_96_9, ee_96_10, ee_96_11, ee_96_11N, ee_96_12, ee_96_13, ee_96_16, ee_96_19, ee_96_21, ee_96_22, ee_96_22N, ee_96_23, ee_96_24, ee_96_25, ee_96_28, ee_96_31, ee_96_33, ee_96_34, ee_96_35, ee_96_36, ee_96_37, ee_96_41, ee_96_41N, ee_96_42, ee_96_43, ee_96_44, ee_96_47, ee_96_50, ee_96_51, ee_96_51N, ee_96_52, ee_96_53, ee_96_55, ee_96_58, ee_96_59, ee_96_61, ee_96_62, ee_96_62N, ee_96_63, ee_96_66, ee_96_68, ee_96_69, ee_96_72, ee_96_73, ee_96_76, ee_96_77, ee_96_78, ee_96_79, ee_96_79N, ee_96_80, ee_96_83, ee_96_85, ee_96_85N, ee_96_86, ee_96_87, ee_96_88, ee_96_90, ee_96_93, ee_96_94, ee_96_97, ee_96_100, ee_96_101, M0.F, e70, Option.bind_some, Option.toList, List.cons_append, List.nil_append, List.append_nil, if_true, if_false, Bool.false_eq_true, eq_self, not_true_eq_false, not_false_eq_true]
  · have n1 : ¬ nI j < 0 := nI_pos (by omega)
    have n2 : ¬ nI g.2.2.1.length ≤ nI j := nI_nle2 (by omega) (by omega) hj
    simp only [n1, n2, or_self, if_false, nI_clamp (show j < 2 ^ 31 by omega)] at e70 ⊢
    have W := E.w0 G hj
    generalize g.2.2.1.getD j [] = w at *
    rcases pk_ix x (n := 8 * g.1 * g.1) (by omega) with hc | hc | ⟨p, hp, rfl⟩
    · simp only [hc, true_or, if_true] at e69 ⊢
      refine ⟨h, ?_, M, Off.rf⟩
      simp only [ee_96_0, ee_96_0N, ee_96_1, ee_96_2, ee_96_3, ee_96_6, ee_96_9, ee_96_10, ee_96_11, ee_96_11N, ee_96_12, ee_96_13, ee_96_16, ee_96_19, ee_96_21, ee_96_22, ee_96_22N, ee_96_23, ee_96_24, ee_96_25, ee_96_28, ee_96_31, ee_96_33, ee_96_34, ee_96_35, ee_96_36, ee_96_37, ee_96_41, ee_96_41N, ee_96_42, ee_96_43, ee_96_44, ee_96_47, ee_96_50, ee_96_51, ee_96_51N, ee_96_52, ee_96_53, ee_96_55, ee_96_58, ee_96_59, ee_96_61, ee_96_62, ee_96_62N, ee_96_63, ee_96_66, ee_96_68, ee_96_69, ee_96_72, ee_96_73, ee_96_76, ee_96_77, ee_96_78, ee_96_79, ee_96_79N, ee_96_80, ee_96_83, ee_96_85, ee_96_85N, ee_96_86, ee_96_87, ee_96_88, ee_96_90, ee_96_93, ee_96_94, ee_96_97, ee_96_100, ee_96_101, M0.F, KK, e70, e69, Option.bind_some, Option.toList, List.cons_append, List.nil_append, List.append_nil, if_true, if_false, Bool.false_eq_true, eq_self, not_true_eq_false, not_false_eq_true]
    · simp only [hc, or_true, if_true] at e69 ⊢
      refine ⟨h, ?_, M, Off.rf⟩
      simp only [ee_96_0, ee_96_0N, ee_96_1, ee_96_2, ee_96_3, ee_96_6, ee_96_9, ee_96_10, ee_96_11, ee_96_11N, ee_96_12, ee_96_13, ee_96_16, ee_96_19, ee_96_21, ee_96_22, ee_96_22N, ee_96_23, ee_96_24, ee_96_25, ee_96_28, ee_96_31, ee_96_33, ee_96_34, ee_96_35, ee_96_36, ee_96_37, ee_96_41, ee_96_41N, ee_96_42, ee_96_43, ee_96_44, ee_96_47, ee_96_50, ee_96_51, ee_96_51N, ee_96_52, ee_96_53, ee_96_55, ee_96_58, ee_96_59, ee_96_61, ee_96_62, ee_96_62N, ee_96_63, ee_96_66, ee_96_68, ee_96_69, ee_96_72, ee_96_73, ee_96_76, ee_96_77, ee_96_78, ee_96_79, ee_96_79N, ee_96_80, ee_96_83, ee_96_85, ee_96_85N, ee_96_86, ee_96_87, ee_96_88, ee_96_90, ee_96_93, ee_96_94, ee_96_97, ee_96_100, ee_96_101, M0.F, KK, e70, e69, Option.bind_some, Option.toList, List.cons_append, List.nil_append, List.append_nil, if_true, if_false, Bool.false_eq_true, eq_self, not_true_eq_false, not_false_eq_true]
    · have m1 : ¬ nI p < 0 := nI_pos (by omega)
      have m2 : ¬ nI (8 * g.1 * g.1) ≤ nI p := nI_nle2 (by omega) (by omega) hp
      simp only [m1, m2, or_self, if_false, nI_clamp (show p < 2 ^ 31 by omega)] at e69 ⊢
      have e95 := o95 (d := d + 7) hs E.s.2.1 W M0 E.s.1 hp
      by_cases ha : acc g.1 g.2.1 w p = true
      · rw [ha, bI_t] at e95
        obtain ⟨h1, S', e, M1, q1, q2, O1⟩ := o96_l (d := d + 8) hs E.s.2.1 G.2.1 W M0 E.s.1 hp (acc_r ha)
        obtain ⟨l1, l2⟩ := lay_put hs hp ha G.2.1
        rw [if_pos ha, l1, l2]
        refine ⟨h1, ?_, ⟨S', I, PD, SQ, CV, FP, l, m, k, t, f, M1, E.cells G q1 q2, r⟩, O1⟩
        simp only [ee_96_0, ee_96_0N, ee_96_1, ee_96_2, ee_96_3, ee_96_6, ee_96_9, ee_96_10, ee_96_11, ee_96_11N, ee_96_12, ee_96_13, ee_96_16, ee_96_19, ee_96_21, ee_96_22, ee_96_22N, ee_96_23, ee_96_24, ee_96_25, ee_96_28, ee_96_31, ee_96_33, ee_96_34, ee_96_35, ee_96_36, ee_96_37, ee_96_41, ee_96_41N, ee_96_42, ee_96_43, ee_96_44, ee_96_47, ee_96_50, ee_96_51, ee_96_51N, ee_96_52, ee_96_53, ee_96_55, ee_96_58, ee_96_59, ee_96_61, ee_96_62, ee_96_62N, ee_96_63, ee_96_66, ee_96_68, ee_96_69, ee_96_72, ee_96_73, ee_96_76, ee_96_77, ee_96_78, ee_96_79, ee_96_79N, ee_96_80, ee_96_83, ee_96_85, ee_96_85N, ee_96_86, ee_96_87, ee_96_88, ee_96_90, ee_96_93, ee_96_94, ee_96_97, ee_96_100, ee_96_101, M0.F, KK, e70, e69, e95, e, Option.bind_some, Option.toList, List.cons_append, List.nil_append, List.append_nil, if_true, if_false, Bool.false_eq_true, eq_self, not_true_eq_false, not_false_eq_true]
      · have ha' : acc g.1 g.2.1 w p = false := by simpa using ha
        rw [ha', bI_f] at e95
        rw [if_neg ha]
        refine ⟨h, ?_, M, Off.rf⟩
        simp only [ee_96_0, ee_96_0N, ee_96_1, ee_96_2, ee_96_3, ee_96_6, ee_96_9, ee_96_10, ee_96_11, ee_96_11N, ee_96_12, ee_96_13, ee_96_16, ee_96_19, ee_96_21, ee_96_22, ee_96_22N, ee_96_23, ee_96_24, ee_96_25, ee_96_28, ee_96_31, ee_96_33, ee_96_34, ee_96_35, ee_96_36, ee_96_37, ee_96_41, ee_96_41N, ee_96_42, ee_96_43, ee_96_44, ee_96_47, ee_96_50, ee_96_51, ee_96_51N, ee_96_52, ee_96_53, ee_96_55, ee_96_58, ee_96_59, ee_96_61, ee_96_62, ee_96_62N, ee_96_63, ee_96_66, ee_96_68, ee_96_69, ee_96_72, ee_96_73, ee_96_76, ee_96_77, ee_96_78, ee_96_79, ee_96_79N, ee_96_80, ee_96_83, ee_96_85, ee_96_85N, ee_96_86, ee_96_87, ee_96_88, ee_96_90, ee_96_93, ee_96_94, ee_96_97, ee_96_100, ee_96_101, M0.F, KK, e70, e69, e95, Option.bind_some, Option.toList, List.cons_append, List.nil_append, List.append_nil, if_true, if_false, Bool.false_eq_true, eq_self, not_true_eq_false, not_false_eq_true]
end MD5
