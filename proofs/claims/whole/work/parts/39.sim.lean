/-! the two ways of going through the layings -/
def uplM (pl : Nat → Nat) (k p : Nat) : Nat → Nat := fun j => if j = k then p else pl j
def lvlM (g : gG) (F : mX → Nat → Nat → Nat → List Int32 → List Int32 → mX) : Nat → Nat → (Nat → Nat) → List Int32 → List Int32 → mX → mX
  | 0, _, pl, cs, cv, X => F X (pl 0) (pl 1) (pl 2) cs cv
  | r + 1, k, pl, cs, cv, X => lv g k cs cv (fun p cs cv X => lvlM g F r (k + 1) (uplM pl k p) cs cv X) X
theorem mw_lvl (g : gG) (F : mX → Nat → Nat → Nat → List Int32 → List Int32 → mX) (cs cv : List Int32) (X : mX) : mw g F cs cv X = lvlM g F 3 0 (fun _ => 0) cs cv X := rfl
/-- the squares behind each word -/
def chnC (g : gG) (pl : Nat → Nat) : Nat → List Int32
  | 0 => g.2.1
  | k + 1 => stCs g.1 g.2.2.1 k (chnC g pl k) (pl k)
theorem chnC_upl (g : gG) (pl : Nat → Nat) (k p : Nat) : ∀ j, j ≤ k → chnC g (uplM pl k p) j = chnC g pl j
  | 0, _ => rfl
  | j + 1, h => by
    rw [chnC, chnC, chnC_upl g pl k p j (by omega)]
    unfold uplM
    rw [if_neg (by omega)]
def sNk (ss : List Int32) (k j c : Nat) : Nat := if j < k then b2 (bt (ss.getD j 0) c) else 0
def WfU (n : Nat) (u : List Int32 × List Int32) : Prop := u.1.length = 3 ∧ u.2.length = 3 ∧ (∀ j, n ≤ j → u.2.getD j 0 = 0) ∧ (∀ j c, 16 ≤ c → bt (u.2.getD j 0) c = false)
def KpU (k : Nat) (u u' : List Int32 × List Int32) : Prop := ∀ j, j < k → u'.1.getD j 0 = u.1.getD j 0 ∧ u'.2.getD j 0 = u.2.getD j 0
def LvI (g : gG) (k : Nat) (pl : Nat → Nat) (cs cv : List Int32) (u : List Int32 × List Int32) : Prop :=
  (cs.length = 16 ∧ cv.length = 16) ∧ WfU g.2.2.1.length u ∧ cs = chnC g pl k ∧ (∀ j, j < k → pl j < plN g j ∧ stOk g.1 g.2.2.1 j (chnC g pl j) (pl j) = true) ∧ (∀ j, j < k → j < g.2.2.1.length → u.1.getD j 0 = nI (pl j)) ∧ (∀ c, c < 16 → cv.getD c 0 = nI (sNk u.2 k 0 c + sNk u.2 k 1 c + sNk u.2 k 2 c)) ∧ (∀ j, j < k → j < g.2.2.1.length → sh g.1 cs (g.2.2.1.getD j []) (pl j) = true)
theorem KpU.rf {k : Nat} {u : List Int32 × List Int32} : KpU k u u := fun _ _ => ⟨rfl, rfl⟩
theorem KpU.trans {k : Nat} {u v w : List Int32 × List Int32} (a : KpU k u v) (b : KpU k v w) : KpU k u w := fun j hj => ⟨(b j hj).1.trans (a j hj).1, (b j hj).2.trans (a j hj).2⟩
theorem KpU.mono {k k' : Nat} {u v : List Int32 × List Int32} (a : KpU k u v) (h : k' ≤ k) : KpU k' u v := fun j hj => a j (by omega)
section SIM
variable {g : gG} {k : Nat} {pl : Nat → Nat} {cs cv : List Int32} {u u' : List Int32 × List Int32}
theorem LvI.keep (L : LvI g k pl cs cv u) (W : WfU g.2.2.1.length u') (K : KpU k u u') : LvI g k pl cs cv u' := by
  obtain ⟨l1, -, l3, l4, l5, l6, l7⟩ := L
  refine ⟨l1, W, l3, l4, fun j h1 h2 => (K j h1).1.trans (l5 j h1 h2), fun c hc => ?_, l7⟩
  rw [l6 c hc]
  have e : ∀ j, sNk u'.2 k j c = sNk u.2 k j c := by
    intro j
    unfold sNk
    by_cases h : j < k
    · rw [if_pos h, if_pos h, (K j h).2]
    · rw [if_neg h, if_neg h]
  rw [e, e, e]
theorem mem_getD {ws : List (List Int32)} {j : Nat} (hj : j < ws.length) : ws.getD j [] ∈ ws := by
  rw [List.getD_eq_getElem?_getD, List.getElem?_eq_getElem hj]
  exact List.getElem_mem hj
theorem getD_mem_ex {ws : List (List Int32)} {w : List Int32} (h : w ∈ ws) : ∃ j, j < ws.length ∧ w = ws.getD j [] := by
  obtain ⟨j, hj, e⟩ := List.getElem_of_mem h
  refine ⟨j, hj, ?_⟩
  rw [List.getD_eq_getElem?_getD, List.getElem?_eq_getElem hj]
  exact e.symm
/-- a word more is laid -/
theorem LvI.more (G : GW g) (hk : k < g.2.2.1.length) (L : LvI g k pl cs cv u) {p : Nat} (hp : p < 8 * g.1 * g.1) (ha : acc g.1 cs (g.2.2.1.getD k []) p = true) :
    LvI g (k + 1) (uplM pl k p) (stCs g.1 g.2.2.1 k cs p) (stCv g.1 g.2.2.1 k cv p) (u.1.set k (nI p), u.2.set k (csetF g.1 p 0 (g.2.2.1.getD k []).length 0)) := by
  obtain ⟨⟨l1, l1b⟩, ⟨w1, w2, w3, w4⟩, l3, l4, l5, l6, l7⟩ := L
  have hs := G.1.1
  have hn := G.2.2.1
  have hr := acc_r ha
  have hcs : stCs g.1 g.2.2.1 k cs p = (layF g.1 (g.2.2.1.getD k []) p 0 (g.2.2.1.getD k []).length (cs, 0)).1 := by unfold stCs; rw [if_pos hk]
  have hcv : stCv g.1 g.2.2.1 k cv p = incF g.1 p cv (g.2.2.1.getD k []).length := by unfold stCv; rw [if_pos hk]
  have uk : uplM pl k p k = p := by unfold uplM; rw [if_pos rfl]
  have uj : ∀ j, j ≠ k → uplM pl k p j = pl j := fun j hj => by unfold uplM; rw [if_neg hj]
  have pk : p < plN g k := by unfold plN; rw [if_pos hk]; exact hp
  refine ⟨⟨by rw [hcs, layF_len]; exact l1, by rw [hcv, incF_len]; exact l1b⟩, ⟨by simpa using w1, by simpa using w2, fun j hj => ?_, fun j c hc => ?_⟩, ?_, fun j hj => ?_, fun j h1 h2 => ?_, fun c hc => ?_, fun j h1 h2 => ?_⟩
  · simp only
    rw [getD_set, if_neg (by omega)]
    exact w3 j hj
  · simp only
    rw [getD_set]
    split
    · exact csetF_big hs hp hr hc
    · exact w4 j c hc
  · rw [chnC, chnC_upl g pl k p k (Nat.le_refl k), uk, l3]
  · by_cases h : j = k
    · subst h
      rw [uk, chnC_upl g pl j p j (Nat.le_refl j)]
      refine ⟨pk, ?_⟩
      unfold stOk
      rw [if_pos hk, ← l3]
      exact ha
    · rw [uj j h, chnC_upl g pl k p j (by omega)]
      exact l4 j (by omega)
  · simp only
    rw [getD_set]
    by_cases h : j = k
    · subst h
      rw [if_pos ⟨rfl, by omega⟩, uk]
    · rw [if_neg (by omega), uj j h]
      exact l5 j (by omega) h2
  · simp only
    rw [hcv, incF_at hs hp l1b hc _ hr, l6 c hc, bI_b2, nI_add]
    congr 1
    have hj : ∀ j, sNk (u.2.set k (csetF g.1 p 0 (g.2.2.1.getD k []).length 0)) (k + 1) j c = if j = k then b2 (bt (csetF g.1 p 0 (g.2.2.1.getD k []).length 0) c) else sNk u.2 k j c := by
      intro j
      unfold sNk
      rw [getD_set]
      by_cases h : j = k
      · subst h
        rw [if_pos (by omega), if_pos ⟨rfl, by omega⟩, if_pos rfl]
      · rw [if_neg h, if_neg (show ¬ (k = j ∧ k < u.2.length) from fun z => h z.1.symm)]
        by_cases h2 : j < k
        · rw [if_pos h2, if_pos (by omega)]
        · rw [if_neg h2, if_neg (by omega)]
    have h0 : ∀ j, k ≤ j → sNk u.2 k j c = 0 := fun j h => by unfold sNk; rw [if_neg (by omega)]
    rw [hj, hj, hj]
    have hk3 : k = 0 ∨ k = 1 ∨ k = 2 := by omega
    rcases hk3 with z | z | z
    · subst z
      rw [h0 0 (by omega), h0 1 (by omega), h0 2 (by omega), if_pos rfl, if_neg (by omega), if_neg (by omega)]
      omega
    · subst z
      rw [h0 1 (by omega), h0 2 (by omega), if_neg (by omega), if_pos rfl, if_neg (by omega)]
      omega
    · subst z
      rw [h0 2 (by omega), if_neg (by omega), if_neg (by omega), if_pos rfl]
      omega
  · rw [hcs]
    by_cases h : j = k
    · subst h
      rw [uk]
      exact sh_lay hs hp ha l1
    · rw [uj j h]
      exact sh_ext (G.1.2.2.2.1 _ (mem_getD h2)).2.2 (ext_lay hs hp ha l1) (l7 j (by omega) h2)
/-- a word that is not there -/
theorem LvI.none (hk : g.2.2.1.length ≤ k) (L : LvI g k pl cs cv u) : LvI g (k + 1) (uplM pl k 0) cs cv u := by
  obtain ⟨l1, ⟨w1, w2, w3, w4⟩, l3, l4, l5, l6, l7⟩ := L
  have hst : stCs g.1 g.2.2.1 k cs 0 = cs := by unfold stCs; rw [if_neg (by omega)]
  have uk : uplM pl k 0 k = 0 := by unfold uplM; rw [if_pos rfl]
  have uj : ∀ j, j ≠ k → uplM pl k 0 j = pl j := fun j hj => by unfold uplM; rw [if_neg hj]
  refine ⟨l1, ⟨w1, w2, w3, w4⟩, ?_, fun j hj => ?_, fun j h1 h2 => ?_, fun c hc => ?_, fun j h1 h2 => ?_⟩
  · rw [chnC, chnC_upl g pl k 0 k (Nat.le_refl k), uk, ← l3, hst]
  · by_cases h : j = k
    · subst h
      rw [uk]
      refine ⟨by unfold plN; rw [if_neg (by omega)]; omega, ?_⟩
      unfold stOk
      rw [if_neg (by omega)]
    · rw [uj j h, chnC_upl g pl k 0 j (by omega)]
      exact l4 j (by omega)
  · rw [uj j (by omega)]
    exact l5 j (by omega) h2
  · rw [l6 c hc]
    have hj : ∀ j, sNk u.2 (k + 1) j c = sNk u.2 k j c := by
      intro j
      unfold sNk
      by_cases h : j = k
      · subst h
        rw [if_pos (by omega), if_neg (by omega), w3 j hk, b_0]
        rfl
      · by_cases h2 : j < k
        · rw [if_pos h2, if_pos (by omega)]
        · rw [if_neg h2, if_neg (by omega)]
    rw [hj, hj, hj]
  · rw [uj j (by omega)]
    exact l7 j (by omega) h2
end SIM
section SIM2
variable {α : Type} {g : gG} {hope : List Int32 → Bool} {meet : List Int32 → α × List Int32 × List Int32 → α × List Int32 × List Int32} {F : mX → Nat → Nat → Nat → List Int32 → List Int32 → mX} {R : Nat → α → mX → Prop}
theorem lv_none {k : Nat} {cs cv : List Int32} (hk : g.2.2.1.length ≤ k) (body : Nat → List Int32 → List Int32 → mX → mX) (X : mX) : lv g k cs cv body X = body 0 cs cv X := by
  have hk' : ¬ k < g.2.2.1.length := by omega
  unfold lv plN
  rw [if_neg hk', show (1 : Nat) = 0 + 1 from rfl, foldR_s, foldR_0]
  simp only [stOk, stCs, stCv, hk', if_false, if_true]
theorem sim_all (G : GW g) (hmono : ∀ {N N' a X}, N ≤ N' → R N a X → R N' a X)
    (hleaf : ∀ N pl cs cv (q : α × List Int32 × List Int32) X, N < 3000000 → LvI g 3 pl cs cv q.2 → R N q.1 X → (meet cs q).2 = q.2 ∧ R (N + 1) (meet cs q).1 (F X (pl 0) (pl 1) (pl 2) cs cv))
    (hprune : ∀ r k pl cs cv X, k + r = 3 → cs.length = 16 → hope cs = false → lvlM g F r k pl cs cv X = X) :
    ∀ (r k : Nat) (pl : Nat → Nat) (cs cv : List Int32) (N : Nat) (q : α × List Int32 × List Int32) (X : mX), k + r = 3 → N + 128 ^ r ≤ 3000000 → LvI g k pl cs cv q.2 → R N q.1 X →
      R (N + 128 ^ r) (walk g.1 hope meet (g.2.2.1.drop k) k cs q).1 (lvlM g F r k pl cs cv X) ∧ WfU g.2.2.1.length (walk g.1 hope meet (g.2.2.1.drop k) k cs q).2 ∧ KpU k q.2 (walk g.1 hope meet (g.2.2.1.drop k) k cs q).2
  | 0, k, pl, cs, cv, N, q, X, hk, hN, L, hR => by
    have hn := G.2.2.1
    have hk3 : k = 3 := by omega
    subst hk3
    rw [List.drop_eq_nil_of_le (by omega), walk, lvlM]
    have h := hleaf N pl cs cv q X (by omega) L hR
    rw [h.1]
    exact ⟨h.2, L.2.1, KpU.rf⟩
  | r + 1, k, pl, cs, cv, N, q, X, hk, hN, L, hR => by
    have hn := G.2.2.1
    have hs := G.1.1
    have hsq := (sq_lt hs).2
    have h128 : (128 : Nat) ^ (r + 1) = 128 * 128 ^ r := by rw [Nat.pow_succ, Nat.mul_comm]
    have hpos : 0 < (128 : Nat) ^ r := Nat.pow_pos (by decide)
    by_cases hkn : k < g.2.2.1.length
    · rw [drop_k hkn, walk, lvlM]
      cases hh : hope cs with
      | false =>
        rw [if_neg (by decide)]
        have e := hprune (r + 1) k pl cs cv X hk L.1.1 hh
        rw [lvlM] at e
        rw [e]
        exact ⟨hmono (by omega) hR, L.2.1, KpU.rf⟩
      | true =>
        rw [if_pos rfl]
        unfold lv plN foldR
        rw [if_pos hkn]
        have key : ∀ (l : List Nat) (N : Nat) (q : α × List Int32 × List Int32) (X : mX), (∀ p ∈ l, p < 8 * g.1 * g.1) → N + l.length * 128 ^ r ≤ 3000000 → LvI g k pl cs cv q.2 → R N q.1 X →
            R (N + l.length * 128 ^ r) (l.foldl (fun q p => if acc g.1 cs (g.2.2.1.getD k []) p = true then walk g.1 hope meet (g.2.2.1.drop (k + 1)) (k + 1) (layF g.1 (g.2.2.1.getD k []) p 0 (g.2.2.1.getD k []).length (cs, 0)).1 (q.1, q.2.1.set k (nI p), q.2.2.set k (csetF g.1 p 0 (g.2.2.1.getD k []).length 0)) else q) q).1 (l.foldl (fun X p => if stOk g.1 g.2.2.1 k cs p = true then lvlM g F r (k + 1) (uplM pl k p) (stCs g.1 g.2.2.1 k cs p) (stCv g.1 g.2.2.1 k cv p) X else X) X) ∧
            WfU g.2.2.1.length (l.foldl (fun q p => if acc g.1 cs (g.2.2.1.getD k []) p = true then walk g.1 hope meet (g.2.2.1.drop (k + 1)) (k + 1) (layF g.1 (g.2.2.1.getD k []) p 0 (g.2.2.1.getD k []).length (cs, 0)).1 (q.1, q.2.1.set k (nI p), q.2.2.set k (csetF g.1 p 0 (g.2.2.1.getD k []).length 0)) else q) q).2 ∧
            KpU k q.2 (l.foldl (fun q p => if acc g.1 cs (g.2.2.1.getD k []) p = true then walk g.1 hope meet (g.2.2.1.drop (k + 1)) (k + 1) (layF g.1 (g.2.2.1.getD k []) p 0 (g.2.2.1.getD k []).length (cs, 0)).1 (q.1, q.2.1.set k (nI p), q.2.2.set k (csetF g.1 p 0 (g.2.2.1.getD k []).length 0)) else q) q).2 := by
          intro l
          induction l with
          | nil =>
            intro N q X _ _ L hR
            rw [List.foldl_nil, List.foldl_nil, List.length_nil, Nat.zero_mul, Nat.add_zero]
            exact ⟨hR, L.2.1, KpU.rf⟩
          | cons p l ih =>
            intro N q X hl hN L hR
            rw [List.foldl_cons, List.foldl_cons]
            rw [List.length_cons, Nat.succ_mul] at hN ⊢
            have hp := hl p List.mem_cons_self
            have hst : stOk g.1 g.2.2.1 k cs p = acc g.1 cs (g.2.2.1.getD k []) p := by unfold stOk; rw [if_pos hkn]
            rw [hst]
            cases ha : acc g.1 cs (g.2.2.1.getD k []) p with
            | false =>
              rw [if_neg (by decide), if_neg (by decide)]
              obtain ⟨i1, i2, i3⟩ := ih N q X (fun p hp => hl p (List.mem_cons_of_mem _ hp)) (by omega) L hR
              exact ⟨hmono (by omega) i1, i2, i3⟩
            | true =>
              rw [if_pos rfl, if_pos rfl]
              have L2 := L.more G hkn hp ha
              have hcs : stCs g.1 g.2.2.1 k cs p = (layF g.1 (g.2.2.1.getD k []) p 0 (g.2.2.1.getD k []).length (cs, 0)).1 := by unfold stCs; rw [if_pos hkn]
              rw [hcs] at L2 ⊢
              obtain ⟨s1, s2, s3⟩ := sim_all G hmono hleaf hprune r (k + 1) (uplM pl k p) _ _ N (q.1, q.2.1.set k (nI p), q.2.2.set k (csetF g.1 p 0 (g.2.2.1.getD k []).length 0)) X (by omega) (by omega) L2 hR
              have s4 : KpU k q.2 (walk g.1 hope meet (g.2.2.1.drop (k + 1)) (k + 1) (layF g.1 (g.2.2.1.getD k []) p 0 (g.2.2.1.getD k []).length (cs, 0)).1 (q.1, q.2.1.set k (nI p), q.2.2.set k (csetF g.1 p 0 (g.2.2.1.getD k []).length 0))).2 := by
                intro j hj
                have h := s3 j (by omega)
                simp only at h
                rw [getD_set, getD_set, if_neg (by omega), if_neg (by omega)] at h
                exact h
              obtain ⟨i1, i2, i3⟩ := ih (N + 128 ^ r) _ _ (fun p hp => hl p (List.mem_cons_of_mem _ hp)) (by omega) (L.keep s2 s4) s1
              refine ⟨?_, i2, s4.trans i3⟩
              rw [show N + (l.length * 128 ^ r + 128 ^ r) = N + 128 ^ r + l.length * 128 ^ r by omega]
              exact i1
        have hle : 8 * g.1 * g.1 * 128 ^ r ≤ 128 ^ (r + 1) := by
          rw [h128]
          exact Nat.mul_le_mul_right _ hsq
        obtain ⟨i1, i2, i3⟩ := key (List.range' 0 (8 * g.1 * g.1)) N q X (fun p hp => by have := List.mem_range'_1.mp hp; omega) (by rw [List.length_range']; omega) L hR
        rw [List.length_range'] at i1
        exact ⟨hmono (by omega) i1, i2, i3⟩
    · have hle : g.2.2.1.length ≤ k := by omega
      rw [lvlM, lv_none hle]
      have e1 : g.2.2.1.drop k = [] := List.drop_eq_nil_of_le hle
      have e2 : g.2.2.1.drop (k + 1) = [] := List.drop_eq_nil_of_le (by omega)
      obtain ⟨s1, s2, s3⟩ := sim_all G hmono hleaf hprune r (k + 1) (uplM pl k 0) cs cv N q X (by omega) (by omega) (L.none hle) hR
      rw [e2, walk] at s1 s2 s3
      rw [e1, walk]
      exact ⟨hmono (by omega) s1, s2, s3.mono (by omega)⟩
theorem LvI.start (G : GW g) {ps : List Int32} (hl : ps.length = 3) : LvI g 0 (fun _ => 0) g.2.1 (List.replicate 16 0) (ps, [0, 0, 0]) := by
  have h0 : ∀ j, ([0, 0, 0] : List Int32).getD j 0 = 0 := fun j => getD_rep 3 j
  refine ⟨⟨G.2.1, rfl⟩, ⟨hl, rfl, fun j _ => h0 j, fun j c _ => ?_⟩, rfl, fun j hj => absurd hj (Nat.not_lt_zero j), fun j hj => absurd hj (Nat.not_lt_zero j), fun c _ => ?_, fun j hj => absurd hj (Nat.not_lt_zero j)⟩
  · simp only
    rw [h0, b_0]
  · rw [getD_rep]
    unfold sNk
    rw [if_neg (by omega), if_neg (by omega), if_neg (by omega)]
    decide
end SIM2
/-! the layings that cross most -/
def RCr (n0 : Nat) (N : Nat) (A : cA) (X : mX) : Prop := ∃ n, n ≤ N ∧ A.1 = nI n ∧ X.1 = nI n ∧ ((n = 0 ∧ X.2.1 = -6 ∧ X.2.2.1 = -6) ∨ (0 < n ∧ A.2.1 = X.2.1 ∧ A.2.2.1 = X.2.2.1 ∧ ∀ j, j < n0 → A.2.2.2.getD j 0 = X.2.2.2.2.getD j 0))
theorem get3 {x y z : Int32} {f : Nat → Int32} (h0 : f 0 = x) (h1 : f 1 = y) (h2 : f 2 = z) : ∀ j, j < 3 → ([x, y, z] : List Int32).getD j 0 = f j := by
  intro j hj
  have : j = 0 ∨ j = 1 ∨ j = 2 := by omega
  rcases this with z | z | z
  · subst z; exact h0.symm
  · subst z; exact h1.symm
  · subst z; exact h2.symm
theorem b2_le (b : Bool) : b2 b ≤ 1 := by unfold b2; split <;> omega
theorem crs_eq {g : gG} {pl : Nat → Nat} {cs cv : List Int32} {u : List Int32 × List Int32} (L : LvI g 3 pl cs cv u) : crs u.2 = crsM cv := by
  obtain ⟨-, ⟨w1, w2, w3, w4⟩, -, -, -, l6, -⟩ := L
  unfold crs crsM
  rw [bc_cnt, cnt_32_16 (fun i hi => by rw [b_or, b_or, b_and, b_and, b_and, w4 0 i hi, w4 1 i hi]; rfl)]
  congr 1
  apply cnt_congr
  intro c hc
  have e : ∀ j, j < 3 → sNk u.2 3 j c = b2 (bt (u.2.getD j 0) c) := fun j hj => by unfold sNk; rw [if_pos hj]
  rw [l6 c hc, e 0 (by omega), e 1 (by omega), e 2 (by omega), b_or, b_or, b_and, b_and, b_and]
  generalize bt (u.2.getD 0 0) c = x
  generalize bt (u.2.getD 1 0) c = y
  generalize bt (u.2.getD 2 0) c = z
  cases x <;> cases y <;> cases z <;> decide
theorem leaf_c {g : gG} (N : Nat) (pl : Nat → Nat) (cs cv : List Int32) (q : cS) (X : mX) (G : GW g) (hN : N < 3000000) (L : LvI g 3 pl cs cv q.2) (hR : RCr g.2.2.1.length N q.1 X) : (meetC cs q).2 = q.2 ∧ RCr g.2.2.1.length (N + 1) (meetC cs q).1 (FC X (pl 0) (pl 1) (pl 2) cs cv) := by
  obtain ⟨n, h1, h2, h3, h4⟩ := hR
  have hn := G.2.2.1
  have e := crs_eq L
  have hz : nI n + 1 = nI (n + 1) := nI_1 n
  have hps : ∀ j, j < g.2.2.1.length → q.2.1.getD j 0 = ([nI (pl 0), nI (pl 1), nI (pl 2)] : List Int32).getD j 0 := by
    intro j hj
    rw [get3 (f := fun j => nI (pl j)) rfl rfl rfl j (by omega)]
    exact L.2.2.2.2.1 j (by omega) hj
  have n0 : nI n = 0 ↔ n = 0 := by rw [show (0 : Int32) = nI 0 by decide, nI_eq (by omega) (by decide)]
  unfold meetC FC
  rw [e, h2, h3, hz]
  rcases h4 with ⟨z, h5, h6⟩ | ⟨z, h5, h6, h7⟩
  · subst z
    rw [if_pos (Or.inl (by decide)), if_pos (Or.inl (by decide))]
    exact ⟨rfl, 0 + 1, by omega, rfl, rfl, Or.inr ⟨by omega, rfl, rfl, hps⟩⟩
  · have nz : ¬ nI n = 0 := fun y => by have := n0.mp y; omega
    rw [h5, h6]
    by_cases hc : X.2.1 < crsM cv
    · rw [if_pos (Or.inr hc), if_pos (Or.inr hc)]
      exact ⟨rfl, n + 1, by omega, rfl, rfl, Or.inr ⟨by omega, rfl, rfl, hps⟩⟩
    · rw [if_neg (show ¬ (nI n = 0 ∨ X.2.1 < crsM cv) from fun y => y.elim nz hc), if_neg (show ¬ (nI n = 0 ∨ X.2.1 < crsM cv) from fun y => y.elim nz hc)]
      by_cases hd : crsM cv = X.2.1
      · rw [if_pos hd, if_pos hd]
        exact ⟨rfl, n + 1, by omega, rfl, rfl, Or.inr ⟨by omega, rfl, rfl, h7⟩⟩
      · rw [if_neg hd, if_neg hd]
        exact ⟨rfl, n + 1, by omega, rfl, rfl, Or.inr ⟨by omega, rfl, rfl, h7⟩⟩
theorem most_sim {g : gG} (G : GW g) (m w : Int32) (fp : List Int32) {ps FP : List Int32} (hl : ps.length = 3) : RCr g.2.2.1.length 2097152 (mostOf g m w fp ps).1 (mw g FC g.2.1 (List.replicate 16 0) (0, -6, -6, 0, FP)) := by
  have h := sim_all (g := g) (hope := fun _ => true) (meet := meetC) (F := FC) (R := RCr g.2.2.1.length) G (fun hle h => by obtain ⟨n, h1, h2⟩ := h; exact ⟨n, by omega, h2⟩) (fun N pl cs cv q X hN L hR => leaf_c N pl cs cv q X G hN L hR) (fun r k pl cs cv X _ _ z => by cases z) 3 0 (fun _ => 0) g.2.1 (List.replicate 16 0) 0 ((0, m, w, fp), ps, [0, 0, 0]) (0, -6, -6, 0, FP) rfl (by decide) (LvI.start G hl) ⟨0, Nat.le_refl 0, rfl, rfl, Or.inl ⟨rfl, rfl, rfl⟩⟩
  have h1 := h.1
  rw [List.drop_zero, show 0 + 128 ^ 3 = 2097152 by decide] at h1
  rw [mw_lvl]
  exact h1
theorem most_ans {g : gG} (G : GW g) (m w x : Int32) (fp : List Int32) {ps FP : List Int32} (hl : ps.length = 3) : ansM g.2.2.1.length (mostOf g m w fp ps).1 x = ansO g.2.2.1.length (mw g FC g.2.1 (List.replicate 16 0) (0, -6, -6, 0, FP)) x := by
  obtain ⟨n, h1, h2, h3, h4⟩ := most_sim G m w fp (FP := FP) hl
  have n0 : nI n = 0 ↔ n = 0 := by rw [show (0 : Int32) = nI 0 by decide, nI_eq (by omega) (by decide)]
  have n1 : nI n ≤ 0 ↔ n = 0 := by rw [show (0 : Int32) = nI 0 by decide, nI_leI (by omega) (by decide)]; omega
  unfold ansM ansO
  rw [h2, h3]
  simp only [n0, n1]
  rcases h4 with ⟨z, h5, h6⟩ | ⟨z, h5, h6, h7⟩
  · subst z
    rw [h5, h6]
    simp
  · have nz : ¬ n = 0 := by omega
    simp only [nz, if_false, h5, h6, not_false_eq_true, true_and]
    by_cases hx : (x - 10).toNatClampNeg < g.2.2.1.length
    · simp only [hx, if_true, h7 _ hx]
    · simp only [hx, if_false]
