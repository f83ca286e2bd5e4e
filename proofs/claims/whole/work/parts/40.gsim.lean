/-! the layings that are good -/
def RGd (g : gG) (N : Nat) (A : gA) (X : mX) : Prop := ∃ n, n ≤ N ∧ A.1 = nI n ∧ X.2.2.2.1 = nI n ∧ (n = 0 ∨ (0 < n ∧ ∃ pa pb pc cs3, Chain g pa pb pc cs3 ∧ X.2.2.2.2 = [nI pa, nI pb, nI pc] ∧ (∀ j, j < g.2.2.1.length → A.2.2.1.getD j 0 = ([nI pa, nI pb, nI pc] : List Int32).getD j 0) ∧ A.2.1 = nI (pourP g.2.2.2.2 cs3 (g.1 * g.1)).2.2 ∧ A.2.2.2.1 = g.1 ∧ A.2.2.2.2 = (pourP g.2.2.2.2 cs3 (g.1 * g.1)).1))
section GS
variable {g : gG}
theorem LvI.chain {pl : Nat → Nat} {cs cv : List Int32} {u : List Int32 × List Int32} (L : LvI g 3 pl cs cv u) : Chain g (pl 0) (pl 1) (pl 2) cs := by
  obtain ⟨-, -, l3, l4, -, -, -⟩ := L
  exact ⟨l4 0 (by omega), l4 1 (by omega), l4 2 (by omega), l3⟩
theorem leaf_g (N : Nat) (pl : Nat → Nat) (cs cv : List Int32) (q : gS) (X : mX) (G : GW g) (hN : N < 3000000) (L : LvI g 3 pl cs cv q.2) (hR : RGd g N q.1 X) : (meetG g.1 g.2.2.1 g.2.2.2.1 g.2.2.2.2 cs q).2 = q.2 ∧ RGd g (N + 1) (meetG g.1 g.2.2.1 g.2.2.2.1 g.2.2.2.2 cs q).1 (FG g X (pl 0) (pl 1) (pl 2) cs cv) := by
  obtain ⟨n, h1, h2, h3, h4⟩ := hR
  have hn := G.2.2.1
  have hs := G.1.1
  have hz : nI n + 1 = nI (n + 1) := nI_1 n
  have n0 : nI n = 0 ↔ n = 0 := by rw [show (0 : Int32) = nI 0 by decide, nI_eq (by omega) (by decide)]
  have hps : ∀ j, j < g.2.2.1.length → q.2.1.getD j 0 = ([nI (pl 0), nI (pl 1), nI (pl 2)] : List Int32).getD j 0 := by
    intro j hj
    rw [get3 (f := fun j => nI (pl j)) rfl rfl rfl j (by omega)]
    exact L.2.2.2.2.1 j (by omega) hj
  have hlow : ∀ w ∈ g.2.2.1, bdN w ≤ cnt (sh g.1 (pourP g.2.2.2.2 cs (g.1 * g.1)).1 w) (8 * g.1 * g.1) := by
    intro w hm
    obtain ⟨j, hj, e⟩ := getD_mem_ex hm
    have k := G.1.2.2.2.1 w hm
    have hp : pl j < 8 * g.1 * g.1 := by
      have := (L.2.2.2.1 j (by omega)).1
      unfold plN at this
      rw [if_pos hj] at this
      exact this
    have hsh := L.2.2.2.2.2.2 j (by omega) hj
    rw [← e] at hsh
    exact stands_bd hs hp k.1 k.2.1 (sh_ext k.2.2 (ext_pour _) hsh)
  have hgd := spoil_good (g := g) hs hlow
  have hpp : pourF g.2.2.2.2 0 (g.1 * g.1) (cs, 0, 0) = pourP g.2.2.2.2 cs (g.1 * g.1) := rfl
  unfold meetG FG
  rw [hpp, hgd, h2, h3, hz]
  cases hsp : spoil g.1 g.2.2.1 g.2.2.2.1 (pourP g.2.2.2.2 cs (g.1 * g.1)).1 with
  | true =>
    rw [if_pos rfl, if_neg (by decide)]
    exact ⟨rfl, n, by omega, h2, h3, h4⟩
  | false =>
    rw [if_neg (show ¬ false = true by decide), if_pos (show (!false) = true from rfl)]
    rcases h4 with z | ⟨z, pa, pb, pc, cs3, c1, c2, c3, c4, c5, c6⟩
    · subst z
      rw [if_pos (by decide), if_pos (by decide)]
      exact ⟨rfl, 0 + 1, by omega, rfl, rfl, Or.inr ⟨by omega, pl 0, pl 1, pl 2, cs, L.chain, rfl, hps, rfl, rfl, rfl⟩⟩
    · have nz : ¬ nI n = 0 := fun y => by have := n0.mp y; omega
      rw [if_neg nz, if_neg nz]
      exact ⟨rfl, n + 1, by omega, rfl, rfl, Or.inr ⟨by omega, pa, pb, pc, cs3, c1, c2, c3, c4, c5, c6⟩⟩
theorem fold_id {α β : Type} {f : α → β → α} {X : α} : ∀ l : List β, (∀ p ∈ l, f X p = X) → l.foldl f X = X
  | [], _ => rfl
  | p :: l, h => by
    rw [List.foldl_cons, h p List.mem_cons_self]
    exact fold_id l (fun p hp => h p (List.mem_cons_of_mem _ hp))
theorem prune_g (G : GW g) : ∀ (r k : Nat) (pl : Nat → Nat) (cs cv : List Int32) (X : mX), cs.length = 16 → spoil g.1 g.2.2.1 g.2.2.2.1 cs = true → lvlM g (FG g) r k pl cs cv X = X
  | 0, k, pl, cs, cv, X, hl, hsp => by
    have hs := G.1.1
    have h2 := spoil_ext hs (fun w hw => (G.1.2.2.2.1 w hw).2.2) (fun w hw => (G.1.2.2.2.2.1 w hw).2.2) (ext_pour (rs := g.2.2.2.2) (g.1 * g.1)) hsp
    rw [lvlM]
    unfold FG
    rw [spoil_bad hs h2, if_neg (by decide)]
  | r + 1, k, pl, cs, cv, X, hl, hsp => by
    have hs := G.1.1
    rw [lvlM]
    unfold lv foldR
    apply fold_id
    intro p hp
    have hp2 : p < plN g k := by have := List.mem_range'_1.mp hp; omega
    simp only
    by_cases hst : stOk g.1 g.2.2.1 k cs p = true
    · rw [if_pos hst]
      by_cases hk : k < g.2.2.1.length
      · have hp3 : p < 8 * g.1 * g.1 := by unfold plN at hp2; rw [if_pos hk] at hp2; exact hp2
        have ha : acc g.1 cs (g.2.2.1.getD k []) p = true := by unfold stOk at hst; rw [if_pos hk] at hst; exact hst
        have hcs : stCs g.1 g.2.2.1 k cs p = (layF g.1 (g.2.2.1.getD k []) p 0 (g.2.2.1.getD k []).length (cs, 0)).1 := by unfold stCs; rw [if_pos hk]
        rw [hcs]
        exact prune_g G r (k + 1) _ _ _ X (by rw [layF_len]; exact hl) (spoil_ext hs (fun w hw => (G.1.2.2.2.1 w hw).2.2) (fun w hw => (G.1.2.2.2.2.1 w hw).2.2) (ext_lay hs hp3 ha hl) hsp)
      · have hcs : stCs g.1 g.2.2.1 k cs p = cs := by unfold stCs; rw [if_neg hk]
        rw [hcs]
        exact prune_g G r (k + 1) _ _ _ X hl hsp
    · rw [if_neg hst]
theorem good_sim (G : GW g) (f : Int32) (rr : List Int32 × Nat × List Int32) {ps FP : List Int32} (hl : ps.length = 3) : RGd g 2097152 (goodOf g f rr ps).1 (mw g (FG g) g.2.1 (List.replicate 16 0) (0, -6, -6, 0, FP)) := by
  have h := sim_all (g := g) (hope := fun cs => !spoil g.1 g.2.2.1 g.2.2.2.1 cs) (meet := meetG g.1 g.2.2.1 g.2.2.2.1 g.2.2.2.2) (F := FG g) (R := RGd g) G (fun hle h => by obtain ⟨n, h1, h2⟩ := h; exact ⟨n, by omega, h2⟩) (fun N pl cs cv q X hN L hR => leaf_g N pl cs cv q X G hN L hR) (fun r k pl cs cv X _ hl z => prune_g G r k pl cs cv X hl (by cases hsp : spoil g.1 g.2.2.1 g.2.2.2.1 cs with | true => rfl | false => rw [hsp] at z; cases z)) 3 0 (fun _ => 0) g.2.1 (List.replicate 16 0) 0 ((0, f, rr), ps, [0, 0, 0]) (0, -6, -6, 0, FP) rfl (by decide) (LvI.start G hl) ⟨0, Nat.le_refl 0, rfl, rfl, Or.inl rfl⟩
  have h1 := h.1
  rw [List.drop_zero, show 0 + 128 ^ 3 = 2097152 by decide] at h1
  rw [mw_lvl]
  exact h1
theorem good_ch (G : GW g) (FP0 : List Int32) (_ : FP0.length = 3) : (mw g (FG g) g.2.1 (List.replicate 16 0) (0, -6, -6, 0, FP0)).2.2.2.1 = 0 ∨ ∃ A B C cs3, Chain g A B C cs3 ∧ (mw g (FG g) g.2.1 (List.replicate 16 0) (0, -6, -6, 0, FP0)).2.2.2.2 = [nI A, nI B, nI C] := by
  obtain ⟨n, h1, h2, h3, h4⟩ := good_sim G 0 ([], 0, []) (ps := [0, 0, 0]) (FP := FP0) rfl
  rcases h4 with z | ⟨z, pa, pb, pc, cs3, c1, c2, -⟩
  · subst z
    exact Or.inl h3
  · exact Or.inr ⟨pa, pb, pc, cs3, c1, c2⟩
theorem chain_det (G : GW g) {A B C A' B' C' : Nat} {cs cs' : List Int32} (h : Chain g A B C cs) (h' : Chain g A' B' C' cs') (e : ([nI A, nI B, nI C] : List Int32) = [nI A', nI B', nI C']) : cs = cs' := by
  obtain ⟨⟨a1, -⟩, ⟨a2, -⟩, ⟨a3, -⟩, a4⟩ := h
  obtain ⟨⟨b1, -⟩, ⟨b2, -⟩, ⟨b3, -⟩, b4⟩ := h'
  have p0 := (plN_le G 0).1
  have p1 := (plN_le G 1).1
  have p2 := (plN_le G 2).1
  injection e with e1 e
  injection e with e2 e
  injection e with e3 e
  rw [nI_eq (by omega) (by omega)] at e1 e2 e3
  subst e1
  subst e2
  subst e3
  rw [a4, b4]
theorem good_ans (G : GW g) (f x : Int32) (rr : List Int32 × Nat × List Int32) {ps FP fl : List Int32} (hl : ps.length = 3) (hfl : (mw g (FG g) g.2.1 (List.replicate 16 0) (0, -6, -6, 0, FP)).2.2.2.1 = 0 ∨ ∃ A B C cs3, Chain g A B C cs3 ∧ (mw g (FG g) g.2.1 (List.replicate 16 0) (0, -6, -6, 0, FP)).2.2.2.2 = [nI A, nI B, nI C] ∧ fl = (pourP g.2.2.2.2 cs3 (g.1 * g.1)).1) : ansG g.1 g.2.2.1.length (goodOf g f rr ps).1 x = ansOG g.1 g.2.2.1.length (mw g (FG g) g.2.1 (List.replicate 16 0) (0, -6, -6, 0, FP)) fl x := by
  obtain ⟨n, h1, h2, h3, h4⟩ := good_sim G f rr (FP := FP) hl
  have n0 : nI n = 0 ↔ n = 0 := by rw [show (0 : Int32) = nI 0 by decide, nI_eq (by omega) (by decide)]
  have n1 : nI n ≤ 0 ↔ n = 0 := by rw [show (0 : Int32) = nI 0 by decide, nI_leI (by omega) (by decide)]; omega
  unfold ansG ansOG
  rw [h2, h3]
  simp only [n0, n1]
  rcases h4 with z | ⟨z, pa, pb, pc, cs3, c1, c2, c3, c4, c5, c6⟩
  · subst z
    simp
  · have nz : ¬ n = 0 := by omega
    have ef : fl = (goodOf g f rr ps).1.2.2.2.2 := by
      rcases hfl with y | ⟨A, B, C, cs', d1, d2, d3⟩
      · rw [h3, n0] at y
        exact absurd y nz
      · rw [d3, c6, chain_det G d1 c1 (d2.symm.trans c2)]
    simp only [nz, if_false, not_false_eq_true, true_and, ef]
    by_cases hx : (x - 10).toNatClampNeg < g.2.2.1.length
    · simp only [hx, if_true, c3 _ hx, c2]
    · simp only [hx, if_false]
/-- hide: both answer alike, both leave the same square -/
theorem hide_ans (G : GW g) (f : Int32) (rr : List Int32 × Nat × List Int32) {ps FP : List Int32} (hl : ps.length = 3) : ((goodOf g f rr ps).1.1 = 0 ∧ (mw g (FG g) g.2.1 (List.replicate 16 0) (0, -6, -6, 0, FP)).2.2.2.1 = 0) ∨ (¬ (goodOf g f rr ps).1.1 = 0 ∧ ¬ (mw g (FG g) g.2.1 (List.replicate 16 0) (0, -6, -6, 0, FP)).2.2.2.1 = 0 ∧ ∀ A B C cs3, Chain g A B C cs3 → (mw g (FG g) g.2.1 (List.replicate 16 0) (0, -6, -6, 0, FP)).2.2.2.2 = [nI A, nI B, nI C] → (goodOf g f rr ps).1.2.1 = nI (pourP g.2.2.2.2 cs3 (g.1 * g.1)).2.2 ∧ ∀ c, c < 16 → (goodOf g f rr ps).1.2.2.2.2.getD c 0 = if c < g.1 * g.1 then (pourP g.2.2.2.2 cs3 (g.1 * g.1)).1.getD c 0 else g.2.1.getD c 0) := by
  obtain ⟨n, h1, h2, h3, h4⟩ := good_sim G f rr (FP := FP) hl
  have n0 : nI n = 0 ↔ n = 0 := by rw [show (0 : Int32) = nI 0 by decide, nI_eq (by omega) (by decide)]
  have hsq := good_sq (g := g) (f := f) (rr := rr) (ps := ps) G.1 G.2.1
  rw [h2] at hsq ⊢
  rw [h3]
  rcases h4 with z | ⟨z, pa, pb, pc, cs3, c1, c2, c3, c4, c5, c6⟩
  · subst z
    exact Or.inl ⟨rfl, rfl⟩
  · have nz : ¬ nI n = 0 := fun y => by have := n0.mp y; omega
    refine Or.inr ⟨nz, nz, fun A B C cs' d1 d2 => ?_⟩
    have e := chain_det G d1 c1 (d2.symm.trans c2)
    subst e
    refine ⟨c4, fun c hc => ?_⟩
    have k := (hsq.resolve_left nz).2
    by_cases hb : c < g.1 * g.1
    · rw [if_pos hb, c6]
    · rw [if_neg hb, k.2.1 c (by omega), G.1.2.1 c (by omega)]
end GS
