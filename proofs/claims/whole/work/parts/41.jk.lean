/-! a cell that is never read may hold anything: the constructors are run with a cell that can't be read in the script's place -/
abbrev jk : aC := .inr (.inr (99, []))
def Jok (c : aC) (k : aH → Option aK) : Prop := ∀ (h : aH) (q : aK), h[4]? = some jk → k h = some q → k (h.set 4 c) = some (q.1, q.2.1, q.2.2.1, q.2.2.2.set 4 c) ∧ q.2.2.2[4]? = some jk
section JK
variable {c : aC} {ls st : List Value} {h : aH} {q : Nat}
theorem jk_ne {a : Nat} {y : aC} (hj : h[4]? = some jk) (ha : h[a]? = some y) (hy : ¬ y = jk) : 4 ≠ a := by
  intro z
  subst z
  rw [hj] at ha
  exact hy (Option.some.inj ha).symm
theorem jk_get {a : Nat} {y : aC} (hj : h[4]? = some jk) (ha : h[a]? = some y) (hy : ¬ y = jk) : (h.set 4 c)[a]? = some y := by
  rw [set_ne (jk_ne hj ha hy)]
  exact ha
theorem jk_set {a : Nat} {y x : aC} (hj : h[4]? = some jk) (ha : h[a]? = some y) (hy : ¬ y = jk) : (h.set a x).set 4 c = (h.set 4 c).set a x ∧ (h.set a x)[4]? = some jk := by
  have hne := jk_ne hj ha hy
  refine ⟨List.set_comm _ _ (Ne.symm hne), ?_⟩
  rw [set_ne (Ne.symm hne)]
  exact hj
theorem jk_app {x : aC} (hj : h[4]? = some jk) : (h ++ [x]).set 4 c = h.set 4 c ++ [x] ∧ (h ++ [x])[4]? = some jk := by
  have hl := at_lt hj
  refine ⟨List.set_append_left _ _ hl, ?_⟩
  rw [List.getElem?_append_left hl]
  exact hj
theorem inl_nj {x : Nat × List Value} : ¬ (Sum.inl x : aC) = jk := by intro z; cases z
theorem inrl_nj {x : Nat × List Int32} : ¬ (Sum.inr (Sum.inl x) : aC) = jk := by intro z; cases z
theorem inrr_nj {x : Nat} {os : List (Option Nat)} {i : Nat} {o : Option Nat} (ho : os[i]? = some o) : ¬ (Sum.inr (Sum.inr (x, os)) : aC) = jk := by
  intro z
  cases z
  cases ho
theorem inrr_nj2 {x i : Nat} {os : List (Option Nat)} (ho : i < os.length) : ¬ (Sum.inr (Sum.inr (x, os)) : aC) = jk := by
  intro z
  cases z
  exact absurd ho (Nat.not_lt_zero _)
theorem j_getf {j c0 c1 : Nat} : Jok c (k_getf j c0 c1 q ls st) := by
  intro h k hj hp
  obtain ⟨a, r, ci, fs, v, rfl, ha, hc, hv, rfl⟩ := k_getf_inv hp
  refine ⟨?_, hj⟩
  simp only [k_getf, jk_get hj ha inl_nj, hc, if_true, hv]
theorem j_putf {j c0 c1 kd : Nat} : Jok c (k_putf j c0 c1 kd q ls st) := by
  intro h k hj hp
  obtain ⟨v, a, r, ci, fs, rfl, ha, hc, rfl⟩ := k_putf_inv hp
  obtain ⟨e1, e2⟩ := jk_set (c := c) (x := .inl (ci, fs.set j v)) hj ha inl_nj
  refine ⟨?_, e2⟩
  simp only [k_putf, jk_get hj ha inl_nj]
  rw [if_pos hc, e1]
theorem j_iald : Jok c (k_iald q ls st) := by
  intro h k hj hp
  obtain ⟨i, a, r, z, xs, x, rfl, ha, hc, hxs, rfl⟩ := k_iald_inv hp
  refine ⟨?_, hj⟩
  simp only [k_iald, jk_get hj ha inrl_nj]
  rw [if_pos hc, hxs]
theorem j_zald : Jok c (k_zald q ls st) := by
  intro h k hj hp
  obtain ⟨i, a, r, z, xs, x, rfl, ha, hc, hxs, rfl⟩ := k_zald_inv hp
  refine ⟨?_, hj⟩
  simp only [k_zald, jk_get hj ha inrl_nj]
  rw [if_pos hc, hxs]
theorem j_iast : Jok c (k_iast q ls st) := by
  intro h k hj hp
  obtain ⟨x, i, a, r, z, xs, rfl, ha, hc, rfl⟩ := k_iast_inv hp
  obtain ⟨e1, e2⟩ := jk_set (c := c) (x := .inr (.inl (0, xs.set i.toNatClampNeg x))) hj ha inrl_nj
  refine ⟨?_, e2⟩
  simp only [k_iast, jk_get hj ha inrl_nj]
  rw [if_pos hc, e1]
theorem j_zast : Jok c (k_zast q ls st) := by
  intro h k hj hp
  obtain ⟨x, i, a, r, z, xs, rfl, ha, hc, rfl⟩ := k_zast_inv hp
  obtain ⟨e1, e2⟩ := jk_set (c := c) (x := .inr (.inl (1, xs.set i.toNatClampNeg x))) hj ha inrl_nj
  refine ⟨?_, e2⟩
  simp only [k_zast, jk_get hj ha inrl_nj]
  rw [if_pos hc, e1]
theorem j_aald : Jok c (k_aald q ls st) := by
  intro h k hj hp
  obtain ⟨i, a, r, z, os, o, rfl, ha, hi, ho, rfl⟩ := k_aald_inv hp
  refine ⟨?_, hj⟩
  simp only [k_aald, jk_get hj ha (inrr_nj ho)]
  rw [if_pos hi, ho]
theorem j_aast : Jok c (k_aast q ls st) := by
  intro h k hj hp
  obtain ⟨v, i, a, r, z, os, ci, fs, rfl, ha, hv, hc, rfl⟩ := k_aast_inv hp
  obtain ⟨e1, e2⟩ := jk_set (c := c) (x := .inr (.inr (z, os.set i.toNatClampNeg (some v)))) hj ha (inrr_nj2 hc.2.2)
  refine ⟨?_, e2⟩
  simp only [k_aast, jk_get hj ha (inrr_nj2 hc.2.2), jk_get hj hv inl_nj]
  rw [if_pos hc, e1]
theorem j_alen : Jok c (k_alen q ls st) := by
  intro h k hj hp
  obtain ⟨a, r, z, xs, rfl, ha, rfl⟩ := k_alen_inv hp
  refine ⟨?_, hj⟩
  simp only [k_alen, jk_get hj ha inrl_nj]
theorem j_newa {z : Nat} : Jok c (k_newa z q ls st) := by
  intro h k hj hp
  obtain ⟨n, r, rfl, hN, rfl⟩ := k_newa_inv hp
  obtain ⟨e1, e2⟩ := jk_app (c := c) (x := .inr (.inl (z, List.replicate n.toNatClampNeg 0))) hj
  refine ⟨?_, e2⟩
  simp only [k_newa]
  rw [if_pos hN, e1, List.length_set]
theorem j_newq {z : Nat} : Jok c (k_newq z q ls st) := by
  intro h k hj hp
  obtain ⟨n, r, rfl, hN, rfl⟩ := k_newq_inv hp
  obtain ⟨e1, e2⟩ := jk_app (c := c) (x := .inr (.inr (z, List.replicate n.toNatClampNeg none))) hj
  refine ⟨?_, e2⟩
  simp only [k_newq]
  rw [if_pos hN, e1, List.length_set]
theorem j_new {z : Nat} : Jok c (k_new z q ls st) := by
  intro h k hj hp
  unfold k_new at hp
  cases hp
  obtain ⟨e1, e2⟩ := jk_app (c := c) (x := .inl (z, dfl z)) hj
  refine ⟨?_, e2⟩
  simp only [k_new]
  rw [e1, List.length_set]
theorem j_copy : Jok c (k_copy q ls st) := by
  intro h k hj hp
  obtain ⟨n, dp, b, sp, a, r, z, xs, u, ys, rfl, ha, hb, hc, rfl⟩ := k_copy_inv hp
  obtain ⟨e1, e2⟩ := jk_set (c := c) (x := .inr (.inl (0, xs.take n.toNatClampNeg ++ ys.drop n.toNatClampNeg))) hj hb inrl_nj
  refine ⟨?_, e2⟩
  simp only [k_copy, jk_get hj ha inrl_nj, jk_get hj hb inrl_nj]
  rw [if_pos hc, e1]
theorem j_oini : Jok c (k_oini q ls st) := by
  intro h k hj hp
  obtain ⟨a, r, rfl, hr, rfl⟩ := k_oini_inv hp
  refine ⟨?_, hj⟩
  simp only [k_oini]
  rw [if_pos hr]
theorem j_mm {f : Int32 → Int32 → Int32} : Jok c (k_mm f q ls st) := by
  intro h k hj hp
  obtain ⟨y, x, r, rfl, hr, rfl⟩ := k_mm_inv hp
  refine ⟨?_, hj⟩
  simp only [k_mm]
  rw [if_pos hr]
theorem j_push {v : Value} : Jok c (k_push v q ls st) := by
  intro h k hj hp
  unfold k_push at hp
  cases hp
  exact ⟨rfl, hj⟩
theorem j_some {z : Nat × List Value × List Value} : Jok c (fun h => some (z.1, z.2.1, z.2.2, h)) := by
  intro h k hj hp
  cases hp
  exact ⟨rfl, hj⟩
theorem j_iload {i : Nat} : Jok c (k_iload i q ls st) := by
  intro h k hj he
  unfold k_iload at he ⊢
  generalize ls[i]? = o at he ⊢
  rcases o with _ | v
  · cases he
  · cases v <;> first | (cases he; done) | (cases he; exact ⟨rfl, hj⟩)
theorem j_aload {i : Nat} : Jok c (k_aload i q ls st) := by
  intro h k hj he
  unfold k_aload at he ⊢
  generalize ls[i]? = o at he ⊢
  rcases o with _ | v
  · cases he
  · cases v <;> first | (cases he; done) | (cases he; exact ⟨rfl, hj⟩)
theorem j_iinc {i : Nat} {n : Int} : Jok c (k_iinc i n q ls st) := by
  intro h k hj he
  unfold k_iinc at he ⊢
  generalize ls[i]? = o at he ⊢
  rcases o with _ | v
  · cases he
  · cases v <;> first | (cases he; done) | (cases he; exact ⟨rfl, hj⟩)
theorem j_if1 {f : Int32 → Bool} {t : Nat} : Jok c (k_if1 f t q ls st) := by
  intro h k hj he
  unfold k_if1 at he ⊢
  rcases st with _ | ⟨v, st⟩
  · cases he
  · cases v <;> first | (cases he; done) | (cases he; exact ⟨rfl, hj⟩)
theorem j_null {t u : Nat} : Jok c (k_null t u ls st) := by
  intro h k hj he
  unfold k_null at he ⊢
  rcases st with _ | ⟨v, st⟩
  · cases he
  · cases v <;> first | (cases he; done) | (cases he; exact ⟨rfl, hj⟩)
theorem j_bin {f : Int32 → Int32 → Int32} : Jok c (k_bin f q ls st) := by
  intro h k hj he
  unfold k_bin at he ⊢
  rcases st with _ | ⟨v, _ | ⟨w, st⟩⟩
  · cases he
  · cases v <;> cases he
  · cases v <;> cases w <;> first | (cases he; done) | (cases he; exact ⟨rfl, hj⟩)
theorem j_if2 {f : Int32 → Int32 → Bool} {t : Nat} : Jok c (k_if2 f t q ls st) := by
  intro h k hj he
  unfold k_if2 at he ⊢
  rcases st with _ | ⟨v, _ | ⟨w, st⟩⟩
  · cases he
  · cases v <;> cases he
  · cases v <;> cases w <;> first | (cases he; done) | (cases he; exact ⟨rfl, hj⟩)
theorem j_istore {i : Nat} : Jok c (k_istore i q ls st) := by
  intro h k hj he
  unfold k_istore at he ⊢
  rcases st with _ | ⟨v, st⟩
  · cases he
  · cases v <;> first | (cases he; done) | (by_cases hc : i < ls.length <;> first | (have he2 := (if_pos hc).symm.trans he; cases he2; exact ⟨(if_pos hc).trans rfl, hj⟩) | (have he2 := (if_neg hc).symm.trans he; cases he2; done))
theorem j_astore {i : Nat} : Jok c (k_astore i q ls st) := by
  intro h k hj he
  unfold k_astore at he ⊢
  rcases st with _ | ⟨v, st⟩
  · cases he
  · cases v <;> first | (cases he; done) | (by_cases hc : i < ls.length <;> first | (have he2 := (if_pos hc).symm.trans he; cases he2; exact ⟨(if_pos hc).trans rfl, hj⟩) | (have he2 := (if_neg hc).symm.trans he; cases he2; done))
theorem j_dup : Jok c (k_dup q ls st) := by
  intro h k hj he
  unfold k_dup at he ⊢
  rcases st with _ | ⟨v, st⟩
  · cases he
  · (by_cases hc : aOk v = true <;> first | (have he2 := (if_pos hc).symm.trans he; cases he2; exact ⟨(if_pos hc).trans rfl, hj⟩) | (have he2 := (if_neg hc).symm.trans he; cases he2; done))
theorem j_pop : Jok c (k_pop q ls st) := by
  intro h k hj he
  unfold k_pop at he ⊢
  rcases st with _ | ⟨v, st⟩
  · cases he
  · (by_cases hc : aOk v = true <;> first | (have he2 := (if_pos hc).symm.trans he; cases he2; exact ⟨(if_pos hc).trans rfl, hj⟩) | (have he2 := (if_neg hc).symm.trans he; cases he2; done))
theorem j_dup2 : Jok c (k_dup2 q ls st) := by
  intro h k hj he
  unfold k_dup2 at he ⊢
  rcases st with _ | ⟨v, _ | ⟨w, st⟩⟩
  · cases he
  · cases he
  · (by_cases hc : aOk v = true ∧ aOk w = true <;> first | (have he2 := (if_pos hc).symm.trans he; cases he2; exact ⟨(if_pos hc).trans rfl, hj⟩) | (have he2 := (if_neg hc).symm.trans he; cases he2; done))
theorem j_div {f : Int32 → Int32 → Int32} : Jok c (k_div f q ls st) := by
  intro h k hj he
  unfold k_div at he ⊢
  rcases st with _ | ⟨v, _ | ⟨w, st⟩⟩
  · cases he
  · cases v <;> cases he
  · cases v with
    | int y =>
      cases w with
      | int x =>
        by_cases hc : y = 0
        · have he2 := (if_pos hc).symm.trans he
          cases he2
        · have he2 := (if_neg hc).symm.trans he
          cases he2
          exact ⟨(if_neg hc).trans rfl, hj⟩
      | _ => cases he
    | _ => cases he
theorem j_table {pc : Nat} {df lo hi : Int} {offs : Array Int} : Jok c (k_table pc df lo hi offs ls st) := by
  intro h k hj he
  unfold k_table at he ⊢
  rcases st with _ | ⟨v, st⟩
  · cases he
  · cases v with
    | int x =>
      by_cases h1 : x.toInt < lo ∨ hi < x.toInt
      · have he1 := (if_pos h1).symm.trans he
        by_cases h2 : 0 ≤ (pc : Int) + df
        · have he2 := (if_pos h2).symm.trans he1
          cases he2
          exact ⟨(if_pos h1).trans ((if_pos h2).trans rfl), hj⟩
        · have he2 := (if_neg h2).symm.trans he1
          cases he2
      · have he1 := (if_neg h1).symm.trans he
        cases ho : offs[(x.toInt - lo).toNat]? with
        | none =>
          rw [ho] at he1
          cases he1
        | some off =>
          rw [ho] at he1
          by_cases h2 : 0 ≤ (pc : Int) + off
          · have he2 := (if_pos h2).symm.trans he1
            cases he2
            refine ⟨(if_neg h1).trans ?_, hj⟩
            rw [ho]
            exact (if_pos h2).trans rfl
          · have he2 := (if_neg h2).symm.trans he1
            cases he2
    | _ => cases he
theorem j_none : Jok c (fun _ => none) := by
  intro h k hj he
  cases he
theorem j_ite {x y : Nat} {k1 k2 : aH → Option aK} (h1 : Jok c k1) (h2 : Jok c k2) : Jok c (fun h => if x = y then k1 h else k2 h) := by
  intro h k hj he
  simp only at he ⊢
  by_cases hc : x = y
  · rw [if_pos hc] at he ⊢
    exact h1 h k hj he
  · rw [if_neg hc] at he ⊢
    exact h2 h k hj he
theorem j_all {e : wE} : Jok c (aplain e ls st) := by
  obtain ⟨pc, i, ln, ⟨a, b, c', d, f⟩, x, rf⟩ := e
  intro h k hj he
  unfold aplain at he
  simp only at he
  split at he
  all_goals first
    | exact j_push h k hj he
    | exact j_iload h k hj he
    | exact j_aload h k hj he
    | exact j_istore h k hj he
    | exact j_astore h k hj he
    | exact j_iinc h k hj he
    | exact j_bin h k hj he
    | exact j_div h k hj he
    | exact j_if2 h k hj he
    | exact j_if1 h k hj he
    | exact j_null h k hj he
    | exact j_some (z := (_, _, _)) h k hj he
    | exact j_dup h k hj he
    | exact j_pop h k hj he
    | exact j_dup2 h k hj he
    | exact j_table h k hj he
    | exact j_getf h k hj he
    | exact j_putf h k hj he
    | exact j_iald h k hj he
    | exact j_iast h k hj he
    | exact j_zald h k hj he
    | exact j_zast h k hj he
    | exact j_aald h k hj he
    | exact j_aast h k hj he
    | exact j_alen h k hj he
    | exact j_newa h k hj he
    | exact j_newq h k hj he
    | exact j_new h k hj he
    | exact j_ite j_oini j_none h k hj he
    | exact j_ite j_copy (j_ite j_mm (j_ite j_mm j_none)) h k hj he
    | (cases he; done)
/-- a call or a return is no plain instruction, whatever the heap -/
theorem acall_np {e : wE} {z : Nat × List Value × List Value} (hc : acall e st h = some z) (h2 : aH) : aplain e ls st h2 = none := by
  obtain ⟨pc, i, ln, ⟨a, b, c', d, f⟩, x, rf⟩ := e
  unfold acall at hc
  simp only at hc
  split at hc
  · rfl
  · split at hc
    · cases hc
    · rename_i hf
      exact if_neg hf
  · split at hc
    · rename_i hf
      subst hf
      rfl
    · cases hc
  · cases hc
theorem aret_np {e : wE} {z : Option Value} (hc : aret e st = some z) (h2 : aH) : aplain e ls st h2 = none ∧ acall e st h2 = none := by
  obtain ⟨pc, i, ln, ⟨a, b, c', d, f⟩, x, rf⟩ := e
  unfold aret at hc
  simp only at hc
  split at hc
  · exact ⟨rfl, rfl⟩
  · exact ⟨rfl, rfl⟩
  · exact ⟨rfl, rfl⟩
  · cases hc
theorem jk_call {e : wE} {z : Nat × List Value × List Value} (hj : h[4]? = some jk) (hc : acall e st h = some z) : acall e st (h.set 4 c) = some z := by
  obtain ⟨pc, i, ln, ⟨a, b, c', d, f⟩, x, rf⟩ := e
  unfold acall at hc ⊢
  simp only at hc ⊢
  split at hc
  · generalize st.drop a = s0 at hc ⊢
    rcases s0 with _ | ⟨v, s0⟩
    · cases hc
    · cases v with
      | ref r =>
        simp only at hc ⊢
        cases hr : h[r]? with
        | none =>
          rw [hr] at hc
          cases hc
        | some y =>
          rw [hr] at hc
          rcases y with ⟨ci, fs⟩ | y
          · rw [jk_get hj hr inl_nj]
            exact hc
          · cases hc
      | _ => cases hc
  · exact hc
  · exact hc
  · cases hc
theorem jk_run : ∀ (n d M pc : Nat) (ls st : List Value) (h : aH) (v : Option Value) (h' : aH), h[4]? = some jk → arun n d M pc ls st h = some (v, h') → arun n d M pc ls st (h.set 4 c) = some (v, h'.set 4 c) ∧ h'[4]? = some jk
  | 0, d, M, pc, ls, st, h, v, h', hj, hr => by simp [arun] at hr
  | n + 1, d, M, pc, ls, st, h, v, h', hj, hr => by
    simp only [arun] at hr ⊢
    cases he : alook M pc with
    | none => rw [he] at hr; cases hr
    | some e =>
      rw [he] at hr
      simp only at hr ⊢
      cases hp : aplain e ls st h with
      | some q =>
        rw [hp] at hr
        obtain ⟨e1, e2⟩ := j_all (c := c) h q hj hp
        rw [e1]
        obtain ⟨pc', ls', st', h1⟩ := q
        simp only at hr e2 ⊢
        exact jk_run n d M pc' ls' st' h1 v h' e2 hr
      | none =>
        rw [hp] at hr
        simp only at hr ⊢
        cases hc : acall e st h with
        | some q =>
          rw [hc] at hr
          rw [acall_np hc, jk_call hj hc]
          obtain ⟨M', args, rest⟩ := q
          simp only at hr ⊢
          cases hL : aent M' args rest with
          | none => rw [hL] at hr; cases hr
          | some L =>
            rw [hL] at hr
            simp only at hr ⊢
            cases d with
            | zero => cases hr
            | succ d' =>
              simp only at hr ⊢
              cases hx : arun n d' M' 0 L [] h with
              | none => rw [hx] at hr; cases hr
              | some w =>
                obtain ⟨v1, h1⟩ := w
                rw [hx] at hr
                obtain ⟨e1, e2⟩ := jk_run n d' M' 0 L [] h v1 h1 hj hx
                rw [e1]
                simp only at hr ⊢
                exact jk_run n (d' + 1) M (pc + 3) ls (v1.toList ++ rest) h1 v h' e2 hr
        | none =>
          rw [hc] at hr
          simp only at hr ⊢
          cases hv : aret e st with
          | none => rw [hv] at hr; cases hr
          | some v1 =>
            rw [hv] at hr
            obtain ⟨e1, e2⟩ := aret_np (ls := ls) hv (h.set 4 c)
            rw [e1, e2]
            cases hr
            exact ⟨rfl, hj⟩
end JK
/-! cells keep their sizes -/
theorem asl_all {e : wE} {ls st : List Value} {h : aH} {k : aK} (hp : aplain e ls st h = some k) : h.length ≤ k.2.2.2.length ∧ (k.2.2.2.length = h.length → asl k.2.2.2 = asl h) := by
  have same : ∀ {k : aK}, k.2.2.2 = h → h.length ≤ k.2.2.2.length ∧ (k.2.2.2.length = h.length → asl k.2.2.2 = asl h) := fun hk => by rw [hk]; exact ⟨Nat.le_refl _, fun _ => rfl⟩
  have sets : ∀ {k : aK} {a : Nat} {c c' : aC}, h[a]? = some c → acs c' = acs c → k.2.2.2 = h.set a c' → h.length ≤ k.2.2.2.length ∧ (k.2.2.2.length = h.length → asl k.2.2.2 = asl h) := fun ha hc hk => by rw [hk, asl_set ha hc, List.length_set]; exact ⟨Nat.le_refl _, fun _ => rfl⟩
  have app : ∀ {k : aK} {c : aC}, k.2.2.2 = h ++ [c] → h.length ≤ k.2.2.2.length ∧ (k.2.2.2.length = h.length → asl k.2.2.2 = asl h) := fun hk => by
    rw [hk, List.length_append]
    exact ⟨Nat.le_add_right _ _, fun z => by simp at z⟩
  obtain ⟨pc, i, ln, ⟨a, b, c, d, f⟩, x, rf⟩ := e
  unfold aplain at hp
  simp only at hp
  split at hp
  all_goals first
    | (obtain ⟨a, r, ci, fs, v, -, ha, hc, hv, rfl⟩ := k_getf_inv hp; exact same rfl)
    | (obtain ⟨v, a, r, ci, fs, -, ha, hc, rfl⟩ := k_putf_inv hp; exact sets ha (by simp [acs]) rfl)
    | (obtain ⟨i, a, r, z, xs, x, -, ha, hc, hxs, rfl⟩ := k_iald_inv hp; exact same rfl)
    | (obtain ⟨i, a, r, z, xs, x, -, ha, hc, hxs, rfl⟩ := k_zald_inv hp; exact same rfl)
    | (obtain ⟨x, i, a, r, z, xs, -, ha, hc, rfl⟩ := k_iast_inv hp; exact sets ha (by simp [acs]) rfl)
    | (obtain ⟨x, i, a, r, z, xs, -, ha, hc, rfl⟩ := k_zast_inv hp; exact sets ha (by simp [acs]) rfl)
    | (obtain ⟨i, a, r, z, os, o, -, ha, hi, ho, rfl⟩ := k_aald_inv hp; exact same rfl)
    | (obtain ⟨v, i, a, r, z, os, ci, fs, -, ha, hv, hc, rfl⟩ := k_aast_inv hp; exact sets ha (by simp [acs]) rfl)
    | (obtain ⟨a, r, z, xs, -, ha, rfl⟩ := k_alen_inv hp; exact same rfl)
    | (obtain ⟨n, r, -, hN, rfl⟩ := k_newa_inv hp; exact app rfl)
    | (obtain ⟨n, r, -, hN, rfl⟩ := k_newq_inv hp; exact app rfl)
    | (unfold k_new at hp; cases hp; exact app rfl)
    | (unfold k_push at hp; cases hp; exact same rfl)
    | (unfold k_iload at hp; split at hp <;> first | (cases hp; done) | (cases hp; exact same rfl))
    | (unfold k_aload at hp; split at hp <;> first | (cases hp; done) | (cases hp; exact same rfl))
    | (unfold k_istore at hp; repeat' split at hp
       all_goals first | (cases hp; done) | (cases hp; exact same rfl))
    | (unfold k_astore at hp; repeat' split at hp
       all_goals first | (cases hp; done) | (cases hp; exact same rfl))
    | (unfold k_iinc at hp; repeat' split at hp
       all_goals first | (cases hp; done) | (cases hp; exact same rfl))
    | (unfold k_bin at hp; repeat' split at hp
       all_goals first | (cases hp; done) | (cases hp; exact same rfl))
    | (unfold k_div at hp; repeat' split at hp
       all_goals first | (cases hp; done) | (cases hp; exact same rfl))
    | (unfold k_if1 at hp; split at hp <;> first | (cases hp; done) | (cases hp; exact same rfl))
    | (unfold k_if2 at hp; split at hp <;> first | (cases hp; done) | (cases hp; exact same rfl))
    | (unfold k_null at hp; split at hp <;> first | (cases hp; done) | (cases hp; exact same rfl))
    | (unfold k_dup at hp; repeat' split at hp
       all_goals first | (cases hp; done) | (cases hp; exact same rfl))
    | (unfold k_pop at hp; repeat' split at hp
       all_goals first | (cases hp; done) | (cases hp; exact same rfl))
    | (unfold k_dup2 at hp; repeat' split at hp
       all_goals first | (cases hp; done) | (cases hp; exact same rfl))
    | (unfold k_table at hp; repeat' split at hp
       all_goals first | (cases hp; done) | (cases hp; exact same rfl))
    | (cases hp; exact same rfl)
    | (split at hp
       · obtain ⟨a, r, -, hr, rfl⟩ := k_oini_inv hp; exact same rfl
       · cases hp)
    | (split at hp
       · obtain ⟨n, dp, b, sp, a, r, z, xs, u, ys, -, ha, hb, hc, rfl⟩ := k_copy_inv hp
         exact sets hb (by simp only [acs, List.length_append, List.length_take, List.length_drop]; omega) rfl
       · split at hp
         · obtain ⟨y, x, r, -, -, rfl⟩ := k_mm_inv hp; exact same rfl
         · split at hp
           · obtain ⟨y, x, r, -, -, rfl⟩ := k_mm_inv hp; exact same rfl
           · cases hp)
    | (cases hp; done)
theorem asl_run : ∀ (n d M pc : Nat) (ls st : List Value) (h : aH) (v : Option Value) (h' : aH), arun n d M pc ls st h = some (v, h') → h.length ≤ h'.length ∧ (h'.length = h.length → asl h' = asl h)
  | 0, d, M, pc, ls, st, h, v, h', hr => by simp [arun] at hr
  | n + 1, d, M, pc, ls, st, h, v, h', hr => by
    simp only [arun] at hr
    cases he : alook M pc with
    | none => rw [he] at hr; cases hr
    | some e =>
      rw [he] at hr
      simp only at hr
      cases hp : aplain e ls st h with
      | some q =>
        rw [hp] at hr
        obtain ⟨e1, e2⟩ := asl_all hp
        obtain ⟨pc', ls', st', h1⟩ := q
        simp only at hr e1 e2
        obtain ⟨i1, i2⟩ := asl_run n d M pc' ls' st' h1 v h' hr
        exact ⟨by omega, fun z => (i2 (by omega)).trans (e2 (by omega))⟩
      | none =>
        rw [hp] at hr
        simp only at hr
        cases hc : acall e st h with
        | some q =>
          rw [hc] at hr
          obtain ⟨M', args, rest⟩ := q
          simp only at hr
          cases hL : aent M' args rest with
          | none => rw [hL] at hr; cases hr
          | some L =>
            rw [hL] at hr
            simp only at hr
            cases d with
            | zero => cases hr
            | succ d' =>
              simp only at hr
              cases hx : arun n d' M' 0 L [] h with
              | none => rw [hx] at hr; cases hr
              | some w =>
                obtain ⟨v1, h1⟩ := w
                rw [hx] at hr
                simp only at hr
                obtain ⟨e1, e2⟩ := asl_run n d' M' 0 L [] h v1 h1 hx
                obtain ⟨i1, i2⟩ := asl_run n (d' + 1) M (pc + 3) ls (v1.toList ++ rest) h1 v h' hr
                exact ⟨by omega, fun z => (i2 (by omega)).trans (e2 (by omega))⟩
        | none =>
          rw [hc] at hr
          simp only at hr
          cases hv : aret e st with
          | none => rw [hv] at hr; cases hr
          | some v1 =>
            rw [hv] at hr
            cases hr
            exact ⟨Nat.le_refl _, fun _ => rfl⟩
theorem asl_go {d M pc : Nat} {ls st : List Value} {h h' : aH} {v : Option Value} (hr : go d M pc ls st h = some (v, h')) (hl : h'.length = h.length) : asl h' = asl h := by
  obtain ⟨n, hn⟩ := go_run hr
  exact (asl_run n d M pc ls st h v h' hn).2 hl
