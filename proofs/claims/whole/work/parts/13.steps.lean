/-! steps of the small machine as equations -/
def gf (h : aH) (a j c0 c1 : Nat) : Option Value := match h[a]? with
  | some (.inl (ci, fs)) => if ci = c0 ∨ ci = c1 then fs[j]? else none
  | _ => none
def pf (h : aH) (a j c0 c1 kd : Nat) (v : Value) : Option aH := match h[a]? with
  | some (.inl (ci, fs)) => if (ci = c0 ∨ ci = c1) ∧ j < fs.length ∧ fitK kd v = true then some (h.set a (.inl (ci, fs.set j v))) else none
  | _ => none
def ia (h : aH) (a : Nat) (i : Int32) : Option Int32 := match h[a]? with
  | some (.inr (.inl (t, xs))) => if (t = 0 ∨ t = 2) ∧ ¬ i < 0 then xs[i.toNatClampNeg]? else none
  | _ => none
def za (h : aH) (a : Nat) (i : Int32) : Option Int32 := match h[a]? with
  | some (.inr (.inl (t, xs))) => if t = 1 ∧ ¬ i < 0 then xs[i.toNatClampNeg]? else none
  | _ => none
def is_ (h : aH) (a : Nat) (i x : Int32) : Option aH := match h[a]? with
  | some (.inr (.inl (t, xs))) => if t = 0 ∧ ¬ i < 0 ∧ i.toNatClampNeg < xs.length then some (h.set a (.inr (.inl (0, xs.set i.toNatClampNeg x)))) else none
  | _ => none
def zs (h : aH) (a : Nat) (i x : Int32) : Option aH := match h[a]? with
  | some (.inr (.inl (t, xs))) => if t = 1 ∧ (x = 0 ∨ x = 1) ∧ ¬ i < 0 ∧ i.toNatClampNeg < xs.length then some (h.set a (.inr (.inl (1, xs.set i.toNatClampNeg x)))) else none
  | _ => none
def aa (h : aH) (a : Nat) (i : Int32) : Option Value := match h[a]? with
  | some (.inr (.inr (_, os))) => if ¬ i < 0 then (os[i.toNatClampNeg]?).map va_rf else none
  | _ => none
def al (h : aH) (a : Nat) : Option Int32 := match h[a]? with
  | some (.inr (.inl (_, xs))) => some (Int32.ofNat xs.length)
  | _ => none
def cpy (h : aH) (a b : Nat) (n : Int32) : Option aH := match h[a]? with
  | some (.inr (.inl (t, xs))) => (match h[b]? with
    | some (.inr (.inl (u, ys))) => if (t = 0 ∧ u = 0) ∧ ¬ n < 0 ∧ n.toNatClampNeg ≤ xs.length ∧ n.toNatClampNeg ≤ ys.length then some (h.set b (.inr (.inl (0, xs.take n.toNatClampNeg ++ ys.drop n.toNatClampNeg)))) else none
    | _ => none)
  | _ => none
def isC (h : aH) (r ci : Nat) : Bool := match h[r]? with
  | some (.inl (c, _)) => c == ci
  | _ => false
section GE
variable {d M pc : Nat} {ls st : List Value} {h : aH} {en : wE} {a b c1 c2 c3 ln idx tg : Nat} {x : MethodName} {rf : String}
theorem go_none (he : alook M pc = some en) (hp : aplain en ls st h = none) (hc : acall en st h = none) (hr : aret en st = none) : go d M pc ls st h = none := by
  cases hx : go d M pc ls st h with
  | none => rfl
  | some r =>
    obtain ⟨n, hn⟩ := go_run hx
    cases n with
    | zero => simp [arun] at hn
    | succ n =>
      simp only [arun, he, hp, hc, hr] at hn
      cases hn
theorem go_opt (he : alook M pc = some en) (hc : acall en st h = none) (hr : aret en st = none) : go d M pc ls st h = (aplain en ls st h).bind fun q => go d M q.1 q.2.1 q.2.2.1 q.2.2.2 := by
  cases hp : aplain en ls st h with
  | none => exact go_none he hp hc hr
  | some q => exact go_plain he hp
theorem go_getf {v : Nat} (he : alook M pc = some (pc, .getfield idx, 3, (a, b, c1, c2, c3), x, rf)) : go d M pc ls (.ref v :: st) h = (gf h v a b c1).bind fun z => go d M (pc + 3) ls (z :: st) h := by
  rw [go_opt he rfl rfl]
  show (k_getf a b c1 (pc + 3) ls (.ref v :: st) h).bind _ = _
  unfold k_getf gf
  dsimp only
  cases h[v]? with
  | none => rfl
  | some c => rcases c with ⟨ci, fs⟩ | ⟨z, xs⟩ | ⟨z, os⟩ <;> dsimp only <;> first | rfl | (split <;> first | rfl | (split <;> simp_all) | simp_all)
theorem go_putf {v : Nat} {w : Value} (he : alook M pc = some (pc, .putfield idx, 3, (a, b, c1, c2, c3), x, rf)) : go d M pc ls (w :: .ref v :: st) h = (pf h v a b c1 c2 w).bind fun h' => go d M (pc + 3) ls st h' := by
  rw [go_opt he rfl rfl]
  show (k_putf a b c1 c2 (pc + 3) ls (w :: .ref v :: st) h).bind _ = _
  unfold k_putf pf
  dsimp only
  cases h[v]? with
  | none => rfl
  | some c => rcases c with ⟨ci, fs⟩ | ⟨z, xs⟩ | ⟨z, os⟩ <;> dsimp only <;> first | rfl | (split <;> first | rfl | (split <;> simp_all) | simp_all)
theorem go_iald {v : Nat} {i : Int32} (he : alook M pc = some (pc, .iaload, 1, (a, b, c1, c2, c3), x, rf)) : go d M pc ls (.int i :: .ref v :: st) h = (ia h v i).bind fun z => go d M (pc + 1) ls (.int z :: st) h := by
  rw [go_opt he rfl rfl]
  show (k_iald (pc + 1) ls (.int i :: .ref v :: st) h).bind _ = _
  unfold k_iald ia
  dsimp only
  cases h[v]? with
  | none => rfl
  | some c => rcases c with ⟨ci, fs⟩ | ⟨z, xs⟩ | ⟨z, os⟩ <;> dsimp only <;> first | rfl | (split <;> first | rfl | (split <;> simp_all) | simp_all)
theorem go_zald {v : Nat} {i : Int32} (he : alook M pc = some (pc, .baload, 1, (a, b, c1, c2, c3), x, rf)) : go d M pc ls (.int i :: .ref v :: st) h = (za h v i).bind fun z => go d M (pc + 1) ls (.int z :: st) h := by
  rw [go_opt he rfl rfl]
  show (k_zald (pc + 1) ls (.int i :: .ref v :: st) h).bind _ = _
  unfold k_zald za
  dsimp only
  cases h[v]? with
  | none => rfl
  | some c => rcases c with ⟨ci, fs⟩ | ⟨z, xs⟩ | ⟨z, os⟩ <;> dsimp only <;> first | rfl | (split <;> first | rfl | (split <;> simp_all) | simp_all)
theorem go_iast {v : Nat} {i z : Int32} (he : alook M pc = some (pc, .iastore, 1, (a, b, c1, c2, c3), x, rf)) : go d M pc ls (.int z :: .int i :: .ref v :: st) h = (is_ h v i z).bind fun h' => go d M (pc + 1) ls st h' := by
  rw [go_opt he rfl rfl]
  show (k_iast (pc + 1) ls (.int z :: .int i :: .ref v :: st) h).bind _ = _
  unfold k_iast is_
  dsimp only
  cases h[v]? with
  | none => rfl
  | some c => rcases c with ⟨ci, fs⟩ | ⟨z, xs⟩ | ⟨z, os⟩ <;> dsimp only <;> first | rfl | (split <;> first | rfl | (split <;> simp_all) | simp_all)
theorem go_zast {v : Nat} {i z : Int32} (he : alook M pc = some (pc, .bastore, 1, (a, b, c1, c2, c3), x, rf)) : go d M pc ls (.int z :: .int i :: .ref v :: st) h = (zs h v i z).bind fun h' => go d M (pc + 1) ls st h' := by
  rw [go_opt he rfl rfl]
  show (k_zast (pc + 1) ls (.int z :: .int i :: .ref v :: st) h).bind _ = _
  unfold k_zast zs
  dsimp only
  cases h[v]? with
  | none => rfl
  | some c => rcases c with ⟨ci, fs⟩ | ⟨z, xs⟩ | ⟨z, os⟩ <;> dsimp only <;> first | rfl | (split <;> first | rfl | (split <;> simp_all) | simp_all)
theorem go_aald {v : Nat} {i : Int32} (he : alook M pc = some (pc, .aaload, 1, (a, b, c1, c2, c3), x, rf)) : go d M pc ls (.int i :: .ref v :: st) h = (aa h v i).bind fun z => go d M (pc + 1) ls (z :: st) h := by
  rw [go_opt he rfl rfl]
  show (k_aald (pc + 1) ls (.int i :: .ref v :: st) h).bind _ = _
  unfold k_aald aa
  dsimp only
  cases h[v]? with
  | none => rfl
  | some c => rcases c with ⟨ci, fs⟩ | ⟨z, xs⟩ | ⟨z, os⟩ <;> dsimp only <;> first | rfl | (split <;> first | rfl | (split <;> simp_all) | simp_all)
theorem go_alen {v : Nat} (he : alook M pc = some (pc, .arraylength, 1, (a, b, c1, c2, c3), x, rf)) : go d M pc ls (.ref v :: st) h = (al h v).bind fun z => go d M (pc + 1) ls (.int z :: st) h := by
  rw [go_opt he rfl rfl]
  show (k_alen (pc + 1) ls (.ref v :: st) h).bind _ = _
  unfold k_alen al
  dsimp only
  cases h[v]? with
  | none => rfl
  | some c => rcases c with ⟨ci, fs⟩ | ⟨z, xs⟩ | ⟨z, os⟩ <;> dsimp only <;> first | rfl | (split <;> first | rfl | (split <;> simp_all) | simp_all)
theorem go_copy {v w : Nat} {n : Int32} (he : alook M pc = some (pc, .invokestatic idx, 3, (a, b, c1, c2, 1), x, rf)) (h1 : st.length ≤ 8) (h2 : st.all aOk = true) : go d M pc ls (.int n :: .int 0 :: .ref w :: .int 0 :: .ref v :: st) h = (cpy h v w n).bind fun h' => go d M (pc + 3) ls st h' := by
  rw [go_opt he rfl rfl]
  show (k_copy (pc + 3) ls (.int n :: .int 0 :: .ref w :: .int 0 :: .ref v :: st) h).bind _ = _
  unfold k_copy cpy
  dsimp only
  cases h[v]? with
  | none => rfl
  | some c =>
    rcases c with ⟨ci, fs⟩ | ⟨z, xs⟩ | ⟨z, os⟩
    · rfl
    · cases h[w]? with
      | none => rfl
      | some c =>
        rcases c with ⟨ci, fs⟩ | ⟨y, ys⟩ | ⟨y, os⟩
        · rfl
        · dsimp only
          by_cases hc : (z = 0 ∧ y = 0) ∧ ¬ n < 0 ∧ n.toNatClampNeg ≤ xs.length ∧ n.toNatClampNeg ≤ ys.length
          · rw [if_pos hc, if_pos ⟨⟨hc.1.1, hc.1.2, rfl, rfl⟩, hc.2.1, hc.2.2.1, hc.2.2.2, h1, h2⟩]
            rfl
          · rw [if_neg hc, if_neg (fun z => hc ⟨⟨z.1.1, z.1.2.1⟩, z.2.1, z.2.2.1, z.2.2.2.1⟩)]
            rfl
        · rfl
    · rfl
theorem go_if2 {f : Int32 → Int32 → Bool} {y z : Int32} {q : Nat} (he : alook M pc = some en) (hp : aplain en ls (.int y :: .int z :: st) h = k_if2 f tg q ls (.int y :: .int z :: st) h) : go d M pc ls (.int y :: .int z :: st) h = if f z y = true then go d M tg ls st h else go d M q ls st h := by
  rw [go_plain he (hp.trans rfl)]
  simp only
  split <;> rfl
theorem go_if1 {f : Int32 → Bool} {z : Int32} {q : Nat} (he : alook M pc = some en) (hp : aplain en ls (.int z :: st) h = k_if1 f tg q ls (.int z :: st) h) : go d M pc ls (.int z :: st) h = if f z = true then go d M tg ls st h else go d M q ls st h := by
  rw [go_plain he (hp.trans rfl)]
  simp only
  split <;> rfl
theorem go_ci {q : Nat} {y z : Int32} {p : Prop} {_i : Decidable p} (he : go d M pc ls (.int y :: .int z :: st) h = if decide p = true then go d M tg ls st h else go d M q ls st h) : go d M pc ls (.int y :: .int z :: st) h = if p then go d M tg ls st h else go d M q ls st h := by
  rw [he]
  simp only [decide_eq_true_eq]
theorem go_c1 {q : Nat} {z : Int32} {p : Prop} {_i : Decidable p} (he : go d M pc ls (.int z :: st) h = if decide p = true then go d M tg ls st h else go d M q ls st h) : go d M pc ls (.int z :: st) h = if p then go d M tg ls st h else go d M q ls st h := by
  rw [he]
  simp only [decide_eq_true_eq]
theorem go_div {f : Int32 → Int32 → Int32} {y z : Int32} {q : Nat} (he : alook M pc = some en) (hp : aplain en ls (.int y :: .int z :: st) h = k_div f q ls (.int y :: .int z :: st) h) (hc : acall en (.int y :: .int z :: st) h = none) (hr : aret en (.int y :: .int z :: st) = none) : go d M pc ls (.int y :: .int z :: st) h = if y = 0 then none else go d M q ls (.int (f z y) :: st) h := by
  rw [go_opt he hc hr, hp]
  unfold k_div
  simp only
  split <;> rfl
theorem go_cv {n c0 M0 c1 M1 r : Nat} {as rest L L1 : List Value} (he : alook M pc = some (pc, .invokevirtual idx, 3, (n, c0, M0, c1, M1), x, rf)) (hst : st.drop n = .ref r :: rest) (has : (st.take n).reverse = as) (hL : aent M0 (.ref r :: as) rest = some L) (hL1 : aent M1 (.ref r :: as) rest = some L1) :
    go (d + 1) M pc ls st h = if isC h r c0 = true then (go d M0 0 L [] h).bind (fun q => go (d + 1) M (pc + 3) ls (q.1.toList ++ rest) q.2) else if isC h r c1 = true then (go d M1 0 L1 [] h).bind (fun q => go (d + 1) M (pc + 3) ls (q.1.toList ++ rest) q.2) else none := by
  subst has
  by_cases h0 : isC h r c0 = true
  · rw [if_pos h0]
    have hc : acall (pc, .invokevirtual idx, 3, (n, c0, M0, c1, M1), x, rf) st h = some (M0, .ref r :: (st.take n).reverse, rest) := by
      simp only [acall, hst]
      unfold isC at h0
      split at h0
      · rename_i c fs hc
        have : c = c0 := by simpa using h0
        rw [hc]
        simp only [this, if_true]
      · cases h0
    exact go_call he rfl hc hL
  · rw [if_neg h0]
    by_cases h1 : isC h r c1 = true
    · rw [if_pos h1]
      have hc : acall (pc, .invokevirtual idx, 3, (n, c0, M0, c1, M1), x, rf) st h = some (M1, .ref r :: (st.take n).reverse, rest) := by
        simp only [acall, hst]
        unfold isC at h1 h0
        split at h1
        · rename_i c fs hc
          have e1 : c = c1 := by simpa using h1
          rw [hc] at h0
          have e0 : ¬ c = c0 := by simpa using h0
          rw [hc]
          simp only [e0, e1, if_true, if_false]
          rw [e1] at e0
          simp only [e0, if_false]
        · cases h1
      exact go_call he rfl hc hL1
    · rw [if_neg h1]
      refine go_none he rfl ?_ rfl
      simp only [acall, hst]
      unfold isC at h1 h0
      split
      · rename_i c fs hc
        rw [hc] at h0 h1
        have e0 : ¬ c = c0 := by simpa using h0
        have e1 : ¬ c = c1 := by simpa using h1
        simp only [e0, e1, if_false]
      · rfl
theorem go_cs {n M0 : Nat} {as rest L : List Value} (he : alook M pc = some (pc, .invokestatic idx, 3, (n, b, M0, c1, 0), x, rf)) (hst : st.drop n = rest) (has : (st.take n).reverse = as) (hL : aent M0 as rest = some L) :
    go (d + 1) M pc ls st h = (go d M0 0 L [] h).bind (fun q => go (d + 1) M (pc + 3) ls (q.1.toList ++ rest) q.2) := by
  subst has
  subst hst
  exact go_call he rfl rfl hL
theorem go_iret {v : Int32} (he : alook M pc = some (pc, .ireturn, 1, (0, b, c1, c2, c3), x, rf)) : go d M pc ls [.int v] h = some (some (.int v), h) := go_ret he rfl rfl rfl
theorem go_zret0 (he : alook M pc = some (pc, .ireturn, 1, (1, b, c1, c2, c3), x, rf)) : go d M pc ls [.int 0] h = some (some (.int 0), h) := go_ret he rfl rfl rfl
theorem go_zret1 (he : alook M pc = some (pc, .ireturn, 1, (1, b, c1, c2, c3), x, rf)) : go d M pc ls [.int 1] h = some (some (.int 1), h) := go_ret he rfl rfl rfl
end GE
