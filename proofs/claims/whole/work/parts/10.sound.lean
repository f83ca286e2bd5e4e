/-! runs of the small machine are runs of the real one -/
def aRet (J : wM) (pc : Nat) (r : Option Value) : Prop :=
  (r = none ∧ decode J.2.1 pc = .ok (.return_, 1) ∧ J.2.2.2.1 = none) ∨
  (∃ v : Int32, r = some (.int v) ∧ decode J.2.1 pc = .ok (.ireturn, 1) ∧ (J.2.2.2.1 = some .int ∨ (J.2.2.2.1 = some .boolean ∧ (v = 0 ∨ v = 1)))) ∨
  (∃ v : Value, r = some v ∧ (v = .null ∨ ∃ a, v = .ref a) ∧ decode J.2.1 pc = .ok (.areturn, 1) ∧ ∃ n, J.2.2.2.1 = some (.object n))
def aWk (l : Launch) (D : va_G) (t : Nat → Nat) (B d M pc : Nat) (ls st : List Value) (h : aH) (r : Option Value) (h' : aH) : Prop :=
  ∀ (J : wM), prog[M]? = some J → ∀ (p : Program) (e : Env) (R : Room) (s : State) (m : MethodId) (args : Array Value) (below : List Frame) (meth : Method) (c : Code) (H : Heap) (locs : List Loc) (cells slots : Nat) (Q : State → Prop) (arr : Array Slot),
    p.tables.exec = Jvm.exec → c.code = J.2.1 → c.maxLocals = J.2.2.1 → s.vm.findClass J.1.cls = some m.cls → (∀ w ∈ gtbl, w.before args s = true) → aNx s → (J.1.name = "<init>" → meth.name = "<init>") →
    d + 2 ≤ R.frames → 64 * (d + 1) ≤ R.locals → cells + (h'.length - h.length) ≤ R.cells → slots + (asl h' - asl h) ≤ R.slots → aSim D t B h s H → aL t B arr ls → ls.length = c.maxLocals → (∀ q ∈ locs, B ≤ q.base) →
    (∀ (pc' : Nat) (H' : Heap) (locs' : List Loc) (arr' : Array Slot), aRet J pc' r → aSim D t B h' s H' → (∀ q ∈ locs', B ≤ q.base) → W p l e R s m args below meth c H' locs' (cells + (h'.length - h.length)) (slots + (asl h' - asl h)) Q (F0 m pc' arr' (r.toList.map (vr t B)))) →
    W p l e R s m args below meth c H locs cells slots Q (F0 m pc arr (st.map (vr t B)))
theorem gJ_at {J : wM} (g : gJ J = true) : J.2.2.1 ≤ 45 ∧ J.2.2.2.2.1 ≤ J.2.2.1 ∧ plainName J.1.cls = true ∧ Jvm.Cond.code J.1 J.2.1 J.2.2.1 J.2.2.2.1 ∈ gtbl ∧ Jvm.Cond.initialized J.1.cls ∈ gtbl ∧ J.1.cls ≠ "java/lang/invoke/MethodHandle" ∧ J.1.cls ≠ "java/lang/invoke/VarHandle" := by
  simp only [gJ, Bool.and_eq_true, decide_eq_true_eq] at g
  exact ⟨g.1, g.2.1, g.2.2.1, inT_mem g.2.2.2.1, inT_mem g.2.2.2.2.1, g.2.2.2.2.2.1, g.2.2.2.2.2.2⟩
theorem aent_at {M : Nat} {as rest L : List Value} (h : aent M as rest = some L) : ∃ J, prog[M]? = some J ∧ as.length = J.2.2.2.2.1 ∧ as.all aOk = true ∧ rest.length ≤ 8 ∧ rest.all aOk = true ∧ L = as ++ List.replicate (J.2.2.1 - as.length) aU := by
  unfold aent at h
  split at h
  · rename_i J hJ
    split at h
    · rename_i hc
      exact ⟨J, hJ, hc.1, hc.2.1, hc.2.2.1, hc.2.2.2, (Option.some.inj h).symm⟩
    · cases h
  · cases h
theorem met_of {l : Launch} {D : va_G} {t : Nat → Nat} {B d M : Nat} {as rest L : List Value} {h h' : aH} {r : Option Value} {J : wM} (hw : aWk l D t B d M 0 L [] h r h') (hJ : prog[M]? = some J) (g : gJ J = true) (hL : aent M as rest = some L) :
    Met l J.1 (aws J) (arm d (h'.length - h.length) (asl h' - asl h)) (aPc D t B as h) (aQc D t B r h') (h'.length - h.length) (asl h' - asl h) (fun q => B ≤ q) := by
  obtain ⟨J', hJ', e1, e2, -, -, rfl⟩ := aent_at hL
  cases hJ.symm.trans hJ'
  obtain ⟨g1, g2, g3, -⟩ := gJ_at g
  refine Met.ofW (cc := J.2.1) (maxL := J.2.2.1) (ret := J.2.2.2.1) g3 rfl ?_
  intro p e s m args below meth c s₁ Bd hml hv
  obtain ⟨rfl, hS, hN⟩ := hv
  have hts := atoms_spec (ws := aws J) Bd.pre
  have hown : s.vm.findClass J.1.cls = some m.cls := findClass_of_methodNamed Bd.named
  have hlocks := Bd.notSynchronized
  have hr := Bd.returns
  have hx := Bd.exec
  have hb := Bd.bytes
  rw [entry_eq m (as.map (vr t B)) (fun v hv => by
    obtain ⟨w, hw1, rfl⟩ := List.mem_map.mp hv
    exact vr_cat (List.all_eq_true.mp e2 w hw1)), List.length_map]
  refine hw J hJ p e _ s m _ below meth c s.heap [] 0 0 _ _ hx hb hml hown (fun w hw1 => hts w (List.mem_cons_of_mem _ hw1)) hN (fun hi => (name_of_methodNamed Bd.named Bd.method).1.trans hi) (Nat.le_refl _) (Nat.le_refl _) (Nat.le_of_eq (Nat.zero_add _)) (Nat.le_of_eq (Nat.zero_add _)) hS (aL.entry e2) ?_ (fun q hq => by cases hq) ?_
  · rw [List.length_append, List.length_replicate, hml]
    omega
  · intro pc' H' locs' arr' hret S' hloc'
    rw [Nat.zero_add, Nat.zero_add]
    rcases hret with ⟨rfl, hd, hj⟩ | ⟨v, rfl, hd, hj⟩ | ⟨v, rfl, hv, hd, n, hj⟩
    · exact W.vret hx hb (hr.trans hj) (fun t' ht hW => ⟨rfl, by rw [ht]; exact S'.moved hW.alike⟩) hloc' hd
    · rcases hj with hj | ⟨hj, h01⟩
      · exact W.iret (v := v) hx hb (hr.trans hj) (fun t' ht hW => ⟨rfl, by rw [ht]; exact S'.moved hW.alike⟩) hloc' hd
      · exact W.zret (v := v) (ty := .boolean) hx hb (hr.trans hj) (by rcases h01 with rfl | rfl <;> decide) (fun t' ht hW => ⟨rfl, by rw [ht]; exact S'.moved hW.alike⟩) hloc' hd
    · refine W.aret (v := vr t B v) (rt := .object n) hx hb (hr.trans hj) (Or.inl ⟨n, rfl⟩) ?_ (fun t' ht hW => ⟨rfl, by rw [ht]; exact S'.moved hW.alike⟩) hloc' hd
      rcases hv with rfl | ⟨a, rfl⟩
      · exact Or.inl rfl
      · exact Or.inr ⟨_, rfl⟩
theorem gPar_at {desc : String} {a : Nat} (g : gPar desc a = true) : ∀ sig, parseMethodDescriptor desc = some sig → a = sig.parameters.length := by
  intro sig hs
  have := of_decide_eq_true g
  rw [hs] at this
  exact (Option.some.inj this).symm
section CL
variable {p : Program} {l : Launch} {e : Env} {R : Room} {s : State} {m : MethodId} {args : Array Value} {below : List Frame} {meth : Method} {c : Code} {H : Heap} {locs : List Loc} {cells slots : Nat} {Q : State → Prop}
variable {D : va_G} {t : Nat → Nat} {B : Nat} {h h1 : aH} {arr : Array Slot} {st : List Value} {v : Option Value} {d pc : Nat}
/-- the call of an entry, by the callee's contract -/
theorem ca_run {J J' : wM} {en : wE} {M' : Nat} {as rest L : List Value} (hx : p.tables.exec = Jvm.exec) (hb : c.code = J.2.1) (hml : c.maxLocals = arr.size) (hts : ∀ w ∈ gtbl, w.before args s = true) (hown : s.vm.findClass J.1.cls = some m.cls) (hnx : aNx s) (hg : goodE J en = true) (hc : acall en st h = some (M', as, rest)) (hL : aent M' as rest = some L) (hJ' : prog[M']? = some J')
    (hM : gJ J' = true → Met l J'.1 (aws J') (arm d (h1.length - h.length) (asl h1 - asl h)) (aPc D t B as h) (aQc D t B v h1) (h1.length - h.length) (asl h1 - asl h) (fun q => B ≤ q))
    (hRf : d + 3 ≤ R.frames) (hRl : 64 * (d + 2) ≤ R.locals) (hRc : cells + (h1.length - h.length) ≤ R.cells) (hRs : slots + (asl h1 - asl h) ≤ R.slots) (S : aSim D t B h s H) :
    va_Run p l e R s m args below meth c H locs cells slots (h1.length - h.length) (asl h1 - asl h) (F0 m en.1 arr (st.map (vr t B))) (rest.map (vr t B)) (fun _ oc t' => oc = .returned (v.map (vr t B)) ∧ aSim D t B h1 t' t'.heap) (fun q => B ≤ q) := by
  obtain ⟨J2, hJ2, a1, a2, a3, a4, -⟩ := aent_at hL
  cases hJ'.symm.trans hJ2
  obtain ⟨pc, i, ln, ⟨a, b, c', dd, f⟩, x, rf⟩ := en
  simp only [goodE, Bool.and_eq_true, decide_eq_true_eq] at hg
  obtain ⟨hd, gx⟩ := hg
  have hroom : 2 * (F0 m pc arr (st.map (vr t B))).monitorRoom + ((rest.map (vr t B)).map fun v => v.category).sum ≤ 8 := by
    rw [cats a4]
    show 2 * 0 + _ ≤ 8
    omega
  have hpre : ∀ U : State, U.heap = H → s.WarmedH U.vm → aPc D t B as h (as.map (vr t B)).toArray U := fun U hU hW => ⟨rfl, by rw [hU]; exact S.moved hW.alike, hnx.warm hW⟩
  have key : ∀ (hgj : gJ J' = true), (arm d (h1.length - h.length) (asl h1 - asl h)).frames + 1 ≤ R.frames ∧ 8 + (J'.2.2.1 + 11) + (arm d (h1.length - h.length) (asl h1 - asl h)).locals ≤ R.locals := by
    intro hgj
    have := (gJ_at hgj).1
    exact ⟨by show d + 2 + 1 ≤ _; omega, by show 8 + (J'.2.2.1 + 11) + 64 * (d + 1) ≤ _; omega⟩
  cases i
  case invokevirtual idx =>
    simp only [gX, Bool.and_eq_true] at gx
    simp only [acall] at hc
    have key2 : ∃ r s0 ci fs, st.drop a = .ref r :: s0 ∧ h[r]? = some (.inl (ci, fs)) ∧ as = .ref r :: (st.take a).reverse ∧ rest = s0 ∧ inVi J.1.cls idx a ci M' x rf = true := by
      split at hc
      · rename_i r s0 hst
        split at hc
        · rename_i ci fs hci
          split at hc
          · rename_i hb1
            cases hc
            subst hb1
            exact ⟨r, _, _, _, hst, hci, rfl, rfl, gx.1⟩
          · split at hc
            · rename_i hb2
              cases hc
              subst hb2
              exact ⟨r, _, _, _, hst, hci, rfl, rfl, gx.2⟩
            · cases hc
        · cases hc
      · cases hc
    obtain ⟨r, s0, ci, fs, hst, hci, rfl, rfl, gv⟩ := key2
    have gv := inVi_at gv
    unfold gVi at gv
    rw [hJ'] at gv
    simp only at gv
    obtain ⟨h5, ⟨C, T, N⟩, hr, hlen, hob⟩ := S.2.1 r _ hci
    rw [hr] at gv
    simp only [Bool.and_eq_true] at gv
    obtain ⟨gj, gp, gl, gi, gs, gv⟩ := gv
    have gj := inJ_at gj hJ'
    have hP : va_P D vwCl [(aA t B r, .inr (ci, fs.map (vr t B)))] H := by
      intro k' q' hq'
      cases k' with
      | zero => cases hq'; exact ⟨_, hr, hob⟩
      | succ n => simp at hq'
    have hrecv := va_recv S.1 hP (ci := ci) (q0 := 0) hr rfl
    have hal : a ≤ st.length := by
      have := congrArg List.length hst
      simp only [List.length_drop, List.length_cons] at this
      omega
    have hstack : st.map (vr t B) = (((st.take a).reverse).map (vr t B)).reverse ++ .ref (aA t B r) :: rest.map (vr t B) := by
      rw [← List.map_reverse, List.reverse_reverse]
      have : st.map (vr t B) = (st.take a ++ st.drop a).map (vr t B) := by rw [List.take_append_drop]
      rw [this, List.map_append, hst]
      rfl
    have hn : (((st.take a).reverse).map (vr t B)).length = a := by simp; omega
    obtain ⟨y1, y2, y3, y4, y5, y6, y7⟩ := gJ_at gj
    by_cases hrf : rf = ""
    · rw [if_pos hrf] at gv
      have hxJ : x = J'.1 := of_decide_eq_true gv
      subst hxJ
      exact va_runV (As := ((st.take a).reverse).map (vr t B)) (C := C) ⟨hx, hb, hml, hown, hts⟩ (hM gj) ⟨callB_of a hts (aws_good y4) rfl rfl rfl (hts _ y5) (hts _ (inT_mem gl)) ⟨y6, y7, of_decide_eq_true gp⟩ (key gj), hts _ (inT_mem gi), hts _ (inT_mem gs)⟩ ⟨aPc_blind, hrecv, hpre⟩ rfl hn rfl hstack hroom hd ⟨hRc, hRs⟩
    · rw [if_neg hrf] at gv
      simp only [Bool.and_eq_true, decide_eq_true_eq] at gv
      obtain ⟨v1, v2, v3, v4⟩ := gv
      exact va_runU (As := ((st.take a).reverse).map (vr t B)) (C := C) (owner := rf) ⟨hx, hb, hml, hown, hts⟩ (hM gj) ⟨⟨rfl, rfl, (key gj).1, (key gj).2, pay_in hts (aws_good y4), List.mem_cons_self⟩, hts _ y4, hts _ y5, ⟨v3, v4⟩, gPar_at gp, hts _ (inT_mem gl), hts _ (inT_mem v1), va_Decl.abs (hnx.2.1 _ v2), hts _ (inT_mem gs), hts _ (inT_mem gi)⟩ ⟨aPc_blind, hrecv, hpre⟩ rfl hn rfl hstack hroom hd ⟨hRc, hRs⟩
  case invokespecial idx =>
    simp only [acall] at hc
    split at hc
    · cases hc
    · rename_i hf
      simp only [gX, hf, if_false] at gx
      split at hc
      · rename_i r s0 hst
        cases hc
        have gx := inSp_at gx
        unfold gSp at gx
        rw [hJ'] at gx
        simp only [Bool.and_eq_true, decide_eq_true_eq] at gx
        obtain ⟨gj, gp, gl, gi, gn, gr⟩ := gx
        have gj := inJ_at gj hJ'
        obtain ⟨y1, y2, y3, y4, y5, y6, y7⟩ := gJ_at gj
        have hal : a ≤ st.length := by
          have := congrArg List.length hst
          simp only [List.length_drop, List.length_cons] at this
          omega
        have hstack : st.map (vr t B) = (((st.take a).reverse).map (vr t B)).reverse ++ .ref (aA t B r) :: rest.map (vr t B) := by
          rw [← List.map_reverse, List.reverse_reverse]
          have : st.map (vr t B) = (st.take a ++ st.drop a).map (vr t B) := by rw [List.take_append_drop]
          rw [this, List.map_append, hst]
          rfl
        have hn : (((st.take a).reverse).map (vr t B)).length = a := by simp; omega
        have hw : aws J' = Jvm.Cond.code J'.1 J'.2.1 J'.2.2.1 none :: gtbl := by unfold aws; rw [gr]
        exact va_runI (As := ((st.take a).reverse).map (vr t B)) ⟨hx, hb, hml, hown, hts⟩ (hM gj) ⟨callB_of a hts (aws_good y4) hw rfl rfl (hts _ y5) (hts _ (inT_mem gl)) ⟨y6, y7, of_decide_eq_true gp⟩ (key gj), gn, hts _ (inT_mem gi)⟩ ⟨aPc_blind, hpre⟩ rfl hn rfl hstack hroom hd ⟨hRc, hRs⟩
      · cases hc
  case invokestatic idx =>
    simp only [acall] at hc
    split at hc
    · rename_i hf
      subst hf
      have gx : inSt J.1.cls idx a c' = true := gx
      cases hc
      have gx := inSt_at gx
      unfold gSt at gx
      rw [hJ'] at gx
      simp only [Bool.and_eq_true, decide_eq_true_eq] at gx
      obtain ⟨gj, gp, gl, gi, gn⟩ := gx
      have gj := inJ_at gj hJ'
      obtain ⟨y1, y2, y3, y4, y5, y6, y7⟩ := gJ_at gj
      have hstack : st.map (vr t B) = (((st.take a).reverse).map (vr t B)).reverse ++ (st.drop a).map (vr t B) := by
        rw [← List.map_reverse, List.reverse_reverse, ← List.map_append, List.take_append_drop]
      have hn : (((st.take a).reverse).map (vr t B)).length = a := by rw [List.length_map, a1, gn]
      exact va_runS (As := ((st.take a).reverse).map (vr t B)) ⟨hx, hb, hml, hown, hts⟩ (hM gj) ⟨callB_of a hts (aws_good y4) rfl rfl rfl (hts _ y5) (hts _ (inT_mem gl)) ⟨y6, y7, of_decide_eq_true gp⟩ (key gj), hts _ (inT_mem gi)⟩ ⟨aPc_blind, hpre⟩ rfl hn rfl hstack hroom hd ⟨hRc, hRs⟩
    · cases hc
  all_goals (have hc : (none : Option (Nat × List Value × List Value)) = some (M', as, rest) := hc; cases hc)
end CL
theorem aret_at {J : wM} {en : wE} {st : List Value} {r : Option Value} (hg : goodE J en = true) (hr : aret en st = some r) : aRet J en.1 r ∧ st = r.toList := by
  obtain ⟨pc, i, ln, ⟨a, b, c', dd, f⟩, x, rf⟩ := en
  simp only [goodE, Bool.and_eq_true, decide_eq_true_eq] at hg
  obtain ⟨hd, gx⟩ := hg
  cases i
  case ireturn =>
    simp only [aret] at hr
    simp only [gX] at gx
    split at hr
    · split at hr
      · rename_i v ha
        rw [if_pos ha] at gx
        split at hr
        · rename_i h01
          cases hr
          exact ⟨Or.inr (Or.inl ⟨v, rfl, hd, Or.inr ⟨of_decide_eq_true gx, h01⟩⟩), rfl⟩
        · cases hr
      · rename_i v ha
        rw [if_neg ha] at gx
        cases hr
        exact ⟨Or.inr (Or.inl ⟨v, rfl, hd, Or.inl (of_decide_eq_true gx)⟩), rfl⟩
    · cases hr
  case areturn =>
    simp only [aret] at hr
    simp only [gX] at gx
    have hj : ∃ n, J.2.2.2.1 = some (.object n) := by
      split at gx
      · rename_i n hn
        exact ⟨n, hn⟩
      · cases gx
    split at hr
    · cases hr
      exact ⟨Or.inr (Or.inr ⟨_, rfl, Or.inr ⟨_, rfl⟩, hd, hj⟩), rfl⟩
    · cases hr
      exact ⟨Or.inr (Or.inr ⟨_, rfl, Or.inl rfl, hd, hj⟩), rfl⟩
    · cases hr
  case return_ =>
    simp only [aret] at hr
    split at hr
    · cases hr
      exact ⟨Or.inl ⟨rfl, hd, of_decide_eq_true gx⟩, rfl⟩
    · cases hr
  all_goals (have hr : (none : Option (Option Value)) = some r := hr; cases hr)
theorem alook_at {M pc : Nat} {en : wE} (h : alook M pc = some en) : ∃ J, prog[M]? = some J ∧ en ∈ J.2.2.2.2.2 ∧ en.1 = pc := by
  unfold alook at h
  split at h
  · rename_i J hJ
    exact ⟨J, hJ, List.mem_of_find?_eq_some h, by simpa using List.find?_some h⟩
  · cases h
set_option maxHeartbeats 1000000 in
theorem sound (l : Launch) (D : va_G) (t : Nat → Nat) (B : Nat) (hgood : ∀ (M : Nat) (J : wM), prog[M]? = some J → ∀ en ∈ J.2.2.2.2.2, goodE J en = true) :
    ∀ (n d M pc : Nat) (ls st : List Value) (h : aH) (r : Option Value) (h' : aH), arun n d M pc ls st h = some (r, h') → (h.length ≤ h'.length ∧ asl h ≤ asl h') ∧ aWk l D t B d M pc ls st h r h'
  | 0, d, M, pc, ls, st, h, r, h', hr => by simp [arun] at hr
  | n + 1, d, M, pc, ls, st, h, r, h', hr => by
    simp only [arun] at hr
    cases he : alook M pc with
    | none => rw [he] at hr; cases hr
    | some en =>
      rw [he] at hr
      simp only at hr
      obtain ⟨J0, hJ0, hmem, hpc⟩ := alook_at he
      have hg := hgood M J0 hJ0 en hmem
      subst hpc
      cases hp : aplain en ls st h with
      | some q =>
        rw [hp] at hr
        obtain ⟨pc', ls', st', h1⟩ := q
        simp only at hr
        obtain ⟨⟨m1, m2⟩, w⟩ := sound l D t B hgood n d M pc' ls' st' h1 r h' hr
        obtain ⟨n1, n2⟩ := mono_all hp
        simp only at n1 n2
        refine ⟨⟨Nat.le_trans n1 m1, Nat.le_trans n2 m2⟩, ?_⟩
        intro J hJ p e R s m args below meth c H locs cells slots Q arr hx hb hml hown hts hnx hnm hRf hRl hRc hRs S hl hn hloc kk
        cases hJ.symm.trans hJ0
        refine sp_all hx hb hts hown hnx hnm hg (by omega) (by omega) S hl hn hloc hp (by simp only; omega) (by simp only; omega) ?_
        intro H' locs' arr' S' hl' hn' hloc'
        refine w _ hJ p e R s m args below meth c H' locs' _ _ Q arr' hx hb hml hown hts hnx hnm hRf hRl (by simp only; omega) (by simp only; omega) S' hl' hn' hloc' ?_
        intro pc2 H2 locs2 arr2 hret S2 hloc2
        have := kk pc2 H2 locs2 arr2 hret S2 hloc2
        simp only
        rw [show cells + (h1.length - h.length) + (h'.length - h1.length) = cells + (h'.length - h.length) by omega, show slots + (asl h1 - asl h) + (asl h' - asl h1) = slots + (asl h' - asl h) by omega]
        exact this
      | none =>
        rw [hp] at hr
        simp only at hr
        cases hc : acall en st h with
        | some q =>
          rw [hc] at hr
          obtain ⟨M', as, rest⟩ := q
          simp only at hr
          cases hL : aent M' as rest with
          | none => rw [hL] at hr; cases hr
          | some L =>
            rw [hL] at hr
            simp only at hr
            cases d with
            | zero => cases hr
            | succ d' =>
              simp only at hr
              cases hy : arun n d' M' 0 L [] h with
              | none => rw [hy] at hr; cases hr
              | some w0 =>
                obtain ⟨v, h1⟩ := w0
                rw [hy] at hr
                simp only at hr
                obtain ⟨⟨n1, n2⟩, wc⟩ := sound l D t B hgood n d' M' 0 L [] h v h1 hy
                obtain ⟨⟨m1, m2⟩, w⟩ := sound l D t B hgood n (d' + 1) M (en.1 + 3) ls (v.toList ++ rest) h1 r h' hr
                refine ⟨⟨Nat.le_trans n1 m1, Nat.le_trans n2 m2⟩, ?_⟩
                intro J hJ p e R s m args below meth c H locs cells slots Q arr hx hb hml hown hts hnx hnm hRf hRl hRc hRs S hl hn hloc kk
                cases hJ.symm.trans hJ0
                obtain ⟨J', hJ', -⟩ := aent_at hL
                refine ca_go (ca_run (d := d') (J := J0) (J' := J') hx hb (hn.symm.trans hl.1.symm) hts hown hnx hg hc hL hJ' (fun gj => met_of wc hJ' gj hL) (by omega) (by omega) (by omega) (by omega) S) ?_
                intro v' s0 t' Lc hAl hQ hLc
                obtain ⟨hv, S'⟩ := hQ
                have hv : v' = v.map (vr t B) := Outcome.returned.inj hv
                subst hv
                have e1 : (v.map (vr t B)).toList ++ rest.map (vr t B) = (v.toList ++ rest).map (vr t B) := by cases v <;> simp
                rw [e1]
                refine w _ hJ p e R s m args below meth c t'.heap (locs ++ Lc) _ _ Q arr hx hb hml hown hts hnx hnm hRf hRl (by omega) (by omega) (S'.moved hAl.symm) hl hn (fun q hq => (List.mem_append.mp hq).elim (hloc q) (hLc q)) ?_
                intro pc2 H2 locs2 arr2 hret S2 hloc2
                have := kk pc2 H2 locs2 arr2 hret S2 hloc2
                rw [show cells + (h1.length - h.length) + (h'.length - h1.length) = cells + (h'.length - h.length) by omega, show slots + (asl h1 - asl h) + (asl h' - asl h1) = slots + (asl h' - asl h) by omega]
                exact this
        | none =>
          rw [hc] at hr
          simp only at hr
          cases ha : aret en st with
          | none => rw [ha] at hr; cases hr
          | some v =>
            rw [ha] at hr
            cases hr
            refine ⟨⟨Nat.le_refl _, Nat.le_refl _⟩, ?_⟩
            intro J hJ p e R s m args below meth c H locs cells slots Q arr hx hb hml hown hts hnx hnm hRf hRl hRc hRs S hl hn hloc kk
            cases hJ.symm.trans hJ0
            obtain ⟨hret, rfl⟩ := aret_at hg ha
            have := kk en.1 H locs arr hret S hloc
            rw [Nat.sub_self, Nat.sub_self] at this
            exact this
