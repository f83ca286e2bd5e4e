/-! what makes cells; Object's constructor; statics; arraycopy -/
section INV2
variable {h : aH} {ls st : List Value} {q : Nat} {k : aK}
theorem k_newa_inv {z : Nat} (hp : k_newa z q ls st h = some k) : ∃ n r, st = .int n :: r ∧ (¬ n < 0 ∧ n.toNatClampNeg ≤ 65536) ∧ k = (q, ls, .ref h.length :: r, h ++ [.inr (.inl (z, List.replicate n.toNatClampNeg 0))]) := by
  unfold k_newa at hp
  repeat' split at hp
  all_goals first | (cases hp; done) | exact ⟨_, _, rfl, by assumption, (Option.some.inj hp).symm⟩
theorem k_newq_inv {z : Nat} (hp : k_newq z q ls st h = some k) : ∃ n r, st = .int n :: r ∧ (¬ n < 0 ∧ n.toNatClampNeg ≤ 65536) ∧ k = (q, ls, .ref h.length :: r, h ++ [.inr (.inr (z, List.replicate n.toNatClampNeg none))]) := by
  unfold k_newq at hp
  repeat' split at hp
  all_goals first | (cases hp; done) | exact ⟨_, _, rfl, by assumption, (Option.some.inj hp).symm⟩
theorem k_oini_inv (hp : k_oini q ls st h = some k) : ∃ a r, st = .ref a :: r ∧ (r.length ≤ 8 ∧ r.all aOk = true) ∧ k = (q, ls, r, h) := by
  unfold k_oini at hp
  repeat' split at hp
  all_goals first | (cases hp; done) | exact ⟨_, _, rfl, by assumption, (Option.some.inj hp).symm⟩
theorem k_copy_inv (hp : k_copy q ls st h = some k) : ∃ n dp b sp a r t xs u ys, st = .int n :: .int dp :: .ref b :: .int sp :: .ref a :: r ∧ h[a]? = some (.inr (.inl (t, xs))) ∧ h[b]? = some (.inr (.inl (u, ys))) ∧ ((t = 0 ∧ u = 0 ∧ sp = 0 ∧ dp = 0) ∧ ¬ n < 0 ∧ n.toNatClampNeg ≤ xs.length ∧ n.toNatClampNeg ≤ ys.length ∧ r.length ≤ 8 ∧ r.all aOk = true) ∧ k = (q, ls, r, h.set b (.inr (.inl (0, xs.take n.toNatClampNeg ++ ys.drop n.toNatClampNeg)))) := by
  unfold k_copy at hp
  repeat' split at hp
  all_goals first | (cases hp; done) | exact ⟨_, _, _, _, _, _, _, _, _, _, rfl, by assumption, by assumption, by assumption, (Option.some.inj hp).symm⟩
theorem k_mm_inv {f : Int32 → Int32 → Int32} (hp : k_mm f q ls st h = some k) : ∃ y x r, st = .int y :: .int x :: r ∧ (r.length ≤ 8 ∧ r.all aOk = true) ∧ k = (q, ls, .int (f x y) :: r, h) := by
  unfold k_mm at hp
  repeat' split at hp
  all_goals first | (cases hp; done) | exact ⟨_, _, _, rfl, by assumption, (Option.some.inj hp).symm⟩
end INV2
theorem rep_getD (n j : Nat) : (List.replicate n (0 : Int32)).getD j 0 = 0 := by
  rw [List.getD_eq_getElem?_getD, List.getElem?_replicate]
  split <;> rfl
theorem rep_getO (n j : Nat) : (List.replicate n (none : Option Nat)).getD j none = none := by
  rw [List.getD_eq_getElem?_getD, List.getElem?_replicate]
  split <;> rfl
section MR
variable {p : Program} {l : Launch} {e : Env} {R : Room} {s : State} {m : MethodId} {args : Array Value} {below : List Frame} {meth : Method} {c : Code} {H : Heap} {locs : List Loc} {cells slots : Nat} {Q : State → Prop}
variable {D : va_G} {t : Nat → Nat} {B : Nat} {h : aH} {arr : Array Slot} {ls st : List Value} {pc q : Nat} {cc : ByteArray} {k : aK} {own rf : String} {idx : Nat}
theorem sp_newa {z : Nat} {atype : ArrayType} (hx : p.tables.exec = Jvm.exec) (hb : c.code = cc) (harr : (Jvm.Cond.arrayClass (newarray.typeOf atype)).before args s = true) (hz : (z = 0 ∧ atype = .int) ∨ (z = 1 ∧ atype = .boolean)) (hd : decode cc pc = .ok (.newarray atype, 2))
    (S : aSim D t B h s H) (hl : aL t B arr ls) (hn : ls.length = c.maxLocals) (hloc : ∀ q ∈ locs, B ≤ q.base) (hp : k_newa z (pc + 2) ls st h = some k) (hc : cells + (k.2.2.2.length - h.length) ≤ R.cells) (hs : slots + (asl k.2.2.2 - asl h) ≤ R.slots) (kk : aKK p l e R s m args below meth c Q D t B cells slots h k) : W p l e R s m args below meth c H locs cells slots Q (F0 m pc arr (st.map (vr t B))) := by
  obtain ⟨n, r, rfl, hN, rfl⟩ := k_newa_inv hp
  simp only [List.length_append, List.length_cons, List.length_nil, asl_app, acs, List.length_replicate, Nat.add_sub_cancel_left] at hc hs
  have h5 := S.2.2.1.2
  have hnew := S.new
  have by1 : n.toNatClampNeg * componentBytes (newarray.typeOf atype) ≤ 536870912 := by
    rcases hz with ⟨-, rfl⟩ | ⟨-, rfl⟩
    · show n.toNatClampNeg * 4 ≤ _; omega
    · show n.toNatClampNeg * 1 ≤ _; omega
  refine va_newaK hx hb harr rfl hd rfl hN.1 rfl by1 (by omega) hs rfl fun H' cA e1 z1 o1 hAr hNm => ?_
  have ety : newarray.typeOf atype = aTy z := by rcases hz with ⟨rfl, rfl⟩ | ⟨rfl, rfl⟩ <;> rfl
  have edv : defaultValue (newarray.typeOf atype) = .int 0 := by rcases hz with ⟨-, rfl⟩ | ⟨-, rfl⟩ <;> rfl
  have hz2 : z ≠ 2 := by rcases hz with ⟨rfl, -⟩ | ⟨rfl, -⟩ <;> decide
  have kw := kk.use (i := 1) (j := n.toNatClampNeg) (by simp) (by simp [asl_app, acs]) (H' := H') (locs' := locs) (arr' := arr) (S.push z1 o1 (Or.inr ⟨hz2, h5, cA, ?_, ety ▸ hAr⟩)) hl hn hloc
  · simp only [List.map_cons, vr_ref, hnew] at kw
    exact kw
  · rw [hnew, e1, List.length_replicate, edv]
    congr 2
    funext j
    rw [rep_getD]
theorem sp_newq {z : Nat} {r' : vw_C} (hx : p.tables.exec = Jvm.exec) (hb : c.code = cc) (hown : s.vm.findClass own = some m.cls) (hz : vwCl[z]? = some r') (hcl : (Jvm.Cond.classLink own idx r'.1).before args s = true) (hov : (Jvm.Cond.arrayOver (.object r'.1)).before args s = true) (hd : decode cc pc = .ok (.anewarray idx, 3))
    (S : aSim D t B h s H) (hl : aL t B arr ls) (hn : ls.length = c.maxLocals) (hloc : ∀ q ∈ locs, B ≤ q.base) (hp : k_newq z (pc + 3) ls st h = some k) (hc : cells + (k.2.2.2.length - h.length) ≤ R.cells) (hs : slots + (asl k.2.2.2 - asl h) ≤ R.slots) (kk : aKK p l e R s m args below meth c Q D t B cells slots h k) : W p l e R s m args below meth c H locs cells slots Q (F0 m pc arr (st.map (vr t B))) := by
  obtain ⟨n, r, rfl, hN, rfl⟩ := k_newq_inv hp
  simp only [List.length_append, List.length_cons, List.length_nil, asl_app, acs, List.length_replicate, Nat.add_sub_cancel_left] at hc hs
  have h5 := S.2.2.1.2
  have hnew := S.new
  refine W.anew hx hb hown hcl hov rfl hd rfl hN.1 (by omega) (by omega) hs fun cA kA comp f1 f2 f3 f4 => ?_
  generalize hH1 : H.push ({ cls := cA, slots := Array.replicate n.toNatClampNeg .null, vm := .none } : Cell) = H'
  have z1 : H'.size = H.size + 1 := by rw [← hH1, Array.size_push]
  have e1 : H'[H.size]? = some (arrV cA n.toNatClampNeg (fun _ => .null)) := by rw [← hH1, Array.getElem?_push_size, ← arrV_new]
  have o1 : ∀ q : Nat, q < H.size → H'[q]? = H[q]? := fun q hq => by rw [← hH1, Array.getElem?_push, if_neg (Nat.ne_of_lt hq)]
  have hAr : ArrOfT s cA (.object r'.1) := fun N z => ⟨(fun k h => by cases h), kA, f2, comp, f3⟩
  have kw := kk.use (i := 1) (j := n.toNatClampNeg) (by simp) (by simp [asl_app, acs]) (H' := H') (locs' := locs) (arr' := arr) (S.push z1 o1 ⟨h5, r', cA, hz, ?_, hAr, ⟨kA, comp, f2, f3, f4, f1⟩⟩) hl hn hloc
  · simp only [List.map_cons, vr_ref, hnew] at kw
    exact kw
  · rw [hnew, e1, List.length_replicate]
    congr 2
    funext j
    simp only [aOn, rep_getO]
    rfl
theorem sp_new {z : Nat} {r' : vw_C} (hx : p.tables.exec = Jvm.exec) (hb : c.code = cc) (hts : ∀ w ∈ gtbl, w.before args s = true) (hown : s.vm.findClass own = some m.cls) (hz : vwCl[z]? = some r') (hcl : (Jvm.Cond.classLink own idx r'.1).before args s = true) (hd : decode cc pc = .ok (.new idx, 3))
    (S : aSim D t B h s H) (hl : aL t B arr ls) (hn : ls.length = c.maxLocals) (hloc : ∀ q ∈ locs, B ≤ q.base) (hp : k_new z (pc + 3) ls st h = some k) (hc : cells + (k.2.2.2.length - h.length) ≤ R.cells) (hs : slots + (asl k.2.2.2 - asl h) ≤ R.slots) (kk : aKK p l e R s m args below meth c Q D t B cells slots h k) : W p l e R s m args below meth c H locs cells slots Q (F0 m pc arr (st.map (vr t B))) := by
  unfold k_new at hp
  cases hp
  obtain ⟨y1, y2, y3, y4, y5, y6, y7, y8⟩ := gCl_at hz
  simp only [List.length_append, List.length_cons, List.length_nil, asl_app, acs, Nat.add_sub_cancel_left, y5] at hc hs
  have h5 := S.2.2.1.2
  have hnew := S.new
  have hKn := S.1.1 z _ hz
  refine W.newcK hx hb hown hcl (hts _ y6) (hts _ y7) rfl hd (by omega) hs hKn.2.1 rfl fun H' kC hkC e1 z1 o1 => ?_
  have ob := u_born (tyOf r'.2.1) hts y2 hKn hkC e1 y1
  have kw := kk.use (i := 1) (j := r'.2.2) (by simp) (by simp [asl_app, acs, y5]) (H' := H') (locs' := locs) (arr' := arr) (S.push z1 o1 ⟨h5, r', hz, y5, ?_⟩) hl hn hloc
  · simp only [List.map_cons, vr_ref, hnew] at kw
    exact kw
  · rw [hnew]
    refine ob.to fun j hj => ?_
    rw [← y3 j hj]
    simp only [vp_V, List.getD_eq_getElem?_getD, List.getElem?_map]
    cases hv : (dfl z)[j]? with
    | none => rfl
    | some v =>
      rcases y8 v (List.mem_of_getElem? hv) with rfl | rfl <;> rfl
theorem sp_oini (hx : p.tables.exec = Jvm.exec) (hb : c.code = cc) (hown : s.vm.findClass own = some m.cls) (hlk : (Jvm.Cond.methodLink own idx Lib.objectInit).before args s = true) (hin : (Jvm.Cond.instanceMethod Lib.objectInit).before args s = true) (hco : (Jvm.Cond.code Lib.objectInit ⟨#[0xb1]⟩ 1 none).before args s = true) (hf : 1 ≤ R.frames) (hlo : 64 ≤ R.locals) (hd : decode cc pc = .ok (.invokespecial idx, 3))
    (S : aSim D t B h s H) (hl : aL t B arr ls) (hn : ls.length = c.maxLocals) (hloc : ∀ q ∈ locs, B ≤ q.base) (hp : k_oini (pc + 3) ls st h = some k) (kk : aKK p l e R s m args below meth c Q D t B cells slots h k) : W p l e R s m args below meth c H locs cells slots Q (F0 m pc arr (st.map (vr t B))) := by
  obtain ⟨a, r, rfl, ⟨hr1, hr2⟩, rfl⟩ := k_oini_inv hp
  refine W.objInit hx hb hown hlk hin hco rfl (hl.1.trans hn) rfl hd hf ?_ (kk.use (i := 0) (j := 0) rfl rfl S hl hn hloc)
  rw [cats hr2]
  show 2 * 0 + _ + 12 ≤ _
  omega
theorem sp_gets {i : Nat} {n : String} (hx : p.tables.exec = Jvm.exec) (hb : c.code = cc) (hown : s.vm.findClass own = some m.cls) (hi : stNames[i]? = some n) (hlk : (Jvm.Cond.fieldLink own idx "WordHides" n "[I").before args s = true ∨ (Jvm.Cond.fieldLinkNest own idx "WordHides" n "[I" "WordHides").before args s = true) (hd : decode cc pc = .ok (.getstatic idx, 3))
    (S : aSim D t B h s H) (hl : aL t B arr ls) (hn : ls.length = c.maxLocals) (hloc : ∀ q ∈ locs, B ≤ q.base) (hp : k_push (.ref i) (pc + 3) ls st h = some k) (kk : aKK p l e R s m args below meth c Q D t B cells slots h k) : W p l e R s m args below meth c H locs cells slots Q (F0 m pc arr (st.map (vr t B))) := by
  have hi5 : i < 5 := by
    have := (List.getElem?_eq_some_iff.mp hi).1
    simp only [stNames, List.length_cons, List.length_nil] at this
    omega
  refine sp_push S hl hn hloc hp kk fun rest kw => ?_
  rw [vr_ref, aA_lt hi5] at kw
  obtain ⟨cf, kf, fi, f, a, cell, e1, e2, e3, e4, e5, e6, e7, e8⟩ := S.2.2.2.1 i n hi
  rcases hlk with hlk | hlk
  · exact W.gets hx hb hown hlk e1 e2 e3 e4 e5 (fun z => by rw [z] at e6; cases e6) e7 rfl hd kw
  · exact va_WgetsN hx hb hown hlk e1 e2 e3 e4 e5 (fun z => by rw [z] at e6; cases e6) e7 rfl hd kw
theorem sp_copy (hx : p.tables.exec = Jvm.exec) (hb : c.code = cc) (hown : s.vm.findClass own = some m.cls) (hlk : (Jvm.Cond.methodLink own idx arraycopyName).before args s = true) (hnat : (Jvm.Cond.native arraycopyName).before args s = true) (hsta : (Jvm.Cond.static arraycopyName).before args s = true) (hini : (Jvm.Cond.initialized "java/lang/System").before args s = true) (hf : 1 ≤ R.frames) (hlo : 64 ≤ R.locals) (hd : decode cc pc = .ok (.invokestatic idx, 3))
    (S : aSim D t B h s H) (hl : aL t B arr ls) (hn : ls.length = c.maxLocals) (hloc : ∀ q ∈ locs, B ≤ q.base) (hp : k_copy (pc + 3) ls st h = some k) (kk : aKK p l e R s m args below meth c Q D t B cells slots h k) : W p l e R s m args below meth c H locs cells slots Q (F0 m pc arr (st.map (vr t B))) := by
  obtain ⟨n, dp, b, sp, a, r, z, xs, u, ys, rfl, ha, hb', ⟨⟨rfl, rfl, rfl, rfl⟩, hn0, hnx, hny, hr1, hr2⟩, rfl⟩ := k_copy_inv hp
  rcases S.2.1 a _ ha with ⟨h1, -⟩ | ⟨-, ha5, cA, ea, tA⟩
  · cases h1
  rcases S.2.1 b _ hb' with ⟨h1, -⟩ | ⟨-, hb5, cB, eb, tB⟩
  · cases h1
  intro T hT X
  obtain ⟨-, kA, hkA, cmA, hkkA⟩ := tA xs.length (fun j => .int (xs.getD j 0))
  obtain ⟨-, kB, hkB, cmB, hkkB⟩ := tB ys.length (fun j => .int (ys.getD j 0))
  have n2 : n.toInt = (n.toNatClampNeg : Int) := by
    have hz0 : (0 : Int) ≤ n.toInt := by
      have := Int32.not_lt.mp hn0
      simpa using Int32.le_iff_toInt_le.mp this
    show n.toInt = ((n.toInt.toNat : Nat) : Int)
    omega
  have z0 : (0 : Int32).toInt = 0 := by decide
  have z1 : (0 : Int32).toNatClampNeg = 0 := by decide
  have rd : ∀ i, i < n.toNatClampNeg → (arrV cA xs.length (fun j => Value.int (xs.getD j 0))).slots.getD ((0 : Int32).toNatClampNeg + i) .null = .int (xs.getD i 0) := by
    intro i hi
    rw [z1, Nat.zero_add, Array.getD_eq_getD_getElem?, arrV_read _ _ (by omega)]
    rfl
  obtain ⟨vm', X', step⟩ := X.arraycopy hx hown hlk hnat hsta hini (src := aA t B a) (dst := aA t B b) (srcPos := 0) (destPos := 0) (n := n) (by rw [hT]; exact ea) (by rw [hT]; exact eb)
    (fun _ z => by cases z) (fun _ z => by cases z) (fun z => by cases z) (fun z => by cases z) hkA hkB hkkA hkkB (by decide) (by decide) (by decide) hn0
    (by rw [n2, z0, arrV_size]; omega) (by rw [n2, z0, arrV_size]; omega)
    (fun vm₁ _ i hi => by rw [rd i hi]; exact ⟨rfl, trivial⟩)
    (g := F0 m pc arr (.int n :: .int 0 :: .ref (aA t B b) :: .int 0 :: .ref (aA t B a) :: r.map (vr t B))) rfl (hl.1.trans hn) (rest := r.map (vr t B)) rfl (by rw [hb]; exact hd) hf
    (by rw [cats hr2]; show 2 * 0 + _ + (nativeFrameWords "java/lang/System" "arraycopy" 5 + 11) ≤ _; rw [show nativeFrameWords "java/lang/System" "arraycopy" 5 = 7 by decide +kernel]; omega)
  have ec : copied (arrV cA xs.length (fun j => Value.int (xs.getD j 0))) (arrV cB ys.length (fun j => Value.int (ys.getD j 0))) 0 0 n = arrV cB (xs.take n.toNatClampNeg ++ ys.drop n.toNatClampNeg).length (fun j => Value.int ((xs.take n.toNatClampNeg ++ ys.drop n.toNatClampNeg).getD j 0)) := by
    refine (va_copied (fun z => Value.int z) cA cB (sp := (0 : Int32).toNatClampNeg) (dp := (0 : Int32).toNatClampNeg) (fun j => xs.getD j 0) (fun j => ys.getD j 0) (by rw [z1, Nat.zero_add]; exact hnx)).trans ?_
    have el : (xs.take n.toNatClampNeg ++ ys.drop n.toNatClampNeg).length = ys.length := by
      simp only [List.length_append, List.length_take, List.length_drop]
      omega
    rw [el]
    congr 1
    funext j
    congr 1
    simp only [va_cpy, z1, Nat.zero_add, Nat.zero_le, true_and, Nat.sub_zero, List.getD_eq_getElem?_getD]
    by_cases hj : j < n.toNatClampNeg
    · rw [if_pos hj, List.getElem?_append_left (by simp only [List.length_take]; omega), List.getElem?_take_of_lt hj]
    · rw [if_neg hj, List.getElem?_append_right (by simp only [List.length_take]; omega), List.getElem?_drop]
      congr 3
      simp only [List.length_take]
      omega
  rw [ec] at X' step
  have hlt : aA t B b < T.heap.size := by rw [hT]; exact (Array.getElem?_eq_some_iff.mp eb).1
  obtain ⟨t2, a1, b1⟩ := kk.use (i := 0) (j := 0) (by simp) (asl_set hb' (by simp only [acs, List.length_append, List.length_take, List.length_drop]; omega))
    (S.set hb' hb5 (H1 := ((T.setVm vm').setCell (aA t B b) (arrV cB (xs.take n.toNatClampNeg ++ ys.drop n.toNatClampNeg).length (fun j => Value.int ((xs.take n.toNatClampNeg ++ ys.drop n.toNatClampNeg).getD j 0)))).heap) (by rw [size_setCell]; exact congrArg Array.size hT)
      (fun q hq => by rw [heapAt_setCell_ne _ (Ne.symm hq)]; exact congrArg (fun z : Heap => z[q]?) hT) (Or.inr ⟨by decide, hb5, cB, heapAt_setCell_self _ hlt, tB⟩)) hl hn
    (fun q hq => by
      rcases List.mem_append.mp hq with z | z
      · exact hloc q z
      · obtain ⟨w, -, hw⟩ := List.mem_map.mp z
        rw [← hw]
        show B ≤ aA t B b
        rw [aA_ge hb5]
        omega) _ rfl X'
  exact ⟨t2, step t2 a1, b1⟩
theorem sp_mm {f : Int32 → Int32 → Int32} (hlo : 64 ≤ R.locals) (S : aSim D t B h s H) (hl : aL t B arr ls) (hn : ls.length = c.maxLocals) (hloc : ∀ q ∈ locs, B ≤ q.base) (hp : k_mm f q ls st h = some k) (kk : aKK p l e R s m args below meth c Q D t B cells slots h k)
    (row : ∀ x y (rest : List Value), (rest.map fun v => v.category).sum + 13 ≤ R.locals → W p l e R s m args below meth c H locs cells slots Q (F0 m q arr (.int (f x y) :: rest)) → W p l e R s m args below meth c H locs cells slots Q (F0 m pc arr (.int y :: .int x :: rest))) : W p l e R s m args below meth c H locs cells slots Q (F0 m pc arr (st.map (vr t B))) := by
  obtain ⟨y, x, r, rfl, ⟨hr1, hr2⟩, rfl⟩ := k_mm_inv hp
  exact row _ _ _ (by rw [cats hr2]; omega) (kk.use (i := 0) (j := 0) rfl rfl S hl hn hloc)
end MR
