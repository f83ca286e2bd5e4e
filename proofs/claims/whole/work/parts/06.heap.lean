/-! what the tables must hold of an entry, to be looked at by a program -/
def gF (own : String) (idx j ci : Nat) (rf : String) : Bool := match vwCl[ci]? with
  | some r => decide (j < r.2.2) && (inT (Jvm.Cond.fieldLink own idx rf (r.2.1 j).2.1 (r.2.1 j).2.2.1) && (decide (rf = (r.2.1 j).1) || inT (Jvm.Cond.sameField rf (r.2.1 j).1 (r.2.1 j).2.1 (r.2.1 j).2.2.1)))
  | none => false
def gK (kd : Nat) (ty : FieldType) : Bool := match ty with
  | .int => kd == 0
  | .boolean => kd == 1
  | .object _ => kd == 2
  | .array _ => kd == 2
  | _ => false
def tyOf (T : u_T) (k : Nat) : FieldType := (parseFieldDescriptor (T k).2.2.1).getD .int
def gP (own nm : String) (j ci kd : Nat) : Bool := match vwCl[ci]? with
  | some r => gK kd (tyOf r.2.1 j) && (!(r.2.1 j).2.2.2 || (decide (nm = "<init>") && decide ((r.2.1 j).1 = own)))
  | none => false
/-- what is true of each class of the tables -/
def gCl (ci : Nat) (r : vw_C) : Bool := (List.range r.2.2).all (fun k => decide (parseFieldDescriptor (r.2.1 k).2.2.1 = some (tyOf r.2.1 k)) && inT (u_lay r.1 r.2.1 k) && decide (vp_V (dfl ci) k = defaultValue (tyOf r.2.1 k)) && (List.range r.2.2).all (fun j => decide (k = j) || decide ((r.2.1 k).2.1 ≠ (r.2.1 j).2.1)))
  && decide ((dfl ci).length = r.2.2) && inT (Jvm.Cond.instantiable r.1 r.2.2) && inT (Jvm.Cond.initialized r.1) && (dfl ci).all (fun v => decide (v = .int 0) || decide (v = .null))
theorem gCl_all : ∀ (ci : Nat) (r : vw_C), vwCl[ci]? = some r → gCl ci r = true := by
  intro ci r h
  match ci, h with
  | 0, h => cases h; decide +kernel
  | 1, h => cases h; decide +kernel
  | 2, h => cases h; decide +kernel
  | 3, h => cases h; decide +kernel
  | 4, h => cases h; decide +kernel
  | 5, h => cases h; decide +kernel
  | 6, h => cases h; decide +kernel
  | 7, h => cases h; decide +kernel
  | 8, h => cases h; decide +kernel
  | ci + 9, h => simp [vwCl] at h
theorem gCl_at {ci : Nat} {r : vw_C} (h : vwCl[ci]? = some r) : (∀ k, k < r.2.2 → parseFieldDescriptor (r.2.1 k).2.2.1 = some (tyOf r.2.1 k)) ∧ (∀ w ∈ u_ws r.1 r.2.1 r.2.2, w ∈ gtbl) ∧ (∀ k, k < r.2.2 → vp_V (dfl ci) k = defaultValue (tyOf r.2.1 k)) ∧ (∀ a, a < r.2.2 → ∀ b, b < r.2.2 → a ≠ b → (r.2.1 a).2.1 ≠ (r.2.1 b).2.1) ∧ (dfl ci).length = r.2.2 ∧ Jvm.Cond.instantiable r.1 r.2.2 ∈ gtbl ∧ Jvm.Cond.initialized r.1 ∈ gtbl ∧ ∀ v ∈ dfl ci, v = .int 0 ∨ v = .null := by
  have g := gCl_all ci r h
  simp only [gCl, Bool.and_eq_true, List.all_eq_true, List.mem_range, decide_eq_true_eq, Bool.or_eq_true] at g
  obtain ⟨⟨⟨⟨g1, g2⟩, g3⟩, g4⟩, g5⟩ := g
  refine ⟨fun k hk => (g1 k hk).1.1.1, fun w hw => ?_, fun k hk => (g1 k hk).1.2, fun a ha b hb hab => ?_, g2, inT_mem g3, inT_mem g4, g5⟩
  · obtain ⟨k, hk, rfl⟩ := List.mem_map.mp hw
    exact inT_mem (g1 k (List.mem_range.mp hk)).1.1.2
  · rcases (g1 a ha).2 b hb with z | z
    · exact absurd z hab
    · exact z
theorem fit_ok {t : Nat → Nat} {B kd : Nat} {ty : FieldType} {v : Value} (hg : gK kd ty = true) (hf : fitK kd v = true) : narrow ty (vr t B v) = vr t B v ∧ fits ty (vr t B v) = true := by
  cases ty <;> simp [gK] at hg <;> subst hg <;> cases v <;> simp [fitK] at hf <;> first
    | exact ⟨rfl, rfl⟩
    | (rcases hf with rfl | rfl
       · exact ⟨show narrow .boolean (.int 0) = .int 0 by decide, show fits .boolean (.int 0) = true by decide⟩
       · exact ⟨show narrow .boolean (.int 1) = .int 1 by decide, show fits .boolean (.int 1) = true by decide⟩)
theorem arr_st {xs : List Int32} {i : Nat} {x : Int32} (hi : i < xs.length) : updV (fun j => .int (xs.getD j 0)) i (.int x) = fun j => .int ((xs.set i x).getD j 0) := by
  funext j
  simp only [updV, List.getD_eq_getElem?_getD]
  by_cases hj : j = i
  · subst hj
    simp [hi]
  · simp [hj, List.getElem?_set_ne (Ne.symm hj)]
section INV
variable {h : aH} {ls st : List Value} {q : Nat} {k : aK}
theorem k_getf_inv {j c0 c1 : Nat} (hp : k_getf j c0 c1 q ls st h = some k) : ∃ a r ci fs v, st = .ref a :: r ∧ h[a]? = some (.inl (ci, fs)) ∧ (ci = c0 ∨ ci = c1) ∧ fs[j]? = some v ∧ k = (q, ls, v :: r, h) := by
  unfold k_getf at hp
  repeat' split at hp
  all_goals first | (cases hp; done) | exact ⟨_, _, _, _, _, rfl, by assumption, by assumption, by assumption, (Option.some.inj hp).symm⟩
theorem k_putf_inv {j c0 c1 kd : Nat} (hp : k_putf j c0 c1 kd q ls st h = some k) : ∃ v a r ci fs, st = v :: .ref a :: r ∧ h[a]? = some (.inl (ci, fs)) ∧ ((ci = c0 ∨ ci = c1) ∧ j < fs.length ∧ fitK kd v = true) ∧ k = (q, ls, r, h.set a (.inl (ci, fs.set j v))) := by
  unfold k_putf at hp
  repeat' split at hp
  all_goals first | (cases hp; done) | exact ⟨_, _, _, _, _, rfl, by assumption, by assumption, (Option.some.inj hp).symm⟩
theorem k_iald_inv (hp : k_iald q ls st h = some k) : ∃ i a r z xs x, st = .int i :: .ref a :: r ∧ h[a]? = some (.inr (.inl (z, xs))) ∧ ((z = 0 ∨ z = 2) ∧ ¬ i < 0) ∧ xs[i.toNatClampNeg]? = some x ∧ k = (q, ls, .int x :: r, h) := by
  unfold k_iald at hp
  repeat' split at hp
  all_goals first | (cases hp; done) | exact ⟨_, _, _, _, _, _, rfl, by assumption, by assumption, by assumption, (Option.some.inj hp).symm⟩
theorem k_zald_inv (hp : k_zald q ls st h = some k) : ∃ i a r z xs x, st = .int i :: .ref a :: r ∧ h[a]? = some (.inr (.inl (z, xs))) ∧ (z = 1 ∧ ¬ i < 0) ∧ xs[i.toNatClampNeg]? = some x ∧ k = (q, ls, .int x :: r, h) := by
  unfold k_zald at hp
  repeat' split at hp
  all_goals first | (cases hp; done) | exact ⟨_, _, _, _, _, _, rfl, by assumption, by assumption, by assumption, (Option.some.inj hp).symm⟩
theorem k_iast_inv (hp : k_iast q ls st h = some k) : ∃ x i a r z xs, st = .int x :: .int i :: .ref a :: r ∧ h[a]? = some (.inr (.inl (z, xs))) ∧ (z = 0 ∧ ¬ i < 0 ∧ i.toNatClampNeg < xs.length) ∧ k = (q, ls, r, h.set a (.inr (.inl (0, xs.set i.toNatClampNeg x)))) := by
  unfold k_iast at hp
  repeat' split at hp
  all_goals first | (cases hp; done) | exact ⟨_, _, _, _, _, _, rfl, by assumption, by assumption, (Option.some.inj hp).symm⟩
theorem k_zast_inv (hp : k_zast q ls st h = some k) : ∃ x i a r z xs, st = .int x :: .int i :: .ref a :: r ∧ h[a]? = some (.inr (.inl (z, xs))) ∧ (z = 1 ∧ (x = 0 ∨ x = 1) ∧ ¬ i < 0 ∧ i.toNatClampNeg < xs.length) ∧ k = (q, ls, r, h.set a (.inr (.inl (1, xs.set i.toNatClampNeg x)))) := by
  unfold k_zast at hp
  repeat' split at hp
  all_goals first | (cases hp; done) | exact ⟨_, _, _, _, _, _, rfl, by assumption, by assumption, (Option.some.inj hp).symm⟩
theorem k_aald_inv (hp : k_aald q ls st h = some k) : ∃ i a r z os o, st = .int i :: .ref a :: r ∧ h[a]? = some (.inr (.inr (z, os))) ∧ ¬ i < 0 ∧ os[i.toNatClampNeg]? = some o ∧ k = (q, ls, va_rf o :: r, h) := by
  unfold k_aald at hp
  repeat' split at hp
  all_goals first | (cases hp; done) | exact ⟨_, _, _, _, _, _, rfl, by assumption, by assumption, by assumption, (Option.some.inj hp).symm⟩
theorem k_aast_inv (hp : k_aast q ls st h = some k) : ∃ v i a r e os ci fs, st = .ref v :: .int i :: .ref a :: r ∧ h[a]? = some (.inr (.inr (e, os))) ∧ h[v]? = some (.inl (ci, fs)) ∧ (ci = e ∧ ¬ i < 0 ∧ i.toNatClampNeg < os.length) ∧ k = (q, ls, r, h.set a (.inr (.inr (e, os.set i.toNatClampNeg (some v))))) := by
  unfold k_aast at hp
  repeat' split at hp
  all_goals first | (cases hp; done) | exact ⟨_, _, _, _, _, _, _, _, rfl, by assumption, by assumption, by assumption, (Option.some.inj hp).symm⟩
theorem k_alen_inv (hp : k_alen q ls st h = some k) : ∃ a r z xs, st = .ref a :: r ∧ h[a]? = some (.inr (.inl (z, xs))) ∧ k = (q, ls, .int (Int32.ofNat xs.length) :: r, h) := by
  unfold k_alen at hp
  repeat' split at hp
  all_goals first | (cases hp; done) | exact ⟨_, _, _, _, rfl, by assumption, (Option.some.inj hp).symm⟩
end INV
section HP
variable {p : Program} {l : Launch} {e : Env} {R : Room} {s : State} {m : MethodId} {args : Array Value} {below : List Frame} {meth : Method} {c : Code} {H : Heap} {locs : List Loc} {cells slots : Nat} {Q : State → Prop}
variable {D : va_G} {t : Nat → Nat} {B : Nat} {h : aH} {arr : Array Slot} {ls st : List Value} {pc q : Nat} {cc : ByteArray} {k : aK} {own rf : String} {idx : Nat}
theorem gF_at {j ci : Nat} {r : vw_C} (hts : ∀ w ∈ gtbl, w.before args s = true) (hr : vwCl[ci]? = some r) (g : gF own idx j ci rf = true) : j < r.2.2 ∧ (Jvm.Cond.fieldLink own idx rf (r.2.1 j).2.1 (r.2.1 j).2.2.1).before args s = true ∧ ∀ x, s.fieldFound? (r.2.1 j).1 (r.2.1 j).2.1 (r.2.1 j).2.2.1 = some x → s.fieldFound? rf (r.2.1 j).2.1 (r.2.1 j).2.2.1 = some x := by
  unfold gF at g
  rw [hr] at g
  simp only [Bool.and_eq_true, decide_eq_true_eq, Bool.or_eq_true] at g
  obtain ⟨g1, g2, g3⟩ := g
  refine ⟨g1, hts _ (inT_mem g2), fun x hx => ?_⟩
  rcases g3 with z | z
  · rw [z]; exact hx
  · exact u_same (hts _ (inT_mem z)) x hx
theorem sp_getf {j c0 c1 : Nat} (hx : p.tables.exec = Jvm.exec) (hb : c.code = cc) (hts : ∀ w ∈ gtbl, w.before args s = true) (hown : s.vm.findClass own = some m.cls) (g0 : gF own idx j c0 rf = true) (g1 : gF own idx j c1 rf = true) (hd : decode cc pc = .ok (.getfield idx, 3))
    (S : aSim D t B h s H) (hl : aL t B arr ls) (hn : ls.length = c.maxLocals) (hloc : ∀ q ∈ locs, B ≤ q.base) (hp : k_getf j c0 c1 (pc + 3) ls st h = some k) (kk : aKK p l e R s m args below meth c Q D t B cells slots h k) : W p l e R s m args below meth c H locs cells slots Q (F0 m pc arr (st.map (vr t B))) := by
  obtain ⟨a, r, ci, fs, v, rfl, ha, hc, hv, rfl⟩ := k_getf_inv hp
  obtain ⟨h5, ⟨C, T, N⟩, hr, hlen, hob⟩ := S.2.1 a _ ha
  have g : gF own idx j ci rf = true := by rcases hc with rfl | rfl <;> assumption
  obtain ⟨hj, hlk, hsame⟩ := gF_at hts hr g
  have hP : va_P D vwCl [(aA t B a, .inr (ci, fs.map (vr t B)))] H := by
    intro k' q' hq'
    cases k' with
    | zero => cases hq'; exact ⟨_, hr, hob⟩
    | succ n => simp at hq'
  exact va_get (D := D) (cl := vwCl) (tys := []) (C := C) (T := T) (N := N) hx hb hts (gCl_at hr).2.1 hown S.1 hP 0 rfl hr j hj hlk hsame (v := vr t B v) (by rw [List.getElem?_map, hv]; rfl) hd (kk.use (i := 0) (j := 0) rfl rfl S hl hn hloc)
theorem sp_putf {j c0 c1 kd : Nat} {nm : String} (hx : p.tables.exec = Jvm.exec) (hb : c.code = cc) (hts : ∀ w ∈ gtbl, w.before args s = true) (hown : s.vm.findClass own = some m.cls) (hnm : nm = "<init>" → meth.name = "<init>") (g0 : gF own idx j c0 rf = true) (g1 : gF own idx j c1 rf = true) (p0 : gP own nm j c0 kd = true) (p1 : gP own nm j c1 kd = true) (hd : decode cc pc = .ok (.putfield idx, 3))
    (S : aSim D t B h s H) (hl : aL t B arr ls) (hn : ls.length = c.maxLocals) (hloc : ∀ q ∈ locs, B ≤ q.base) (hp : k_putf j c0 c1 kd (pc + 3) ls st h = some k) (kk : aKK p l e R s m args below meth c Q D t B cells slots h k) : W p l e R s m args below meth c H locs cells slots Q (F0 m pc arr (st.map (vr t B))) := by
  obtain ⟨v, a, r, ci, fs, rfl, ha, hc, rfl⟩ := k_putf_inv hp
  obtain ⟨hci, hjl, hfk⟩ := hc
  obtain ⟨h5, ⟨C, T, N⟩, hr, hlen, cell, q1, q2, q3, q4⟩ := S.2.1 a _ ha
  have g : gF own idx j ci rf = true := by rcases hci with rfl | rfl <;> assumption
  have gp : gP own nm j ci kd = true := by rcases hci with rfl | rfl <;> assumption
  obtain ⟨hj, hlk, hsame⟩ := gF_at hts hr g
  obtain ⟨y1, y2, y3, y4, -⟩ := gCl_at hr
  unfold gP at gp
  rw [hr] at gp
  simp only [Bool.and_eq_true, decide_eq_true_eq, Bool.or_eq_true, Bool.not_eq_true'] at gp
  obtain ⟨gk, gfin⟩ := gp
  obtain ⟨hnar, hfit⟩ := fit_ok (t := t) (B := B) gk hfk
  have hap := va_apart (own := own) hts y2 (tyOf T) y1 y4 S.1 hr
  obtain ⟨hS, hfc, kC, hkC, hkind⟩ := S.1.1 ci _ hr
  obtain ⟨cf, kf, fi, f, hi, hsl⟩ := hS j hj
  have hst := (u_facts hfc hkC (u_lays hts y2 hj) hi).1
  have fin : ∀ (H' : Heap) (lc : List Loc), H'[aA t B a]? = some (cell.setSlot f.slot (vr t B v)) → H'.size = H.size → (∀ q, q ≠ aA t B a → H'[q]? = H[q]?) → (∀ q ∈ lc, B ≤ q.base) → W p l e R s m args below meth c H' lc cells slots Q (F0 m (pc + 3) arr (r.map (vr t B))) := by
    intro H' lc e1 e2 e3 hlc
    rw [hsl] at e1
    refine kk.use (i := 0) (j := 0) (by simp) (asl_set ha (by simp [acs])) (S.set ha h5 e2 e3 ⟨h5, ⟨C, T, N⟩, hr, by simpa using hlen, t_OB.to (V := updV (vp_V (fs.map (vr t B))) j (vr t B v)) ⟨_, e1, q2, q3, t_set q4 hap hj _⟩ (fun i _ => ?_)⟩) hl hn hlc
    rw [vp_updV_set (by simpa using hjl), List.map_set]
  have hlc : ∀ q ∈ locs ++ [(⟨aA t B a, f.slot⟩ : Loc)], B ≤ q.base := loc_app hloc (by rw [aA_ge h5]; omega)
  have hlay := hts _ (y2 _ (u_in_lay hj))
  unfold u_lay at hlay
  by_cases hf : (T j).2.2.2 = true
  · rw [if_pos hf] at hlay
    obtain ⟨gi, go⟩ : nm = "<init>" ∧ (T j).1 = own := by
      rcases gfin with z | z
      · rw [hf] at z; cases z
      · exact z
    have hcf : m.cls = cf := by
      obtain ⟨_, _, c', _, _, _, -, -, hf', -, -, -, hown2, -⟩ := Cond.laysFinal_spec hlay
      have e1 : c' = cf := by have := hi.symm.trans hf'; simp at this; exact this.1.symm
      rw [go] at hown2
      rw [← e1]; exact Option.some.inj (hown.symm.trans hown2)
    have h6 := u_fits hfc hkC hkind (Or.inr hlay) hi (y1 j hj) hnar hfit
    exact W.putFinK hx hb hown hlk (hsame _ hi) hst hcf (hnm gi) (by rw [q2]; exact h6) q1 q3 (by rw [hsl]; exact k2_hasslot (q4 j hj)) rfl rfl hd fun H' e1 e2 e3 => fin H' _ e1 e2 e3 hlc
  · rw [if_neg hf] at hlay
    have h6 := u_store hfc hkC hkind hlay hi (y1 j hj) hnar hfit
    exact W.putK hx hb (f := f) ⟨hown, hlk, ⟨_, _, _, hsame _ hi⟩, hst⟩ (by rw [q2]; exact h6) q1 q3 (by rw [hsl]; exact k2_hasslot (q4 j hj)) rfl rfl hd fun H' e1 e2 e3 => fin H' _ e1 e2 e3 hlc
theorem sp_iald (hx : p.tables.exec = Jvm.exec) (hb : c.code = cc) (hd : decode cc pc = .ok (.iaload, 1))
    (S : aSim D t B h s H) (hl : aL t B arr ls) (hn : ls.length = c.maxLocals) (hloc : ∀ q ∈ locs, B ≤ q.base) (hp : k_iald (pc + 1) ls st h = some k) (kk : aKK p l e R s m args below meth c Q D t B cells slots h k) : W p l e R s m args below meth c H locs cells slots Q (F0 m pc arr (st.map (vr t B))) := by
  obtain ⟨i, a, r, z, xs, x, rfl, ha, hc, hxs, rfl⟩ := k_iald_inv hp
  have hlt := (List.getElem?_eq_some_iff.mp hxs).1
  have hg : xs.getD i.toNatClampNeg 0 = x := by simp [List.getD_eq_getElem?_getD, hxs]
  have kw := kk.use (i := 0) (j := 0) rfl rfl S hl hn hloc
  rcases S.2.1 a _ ha with ⟨h1, h2, cell, e1, e2, e3, e4, e5, e6, e7⟩ | ⟨h1, h2, cA, h3, h4⟩
  · exact W.iald (v := .int x) hx hb e1 e2 e3 (fun z => z.elim hc.2 (fun z => by omega)) (by rw [e6 _ hlt]; exact congrArg (fun z => some (Value.int z)) hg) rfl rfl hd kw
  · have hz : z = 0 := hc.1.elim id (fun z0 => absurd z0 h1)
    subst hz
    exact W.iald (v := .int x) hx hb h3 (h4 _ _) (fun z => by cases z) (by rw [arrV_size]; exact fun z => z.elim hc.2 (fun z => by omega)) (by rw [arrV_read _ _ hlt, hg]) rfl rfl hd kw
theorem sp_zald (hx : p.tables.exec = Jvm.exec) (hb : c.code = cc) (hd : decode cc pc = .ok (.baload, 1))
    (S : aSim D t B h s H) (hl : aL t B arr ls) (hn : ls.length = c.maxLocals) (hloc : ∀ q ∈ locs, B ≤ q.base) (hp : k_zald (pc + 1) ls st h = some k) (kk : aKK p l e R s m args below meth c Q D t B cells slots h k) : W p l e R s m args below meth c H locs cells slots Q (F0 m pc arr (st.map (vr t B))) := by
  obtain ⟨i, a, r, z, xs, x, rfl, ha, hc, hxs, rfl⟩ := k_zald_inv hp
  have hlt := (List.getElem?_eq_some_iff.mp hxs).1
  have hg : xs.getD i.toNatClampNeg 0 = x := by simp [List.getD_eq_getElem?_getD, hxs]
  have kw := kk.use (i := 0) (j := 0) rfl rfl S hl hn hloc
  obtain ⟨hz, hi⟩ := hc
  subst hz
  rcases S.2.1 a _ ha with ⟨h1, -⟩ | ⟨h1, h2, cA, h3, h4⟩
  · cases h1
  · exact W.zald (v := .int x) hx hb h3 (h4 _ _) (fun z => by cases z) (by rw [arrV_size]; exact fun z => z.elim hi (fun z => by omega)) (by rw [arrV_read _ _ hlt, hg]) rfl rfl hd kw
theorem sp_iast (hx : p.tables.exec = Jvm.exec) (hb : c.code = cc) (hd : decode cc pc = .ok (.iastore, 1))
    (S : aSim D t B h s H) (hl : aL t B arr ls) (hn : ls.length = c.maxLocals) (hloc : ∀ q ∈ locs, B ≤ q.base) (hp : k_iast (pc + 1) ls st h = some k) (kk : aKK p l e R s m args below meth c Q D t B cells slots h k) : W p l e R s m args below meth c H locs cells slots Q (F0 m pc arr (st.map (vr t B))) := by
  obtain ⟨x, i, a, r, z, xs, rfl, ha, hc, rfl⟩ := k_iast_inv hp
  obtain ⟨hz, hi, hlt⟩ := hc
  subst hz
  rcases S.2.1 a _ ha with ⟨h1, -⟩ | ⟨h1, h2, cA, h3, h4⟩
  · cases h1
  · refine W.iast hx hb h3 (h4 _ _) (fun z => by cases z) (by rw [arrV_size]; exact fun z => z.elim hi (fun z => by omega)) rfl rfl hd fun H' e1 e2 e3 => ?_
    refine kk.use (i := 0) (j := 0) (by simp) (asl_set ha (by simp [acs])) (S.set ha h2 e2 e3 (Or.inr ⟨by decide, h2, cA, ?_, h4⟩)) hl hn (loc_app hloc (by rw [aA_ge h2]; omega))
    rw [e1, arrV_store, arr_st hlt, List.length_set]
theorem sp_zast (hx : p.tables.exec = Jvm.exec) (hb : c.code = cc) (hd : decode cc pc = .ok (.bastore, 1))
    (S : aSim D t B h s H) (hl : aL t B arr ls) (hn : ls.length = c.maxLocals) (hloc : ∀ q ∈ locs, B ≤ q.base) (hp : k_zast (pc + 1) ls st h = some k) (kk : aKK p l e R s m args below meth c Q D t B cells slots h k) : W p l e R s m args below meth c H locs cells slots Q (F0 m pc arr (st.map (vr t B))) := by
  obtain ⟨x, i, a, r, z, xs, rfl, ha, hc, rfl⟩ := k_zast_inv hp
  obtain ⟨hz, hx01, hi, hlt⟩ := hc
  subst hz
  rcases S.2.1 a _ ha with ⟨h1, -⟩ | ⟨h1, h2, cA, h3, h4⟩
  · cases h1
  · refine W.zast hx hb h3 (h4 _ _) (fun z => by cases z) (by rw [arrV_size]; exact fun z => z.elim hi (fun z => by omega)) rfl rfl hd fun H' e1 e2 e3 => ?_
    have hnar : narrow .boolean (.int x) = .int x := by rcases hx01 with rfl | rfl <;> decide
    rw [hnar] at e1
    refine kk.use (i := 0) (j := 0) (by simp) (asl_set ha (by simp [acs])) (S.set ha h2 e2 e3 (Or.inr ⟨by decide, h2, cA, ?_, h4⟩)) hl hn (loc_app hloc (by rw [aA_ge h2]; omega))
    rw [e1, arrV_store, arr_st hlt, List.length_set]
theorem sp_aald (hx : p.tables.exec = Jvm.exec) (hb : c.code = cc) (hd : decode cc pc = .ok (.aaload, 1))
    (S : aSim D t B h s H) (hl : aL t B arr ls) (hn : ls.length = c.maxLocals) (hloc : ∀ q ∈ locs, B ≤ q.base) (hp : k_aald (pc + 1) ls st h = some k) (kk : aKK p l e R s m args below meth c Q D t B cells slots h k) : W p l e R s m args below meth c H locs cells slots Q (F0 m pc arr (st.map (vr t B))) := by
  obtain ⟨i, a, r, z, os, o, rfl, ha, hi, ho, rfl⟩ := k_aald_inv hp
  have hlt := (List.getElem?_eq_some_iff.mp ho).1
  obtain ⟨h1, r', cA, h2, h3, h4, h5⟩ := S.2.1 a _ ha
  have hg : va_rf (aOn t B os i.toNatClampNeg) = vr t B (va_rf o) := by rw [vr_rf]; simp [aOn, List.getD_eq_getElem?_getD, ho]
  exact W.aald (v := vr t B (va_rf o)) (ty := .object r'.1) hx hb h3 (h4 _ _) rfl (fun z => by cases z) (by rw [arrV_size]; exact fun z => z.elim hi (fun z => by omega)) (by rw [arrV_read _ _ hlt, hg]) rfl rfl hd (kk.use (i := 0) (j := 0) rfl rfl S hl hn hloc)
theorem sp_aast (hx : p.tables.exec = Jvm.exec) (hb : c.code = cc) (hd : decode cc pc = .ok (.aastore, 1))
    (S : aSim D t B h s H) (hl : aL t B arr ls) (hn : ls.length = c.maxLocals) (hloc : ∀ q ∈ locs, B ≤ q.base) (hp : k_aast (pc + 1) ls st h = some k) (kk : aKK p l e R s m args below meth c Q D t B cells slots h k) : W p l e R s m args below meth c H locs cells slots Q (F0 m pc arr (st.map (vr t B))) := by
  obtain ⟨v, i, a, r, z, os, ci, fs, rfl, ha, hv, hc, rfl⟩ := k_aast_inv hp
  obtain ⟨rfl, hi, hlt⟩ := hc
  obtain ⟨h1, r', cA, h2, h3, h4, h5⟩ := S.2.1 a _ ha
  obtain ⟨v5, r'', hr'', hlen, cellV, g1, g2, g3, g4⟩ := S.2.1 v _ hv
  have hrr : r'' = r' := Option.some.inj (hr''.symm.trans h2)
  subst hrr
  obtain ⟨hS, hcls⟩ := S.1.1 _ _ h2
  obtain ⟨kA, comp, k1, k2, k3, k4⟩ := h5
  have hcomp : comp = D.1 ci := Option.some.inj (k3.symm.trans hcls.1)
  subst hcomp
  obtain ⟨kC, hkC, hkk⟩ := hcls.2
  refine W.aast hx hb h3 (fun q z => by cases z) (fun z => by cases z) k1 k2 rfl hkC ⟨hi, by rw [arrV_size]; exact hlt⟩ g1 (fun q z => by rw [g3] at z; cases z) (by rw [g2]; exact hkC) (by rw [g2]; exact va_assign hcls) rfl rfl hd fun H' e1 e2 e3 => ?_
  refine kk.use (i := 0) (j := 0) (by simp) (asl_set ha (by simp [acs])) (S.set ha h1 e2 e3 ⟨h1, r'', cA, h2, ?_, h4, ⟨kA, _, k1, k2, k3, k4⟩⟩) hl hn (loc_app hloc (by rw [aA_ge h1]; omega))
  rw [e1, arrV_store, List.length_set]
  congr 2
  funext j
  by_cases hj : j = i.toNatClampNeg
  · subst hj
    simp [updV, aOn, List.getD_eq_getElem?_getD, hlt, va_rf]
  · simp [updV, aOn, List.getD_eq_getElem?_getD, hj, List.getElem?_set_ne (Ne.symm hj)]
theorem sp_alen (hx : p.tables.exec = Jvm.exec) (hb : c.code = cc) (hd : decode cc pc = .ok (.arraylength, 1))
    (S : aSim D t B h s H) (hl : aL t B arr ls) (hn : ls.length = c.maxLocals) (hloc : ∀ q ∈ locs, B ≤ q.base) (hp : k_alen (pc + 1) ls st h = some k) (kk : aKK p l e R s m args below meth c Q D t B cells slots h k) : W p l e R s m args below meth c H locs cells slots Q (F0 m pc arr (st.map (vr t B))) := by
  obtain ⟨a, r, z, xs, rfl, ha, rfl⟩ := k_alen_inv hp
  have kw := kk.use (i := 0) (j := 0) rfl rfl S hl hn hloc
  rcases S.2.1 a _ ha with ⟨h1, h2, cell, e1, e2, e3, e4, e5, e6, e7⟩ | ⟨h1, h2, cA, h3, h4⟩
  · exact W.alen (n := Int32.ofNat xs.length) hx hb e1 e2 e5 rfl rfl hd kw
  · exact W.alen (n := Int32.ofNat xs.length) hx hb h3 (h4 _ _) (by rw [arrV_size]) rfl rfl hd kw
end HP
