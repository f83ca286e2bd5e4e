/-! THE CLAIM OUT OF ONE WALK OF THE LAW'S BODY. Your part is whole_start (and what it stands on); all else here is the same for every law, but numbers. -/
def R_law : String := "WordHidesLaw"
def lw_P (b : Addr) (xs : List Int32) (args : Array Value) (s : State) : Prop := args = #[.ref b] ∧ s.IntsAt b xs ∧ xs.length ≤ 2048 ∧ (Jvm.Cond.and given_1 narrow_1).before args s = true
def lw_Q (_ : Array Value) (s : State) (o : Outcome) (t : State) : Prop := o = .returned (some (.int 1)) ∧ Framed s o t [] 600000 7302250
def lw_Z (below : List Frame) (a : Array Value) (s : State) : State → Prop := fun t => ∃ o, t.status = .running ∧ Ended t below o ∧ lw_Q a s o t
/-- the law's own end, with 1 on the stack, nothing written that was there before, its room as the claim has it -/
theorem lw_ret {p : Program} {l : Launch} {e : Env} {s : State} {m : MethodId} {below : List Frame} {meth : Method} {c : Code} {b : Nat} (hx : p.tables.exec = Jvm.exec) (hb : c.code = code) (hr : meth.sig.returnType = ret) (hlocks : meth.locks = false) {pc : Nat} {H : Heap} {ls : Array Slot} (hdg : decode code pc = .ok (.ireturn, 1)) : W p l e room_1 s m #[Value.ref b] below meth c H [] 600000 7302250 (lw_Z below #[Value.ref b] s) (F0 m pc ls [.int 1]) := by
  intro T hT X
  obtain ⟨fs, hret, hrun, hended, hW, hframe⟩ := X.leave (v := some (.int 1)) (hlocks := hlocks) (fun h => by rw [hr] at h; cases h)
  have hmeth' : T.vm.method? m = some meth := X.method'
  refine ⟨T.setFrames fs, ?_, .returned (some (.int 1)), hrun, hended, rfl, ⟨_, rfl⟩, hW, hframe⟩
  jvm_step X.here [X.here.top, hx, hb, hdg, hmeth', hr, ret, narrow_b1]
  (try refine ⟨rfl, ?_⟩); (try refine ⟨rfl, ?_⟩)
  first | (intro acts; rw [hret _ acts rfl rfl rfl]) | rw [hret _ _ rfl rfl rfl]
  exact Steps.refl _
/-- what holds at the law's entry: the machine, the code, the tables' words (any of lw_tbl by 'hts w (by decide +kernel)'), the script of L ints xs at the cell b, what the Statement gives of the start (any of its parts by flat_of_before) -/
def lw_At (p : Program) (s : State) (m : MethodId) (meth : Method) (c : Code) (b L : Nat) (xs : Nat → Int32) : Prop :=
  p.tables.exec = Jvm.exec ∧ c.code = code ∧ meth.sig.returnType = ret ∧ c.maxLocals = 4 ∧ s.vm.findClass R_law = some m.cls ∧ (∀ w ∈ lw_tbl, w.before #[Value.ref b] s = true) ∧ va_X b L xs s s.heap ∧ b < s.heap.size ∧ meth.locks = false ∧ (Jvm.Cond.and given_1 narrow_1).before #[Value.ref b] s = true

/-- what was there before: the static rows, the script -/
def h0 (xs : List Int32) : aH := [.inr (.inl (2, [0, 1, 1, 1, 0, -1, -1, -1])), .inr (.inl (2, [1, 1, 0, -1, -1, -1, 0, 1])), .inr (.inl (2, [3, 2, 1])), .inr (.inl (2, [4, 4, 9])), .inr (.inl (2, xs))]
/-- the law over the small machine, for one script -/
def LawRuns (xs : List Int32) : Prop := ∃ h', go 40 123 0 [.ref 4, aU, aU, aU] [] (h0 xs) = some (some (.int 1), h') ∧ h'.length ≤ 600 ∧ asl h' ≤ 20000
section ST
variable {s : State} {args : Array Value}
theorem st_row {n : String} {N : Nat} {xs : List Int32} (hts : ∀ w ∈ lw_tbl, w.before args s = true) (hs : ∀ w ∈ flatC (Jvm.Cond.and given_1 narrow_1), w.before args s = true) (hN : N < 2 ^ 31) (hxs : xs.length = N)
    (h1 : Jvm.Cond.arrayOf (.static "WordHides" n "[I") .int ∈ flatC (Jvm.Cond.and given_1 narrow_1)) (h2 : Jvm.Cond.eq (.length (.static "WordHides" n "[I")) (.int (Int32.ofNat N)) ∈ flatC (Jvm.Cond.and given_1 narrow_1))
    (h3 : ∀ j, j < N → Jvm.Cond.eq (.elem (.static "WordHides" n "[I") (.int (Int32.ofNat j))) (.int (xs.getD j 0)) ∈ flatC (Jvm.Cond.and given_1 narrow_1))
    (h4 : Jvm.Cond.laysStatic "WordHides" n "[I" ∈ lw_tbl) (h5 : Jvm.Cond.initialized "WordHides" ∈ lw_tbl) :
    ∃ a, va_T .int a xs.length (fun j => .int (xs.getD j 0)) (fun q => s.heap.size ≤ q) s s.heap ∧ va_Z "WordHides" n "[I" (.ref a) (fun q => s.heap.size ≤ q) s s.heap := by
  have hA : ∀ a : Nat, a < s.heap.size → ¬ (fun q => s.heap.size ≤ q) a := fun a h => Nat.not_le.mpr h
  obtain ⟨a, e1, e2⟩ := va_Tof (A := fun q => s.heap.size ≤ q) (f := fun j => .int (xs.getD j 0)) hN (hs _ h1) (va_eqt (hs _ h2)) (fun j hj => va_eqt (hs _ (h3 j hj))) hA
  rw [hxs]
  exact ⟨a, e2, va_Zof (hts _ h4) (hts _ h5) e1 hA⟩
end ST
set_option maxRecDepth 100000 in
set_option maxHeartbeats 4000000 in
theorem start_of {p : Program} {e : Env} {s : State} {m : MethodId} {below : List Frame} {meth : Method} {c : Code} (l : Launch) {b L : Nat} {xs : Nat → Int32} (hL : L ≤ 2048) (C0 : lw_At p s m meth c b L xs) (hlaw : LawRuns ((List.range L).map xs)) : W p l e room_1 s m #[Value.ref b] below meth c s.heap [] 0 0 (lw_Z below #[Value.ref b] s) (entryFrame m ([Value.ref b] : List Value).toArray 4) := by
  obtain ⟨hx, hb, hr, hml, hown, hts, hX, hbl, hlocks, hgv⟩ := id C0
  have hs := flat_of_before _ hgv
  obtain ⟨t0, T0, Z0⟩ := st_row (n := "ROW_STEPS") (xs := [0, 1, 1, 1, 0, -1, -1, -1]) hts hs (N := 8) (by decide) rfl (by decide +kernel) (by decide +kernel) (by decide +kernel) (by decide +kernel) (by decide +kernel)
  obtain ⟨t1, T1, Z1⟩ := st_row (n := "COLUMN_STEPS") (xs := [1, 1, 0, -1, -1, -1, 0, 1]) hts hs (N := 8) (by decide) rfl (by decide +kernel) (by decide +kernel) (by decide +kernel) (by decide +kernel) (by decide +kernel)
  obtain ⟨t2, T2, Z2⟩ := st_row (n := "LEAST_LETTERS") (xs := [3, 2, 1]) hts hs (N := 3) (by decide) rfl (by decide +kernel) (by decide +kernel) (by decide +kernel) (by decide +kernel) (by decide +kernel)
  obtain ⟨t3, T3, Z3⟩ := st_row (n := "MOST_LETTERS") (xs := [4, 4, 9]) hts hs (N := 3) (by decide) rfl (by decide +kernel) (by decide +kernel) (by decide +kernel) (by decide +kernel) (by decide +kernel)
  obtain ⟨D, hD⟩ : ∃ D : va_G, ∀ (k : Nat) (q : vw_C), vwCl[k]? = some q → u_Kn s q.1 q.2.1 q.2.2 (D.1 k) (D.2 k) := by
    have hk : ∀ k : Nat, ∃ q : ClassId × (Nat → Nat), ∀ r : vw_C, vwCl[k]? = some r → u_Kn s r.1 r.2.1 r.2.2 q.1 q.2 := by
      intro k
      cases hv : vwCl[k]? with
      | none => exact ⟨(0, fun _ => 0), fun r h => by cases h⟩
      | some r =>
        obtain ⟨y1, y2, y3, y4, y5, y6, y7, y8⟩ := gCl_at hv
        obtain ⟨cC, iS, hK⟩ := u_known (C := r.1) (T := r.2.1) (N := r.2.2) (n := r.2.2) (ws := lw_tbl) hts (fun w hw => (gtbl_in (y2 w hw)).1) (hts _ (gtbl_in y6).1)
        exact ⟨(cC, iS), fun r' h => by cases h; exact hK⟩
    exact ⟨(fun k => (Classical.choose (hk k)).1, fun k => (Classical.choose (hk k)).2), fun k q hq => Classical.choose_spec (hk k) q hq⟩
  obtain ⟨h', hgo, hl1, hl2⟩ := hlaw
  obtain ⟨n, hn⟩ := go_run hgo
  have tlt : ∀ {a N : Nat} {f : Nat → Value}, va_T .int a N f (fun q => s.heap.size ≤ q) s s.heap → a < s.heap.size := fun hz => by obtain ⟨z1, h1, -⟩ := hz; exact (Array.getElem?_eq_some_iff.mp h1).1
  have hT4 : va_T .int b ((List.range L).map xs).length (fun j => .int (((List.range L).map xs).getD j 0)) (fun q => s.heap.size ≤ q) s s.heap := by
    obtain ⟨scr, x1, x2, x3, x4, x5⟩ := hX
    refine ⟨scr, x1, x2, x3, by rw [x4]; simp, by rw [x4]; simp, fun j hj => ?_, Nat.not_le.mpr hbl⟩
    have hj : j < L := by simpa using hj
    rw [x5 j hj]
    simp [List.getD_eq_getElem?_getD, hj]
  have tb : ∀ k, k < 5 → (fun k => match k with | 0 => t0 | 1 => t1 | 2 => t2 | 3 => t3 | _ => b : Nat → Nat) k < s.heap.size := by
    intro k hk
    match k, hk with
    | 0, _ => exact tlt T0
    | 1, _ => exact tlt T1
    | 2, _ => exact tlt T2
    | 3, _ => exact tlt T3
    | 4, _ => exact hbl
  have S : aSim D (fun k => match k with | 0 => t0 | 1 => t1 | 2 => t2 | 3 => t3 | _ => b) s.heap.size (h0 ((List.range L).map xs)) s s.heap := by
    refine ⟨⟨hD, fun k q h => by simp at h⟩, fun k c hk => ?_, ⟨rfl, Nat.le_refl _⟩, fun i n hn => ?_, tb⟩
    · match k, hk with
      | 0, hk => cases hk; exact Or.inl ⟨rfl, by decide, T0⟩
      | 1, hk => cases hk; exact Or.inl ⟨rfl, by decide, T1⟩
      | 2, hk => cases hk; exact Or.inl ⟨rfl, by decide, T2⟩
      | 3, hk => cases hk; exact Or.inl ⟨rfl, by decide, T3⟩
      | 4, hk => cases hk; exact Or.inl ⟨rfl, by decide, hT4⟩
      | k + 5, hk => simp [h0] at hk
    · match i, hn with
      | 0, hn => cases hn; exact Z0
      | 1, hn => cases hn; exact Z1
      | 2, hn => cases hn; exact Z2
      | 3, hn => cases hn; exact Z3
      | i + 4, hn => simp [stNames] at hn
  have hnx : aNx s := by
    refine ⟨fun C hC => ?_, fun x hx => ?_, fun q hq => ?_⟩
    · have : ∀ C ∈ xA, Jvm.Cond.arrayOver (.object C) ∈ lw_tbl := by decide +kernel
      exact va_AO.of (hts _ (this C hC))
    · have : ∀ x ∈ xD, Jvm.Cond.declares x ∈ lw_tbl := by decide +kernel
      exact va_Nw.of rfl (hts _ (this x hx))
    · have : ∀ q ∈ xF, Jvm.Cond.fieldLinkNest q.1 q.2.1 "WordHides" q.2.2 "[I" "WordHides" ∈ lw_tbl := by decide +kernel
      exact va_Nw.of rfl (hts _ (this q hq))
  rw [show ([Value.ref b] : List Value) = ([Value.ref 4] : List Value).map (vr (fun k => match k with | 0 => t0 | 1 => t1 | 2 => t2 | 3 => t3 | _ => b) s.heap.size) from rfl]
  rw [entry_eq m _ (fun v hv => by
    obtain ⟨w, hw1, rfl⟩ := List.mem_map.mp hv
    exact vr_cat (by rw [List.mem_singleton.mp hw1]; rfl)) 4, List.length_map]
  refine (sound l D _ s.heap.size good_all n 40 123 0 _ _ _ _ _ hn).2 pL_law rfl p e room_1 s m _ below meth c s.heap [] 0 0 _ _ hx hb hml hown (fun w hw => hts w (gtbl_in hw).1) hnx (fun h => absurd h (by decide)) (by decide) (by decide) ?_ ?_ S (aL.entry (args := [.ref 4]) (n := 4) rfl) hml.symm (fun q hq => by cases hq) ?_
  · show 0 + (h'.length - _) ≤ 600000
    omega
  · show 0 + (asl h' - _) ≤ 7302250
    omega
  · intro pc' H' locs' arr' hret S' hloc'
    rcases hret with ⟨h, -⟩ | ⟨v, hv, hd, -⟩ | ⟨v, hv, hv2, -⟩
    · cases h
    · cases hv
      exact va_forget hloc' (W.widen (k := 600000) (n := 7302250) (by omega) (by omega) (lw_ret hx hb hr hlocks hd))
    · cases hv
      rcases hv2 with h | ⟨a, h⟩ <;> cases h
