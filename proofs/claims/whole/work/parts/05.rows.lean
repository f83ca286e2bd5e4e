/-! One instruction of the small machine is one of the real machine: rows by kind. -/
def aKK (p : Program) (l : Launch) (e : Env) (R : Room) (s : State) (m : MethodId) (args : Array Value) (below : List Frame) (meth : Method) (c : Code) (Q : State → Prop) (D : va_G) (t : Nat → Nat) (B cells slots : Nat) (h : aH) (k : aK) : Prop :=
  ∀ (H' : Heap) (locs' : List Loc) (arr' : Array Slot), aSim D t B k.2.2.2 s H' → aL t B arr' k.2.1 → k.2.1.length = c.maxLocals → (∀ q ∈ locs', B ≤ q.base) → W p l e R s m args below meth c H' locs' (cells + (k.2.2.2.length - h.length)) (slots + (asl k.2.2.2 - asl h)) Q (F0 m k.1 arr' (k.2.2.1.map (vr t B)))
theorem asl_app (h : aH) (c : aC) : asl (h ++ [c]) = asl h + acs c := by simp [asl]
theorem asl_set : ∀ {h : aH} {a : Nat} {c c' : aC}, h[a]? = some c → acs c' = acs c → asl (h.set a c') = asl h
  | [], a, c, c', hk, hc => by simp at hk
  | x :: h, 0, c, c', hk, hc => by
    rw [List.getElem?_cons_zero] at hk
    cases hk
    simp [asl, hc]
  | x :: h, a + 1, c, c', hk, hc => by
    rw [List.getElem?_cons_succ] at hk
    have := asl_set (h := h) hk hc
    simp only [asl, List.set_cons_succ, List.map_cons, List.sum_cons] at this ⊢
    omega
section SP
variable {p : Program} {l : Launch} {e : Env} {R : Room} {s : State} {m : MethodId} {args : Array Value} {below : List Frame} {meth : Method} {c : Code} {H : Heap} {locs : List Loc} {cells slots : Nat} {Q : State → Prop}
variable {D : va_G} {t : Nat → Nat} {B : Nat} {h : aH} {arr : Array Slot} {ls st : List Value} {pc q : Nat} {cc : ByteArray} {k : aK}
theorem aKK.use (kk : aKK p l e R s m args below meth c Q D t B cells slots h k) {i j : Nat} (hi : k.2.2.2.length = h.length + i) (hj : asl k.2.2.2 = asl h + j) {H' : Heap} {locs' : List Loc} {arr' : Array Slot} (S : aSim D t B k.2.2.2 s H') (hl : aL t B arr' k.2.1) (hn : k.2.1.length = c.maxLocals) (hloc : ∀ q ∈ locs', B ≤ q.base) :
    W p l e R s m args below meth c H' locs' (cells + i) (slots + j) Q (F0 m k.1 arr' (k.2.2.1.map (vr t B))) := by
  have := kk H' locs' arr' S hl hn hloc
  rwa [hi, hj, Nat.add_sub_cancel_left, Nat.add_sub_cancel_left] at this
theorem loc_app {a i : Nat} (hloc : ∀ q ∈ locs, B ≤ q.base) (ha : B ≤ a) : ∀ q ∈ locs ++ [(⟨a, i⟩ : Loc)], B ≤ q.base := by
  intro q hq
  rcases List.mem_append.mp hq with h | h
  · exact hloc q h
  · rw [List.mem_singleton.mp h]; exact ha
theorem sp_push {v : Value} (S : aSim D t B h s H) (hl : aL t B arr ls) (hn : ls.length = c.maxLocals) (hloc : ∀ q ∈ locs, B ≤ q.base) (hp : k_push v q ls st h = some k) (kk : aKK p l e R s m args below meth c Q D t B cells slots h k)
    (row : ∀ rest, W p l e R s m args below meth c H locs cells slots Q (F0 m q arr (vr t B v :: rest)) → W p l e R s m args below meth c H locs cells slots Q (F0 m pc arr rest)) : W p l e R s m args below meth c H locs cells slots Q (F0 m pc arr (st.map (vr t B))) := by
  cases hp
  exact row _ (kk.use (i := 0) (j := 0) rfl rfl S hl hn hloc)
theorem sp_iload {i : Nat} (S : aSim D t B h s H) (hl : aL t B arr ls) (hn : ls.length = c.maxLocals) (hloc : ∀ q ∈ locs, B ≤ q.base) (hp : k_iload i q ls st h = some k) (kk : aKK p l e R s m args below meth c Q D t B cells slots h k)
    (row : ∀ x rest, arr[i]? = some (.val (.int x)) → W p l e R s m args below meth c H locs cells slots Q (F0 m q arr (.int x :: rest)) → W p l e R s m args below meth c H locs cells slots Q (F0 m pc arr rest)) : W p l e R s m args below meth c H locs cells slots Q (F0 m pc arr (st.map (vr t B))) := by
  unfold k_iload at hp
  split at hp
  · rename_i x hx
    cases hp
    exact row x _ (hl.2.2 i _ hx rfl) (kk.use (i := 0) (j := 0) rfl rfl S hl hn hloc)
  · cases hp
theorem sp_aload {i : Nat} (S : aSim D t B h s H) (hl : aL t B arr ls) (hn : ls.length = c.maxLocals) (hloc : ∀ q ∈ locs, B ≤ q.base) (hp : k_aload i q ls st h = some k) (kk : aKK p l e R s m args below meth c Q D t B cells slots h k)
    (row : ∀ x rest, arr[i]? = some (.val (.ref x)) → W p l e R s m args below meth c H locs cells slots Q (F0 m q arr (.ref x :: rest)) → W p l e R s m args below meth c H locs cells slots Q (F0 m pc arr rest))
    (rowN : ∀ rest, arr[i]? = some (.val .null) → W p l e R s m args below meth c H locs cells slots Q (F0 m q arr (.null :: rest)) → W p l e R s m args below meth c H locs cells slots Q (F0 m pc arr rest)) : W p l e R s m args below meth c H locs cells slots Q (F0 m pc arr (st.map (vr t B))) := by
  unfold k_aload at hp
  split at hp
  · rename_i x hx
    cases hp
    exact row _ _ (hl.2.2 i _ hx rfl) (kk.use (i := 0) (j := 0) rfl rfl S hl hn hloc)
  · rename_i hx
    cases hp
    exact rowN _ (hl.2.2 i _ hx rfl) (kk.use (i := 0) (j := 0) rfl rfl S hl hn hloc)
  · cases hp
theorem sp_istore {i : Nat} (S : aSim D t B h s H) (hl : aL t B arr ls) (hn : ls.length = c.maxLocals) (hloc : ∀ q ∈ locs, B ≤ q.base) (hp : k_istore i q ls st h = some k) (kk : aKK p l e R s m args below meth c Q D t B cells slots h k)
    (row : ∀ x rest, i < ls.length → (∀ arr', lv_has arr' ls.length ((i, .int x) :: (lkl t B ls).filter (fun q => !(q.1 == i) && !(q.1 + 1 == i && q.2.category == 2))) → W p l e R s m args below meth c H locs cells slots Q (F0 m q arr' rest)) → W p l e R s m args below meth c H locs cells slots Q (F0 m pc arr (.int x :: rest))) : W p l e R s m args below meth c H locs cells slots Q (F0 m pc arr (st.map (vr t B))) := by
  unfold k_istore at hp
  split at hp
  · split at hp
    · rename_i x r hi
      cases hp
      exact row x _ hi fun arr' ha => kk.use (i := 0) (j := 0) rfl rfl S (aL.put (v := .int x) rfl hi ha) (by simpa using hn) hloc
    · cases hp
  · cases hp
theorem sp_astore {i : Nat} (S : aSim D t B h s H) (hl : aL t B arr ls) (hn : ls.length = c.maxLocals) (hloc : ∀ q ∈ locs, B ≤ q.base) (hp : k_astore i q ls st h = some k) (kk : aKK p l e R s m args below meth c Q D t B cells slots h k)
    (row : ∀ x rest, i < ls.length → (∀ arr', lv_has arr' ls.length ((i, .ref x) :: (lkl t B ls).filter (fun q => !(q.1 == i) && !(q.1 + 1 == i && q.2.category == 2))) → W p l e R s m args below meth c H locs cells slots Q (F0 m q arr' rest)) → W p l e R s m args below meth c H locs cells slots Q (F0 m pc arr (.ref x :: rest)))
    (rowN : ∀ rest, i < ls.length → (∀ arr', lv_has arr' ls.length ((i, .null) :: (lkl t B ls).filter (fun q => !(q.1 == i) && !(q.1 + 1 == i && q.2.category == 2))) → W p l e R s m args below meth c H locs cells slots Q (F0 m q arr' rest)) → W p l e R s m args below meth c H locs cells slots Q (F0 m pc arr (.null :: rest))) : W p l e R s m args below meth c H locs cells slots Q (F0 m pc arr (st.map (vr t B))) := by
  unfold k_astore at hp
  split at hp
  · split at hp
    · rename_i x r hi
      cases hp
      exact row _ _ hi fun arr' ha => kk.use (i := 0) (j := 0) rfl rfl S (aL.put (v := .ref x) rfl hi ha) (by simpa using hn) hloc
    · cases hp
  · split at hp
    · rename_i r hi
      cases hp
      exact rowN _ hi fun arr' ha => kk.use (i := 0) (j := 0) rfl rfl S (aL.put (v := .null) rfl hi ha) (by simpa using hn) hloc
    · cases hp
  · cases hp
theorem sp_iinc {i : Nat} {n : Int} (S : aSim D t B h s H) (hl : aL t B arr ls) (hn : ls.length = c.maxLocals) (hloc : ∀ q ∈ locs, B ≤ q.base) (hp : k_iinc i n q ls st h = some k) (kk : aKK p l e R s m args below meth c Q D t B cells slots h k)
    (row : ∀ (x : Int32) (j : Nat) rest, i < ls.length → (lkl t B ls)[j]? = some (i, .int x) → (∀ arr', lv_has arr' ls.length ((i, .int (x + Int32.ofInt n)) :: (lkl t B ls).filter (fun q => !(q.1 == i) && !(q.1 + 1 == i && q.2.category == 2))) → W p l e R s m args below meth c H locs cells slots Q (F0 m q arr' rest)) → W p l e R s m args below meth c H locs cells slots Q (F0 m pc arr rest)) : W p l e R s m args below meth c H locs cells slots Q (F0 m pc arr (st.map (vr t B))) := by
  unfold k_iinc at hp
  split at hp
  · rename_i x hx
    cases hp
    have hi := (List.getElem?_eq_some_iff.mp hx).1
    obtain ⟨j, hj⟩ := List.getElem?_of_mem (lkl_mem (t := t) (B := B) (q := (i, .int x)).mpr ⟨_, hx, rfl, rfl⟩)
    exact row x j _ hi hj fun arr' ha => kk.use (i := 0) (j := 0) rfl rfl S (aL.put (v := .int (x + Int32.ofInt n)) rfl hi ha) (by simpa using hn) hloc
  · cases hp
theorem sp_bin {f : Int32 → Int32 → Int32} (S : aSim D t B h s H) (hl : aL t B arr ls) (hn : ls.length = c.maxLocals) (hloc : ∀ q ∈ locs, B ≤ q.base) (hp : k_bin f q ls st h = some k) (kk : aKK p l e R s m args below meth c Q D t B cells slots h k)
    (row : ∀ x y rest, W p l e R s m args below meth c H locs cells slots Q (F0 m q arr (.int (f x y) :: rest)) → W p l e R s m args below meth c H locs cells slots Q (F0 m pc arr (.int y :: .int x :: rest))) : W p l e R s m args below meth c H locs cells slots Q (F0 m pc arr (st.map (vr t B))) := by
  unfold k_bin at hp
  split at hp
  · cases hp
    exact row _ _ _ (kk.use (i := 0) (j := 0) rfl rfl S hl hn hloc)
  · cases hp
theorem sp_div {f : Int32 → Int32 → Int32} (S : aSim D t B h s H) (hl : aL t B arr ls) (hn : ls.length = c.maxLocals) (hloc : ∀ q ∈ locs, B ≤ q.base) (hp : k_div f q ls st h = some k) (kk : aKK p l e R s m args below meth c Q D t B cells slots h k)
    (row : ∀ x y rest, ¬ y = 0 → W p l e R s m args below meth c H locs cells slots Q (F0 m q arr (.int (f x y) :: rest)) → W p l e R s m args below meth c H locs cells slots Q (F0 m pc arr (.int y :: .int x :: rest))) : W p l e R s m args below meth c H locs cells slots Q (F0 m pc arr (st.map (vr t B))) := by
  unfold k_div at hp
  split at hp
  · split at hp
    · cases hp
    · rename_i hy
      cases hp
      exact row _ _ _ hy (kk.use (i := 0) (j := 0) rfl rfl S hl hn hloc)
  · cases hp
theorem sp_if1 {f : Int32 → Bool} {tg : Nat} (S : aSim D t B h s H) (hl : aL t B arr ls) (hn : ls.length = c.maxLocals) (hloc : ∀ q ∈ locs, B ≤ q.base) (hp : k_if1 f tg q ls st h = some k) (kk : aKK p l e R s m args below meth c Q D t B cells slots h k)
    (row : ∀ x rest, (f x = true → W p l e R s m args below meth c H locs cells slots Q (F0 m tg arr rest)) → (¬ f x = true → W p l e R s m args below meth c H locs cells slots Q (F0 m q arr rest)) → W p l e R s m args below meth c H locs cells slots Q (F0 m pc arr (.int x :: rest))) : W p l e R s m args below meth c H locs cells slots Q (F0 m pc arr (st.map (vr t B))) := by
  unfold k_if1 at hp
  split at hp
  · cases hp
    have kw := kk.use (i := 0) (j := 0) rfl rfl S hl hn hloc
    refine row _ _ (fun hf => ?_) (fun hf => ?_)
    · simp only [if_pos hf] at kw
      exact kw
    · simp only [if_neg hf] at kw
      exact kw
  · cases hp
theorem sp_if2 {f : Int32 → Int32 → Bool} {tg : Nat} (S : aSim D t B h s H) (hl : aL t B arr ls) (hn : ls.length = c.maxLocals) (hloc : ∀ q ∈ locs, B ≤ q.base) (hp : k_if2 f tg q ls st h = some k) (kk : aKK p l e R s m args below meth c Q D t B cells slots h k)
    (row : ∀ x y rest, (f x y = true → W p l e R s m args below meth c H locs cells slots Q (F0 m tg arr rest)) → (¬ f x y = true → W p l e R s m args below meth c H locs cells slots Q (F0 m q arr rest)) → W p l e R s m args below meth c H locs cells slots Q (F0 m pc arr (.int y :: .int x :: rest))) : W p l e R s m args below meth c H locs cells slots Q (F0 m pc arr (st.map (vr t B))) := by
  unfold k_if2 at hp
  split at hp
  · cases hp
    have kw := kk.use (i := 0) (j := 0) rfl rfl S hl hn hloc
    refine row _ _ _ (fun hf => ?_) (fun hf => ?_)
    · simp only [if_pos hf] at kw
      exact kw
    · simp only [if_neg hf] at kw
      exact kw
  · cases hp
theorem sp_null {tr tn : Nat} (S : aSim D t B h s H) (hl : aL t B arr ls) (hn : ls.length = c.maxLocals) (hloc : ∀ q ∈ locs, B ≤ q.base) (hp : k_null tr tn ls st h = some k) (kk : aKK p l e R s m args below meth c Q D t B cells slots h k)
    (row : ∀ x rest, W p l e R s m args below meth c H locs cells slots Q (F0 m tr arr rest) → W p l e R s m args below meth c H locs cells slots Q (F0 m pc arr (.ref x :: rest)))
    (rowN : ∀ rest, W p l e R s m args below meth c H locs cells slots Q (F0 m tn arr rest) → W p l e R s m args below meth c H locs cells slots Q (F0 m pc arr (.null :: rest))) : W p l e R s m args below meth c H locs cells slots Q (F0 m pc arr (st.map (vr t B))) := by
  unfold k_null at hp
  split at hp
  · cases hp
    exact row _ _ (kk.use (i := 0) (j := 0) rfl rfl S hl hn hloc)
  · cases hp
    exact rowN _ (kk.use (i := 0) (j := 0) rfl rfl S hl hn hloc)
  · cases hp
theorem sp_dup (S : aSim D t B h s H) (hl : aL t B arr ls) (hn : ls.length = c.maxLocals) (hloc : ∀ q ∈ locs, B ≤ q.base) (hp : k_dup q ls st h = some k) (kk : aKK p l e R s m args below meth c Q D t B cells slots h k)
    (row : ∀ (v : Value) rest, v.category = 1 → W p l e R s m args below meth c H locs cells slots Q (F0 m q arr (v :: v :: rest)) → W p l e R s m args below meth c H locs cells slots Q (F0 m pc arr (v :: rest))) : W p l e R s m args below meth c H locs cells slots Q (F0 m pc arr (st.map (vr t B))) := by
  unfold k_dup at hp
  split at hp
  · split at hp
    · rename_i ho
      cases hp
      exact row _ _ (vr_cat ho) (kk.use (i := 0) (j := 0) rfl rfl S hl hn hloc)
    · cases hp
  · cases hp
theorem sp_pop (S : aSim D t B h s H) (hl : aL t B arr ls) (hn : ls.length = c.maxLocals) (hloc : ∀ q ∈ locs, B ≤ q.base) (hp : k_pop q ls st h = some k) (kk : aKK p l e R s m args below meth c Q D t B cells slots h k)
    (row : ∀ (v : Value) rest, v.category = 1 → W p l e R s m args below meth c H locs cells slots Q (F0 m q arr rest) → W p l e R s m args below meth c H locs cells slots Q (F0 m pc arr (v :: rest))) : W p l e R s m args below meth c H locs cells slots Q (F0 m pc arr (st.map (vr t B))) := by
  unfold k_pop at hp
  split at hp
  · split at hp
    · rename_i ho
      cases hp
      exact row _ _ (vr_cat ho) (kk.use (i := 0) (j := 0) rfl rfl S hl hn hloc)
    · cases hp
  · cases hp
theorem sp_dup2 (S : aSim D t B h s H) (hl : aL t B arr ls) (hn : ls.length = c.maxLocals) (hloc : ∀ q ∈ locs, B ≤ q.base) (hp : k_dup2 q ls st h = some k) (kk : aKK p l e R s m args below meth c Q D t B cells slots h k)
    (row : ∀ (v w : Value) rest, v.category = 1 → w.category = 1 → W p l e R s m args below meth c H locs cells slots Q (F0 m q arr (v :: w :: v :: w :: rest)) → W p l e R s m args below meth c H locs cells slots Q (F0 m pc arr (v :: w :: rest))) : W p l e R s m args below meth c H locs cells slots Q (F0 m pc arr (st.map (vr t B))) := by
  unfold k_dup2 at hp
  split at hp
  · split at hp
    · rename_i ho
      cases hp
      exact row _ _ _ (vr_cat ho.1) (vr_cat ho.2) (kk.use (i := 0) (j := 0) rfl rfl S hl hn hloc)
    · cases hp
  · cases hp
theorem sp_table {df lo hi : Int} {offs : Array Int} {len : Nat} (hx : p.tables.exec = Jvm.exec) (hb : c.code = cc) (hd : decode cc pc = .ok (.tableswitch df lo hi offs, len)) (S : aSim D t B h s H) (hl : aL t B arr ls) (hn : ls.length = c.maxLocals) (hloc : ∀ q ∈ locs, B ≤ q.base) (hp : k_table pc df lo hi offs ls st h = some k) (kk : aKK p l e R s m args below meth c Q D t B cells slots h k) : W p l e R s m args below meth c H locs cells slots Q (F0 m pc arr (st.map (vr t B))) := by
  unfold k_table at hp
  split at hp
  · split at hp
    · rename_i ho
      split at hp
      · rename_i hz
        cases hp
        exact lv_tableOut hx hb hd ho (Int.toNat_of_nonneg hz).symm (kk.use (i := 0) (j := 0) rfl rfl S hl hn hloc)
      · cases hp
    · rename_i ho
      split at hp
      · rename_i off hoff
        split at hp
        · rename_i hz
          cases hp
          exact lv_tableIn hx hb hd (fun g => ho (Or.inl g)) (fun g => ho (Or.inr g)) hoff (Int.toNat_of_nonneg hz).symm (kk.use (i := 0) (j := 0) rfl rfl S hl hn hloc)
        · cases hp
      · cases hp
  · cases hp
end SP
