/-! A SMALL MACHINE: cells by numbers (0 to 3 the static rows, 4 the script, 5 and on what is made), values whose references are such numbers. 'arun' runs methods of 'prog' with fuel n and at most d calls open; 'go' is its answer with fuel enough. Later parts tie it to the real machine (sound) and prove the law over it. -/
abbrev aC : Type := (Nat × List Value) ⊕ ((Nat × List Int32) ⊕ (Nat × List (Option Nat)))
abbrev aH : Type := List aC
abbrev aK : Type := Nat × List Value × List Value × aH
def aU : Value := .retAddr 0
def aOk (v : Value) : Bool := match v with
  | .int _ => true
  | .null => true
  | .ref _ => true
  | _ => false
def fitK (kd : Nat) (v : Value) : Bool := match kd, v with
  | 0, .int _ => true
  | 1, .int x => x == 0 || x == 1
  | 2, .ref _ => true
  | 2, .null => true
  | _, _ => false
def dflV (d : String) : Value := if d = "I" then .int 0 else if d = "Z" then .int 0 else .null
def dfl (ci : Nat) : List Value := match vwCl[ci]? with
  | some r => (List.range r.2.2).map (fun k => dflV (r.2.1 k).2.2.1)
  | none => []
def k_push (v : Value) (q : Nat) (ls st : List Value) (h : aH) : Option aK := some (q, ls, v :: st, h)
def k_iload (i q : Nat) (ls st : List Value) (h : aH) : Option aK := match ls[i]? with
  | some (.int x) => some (q, ls, .int x :: st, h)
  | _ => none
def k_aload (i q : Nat) (ls st : List Value) (h : aH) : Option aK := match ls[i]? with
  | some (.ref x) => some (q, ls, .ref x :: st, h)
  | some .null => some (q, ls, .null :: st, h)
  | _ => none
def k_istore (i q : Nat) (ls st : List Value) (h : aH) : Option aK := match st with
  | .int x :: r => if i < ls.length then some (q, ls.set i (.int x), r, h) else none
  | _ => none
def k_astore (i q : Nat) (ls st : List Value) (h : aH) : Option aK := match st with
  | .ref x :: r => if i < ls.length then some (q, ls.set i (.ref x), r, h) else none
  | .null :: r => if i < ls.length then some (q, ls.set i .null, r, h) else none
  | _ => none
def k_iinc (i : Nat) (n : Int) (q : Nat) (ls st : List Value) (h : aH) : Option aK := match ls[i]? with
  | some (.int x) => some (q, ls.set i (.int (x + Int32.ofInt n)), st, h)
  | _ => none
def k_bin (f : Int32 → Int32 → Int32) (q : Nat) (ls st : List Value) (h : aH) : Option aK := match st with
  | .int y :: .int x :: r => some (q, ls, .int (f x y) :: r, h)
  | _ => none
def k_div (f : Int32 → Int32 → Int32) (q : Nat) (ls st : List Value) (h : aH) : Option aK := match st with
  | .int y :: .int x :: r => if y = 0 then none else some (q, ls, .int (f x y) :: r, h)
  | _ => none
def k_if1 (f : Int32 → Bool) (t q : Nat) (ls st : List Value) (h : aH) : Option aK := match st with
  | .int x :: r => some (if f x = true then t else q, ls, r, h)
  | _ => none
def k_if2 (f : Int32 → Int32 → Bool) (t q : Nat) (ls st : List Value) (h : aH) : Option aK := match st with
  | .int y :: .int x :: r => some (if f x y = true then t else q, ls, r, h)
  | _ => none
def k_null (tr tn : Nat) (ls st : List Value) (h : aH) : Option aK := match st with
  | .ref _ :: r => some (tr, ls, r, h)
  | .null :: r => some (tn, ls, r, h)
  | _ => none
def k_dup (q : Nat) (ls st : List Value) (h : aH) : Option aK := match st with
  | v :: r => if aOk v = true then some (q, ls, v :: v :: r, h) else none
  | _ => none
def k_pop (q : Nat) (ls st : List Value) (h : aH) : Option aK := match st with
  | v :: r => if aOk v = true then some (q, ls, r, h) else none
  | _ => none
def k_dup2 (q : Nat) (ls st : List Value) (h : aH) : Option aK := match st with
  | v :: w :: r => if aOk v = true ∧ aOk w = true then some (q, ls, v :: w :: v :: w :: r, h) else none
  | _ => none
def k_table (pc : Nat) (df lo hi : Int) (offs : Array Int) (ls st : List Value) (h : aH) : Option aK := match st with
  | .int x :: r => if x.toInt < lo ∨ hi < x.toInt then (if 0 ≤ (pc : Int) + df then some (((pc : Int) + df).toNat, ls, r, h) else none) else (match offs[(x.toInt - lo).toNat]? with
    | some off => if 0 ≤ (pc : Int) + off then some (((pc : Int) + off).toNat, ls, r, h) else none
    | none => none)
  | _ => none
def k_getf (j c0 c1 q : Nat) (ls st : List Value) (h : aH) : Option aK := match st with
  | .ref a :: r => (match h[a]? with
    | some (.inl (ci, fs)) => if ci = c0 ∨ ci = c1 then (match fs[j]? with
      | some v => some (q, ls, v :: r, h)
      | none => none) else none
    | _ => none)
  | _ => none
def k_putf (j c0 c1 kd q : Nat) (ls st : List Value) (h : aH) : Option aK := match st with
  | v :: .ref a :: r => (match h[a]? with
    | some (.inl (ci, fs)) => if (ci = c0 ∨ ci = c1) ∧ j < fs.length ∧ fitK kd v = true then some (q, ls, r, h.set a (.inl (ci, fs.set j v))) else none
    | _ => none)
  | _ => none
def k_iald (q : Nat) (ls st : List Value) (h : aH) : Option aK := match st with
  | .int i :: .ref a :: r => (match h[a]? with
    | some (.inr (.inl (t, xs))) => if (t = 0 ∨ t = 2) ∧ ¬ i < 0 then (match xs[i.toNatClampNeg]? with
      | some x => some (q, ls, .int x :: r, h)
      | none => none) else none
    | _ => none)
  | _ => none
def k_zald (q : Nat) (ls st : List Value) (h : aH) : Option aK := match st with
  | .int i :: .ref a :: r => (match h[a]? with
    | some (.inr (.inl (t, xs))) => if t = 1 ∧ ¬ i < 0 then (match xs[i.toNatClampNeg]? with
      | some x => some (q, ls, .int x :: r, h)
      | none => none) else none
    | _ => none)
  | _ => none
def k_iast (q : Nat) (ls st : List Value) (h : aH) : Option aK := match st with
  | .int x :: .int i :: .ref a :: r => (match h[a]? with
    | some (.inr (.inl (t, xs))) => if t = 0 ∧ ¬ i < 0 ∧ i.toNatClampNeg < xs.length then some (q, ls, r, h.set a (.inr (.inl (0, xs.set i.toNatClampNeg x)))) else none
    | _ => none)
  | _ => none
def k_zast (q : Nat) (ls st : List Value) (h : aH) : Option aK := match st with
  | .int x :: .int i :: .ref a :: r => (match h[a]? with
    | some (.inr (.inl (t, xs))) => if t = 1 ∧ (x = 0 ∨ x = 1) ∧ ¬ i < 0 ∧ i.toNatClampNeg < xs.length then some (q, ls, r, h.set a (.inr (.inl (1, xs.set i.toNatClampNeg x)))) else none
    | _ => none)
  | _ => none
def k_aald (q : Nat) (ls st : List Value) (h : aH) : Option aK := match st with
  | .int i :: .ref a :: r => (match h[a]? with
    | some (.inr (.inr (_, os))) => if ¬ i < 0 then (match os[i.toNatClampNeg]? with
      | some o => some (q, ls, va_rf o :: r, h)
      | none => none) else none
    | _ => none)
  | _ => none
def k_aast (q : Nat) (ls st : List Value) (h : aH) : Option aK := match st with
  | .ref v :: .int i :: .ref a :: r => (match h[a]? with
    | some (.inr (.inr (e, os))) => (match h[v]? with
      | some (.inl (ci, _)) => if ci = e ∧ ¬ i < 0 ∧ i.toNatClampNeg < os.length then some (q, ls, r, h.set a (.inr (.inr (e, os.set i.toNatClampNeg (some v))))) else none
      | _ => none)
    | _ => none)
  | _ => none
def k_alen (q : Nat) (ls st : List Value) (h : aH) : Option aK := match st with
  | .ref a :: r => (match h[a]? with
    | some (.inr (.inl (_, xs))) => some (q, ls, .int (Int32.ofNat xs.length) :: r, h)
    | _ => none)
  | _ => none
def k_newa (t q : Nat) (ls st : List Value) (h : aH) : Option aK := match st with
  | .int n :: r => if ¬ n < 0 ∧ n.toNatClampNeg ≤ 65536 then some (q, ls, .ref h.length :: r, h ++ [.inr (.inl (t, List.replicate n.toNatClampNeg 0))]) else none
  | _ => none
def k_newq (e q : Nat) (ls st : List Value) (h : aH) : Option aK := match st with
  | .int n :: r => if ¬ n < 0 ∧ n.toNatClampNeg ≤ 65536 then some (q, ls, .ref h.length :: r, h ++ [.inr (.inr (e, List.replicate n.toNatClampNeg none))]) else none
  | _ => none
def k_new (ci q : Nat) (ls st : List Value) (h : aH) : Option aK := some (q, ls, .ref h.length :: st, h ++ [.inl (ci, dfl ci)])
def k_oini (q : Nat) (ls st : List Value) (h : aH) : Option aK := match st with
  | .ref _ :: r => if r.length ≤ 8 ∧ r.all aOk = true then some (q, ls, r, h) else none
  | _ => none
def k_copy (q : Nat) (ls st : List Value) (h : aH) : Option aK := match st with
  | .int n :: .int dp :: .ref b :: .int sp :: .ref a :: r => (match h[a]? with
    | some (.inr (.inl (t, xs))) => (match h[b]? with
      | some (.inr (.inl (u, ys))) => if (t = 0 ∧ u = 0 ∧ sp = 0 ∧ dp = 0) ∧ ¬ n < 0 ∧ n.toNatClampNeg ≤ xs.length ∧ n.toNatClampNeg ≤ ys.length ∧ r.length ≤ 8 ∧ r.all aOk = true then some (q, ls, r, h.set b (.inr (.inl (0, xs.take n.toNatClampNeg ++ ys.drop n.toNatClampNeg)))) else none
      | _ => none)
    | _ => none)
  | _ => none
/-- Math.max, Math.min -/
def k_mm (f : Int32 → Int32 → Int32) (q : Nat) (ls st : List Value) (h : aH) : Option aK := match st with
  | .int y :: .int x :: r => if r.length ≤ 8 ∧ r.all aOk = true then some (q, ls, .int (f x y) :: r, h) else none
  | _ => none
/-- an instruction that is neither a call of ours nor a return -/
def aplain (e : wE) (ls st : List Value) (h : aH) : Option aK := match e with
  | (pc, i, _, (a, b, c, d, f), _, _) => match i with
    | .iconst n => k_push (.int (Int32.ofInt n)) (pc + 1) ls st h
    | .bipush n => k_push (.int (Int8.ofInt n).toInt32) (pc + 2) ls st h
    | .sipush n => k_push (.int (Int16.ofInt n).toInt32) (pc + 3) ls st h
    | .ldc_w _ => k_push (.int (Int32.ofNat a)) (pc + 3) ls st h
    | .aconst_null => k_push .null (pc + 1) ls st h
    | .getstatic _ => k_push (.ref a) (pc + 3) ls st h
    | .iload_n k => k_iload k.val (pc + 1) ls st h
    | .iload k => k_iload k (pc + 2) ls st h
    | .aload_n k => k_aload k.val (pc + 1) ls st h
    | .aload k => k_aload k (pc + 2) ls st h
    | .istore_n k => k_istore k.val (pc + 1) ls st h
    | .istore k => k_istore k (pc + 2) ls st h
    | .astore_n k => k_astore k.val (pc + 1) ls st h
    | .astore k => k_astore k (pc + 2) ls st h
    | .iinc k n => k_iinc k n (pc + 3) ls st h
    | .iadd => k_bin (fun x y => x + y) (pc + 1) ls st h
    | .isub => k_bin (fun x y => x - y) (pc + 1) ls st h
    | .imul => k_bin (fun x y => x * y) (pc + 1) ls st h
    | .iand => k_bin (fun x y => x &&& y) (pc + 1) ls st h
    | .ior => k_bin (fun x y => x ||| y) (pc + 1) ls st h
    | .ishl => k_bin (fun x y => x <<< (y &&& 31)) (pc + 1) ls st h
    | .ishr => k_bin (fun x y => x >>> (y &&& 31)) (pc + 1) ls st h
    | .iushr => k_bin (fun x y => (x.toUInt32 >>> (y.toUInt32 &&& Int32.toUInt32 31)).toInt32) (pc + 1) ls st h
    | .idiv => k_div (fun x y => x / y) (pc + 1) ls st h
    | .irem => k_div (fun x y => x - x / y * y) (pc + 1) ls st h
    | .if_icmp .eq _ => k_if2 (fun x y => decide (x = y)) a (pc + 3) ls st h
    | .if_icmp .ne _ => k_if2 (fun x y => decide (¬ x = y)) a (pc + 3) ls st h
    | .if_icmp .lt _ => k_if2 (fun x y => decide (x < y)) a (pc + 3) ls st h
    | .if_icmp .ge _ => k_if2 (fun x y => decide (y ≤ x)) a (pc + 3) ls st h
    | .if_icmp .gt _ => k_if2 (fun x y => decide (y < x)) a (pc + 3) ls st h
    | .if_icmp .le _ => k_if2 (fun x y => decide (x ≤ y)) a (pc + 3) ls st h
    | .ifCond .eq _ => k_if1 (fun x => decide (x = 0)) a (pc + 3) ls st h
    | .ifCond .ne _ => k_if1 (fun x => decide (¬ x = 0)) a (pc + 3) ls st h
    | .ifCond .lt _ => k_if1 (fun x => decide (x < 0)) a (pc + 3) ls st h
    | .ifCond .ge _ => k_if1 (fun x => decide (0 ≤ x)) a (pc + 3) ls st h
    | .ifCond .gt _ => k_if1 (fun x => decide (0 < x)) a (pc + 3) ls st h
    | .ifCond .le _ => k_if1 (fun x => decide (x ≤ 0)) a (pc + 3) ls st h
    | .ifnull _ => k_null (pc + 3) a ls st h
    | .ifnonnull _ => k_null a (pc + 3) ls st h
    | .goto _ => some (a, ls, st, h)
    | .dup => k_dup (pc + 1) ls st h
    | .pop => k_pop (pc + 1) ls st h
    | .dup2 => k_dup2 (pc + 1) ls st h
    | .tableswitch df lo hi offs => k_table pc df lo hi offs ls st h
    | .getfield _ => k_getf a b c (pc + 3) ls st h
    | .putfield _ => k_putf a b c d (pc + 3) ls st h
    | .iaload => k_iald (pc + 1) ls st h
    | .iastore => k_iast (pc + 1) ls st h
    | .baload => k_zald (pc + 1) ls st h
    | .bastore => k_zast (pc + 1) ls st h
    | .aaload => k_aald (pc + 1) ls st h
    | .aastore => k_aast (pc + 1) ls st h
    | .arraylength => k_alen (pc + 1) ls st h
    | .newarray .int => k_newa 0 (pc + 2) ls st h
    | .newarray .boolean => k_newa 1 (pc + 2) ls st h
    | .anewarray _ => k_newq a (pc + 3) ls st h
    | .new _ => k_new a (pc + 3) ls st h
    | .invokespecial _ => if f = 1 then k_oini (pc + 3) ls st h else none
    | .invokestatic _ => if f = 1 then k_copy (pc + 3) ls st h else if f = 2 then k_mm (fun x y => if x < y then y else x) (pc + 3) ls st h else if f = 3 then k_mm (fun x y => if y < x then y else x) (pc + 3) ls st h else none
    | _ => none
/-- a call: which method, its arguments, what stays on the stack -/
def acall (e : wE) (st : List Value) (h : aH) : Option (Nat × List Value × List Value) := match e with
  | (_, i, _, (a, b, c, d, f), _, _) => match i with
    | .invokevirtual _ => (match st.drop a with
      | .ref r :: s => (match h[r]? with
        | some (.inl (ci, _)) => if ci = b then some (c, .ref r :: (st.take a).reverse, s) else if ci = d then some (f, .ref r :: (st.take a).reverse, s) else none
        | _ => none)
      | _ => none)
    | .invokespecial _ => if f = 1 then none else (match st.drop a with
      | .ref r :: s => some (c, .ref r :: (st.take a).reverse, s)
      | _ => none)
    | .invokestatic _ => if f = 0 then some (c, (st.take a).reverse, st.drop a) else none
    | _ => none
/-- a return: what is answered -/
def aret (e : wE) (st : List Value) : Option (Option Value) := match e with
  | (_, i, _, (a, _, _, _, _), _, _) => match i with
    | .ireturn => (match st with
      | [.int v] => if a = 1 then (if v = 0 ∨ v = 1 then some (some (.int v)) else none) else some (some (.int v))
      | _ => none)
    | .areturn => (match st with
      | [.ref r] => some (some (.ref r))
      | [.null] => some (some .null)
      | _ => none)
    | .return_ => (match st with
      | [] => some none
      | _ => none)
    | _ => none
def alook (M pc : Nat) : Option wE := match prog[M]? with
  | some J => J.2.2.2.2.2.find? (fun e => e.1 == pc)
  | none => none
/-- the locals with which method M begins, if these may be its arguments -/
def aent (M : Nat) (args rest : List Value) : Option (List Value) := match prog[M]? with
  | some J => if args.length = J.2.2.2.2.1 ∧ args.all aOk = true ∧ rest.length ≤ 8 ∧ rest.all aOk = true then some (args ++ List.replicate (J.2.2.1 - args.length) aU) else none
  | none => none
def arun : Nat → Nat → Nat → Nat → List Value → List Value → aH → Option (Option Value × aH)
  | 0, _, _, _, _, _, _ => none
  | n + 1, d, M, pc, ls, st, h => match alook M pc with
    | none => none
    | some e => match aplain e ls st h with
      | some (pc', ls', st', h') => arun n d M pc' ls' st' h'
      | none => match acall e st h with
        | some (M', args, rest) => (match aent M' args rest with
          | none => none
          | some L => (match d with
            | 0 => none
            | d' + 1 => (match arun n d' M' 0 L [] h with
              | none => none
              | some (v, h1) => arun n (d' + 1) M (pc + 3) ls (v.toList ++ rest) h1)))
        | none => (match aret e st with
          | some v => some (v, h)
          | none => none)
theorem arun_mono : ∀ (n d M pc : Nat) (ls st : List Value) (h : aH) (r : Option Value × aH), arun n d M pc ls st h = some r → ∀ k, arun (n + k) d M pc ls st h = some r
  | 0, d, M, pc, ls, st, h, r, hr, k => by simp [arun] at hr
  | n + 1, d, M, pc, ls, st, h, r, hr, k => by
    rw [Nat.add_right_comm]
    simp only [arun] at hr ⊢
    cases he : alook M pc with
    | none => rw [he] at hr; cases hr
    | some e =>
      rw [he] at hr
      simp only at hr ⊢
      cases hp : aplain e ls st h with
      | some q =>
        rw [hp] at hr
        obtain ⟨pc', ls', st', h'⟩ := q
        simp only at hr ⊢
        exact arun_mono n d M pc' ls' st' h' r hr k
      | none =>
        rw [hp] at hr
        simp only at hr ⊢
        cases hc : acall e st h with
        | some q =>
          rw [hc] at hr
          obtain ⟨M', args, rest⟩ := q
          simp only at hr ⊢
          cases hL : aent M' args rest with
          | none => rw [hL] at hr; cases hr
          | some L =>
            rw [hL] at hr
            simp only at hr ⊢
            cases d with
            | zero => cases hr
            | succ d' =>
              simp only at hr ⊢
              cases hx : arun n d' M' 0 L [] h with
              | none => rw [hx] at hr; cases hr
              | some w =>
                obtain ⟨v, h1⟩ := w
                rw [hx] at hr
                rw [arun_mono n d' M' 0 L [] h (v, h1) hx k]
                simp only at hr ⊢
                exact arun_mono n (d' + 1) M (pc + 3) ls (v.toList ++ rest) h1 r hr k
        | none =>
          rw [hc] at hr
          simp only at hr ⊢
          exact hr
theorem arun_det {n m d M pc : Nat} {ls st : List Value} {h : aH} {r r' : Option Value × aH} (h1 : arun n d M pc ls st h = some r) (h2 : arun m d M pc ls st h = some r') : r = r' := by
  have a := arun_mono n d M pc ls st h r h1 m
  have b := arun_mono m d M pc ls st h r' h2 n
  rw [Nat.add_comm] at b
  exact Option.some.inj (a.symm.trans b)
noncomputable def go (d M pc : Nat) (ls st : List Value) (h : aH) : Option (Option Value × aH) :=
  @dite _ (∃ r n, arun n d M pc ls st h = some r) (Classical.propDecidable _) (fun hx => some (Classical.choose hx)) (fun _ => none)
theorem go_of {n d M pc : Nat} {ls st : List Value} {h : aH} {r : Option Value × aH} (hr : arun n d M pc ls st h = some r) : go d M pc ls st h = some r := by
  have hx : ∃ r n, arun n d M pc ls st h = some r := ⟨r, n, hr⟩
  unfold go
  rw [dif_pos hx]
  obtain ⟨m, hm⟩ := Classical.choose_spec hx
  rw [arun_det hr hm]
theorem go_run {d M pc : Nat} {ls st : List Value} {h : aH} {r : Option Value × aH} (hr : go d M pc ls st h = some r) : ∃ n, arun n d M pc ls st h = some r := by
  unfold go at hr
  by_cases hx : ∃ r n, arun n d M pc ls st h = some r
  · rw [dif_pos hx] at hr
    obtain ⟨m, hm⟩ := Classical.choose_spec hx
    cases hr
    exact ⟨m, hm⟩
  · rw [dif_neg hx] at hr
    cases hr
theorem go_ext {d M pc d' M' pc' : Nat} {ls st ls' st' : List Value} {h h' : aH} (k : ∀ r, (∃ n, arun n d M pc ls st h = some r) ↔ (∃ n, arun n d' M' pc' ls' st' h' = some r)) : go d M pc ls st h = go d' M' pc' ls' st' h' := by
  cases hx : go d' M' pc' ls' st' h' with
  | some r =>
    obtain ⟨n, hn⟩ := (k r).mpr (go_run hx)
    exact go_of hn
  | none =>
    cases hy : go d M pc ls st h with
    | none => rfl
    | some r =>
      obtain ⟨n, hn⟩ := (k r).mp (go_run hy)
      rw [go_of hn] at hx
      cases hx
/-- one plain instruction -/
theorem go_plain {d M pc : Nat} {ls st : List Value} {h : aH} {e : wE} {q : aK} (he : alook M pc = some e) (hp : aplain e ls st h = some q) : go d M pc ls st h = go d M q.1 q.2.1 q.2.2.1 q.2.2.2 := by
  obtain ⟨pc', ls', st', h'⟩ := q
  refine go_ext fun r => ⟨fun ⟨n, hn⟩ => ?_, fun ⟨n, hn⟩ => ⟨n + 1, ?_⟩⟩
  · cases n with
    | zero => simp [arun] at hn
    | succ n =>
      simp only [arun, he, hp] at hn
      exact ⟨n, hn⟩
  · simp only [arun, he, hp]
    exact hn
/-- a call -/
theorem go_call {d M pc : Nat} {ls st : List Value} {h : aH} {e : wE} {M' : Nat} {args rest L : List Value} (he : alook M pc = some e) (hp : aplain e ls st h = none) (hc : acall e st h = some (M', args, rest)) (hL : aent M' args rest = some L) :
    go (d + 1) M pc ls st h = (go d M' 0 L [] h).bind (fun q => go (d + 1) M (pc + 3) ls (q.1.toList ++ rest) q.2) := by
  cases hx : (go d M' 0 L [] h).bind (fun q => go (d + 1) M (pc + 3) ls (q.1.toList ++ rest) q.2) with
  | some r =>
    obtain ⟨q, h1, h2⟩ := Option.bind_eq_some_iff.mp hx
    obtain ⟨n, hn⟩ := go_run h1
    obtain ⟨m, hm⟩ := go_run h2
    refine go_of (n := n + m + 1) ?_
    obtain ⟨v, h1⟩ := q
    simp only [arun, he, hp, hc, hL, arun_mono n d M' 0 L [] h _ hn m]
    have := arun_mono m _ _ _ _ _ _ _ hm n
    rw [Nat.add_comm] at this
    exact this
  | none =>
    cases hy : go (d + 1) M pc ls st h with
    | none => rfl
    | some r =>
      obtain ⟨n, hn⟩ := go_run hy
      cases n with
      | zero => simp [arun] at hn
      | succ n =>
        simp only [arun, he, hp, hc, hL] at hn
        cases hz : arun n d M' 0 L [] h with
        | none => rw [hz] at hn; cases hn
        | some w =>
          obtain ⟨v, h1⟩ := w
          rw [hz] at hn
          simp only at hn
          rw [go_of hz, Option.bind_some] at hx
          rw [go_of hn] at hx
          cases hx
/-- a return -/
theorem go_ret {d M pc : Nat} {ls st : List Value} {h : aH} {e : wE} {v : Option Value} (he : alook M pc = some e) (hp : aplain e ls st h = none) (hc : acall e st h = none) (hr : aret e st = some v) : go d M pc ls st h = some (v, h) := go_of (n := 1) (by simp only [arun, he, hp, hc, hr])
