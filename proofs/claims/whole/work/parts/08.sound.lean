/-! what is looked at in each entry, by a program -/
def lnOf (i : Instr) : Nat := match i with
  | .bipush _ => 2
  | .iload _ => 2
  | .aload _ => 2
  | .istore _ => 2
  | .astore _ => 2
  | .newarray _ => 2
  | .sipush _ => 3
  | .ldc_w _ => 3
  | .getstatic _ => 3
  | .getfield _ => 3
  | .putfield _ => 3
  | .if_icmp _ _ => 3
  | .ifCond _ _ => 3
  | .ifnull _ => 3
  | .ifnonnull _ => 3
  | .goto _ => 3
  | .iinc _ _ => 3
  | .anewarray _ => 3
  | .new _ => 3
  | .invokevirtual _ => 3
  | .invokespecial _ => 3
  | .invokestatic _ => 3
  | _ => 1
def lnE (e : wE) : Nat := match e.2.1 with
  | .tableswitch _ _ _ _ => e.2.2.1
  | i => lnOf i
def gX (J : wM) (e : wE) : Bool := match e with
  | (pc, i, _, (a, b, c, d, f), x, rf) => match i with
    | .if_icmp _ off => decide ((pc : Int) + off = (a : Int))
    | .ifCond _ off => decide ((pc : Int) + off = (a : Int))
    | .goto off => decide ((pc : Int) + off = (a : Int))
    | .ifnull off => decide ((pc : Int) + off = (a : Int))
    | .ifnonnull off => decide ((pc : Int) + off = (a : Int))
    | .ldc_w idx => inT (Jvm.Cond.constant J.1.cls idx (Int32.ofNat a))
    | .getfield idx => inF J.1.cls idx a b rf && inF J.1.cls idx a c rf
    | .putfield idx => inF J.1.cls idx a b rf && (inF J.1.cls idx a c rf && (inP J.1.cls J.1.name a b d && inP J.1.cls J.1.name a c d))
    | .getstatic idx => decide (stNames[a]? = some x.name) && (inT (Jvm.Cond.fieldLink J.1.cls idx "WordHides" x.name "[I") || decide ((J.1.cls, idx, x.name) ∈ xF))
    | .newarray .int => inT (Jvm.Cond.arrayClass .int)
    | .newarray .boolean => inT (Jvm.Cond.arrayClass .boolean)
    | .anewarray idx => (match vwCl[a]? with
      | some r => inT (Jvm.Cond.classLink J.1.cls idx r.1) && decide (r.1 ∈ xA)
      | none => false)
    | .new idx => (match vwCl[a]? with
      | some r => inT (Jvm.Cond.classLink J.1.cls idx r.1)
      | none => false)
    | .invokespecial idx => if f = 1 then inT (Jvm.Cond.methodLink J.1.cls idx Lib.objectInit) && (inT (Jvm.Cond.instanceMethod Lib.objectInit) && inT (Jvm.Cond.code Lib.objectInit ⟨#[0xb1]⟩ 1 none)) else inSp J.1.cls idx a c
    | .invokestatic idx => if f = 1 then inT (Jvm.Cond.methodLink J.1.cls idx arraycopyName) && (inT (Jvm.Cond.native arraycopyName) && (inT (Jvm.Cond.static arraycopyName) && inT (Jvm.Cond.initialized "java/lang/System"))) else if f = 2 then inT (Jvm.Cond.methodLink J.1.cls idx Lib.Math.max.name) && (inT (Jvm.Cond.static Lib.Math.max.name) && (inT (Jvm.Cond.initialized "java/lang/Math") && inT (Jvm.Cond.code Lib.Math.max.name Lib.Math.max.code 2 (some .int)))) else if f = 3 then inT (Jvm.Cond.methodLink J.1.cls idx Lib.Math.min.name) && (inT (Jvm.Cond.static Lib.Math.min.name) && (inT (Jvm.Cond.initialized "java/lang/Math") && inT (Jvm.Cond.code Lib.Math.min.name Lib.Math.min.code 2 (some .int)))) else inSt J.1.cls idx a c
    | .invokevirtual idx => inVi J.1.cls idx a b c x rf && inVi J.1.cls idx a d f x rf
    | .ireturn => if a = 1 then decide (J.2.2.2.1 = some .boolean) else decide (J.2.2.2.1 = some .int)
    | .areturn => (match J.2.2.2.1 with
      | some (.object _) => true
      | _ => false)
    | .return_ => decide (J.2.2.2.1 = none)
    | _ => true
def goodE (J : wM) (e : wE) : Bool := decide (decode J.2.1 e.1 = .ok (e.2.1, lnE e)) && gX J e
/-! heaps only grow -/
theorem mono_all {e : wE} {ls st : List Value} {h : aH} {k : aK} (hp : aplain e ls st h = some k) : h.length ≤ k.2.2.2.length ∧ asl h ≤ asl k.2.2.2 := by
  have same : ∀ {k : aK}, k.2.2.2 = h → h.length ≤ k.2.2.2.length ∧ asl h ≤ asl k.2.2.2 := fun hk => by rw [hk]; exact ⟨Nat.le_refl _, Nat.le_refl _⟩
  have sets : ∀ {k : aK} {a : Nat} {c c' : aC}, h[a]? = some c → acs c' = acs c → k.2.2.2 = h.set a c' → h.length ≤ k.2.2.2.length ∧ asl h ≤ asl k.2.2.2 := fun ha hc hk => by rw [hk, asl_set ha hc, List.length_set]; exact ⟨Nat.le_refl _, Nat.le_refl _⟩
  have app : ∀ {k : aK} {c : aC}, k.2.2.2 = h ++ [c] → h.length ≤ k.2.2.2.length ∧ asl h ≤ asl k.2.2.2 := fun hk => by rw [hk, asl_app, List.length_append]; exact ⟨Nat.le_add_right _ _, Nat.le_add_right _ _⟩
  obtain ⟨pc, i, ln, ⟨a, b, c, d, f⟩, x, rf⟩ := e
  unfold aplain at hp
  simp only at hp
  split at hp
  all_goals first
    | (obtain ⟨a, r, ci, fs, v, -, ha, hc, hv, rfl⟩ := k_getf_inv hp; exact same rfl)
    | (obtain ⟨v, a, r, ci, fs, -, ha, hc, rfl⟩ := k_putf_inv hp; exact sets ha (by simp [acs]) rfl)
    | (obtain ⟨i, a, r, z, xs, x, -, ha, hc, hxs, rfl⟩ := k_iald_inv hp; exact same rfl)
    | (obtain ⟨i, a, r, z, xs, x, -, ha, hc, hxs, rfl⟩ := k_zald_inv hp; exact same rfl)
    | (obtain ⟨x, i, a, r, z, xs, -, ha, hc, rfl⟩ := k_iast_inv hp; exact sets ha (by simp [acs]) rfl)
    | (obtain ⟨x, i, a, r, z, xs, -, ha, hc, rfl⟩ := k_zast_inv hp; exact sets ha (by simp [acs]) rfl)
    | (obtain ⟨i, a, r, z, os, o, -, ha, hi, ho, rfl⟩ := k_aald_inv hp; exact same rfl)
    | (obtain ⟨v, i, a, r, z, os, ci, fs, -, ha, hv, hc, rfl⟩ := k_aast_inv hp; exact sets ha (by simp [acs]) rfl)
    | (obtain ⟨a, r, z, xs, -, ha, rfl⟩ := k_alen_inv hp; exact same rfl)
    | (obtain ⟨n, r, -, hN, rfl⟩ := k_newa_inv hp; exact app rfl)
    | (obtain ⟨n, r, -, hN, rfl⟩ := k_newq_inv hp; exact app rfl)
    | (unfold k_new at hp; cases hp; exact app rfl)
    | (unfold k_push at hp; cases hp; exact same rfl)
    | (unfold k_iload at hp; split at hp <;> first | (cases hp; done) | (cases hp; exact same rfl))
    | (unfold k_aload at hp; split at hp <;> first | (cases hp; done) | (cases hp; exact same rfl))
    | (unfold k_istore at hp; repeat' split at hp
       all_goals first | (cases hp; done) | (cases hp; exact same rfl))
    | (unfold k_astore at hp; repeat' split at hp
       all_goals first | (cases hp; done) | (cases hp; exact same rfl))
    | (unfold k_iinc at hp; repeat' split at hp
       all_goals first | (cases hp; done) | (cases hp; exact same rfl))
    | (unfold k_bin at hp; repeat' split at hp
       all_goals first | (cases hp; done) | (cases hp; exact same rfl))
    | (unfold k_div at hp; repeat' split at hp
       all_goals first | (cases hp; done) | (cases hp; exact same rfl))
    | (unfold k_if1 at hp; split at hp <;> first | (cases hp; done) | (cases hp; exact same rfl))
    | (unfold k_if2 at hp; split at hp <;> first | (cases hp; done) | (cases hp; exact same rfl))
    | (unfold k_null at hp; split at hp <;> first | (cases hp; done) | (cases hp; exact same rfl))
    | (unfold k_dup at hp; repeat' split at hp
       all_goals first | (cases hp; done) | (cases hp; exact same rfl))
    | (unfold k_pop at hp; repeat' split at hp
       all_goals first | (cases hp; done) | (cases hp; exact same rfl))
    | (unfold k_dup2 at hp; repeat' split at hp
       all_goals first | (cases hp; done) | (cases hp; exact same rfl))
    | (unfold k_table at hp; repeat' split at hp
       all_goals first | (cases hp; done) | (cases hp; exact same rfl))
    | (cases hp; exact same rfl)
    | (split at hp
       · obtain ⟨a, r, -, hr, rfl⟩ := k_oini_inv hp; exact same rfl
       · cases hp)
    | (split at hp
       · obtain ⟨n, dp, b, sp, a, r, z, xs, u, ys, -, ha, hb, hc, rfl⟩ := k_copy_inv hp
         exact sets hb (by simp only [acs, List.length_append, List.length_take, List.length_drop]; omega) rfl
       · split at hp
         · obtain ⟨y, x, r, -, -, rfl⟩ := k_mm_inv hp; exact same rfl
         · split at hp
           · obtain ⟨y, x, r, -, -, rfl⟩ := k_mm_inv hp; exact same rfl
           · cases hp)
    | (cases hp; done)
