/-! the small machine's run is the real machine's -/
section AL
variable {p : Program} {l : Launch} {e : Env} {R : Room} {s : State} {m : MethodId} {args : Array Value} {below : List Frame} {meth : Method} {c : Code} {H : Heap} {locs : List Loc} {cells slots : Nat} {Q : State → Prop}
variable {D : va_G} {t : Nat → Nat} {B : Nat} {h : aH} {arr : Array Slot} {ls st : List Value} {k : aK}
set_option maxHeartbeats 4000000 in
theorem sp_all {J : wM} {en : wE} (hx : p.tables.exec = Jvm.exec) (hb : c.code = J.2.1) (hts : ∀ w ∈ gtbl, w.before args s = true) (hown : s.vm.findClass J.1.cls = some m.cls) (hnx : aNx s) (hnm : J.1.name = "<init>" → meth.name = "<init>") (hg : goodE J en = true) (hRf : 1 ≤ R.frames) (hRl : 64 ≤ R.locals)
    (S : aSim D t B h s H) (hl : aL t B arr ls) (hn : ls.length = c.maxLocals) (hloc : ∀ q ∈ locs, B ≤ q.base) (hp : aplain en ls st h = some k) (hRc : cells + (k.2.2.2.length - h.length) ≤ R.cells) (hRs : slots + (asl k.2.2.2 - asl h) ≤ R.slots) (kk : aKK p l e R s m args below meth c Q D t B cells slots h k) : W p l e R s m args below meth c H locs cells slots Q (F0 m en.1 arr (st.map (vr t B))) := by
  obtain ⟨pc, i, ln, ⟨a, b, c', d, f⟩, x, rf⟩ := en
  simp only [goodE, Bool.and_eq_true, decide_eq_true_eq] at hg
  obtain ⟨hd, gx⟩ := hg
  cases i
  case iconst n => exact sp_push S hl hn hloc hp kk fun rest kw => lv_iconst hx hb hd rfl kw
  case bipush n => exact sp_push S hl hn hloc hp kk fun rest kw => lv_bipush hx hb hd rfl kw
  case sipush n => exact sp_push S hl hn hloc hp kk fun rest kw => lv_sipush hx hb hd rfl kw
  case ldc_w idx => exact sp_push S hl hn hloc hp kk fun rest kw => lv_ldcw hx hb hown (hts _ (inT_mem gx)) hd kw
  case aconst_null => exact sp_push S hl hn hloc hp kk fun rest kw => lv_null hx hb hd kw
  case getstatic idx =>
    simp only [gX, Bool.and_eq_true, decide_eq_true_eq, Bool.or_eq_true] at gx
    exact sp_gets hx hb hown gx.1 (gx.2.imp (fun z => hts _ (inT_mem z)) (fun z => va_Nw.use rfl (hnx.2.2 _ z))) hd S hl hn hloc hp kk
  case iload_n n => exact sp_iload S hl hn hloc hp kk fun x rest ha kw => lv_iload_n hx hb hd rfl ha kw
  case iload n => exact sp_iload S hl hn hloc hp kk fun x rest ha kw => lv_iload hx hb hd ha kw
  case aload_n n => exact sp_aload S hl hn hloc hp kk (fun x rest ha kw => lv_aload_n hx hb hd rfl ha kw) (fun rest ha kw => lv_aload_nN hx hb hd rfl ha kw)
  case aload n => exact sp_aload S hl hn hloc hp kk (fun x rest ha kw => lv_aload hx hb hd ha kw) (fun rest ha kw => lv_aloadN hx hb hd ha kw)
  case istore_n n => exact sp_istore S hl hn hloc hp kk fun x rest hi kw => lv_istore_n hx hb hd rfl hl.has hi rfl kw
  case istore n => exact sp_istore S hl hn hloc hp kk fun x rest hi kw => lv_istore hx hb hd hl.has hi rfl kw
  case astore_n n => exact sp_astore S hl hn hloc hp kk (fun x rest hi kw => lv_astore_n hx hb hd rfl hl.has hi rfl kw) (fun rest hi kw => lv_astore_nN hx hb hd rfl hl.has hi rfl kw)
  case astore n => exact sp_astore S hl hn hloc hp kk (fun x rest hi kw => lv_astore hx hb hd hl.has hi rfl kw) (fun rest hi kw => lv_astoreN hx hb hd hl.has hi rfl kw)
  case iinc n z => exact sp_iinc S hl hn hloc hp kk fun x j rest hi hj kw => lv_iinc hx hb hd hl.has hj rfl hi rfl kw
  case iadd => exact sp_bin S hl hn hloc hp kk fun x y rest kw => lv_iadd hx hb hd kw
  case isub => exact sp_bin S hl hn hloc hp kk fun x y rest kw => lv_isub hx hb hd kw
  case imul => exact sp_bin S hl hn hloc hp kk fun x y rest kw => lv_imul hx hb hd kw
  case iand => exact sp_bin S hl hn hloc hp kk fun x y rest kw => lv_iand hx hb hd kw
  case ior => exact sp_bin S hl hn hloc hp kk fun x y rest kw => lv_ior hx hb hd kw
  case ishl => exact sp_bin S hl hn hloc hp kk fun x y rest kw => lv_ishl hx hb hd kw
  case ishr => exact sp_bin S hl hn hloc hp kk fun x y rest kw => lv_ishr hx hb hd kw
  case iushr => exact sp_bin S hl hn hloc hp kk fun x y rest kw => lv_iushr hx hb hd rfl kw
  case idiv => exact sp_div S hl hn hloc hp kk fun x y rest hy kw => lv_idiv hx hb hd hy kw
  case irem => exact sp_div S hl hn hloc hp kk fun x y rest hy kw => lv_irem hx hb hd hy kw
  case if_icmp cd off =>
    have ht : (pc : Int) + off = (a : Int) := of_decide_eq_true gx
    cases cd
    case eq => exact sp_if2 S hl hn hloc hp kk fun x y rest k1 k2 => lv_icmp_eq hx hb hd ht (fun z => k1 (decide_eq_true z)) (fun z => k2 (fun w => z (of_decide_eq_true w)))
    case ne => exact sp_if2 S hl hn hloc hp kk fun x y rest k1 k2 => lv_icmp_ne hx hb hd ht (fun z => k1 (decide_eq_true z)) (fun z => k2 (fun w => (of_decide_eq_true w) z))
    case lt => exact sp_if2 S hl hn hloc hp kk fun x y rest k1 k2 => lv_icmp_lt hx hb hd ht (fun z => k1 (decide_eq_true z)) (fun z => k2 (fun w => z (of_decide_eq_true w)))
    case ge => exact sp_if2 S hl hn hloc hp kk fun x y rest k1 k2 => lv_icmp_ge hx hb hd ht (fun z => k1 (decide_eq_true z)) (fun z => k2 (fun w => z (of_decide_eq_true w)))
    case gt => exact sp_if2 S hl hn hloc hp kk fun x y rest k1 k2 => lv_icmp_gt hx hb hd ht (fun z => k1 (decide_eq_true z)) (fun z => k2 (fun w => z (of_decide_eq_true w)))
    case le => exact sp_if2 S hl hn hloc hp kk fun x y rest k1 k2 => lv_icmp_le hx hb hd ht (fun z => k1 (decide_eq_true z)) (fun z => k2 (fun w => z (of_decide_eq_true w)))
  case ifCond cd off =>
    have ht : (pc : Int) + off = (a : Int) := of_decide_eq_true gx
    cases cd
    case eq => exact sp_if1 S hl hn hloc hp kk fun x rest k1 k2 => lv_if_eq hx hb hd ht (fun z => k1 (decide_eq_true z)) (fun z => k2 (fun w => z (of_decide_eq_true w)))
    case ne => exact sp_if1 S hl hn hloc hp kk fun x rest k1 k2 => lv_if_ne hx hb hd ht (fun z => k1 (decide_eq_true z)) (fun z => k2 (fun w => (of_decide_eq_true w) z))
    case lt => exact sp_if1 S hl hn hloc hp kk fun x rest k1 k2 => lv_if_lt hx hb hd ht (fun z => k1 (decide_eq_true z)) (fun z => k2 (fun w => z (of_decide_eq_true w)))
    case ge => exact sp_if1 S hl hn hloc hp kk fun x rest k1 k2 => lv_if_ge hx hb hd ht (fun z => k1 (decide_eq_true z)) (fun z => k2 (fun w => z (of_decide_eq_true w)))
    case gt => exact sp_if1 S hl hn hloc hp kk fun x rest k1 k2 => lv_if_gt hx hb hd ht (fun z => k1 (decide_eq_true z)) (fun z => k2 (fun w => z (of_decide_eq_true w)))
    case le => exact sp_if1 S hl hn hloc hp kk fun x rest k1 k2 => lv_if_le hx hb hd ht (fun z => k1 (decide_eq_true z)) (fun z => k2 (fun w => z (of_decide_eq_true w)))
  case ifnull off => exact sp_null S hl hn hloc hp kk (fun x rest kw => lv_ifnull hx hb hd kw) (fun rest kw => lv_ifnullN hx hb hd (of_decide_eq_true gx) kw)
  case ifnonnull off => exact sp_null S hl hn hloc hp kk (fun x rest kw => lv_ifnonnull hx hb hd (of_decide_eq_true gx) kw) (fun rest kw => lv_ifnonnullN hx hb hd kw)
  case goto off =>
    have hp : some (a, ls, st, h) = some k := hp
    cases hp
    exact lv_goto hx hb hd (of_decide_eq_true gx) (kk.use (i := 0) (j := 0) rfl rfl S hl hn hloc)
  case dup => exact sp_dup S hl hn hloc hp kk fun v rest hv kw => lv_dup hx hb hd hv kw
  case pop => exact sp_pop S hl hn hloc hp kk fun v rest hv kw => lv_pop hx hb hd hv kw
  case dup2 => exact sp_dup2 S hl hn hloc hp kk fun v w rest hv hw kw => lv_dup2_11 hx hb hd hv hw kw
  case tableswitch df lo hi offs => exact sp_table hx hb hd S hl hn hloc hp kk
  case getfield idx =>
    simp only [gX, Bool.and_eq_true] at gx
    exact sp_getf hx hb hts hown (inF_at gx.1) (inF_at gx.2) hd S hl hn hloc hp kk
  case putfield idx =>
    simp only [gX, Bool.and_eq_true] at gx
    exact sp_putf hx hb hts hown hnm (inF_at gx.1) (inF_at gx.2.1) (inP_at gx.2.2.1) (inP_at gx.2.2.2) hd S hl hn hloc hp kk
  case iaload => exact sp_iald hx hb hd S hl hn hloc hp kk
  case iastore => exact sp_iast hx hb hd S hl hn hloc hp kk
  case baload => exact sp_zald hx hb hd S hl hn hloc hp kk
  case bastore => exact sp_zast hx hb hd S hl hn hloc hp kk
  case aaload => exact sp_aald hx hb hd S hl hn hloc hp kk
  case aastore => exact sp_aast hx hb hd S hl hn hloc hp kk
  case arraylength => exact sp_alen hx hb hd S hl hn hloc hp kk
  case newarray ty =>
    cases ty
    case int => exact sp_newa (atype := .int) hx hb (hts _ (inT_mem gx)) (Or.inl ⟨rfl, rfl⟩) hd S hl hn hloc hp hRc hRs kk
    case boolean => exact sp_newa (atype := .boolean) hx hb (hts _ (inT_mem gx)) (Or.inr ⟨rfl, rfl⟩) hd S hl hn hloc hp hRc hRs kk
    all_goals (have hp : (none : Option aK) = some k := hp; cases hp)
  case anewarray idx =>
    simp only [gX] at gx
    split at gx
    · rename_i r hr
      simp only [Bool.and_eq_true, decide_eq_true_eq] at gx
      exact sp_newq hx hb hown hr (hts _ (inT_mem gx.1)) (va_AO.use (hnx.1 _ gx.2)) hd S hl hn hloc hp hRc hRs kk
    · cases gx
  case new idx =>
    simp only [gX] at gx
    split at gx
    · rename_i r hr
      exact sp_new hx hb hts hown hr (hts _ (inT_mem gx)) hd S hl hn hloc hp hRc hRs kk
    · cases gx
  case invokespecial idx =>
    have hp : (if f = 1 then k_oini (pc + 3) ls st h else none) = some k := hp
    split at hp
    · rename_i hf
      simp only [gX, hf, if_true, Bool.and_eq_true, decide_eq_true_eq] at gx
      exact sp_oini hx hb hown (hts _ (inT_mem gx.1)) (hts _ (inT_mem gx.2.1)) (hts _ (inT_mem gx.2.2)) hRf hRl hd S hl hn hloc hp kk
    · cases hp
  case invokestatic idx =>
    simp only [aplain] at hp
    by_cases hf1 : f = 1
    · rw [if_pos hf1] at hp
      simp only [gX, hf1, if_true, Bool.and_eq_true] at gx
      exact sp_copy hx hb hown (hts _ (inT_mem gx.1)) (hts _ (inT_mem gx.2.1)) (hts _ (inT_mem gx.2.2.1)) (hts _ (inT_mem gx.2.2.2)) hRf hRl hd S hl hn hloc hp kk
    · rw [if_neg hf1] at hp
      by_cases hf2 : f = 2
      · rw [if_pos hf2] at hp
        simp only [gX] at gx
        rw [if_neg hf1, if_pos hf2] at gx
        simp only [Bool.and_eq_true] at gx
        exact sp_mm hRl S hl hn hloc hp kk fun x y rest hlo kw => va_mmax hx hb (hn.symm.trans hl.1.symm) hown (hts _ (inT_mem gx.1)) (hts _ (inT_mem gx.2.1)) (hts _ (inT_mem gx.2.2.1)) (hts _ (inT_mem gx.2.2.2)) hRf hlo (by omega) (by omega) hd kw
      · rw [if_neg hf2] at hp
        by_cases hf3 : f = 3
        · rw [if_pos hf3] at hp
          simp only [gX] at gx
          rw [if_neg hf1, if_neg hf2, if_pos hf3] at gx
          simp only [Bool.and_eq_true] at gx
          exact sp_mm hRl S hl hn hloc hp kk fun x y rest hlo kw => va_mmin hx hb (hn.symm.trans hl.1.symm) hown (hts _ (inT_mem gx.1)) (hts _ (inT_mem gx.2.1)) (hts _ (inT_mem gx.2.2.1)) (hts _ (inT_mem gx.2.2.2)) hRf hlo (by omega) (by omega) hd kw
        · rw [if_neg hf3] at hp
          cases hp
  all_goals (have hp : (none : Option aK) = some k := hp; cases hp)
/-- a call by a contract, whatever it answers -/
theorem ca_go {pc mc ms : Nat} {st0 rest : List Value} {Qa : State → Outcome → State → Prop} {free : Addr → Prop} (hr : va_Run p l e R s m args below meth c H locs cells slots mc ms (F0 m pc arr st0) rest Qa free)
    (kk : ∀ (v : Option Value) (s0 t' : State) (L : List Loc), s.vm.Alike t'.vm → Qa s0 (.returned v) t' → (∀ q ∈ L, free q.base) → W p l e R s m args below meth c t'.heap (locs ++ L) (cells + mc) (slots + ms) Q (F0 m (pc + 3) arr (v.toList ++ rest))) : W p l e R s m args below meth c H locs cells slots Q (F0 m pc arr st0) := by
  intro T hT X
  obtain ⟨v, s0, t', T', L, h0, X', hL, e1, e2, hq, stp⟩ := hr T hT X
  obtain ⟨t2, a1, b1⟩ := kk v s0 t' L (by rw [← e2]; exact X'.warmed.alike) hq hL T' e1 X'
  exact ⟨t2, stp t2 a1, b1⟩
end AL
/-- the words of a method -/
def aws (J : wM) : List Jvm.Cond := Jvm.Cond.code J.1 J.2.1 J.2.2.1 J.2.2.2.1 :: gtbl
def arm (d mc ms : Nat) : Room := { frames := d + 2, cells := mc, slots := ms, locals := 64 * (d + 1) }
def aPc (D : va_G) (t : Nat → Nat) (B : Nat) (as : List Value) (h : aH) : Array Value → State → Prop := va_Pc (as.map (vr t B)) (fun U => aSim D t B h U U.heap ∧ aNx U)
def aQc (D : va_G) (t : Nat → Nat) (B : Nat) (r : Option Value) (h' : aH) : Array Value → State → Outcome → State → Prop := fun _ _ oc t' => oc = .returned (r.map (vr t B)) ∧ aSim D t B h' t' t'.heap
theorem aws_good {J : wM} (h : Jvm.Cond.code J.1 J.2.1 J.2.2.1 J.2.2.2.1 ∈ gtbl) : GoodIn gtbl (aws J) := by
  intro w hw
  rcases List.mem_cons.mp hw with rfl | hw
  · exact ⟨h, good_of_word (gtbl_in h).2⟩
  · exact ⟨hw, good_of_word (gtbl_in hw).2⟩
theorem aPc_blind {D : va_G} {t : Nat → Nat} {B : Nat} {as : List Value} {h : aH} : FrameBlind (aPc D t B as h) := by
  intro a U g mk q
  obtain ⟨q0, q1, q2⟩ := q
  exact ⟨q0, aSim.moved (u := U) (U := U.calling g mk a) (Vm.Alike.refl U.vm) q1, q2.same rfl⟩
