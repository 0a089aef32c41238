-- one mini instruction, whichever it is
section One
variable {K : mj_C} {z0 : Nat} {cst : Nat → Nat} {dD : va_G} {dA : Nat → ClassId} {y : Nat} {p : Program} {l : Launch} {e : Env} {R : Room} {s : State} {m : MethodId} {args : Array Value} {below : List Frame} {meth : Method} {c : Code} {Q : State → Prop} {n0 s0 : Nat}
variable {Z : mj_Z} {L : mj_L} {S : List mj_V} {H : Heap} {locs : List Loc} {ls : Array Slot} {pc : Nat} {a : Nat × mj_L × List mj_V × mj_Z}
theorem mj_ln {k n len : Nat} (h : n = 0 ∨ len = n) (e : n = k + 1) : len = k + 1 := by
  rcases h with h | h
  · omega
  · omega
theorem mj_inv_no (m' k : Nat) (S : List mj_V) (Z : mj_Z) (a : Nat × mj_L × List mj_V × mj_Z) : ¬ mj_inv m' k S Z = some (.inl a) := by
  intro h
  unfold mj_inv at h
  split at h <;> cases h
theorem mj_rt0_no (S : List mj_V) (a : Nat × mj_L × List mj_V × mj_Z) : ¬ mj_rt0 S = some (.inl a) := by
  intro h
  unfold mj_rt0 at h
  split at h <;> cases h
theorem mj_rti_no (b : Nat) (S : List mj_V) (a : Nat × mj_L × List mj_V × mj_Z) : ¬ mj_rti b S = some (.inl a) := by
  intro h
  unfold mj_rti at h
  (repeat' split at h) <;> cases h
theorem mj_rtl_no (S : List mj_V) (a : Nat × mj_L × List mj_V × mj_Z) : ¬ mj_rtl S = some (.inl a) := by
  intro h
  unfold mj_rtl at h
  split at h <;> cases h
theorem mj_rta_no (S : List mj_V) (a : Nat × mj_L × List mj_V × mj_Z) : ¬ mj_rta S = some (.inl a) := by
  intro h
  unfold mj_rta at h
  split at h <;> cases h
set_option maxHeartbeats 8000000 in
theorem mj_one {mi : mj_MI} {nx : Nat} (C : mj_Cx K z0 cst dD dA y n0 p s m args meth c) (X : mj_St z0 cst dD dA y n0 s0 s Z L S H locs ls) (kk : mj_Nx z0 cst dD dA y p l e R s m args below meth c Q n0 s0 a) (hR : 1 ≤ R.frames ∧ 64 ≤ R.locals) (hrm : mj_nc a.2.2.2 - n0 ≤ R.cells ∧ mj_ns a.2.2.2 - s0 ≤ R.slots) (hy : y < 188) (hc : mj_cod y pc = some (mi, nx)) (h : mj_step K nx mi L S Z = some (.inl a)) : mj_G z0 cst p l e R s m args below meth c Q n0 s0 Z S pc H locs ls := by
  obtain ⟨i, len, hd, htr, rfl, hln⟩ := mj_cod_ok hy hc
  cases i
  case iload k =>
    obtain rfl := mj_ln (k := 1) hln rfl
    cases htr
    exact mj_s_iload C X kk hd h
  case iload_n k =>
    obtain rfl := mj_ln (k := 0) hln rfl
    cases htr
    exact mj_s_iload_n C X kk hd h
  case aload k =>
    obtain rfl := mj_ln (k := 1) hln rfl
    cases htr
    exact mj_s_aload C X kk hd h
  case aload_n k =>
    obtain rfl := mj_ln (k := 0) hln rfl
    cases htr
    exact mj_s_aload_n C X kk hd h
  case lload k =>
    obtain rfl := mj_ln (k := 1) hln rfl
    cases htr
    exact mj_s_lload C X kk hd h
  case lload_n k =>
    obtain rfl := mj_ln (k := 0) hln rfl
    cases htr
    exact mj_s_lload_n C X kk hd h
  case istore k =>
    obtain rfl := mj_ln (k := 1) hln rfl
    cases htr
    exact mj_s_istore C X kk hd h
  case istore_n k =>
    obtain rfl := mj_ln (k := 0) hln rfl
    cases htr
    exact mj_s_istore_n C X kk hd h
  case astore k =>
    obtain rfl := mj_ln (k := 1) hln rfl
    cases htr
    exact mj_s_astore C X kk hd h
  case astore_n k =>
    obtain rfl := mj_ln (k := 0) hln rfl
    cases htr
    exact mj_s_astore_n C X kk hd h
  case lstore k =>
    obtain rfl := mj_ln (k := 1) hln rfl
    cases htr
    exact mj_s_lstore C X kk hd h
  case lstore_n k =>
    obtain rfl := mj_ln (k := 0) hln rfl
    cases htr
    exact mj_s_lstore_n C X kk hd h
  case iinc k n =>
    obtain rfl := mj_ln (k := 2) hln rfl
    cases htr
    exact mj_s_iinc C X kk hd h
  case iadd =>
    obtain rfl := mj_ln (k := 0) hln rfl
    cases htr
    exact mj_s_iadd C X kk hd h
  case isub =>
    obtain rfl := mj_ln (k := 0) hln rfl
    cases htr
    exact mj_s_isub C X kk hd h
  case imul =>
    obtain rfl := mj_ln (k := 0) hln rfl
    cases htr
    exact mj_s_imul C X kk hd h
  case idiv =>
    obtain rfl := mj_ln (k := 0) hln rfl
    cases htr
    exact mj_s_idiv C X kk hd h
  case irem =>
    obtain rfl := mj_ln (k := 0) hln rfl
    cases htr
    exact mj_s_irem C X kk hd h
  case ineg =>
    obtain rfl := mj_ln (k := 0) hln rfl
    cases htr
    exact mj_s_ineg C X kk hd h
  case iand =>
    obtain rfl := mj_ln (k := 0) hln rfl
    cases htr
    exact mj_s_iand C X kk hd h
  case iaload =>
    obtain rfl := mj_ln (k := 0) hln rfl
    cases htr
    exact mj_s_iald C X kk hd h
  case iastore =>
    obtain rfl := mj_ln (k := 0) hln rfl
    cases htr
    exact mj_s_iast C X kk hd h
  case laload =>
    obtain rfl := mj_ln (k := 0) hln rfl
    cases htr
    exact mj_s_lald C X kk hd h
  case lastore =>
    obtain rfl := mj_ln (k := 0) hln rfl
    cases htr
    exact mj_s_last C X kk hd h
  case aaload =>
    obtain rfl := mj_ln (k := 0) hln rfl
    cases htr
    exact mj_s_aald C X kk hd h
  case aastore =>
    obtain rfl := mj_ln (k := 0) hln rfl
    cases htr
    exact mj_s_aast C X kk hR hrm hd h
  case arraylength =>
    obtain rfl := mj_ln (k := 0) hln rfl
    cases htr
    exact mj_s_alen C X kk hd h
  case dup =>
    obtain rfl := mj_ln (k := 0) hln rfl
    cases htr
    exact mj_s_dup C X kk hd h
  case dup2 =>
    obtain rfl := mj_ln (k := 0) hln rfl
    cases htr
    exact mj_s_dup2 C X kk hd h
  case dup_x1 =>
    obtain rfl := mj_ln (k := 0) hln rfl
    cases htr
    exact mj_s_dupx C X kk hd h
  case pop =>
    obtain rfl := mj_ln (k := 0) hln rfl
    cases htr
    exact mj_s_pop C X kk hd h
  case i2l =>
    obtain rfl := mj_ln (k := 0) hln rfl
    cases htr
    exact mj_s_i2l C X kk hd h
  case l2i =>
    obtain rfl := mj_ln (k := 0) hln rfl
    cases htr
    exact mj_s_l2i C X kk hd h
  case i2b =>
    obtain rfl := mj_ln (k := 0) hln rfl
    cases htr
    exact mj_s_i2b C X kk hd h
  case i2s =>
    obtain rfl := mj_ln (k := 0) hln rfl
    cases htr
    exact mj_s_i2s C X kk hd h
  case ladd =>
    obtain rfl := mj_ln (k := 0) hln rfl
    cases htr
    exact mj_s_ladd C X kk hd h
  case lsub =>
    obtain rfl := mj_ln (k := 0) hln rfl
    cases htr
    exact mj_s_lsub C X kk hd h
  case lmul =>
    obtain rfl := mj_ln (k := 0) hln rfl
    cases htr
    exact mj_s_lmul C X kk hd h
  case ldiv =>
    obtain rfl := mj_ln (k := 0) hln rfl
    cases htr
    exact mj_s_ldiv C X kk hd h
  case lrem =>
    obtain rfl := mj_ln (k := 0) hln rfl
    cases htr
    exact mj_s_lrem C X kk hd h
  case land =>
    obtain rfl := mj_ln (k := 0) hln rfl
    cases htr
    exact mj_s_land C X kk hd h
  case lor =>
    obtain rfl := mj_ln (k := 0) hln rfl
    cases htr
    exact mj_s_lor C X kk hd h
  case lshl =>
    obtain rfl := mj_ln (k := 0) hln rfl
    cases htr
    exact mj_s_lshl C X kk hd h
  case lcmp =>
    obtain rfl := mj_ln (k := 0) hln rfl
    cases htr
    exact mj_s_lcmp C X kk hd h
  case lconst k =>
    obtain rfl := mj_ln (k := 0) hln rfl
    cases htr
    exact mj_s_lconst C X kk hd h
  case iconst n =>
    obtain rfl := mj_ln (k := 0) hln rfl
    simp only [mj_tr] at htr
    split at htr
    · rename_i hn
      cases htr
      exact mj_s_iconst C X kk hn hd h
    · cases htr
  case bipush n =>
    obtain rfl := mj_ln (k := 1) hln rfl
    simp only [mj_tr] at htr
    split at htr
    · rename_i hn
      cases htr
      exact mj_s_bipush C X kk hn hd h
    · cases htr
  case sipush n =>
    obtain rfl := mj_ln (k := 2) hln rfl
    simp only [mj_tr] at htr
    split at htr
    · rename_i hn
      cases htr
      exact mj_s_sipush C X kk hn hd h
    · cases htr
  case ifCond c0 off =>
    obtain rfl := mj_ln (k := 2) hln rfl
    simp only [mj_tr] at htr
    split at htr
    · rename_i hn
      cases htr
      exact mj_s_ifc C X kk hn hd h
    · cases htr
  case if_icmp c0 off =>
    obtain rfl := mj_ln (k := 2) hln rfl
    simp only [mj_tr] at htr
    split at htr
    · rename_i hn
      cases htr
      exact mj_s_icmp C X kk hn hd h
    · cases htr
  case goto off =>
    obtain rfl := mj_ln (k := 2) hln rfl
    simp only [mj_tr] at htr
    split at htr
    · rename_i hn
      cases htr
      exact mj_s_goto C X kk hn hd h
    · cases htr
  case tableswitch d lo hi offs =>
    simp only [mj_tr] at htr
    split at htr
    · rename_i hn
      cases htr
      exact mj_s_tsw C X kk hn.1 hn.2.1 hn.2.2 hd h
    · cases htr
  case lookupswitch d ps =>
    simp only [mj_tr] at htr
    split at htr
    · rename_i hn
      cases htr
      exact mj_s_lsw C X kk hn.1 hn.2.1 hn.2.2 hd h
    · cases htr
  case getfield ix =>
    obtain rfl := mj_ln (k := 2) hln rfl
    simp only [mj_tr, Option.map_eq_some_iff] at htr
    obtain ⟨⟨o, ix', ci, j, ps⟩, hx, rfl⟩ := htr
    obtain ⟨h1, h2, h3⟩ := mj_fnd_ok hx
    simp only at h2 h3
    subst h2
    subst h3
    exact mj_s_getf C X kk h1 hd h
  case putfield ix =>
    obtain rfl := mj_ln (k := 2) hln rfl
    simp only [mj_tr, Option.bind_eq_some_iff] at htr
    obtain ⟨⟨o, ix', ci, j, ps⟩, hx, htr⟩ := htr
    obtain ⟨h1, h2, h3⟩ := mj_fnd_ok hx
    simp only at h2 h3 htr
    subst h2
    subst h3
    split at htr
    · rename_i hf
      split at htr
      · rename_i hi
        cases htr
        exact mj_s_putF C X kk h1 hf hi.2.1 hi.1 hi.2.2 hd h
      · cases htr
    · rename_i hf
      have hf2 : (mj_TT ci j).2.2.2 = false := by simpa using hf
      split at htr
      · rename_i ht
        cases htr
        exact mj_s_putf C X kk h1 hf2 (Or.inl ⟨rfl, ht⟩) hd h
      · split at htr
        · rename_i ht
          cases htr
          exact mj_s_putf C X kk h1 hf2 (Or.inr (Or.inl ⟨rfl, ht⟩)) hd h
        · split at htr
          · rename_i ht
            cases htr
            exact mj_s_putf C X kk h1 hf2 (Or.inr (Or.inr ⟨rfl, ht⟩)) hd h
          · cases htr
  case getstatic ix =>
    obtain rfl := mj_ln (k := 2) hln rfl
    simp only [mj_tr, Option.map_eq_some_iff] at htr
    obtain ⟨⟨o, ix', k, f, ps⟩, hx, rfl⟩ := htr
    obtain ⟨h1, h2, h3⟩ := mj_fnd_ok hx
    simp only at h2 h3
    subst h2
    subst h3
    exact mj_s_gets C X kk h1 hd h
  case ldc2_w ix =>
    obtain rfl := mj_ln (k := 2) hln rfl
    simp only [mj_tr, Option.map_eq_some_iff] at htr
    obtain ⟨⟨o, ix', n, ps⟩, hx, rfl⟩ := htr
    obtain ⟨h1, h2, h3⟩ := mj_fnd_ok hx
    simp only at h2 h3
    subst h2
    subst h3
    exact mj_s_ldc2 C X kk h1 hd h
  case new ix =>
    obtain rfl := mj_ln (k := 2) hln rfl
    simp only [mj_tr, Option.bind_eq_some_iff] at htr
    obtain ⟨⟨o, ix', nm, ps⟩, hx, htr⟩ := htr
    obtain ⟨h1, h2, h3⟩ := mj_fnd_ok hx
    simp only at h2 h3 htr
    subst h2
    subst h3
    split at htr
    · rename_i hi
      cases htr
      refine mj_s_new C X kk hR hrm h1 hi ?_ hd h
      unfold mj_own
      rw [List.getD_eq_getElem?_getD, List.getElem?_eq_getElem (by show _ < 11; omega)]
      exact (List.getElem_idxOf _).symm
    · cases htr
  case newarray t =>
    obtain rfl := mj_ln (k := 1) hln rfl
    cases t
    case int => cases htr; exact mj_s_nwi C X kk hR hrm hd h
    case long => cases htr; exact mj_s_nwl C X kk hR hrm hd h
    all_goals cases htr
  case anewarray ix =>
    obtain rfl := mj_ln (k := 2) hln rfl
    simp only [mj_tr, Option.bind_eq_some_iff] at htr
    obtain ⟨⟨o, ix', nm, ps⟩, hx, htr⟩ := htr
    obtain ⟨h1, h2, h3⟩ := mj_fnd_ok hx
    simp only at h2 h3 htr
    subst h2
    subst h3
    split at htr
    · rename_i hi
      subst hi
      cases htr
      exact mj_s_nwr C X kk hR hrm h1 hd h
    · cases htr
  case multianewarray ix dm =>
    obtain rfl := mj_ln (k := 3) hln rfl
    rcases dm with _ | _ | _ | dm
    · cases htr
    · cases htr
    · simp only [mj_tr, Option.bind_eq_some_iff] at htr
      obtain ⟨⟨o, ix', nm, ps⟩, hx, htr⟩ := htr
      obtain ⟨h1, h2, h3⟩ := mj_fnd_ok hx
      simp only at h2 h3 htr
      subst h2
      subst h3
      split at htr
      · rename_i hi
        subst hi
        cases htr
        exact mj_s_nwm C X kk hR hrm h1 hd h
      · cases htr
    · cases htr
  case invokestatic ix =>
    obtain rfl := mj_ln (k := 2) hln rfl
    simp only [mj_tr, mj_fm, Option.bind_eq_some_iff] at htr
    obtain ⟨⟨o, ix', t, f, ps⟩, hx, htr⟩ := htr
    obtain ⟨h1, h2, h3⟩ := mj_fnd_ok hx
    simp only at h2 h3 htr
    subst h2
    subst h3
    split at htr
    · split at htr
      · cases htr
        exact absurd h (mj_inv_no _ _ _ _ _)
      · cases htr
    · split at htr
      · rename_i hf
        subst hf
        split at htr
        · rename_i ht
          subst ht
          cases htr
          exact mj_s_max C X kk hR hrm h1 hd h
        · split at htr
          · rename_i ht
            subst ht
            cases htr
            exact mj_s_min C X kk hR hrm h1 hd h
          · split at htr
            · rename_i ht
              subst ht
              cases htr
              exact mj_s_acp C X kk hR hrm h1 hd h
            · cases htr
      · cases htr
  case invokespecial ix =>
    obtain rfl := mj_ln (k := 2) hln rfl
    simp only [mj_tr, mj_fm, Option.bind_eq_some_iff] at htr
    obtain ⟨⟨o, ix', t, f, ps⟩, hx, htr⟩ := htr
    obtain ⟨h1, h2, h3⟩ := mj_fnd_ok hx
    simp only at h2 h3 htr
    subst h2
    subst h3
    split at htr
    · split at htr
      · cases htr
        exact absurd h (mj_inv_no _ _ _ _ _)
      · cases htr
    · split at htr
      · rename_i hf
        obtain ⟨rfl, rfl⟩ := hf
        cases htr
        exact mj_s_oin C X kk hR hrm h1 hd h
      · cases htr
  case invokevirtual ix =>
    obtain rfl := mj_ln (k := 2) hln rfl
    simp only [mj_tr, mj_fm, Option.bind_eq_some_iff] at htr
    obtain ⟨⟨o, ix', t, f, ps⟩, hx, htr⟩ := htr
    simp only at htr
    split at htr
    · cases htr
      exact absurd h (mj_inv_no _ _ _ _ _)
    · cases htr
  case return_ =>
    obtain rfl := mj_ln (k := 0) hln rfl
    simp only [mj_tr] at htr
    split at htr
    all_goals first | (cases htr; exact absurd h (mj_rt0_no _ _)) | cases htr
  case ireturn =>
    obtain rfl := mj_ln (k := 0) hln rfl
    simp only [mj_tr] at htr
    split at htr
    all_goals first | (cases htr; exact absurd h (mj_rti_no _ _ _)) | cases htr
  case lreturn =>
    obtain rfl := mj_ln (k := 0) hln rfl
    simp only [mj_tr] at htr
    split at htr
    all_goals first | (cases htr; exact absurd h (mj_rtl_no _ _)) | cases htr
  case areturn =>
    obtain rfl := mj_ln (k := 0) hln rfl
    simp only [mj_tr] at htr
    split at htr
    all_goals first | (cases htr; exact absurd h (mj_rta_no _ _)) | cases htr
  all_goals cases htr
end One
