-- more rows for the symbolic run
section Rows2
variable {K : mj_C} {nx : Nat} {L : mj_L} {S : List mj_V} {h : List mj_S} {M : Nat → Nat → Int} {N : Nat → Nat → Int64}
theorem mo_get {ci j q : Nat} : mj_get ci j nx L (.inr (.inr (.inl q)) :: S) (h, M, N) = match mj_fk h q ci j with
    | some (.inl 1) => mj_go nx L (.inr (.inl (N q j)) :: S) (h, M, N)
    | some (.inl _) => mj_go nx L (.inl (M q j) :: S) (h, M, N)
    | some (.inr (some b)) => mj_go nx L (.inr (.inr (.inl b)) :: S) (h, M, N)
    | _ => none := rfl
theorem mo_put {q0 v : Int} {ci j q : Nat} : mj_put q0 ci j nx L (.inl v :: .inr (.inr (.inl q)) :: S) (h, M, N) = match mj_fk h q ci j with
    | some (.inl 0) => if q0 = 0 then mj_go nx L S (h, mj_u M q j v, N) else none
    | some (.inl 2) => if q0 = 2 then (if v = 0 ∨ v = 1 then mj_go nx L S (h, mj_u M q j v, N) else none) else none
    | _ => none := rfl
theorem mo_putl2 {q0 : Int} {v : Int64} {ci j q : Nat} : mj_put q0 ci j nx L (.inr (.inl v) :: .inr (.inr (.inl q)) :: S) (h, M, N) = match mj_fk h q ci j with
    | some (.inl 1) => if q0 = 1 then mj_go nx L S (h, M, mj_u N q j v) else none
    | _ => none := rfl
theorem mo_ial {q : Nat} {i : Int} : mj_iald K nx L (.inl i :: .inr (.inr (.inl q)) :: S) (h, M, N) = match mj_al h 1 q with
    | some n => if 0 ≤ i ∧ i < n then mj_go nx L (.inl (M q i.toNat) :: S) (h, M, N) else none
    | none => none := rfl
theorem mo_ias {q : Nat} {i v : Int} : mj_iast nx L (.inl v :: .inl i :: .inr (.inr (.inl q)) :: S) (h, M, N) = match mj_al h 1 q with
    | some n => if 0 ≤ i ∧ i < n then mj_go nx L S (h, mj_u M q i.toNat v, N) else none
    | none => none := rfl
theorem mo_lal {q : Nat} {i : Int} : mj_lald nx L (.inl i :: .inr (.inr (.inl q)) :: S) (h, M, N) = match mj_al h 2 q with
    | some n => if 0 ≤ i ∧ i < n then mj_go nx L (.inr (.inl (N q i.toNat)) :: S) (h, M, N) else none
    | none => none := rfl
theorem mo_las {q : Nat} {i : Int} {v : Int64} : mj_last nx L (.inr (.inl v) :: .inl i :: .inr (.inr (.inl q)) :: S) (h, M, N) = match mj_al h 2 q with
    | some n => if 0 ≤ i ∧ i < n then mj_go nx L S (h, M, mj_u N q i.toNat v) else none
    | none => none := rfl
theorem mo_ale {q : Nat} : mj_alen K nx L (.inr (.inr (.inl q)) :: S) (h, M, N) = match mj_len h q with
    | some n => if n < 1000000 then mj_go nx L (.inl (n : Int) :: S) (h, M, N) else none
    | none => none := rfl
end Rows2
theorem x_104 (K : mj_C) (d : Nat) (Z : mj_Z) (x a b : Int) : mj_X K d 104 [.inl x, .inl a, .inl b] Z (fun r Z' => r = some (.inl (if a ≤ x ∧ x ≤ b then 1 else 0)) ∧ Z' = Z) := by
  show mj_T K d 104 0 [some (.inl x), some (.inl a), some (.inl b)] [] Z _
  refine mj_go_on 20 [] ?_
  simp only [mw_s k104_0 (by decide), mw_s k104_1 (by decide), mw_s k104_2 (by decide), mw_s k104_5 (by decide), mw_s k104_6 (by decide), mw_s k104_7 (by decide), mw_s k104_10 (by decide), mw_s k104_11 (by decide), mw_s k104_14 (by decide), mw_s k104_15 (by decide), ms_0, ms_1, ms_2, ms_3, ms_4, ms_5, ms_6, ms_7, ms_8, ms_9, ms_10, ms_11, ms_12, ms_13, ms_14, ms_15, ms_16, ms_17, ms_18, ms_19, ms_20, ms_21, ms_23, ms_24, ms_25, ms_26, ms_27, ms_28, ms_29, ms_30, ms_31, ms_33, ms_34, ms_35, ms_41, ms_42, ms_43, ms_44, ms_45, ms_46, ms_47, ms_48, ms_49, ms_50, ms_51, ms_52, ms_53, ms_54, ms_55, ms_56, ms_57, ms_58, ms_59, mb_go, mb_ret, mb_none, mb_in, mb_ite, mj_o1, mj_o2, mj_o3, mj_o7, mo_o4, mo_o5, mo_o6, mo_bin, mo_dv, mo_neg, mo_and, mo_get, mo_put, mo_putl2, mo_ial, mo_ialc, mo_ias, mo_lal, mo_las, mo_ale, mo_alec, mo_if, mo_ic, mo_br0, mo_br1, mo_br2, mo_br3, mo_br4, mo_br5, mo_swi, mo_sw0, mo_sw1, mo_rt0, mo_rti0, mo_rti1, mo_rtl, mo_rta, mo_mx, mo_dupi, mo_dupr, mo_dup2, mo_dupx, mo_popi, mo_popr, mo_i2, mo_l2, mo_lbin, mo_ldv, mo_lsh, mo_lcm, mj_st1, mj_st2, mj_kill, mj_cat, mj_w1, mw_0, List.getElem?_cons_zero, List.getElem?_cons_succ, List.set_cons_zero, List.set_cons_succ, List.length_cons, List.length_nil, List.mem_cons, List.not_mem_nil, or_false, false_or, or_true, true_or, if_true, if_false, true_and, and_true, Nat.reduceEqDiff, Nat.reduceLT, Nat.reduceLTLE, Nat.reduceAdd, Nat.reduceLeDiff, reduceCtorEq, OfNat.ofNat_ne_zero, Nat.zero_add, Nat.lt_irrefl]
  sorry
theorem x_120 (K : mj_C) (d : Nat) (M : Nat → Nat → Int) (N : Nat → Nat → Int64) (g : Nat) (hg : g < 5) : mj_X K d 120 [.inr (.inr (.inl 126)), .inl g] (mj_Sh, M, N) (fun r Z' => r = some (.inl 7) ∧ Z' = (mj_Sh, M, N)) := by
  show mj_T K d 120 0 [some (.inr (.inr (.inl 126))), some (.inl g), none, none] [] _ _
  refine mj_go_on 20 [9] ?_
  simp only [mw_s k120_0 (by decide), mw_s k120_1 (by decide), mw_s k120_2 (by decide), mw_s k120_3 (by decide), mw_s k120_6 (by decide), mw_s k120_7 (by decide), mw_s k120_8 (by decide), mw_s k120_9 (by decide), mw_s k120_10 (by decide), mw_s k120_11 (by decide), mw_s k120_14 (by decide), mw_s k120_15 (by decide), mw_s k120_16 (by decide), mw_s k120_19 (by decide), mw_s k120_20 (by decide), mw_s k120_21 (by decide), mw_s k120_24 (by decide), mw_s k120_25 (by decide), mw_s k120_26 (by decide), mw_s k120_27 (by decide), mw_s k120_28 (by decide), mw_s k120_31 (by decide), mw_s k120_34 (by decide), mw_s k120_35 (by decide), ms_0, ms_1, ms_2, ms_3, ms_4, ms_5, ms_6, ms_7, ms_8, ms_9, ms_10, ms_11, ms_12, ms_13, ms_14, ms_15, ms_16, ms_17, ms_18, ms_19, ms_20, ms_21, ms_23, ms_24, ms_25, ms_26, ms_27, ms_28, ms_29, ms_30, ms_31, ms_33, ms_34, ms_35, ms_41, ms_42, ms_43, ms_44, ms_45, ms_46, ms_47, ms_48, ms_49, ms_50, ms_51, ms_52, ms_53, ms_54, ms_55, ms_56, ms_57, ms_58, ms_59, mb_go, mb_ret, mb_none, mb_in, mb_ite, mj_o1, mj_o2, mj_o3, mj_o7, mo_o4, mo_o5, mo_o6, mo_bin, mo_dv, mo_neg, mo_and, mo_get, mo_put, mo_putl2, mo_ial, mo_ialc, mo_ias, mo_lal, mo_las, mo_ale, mo_alec, mo_if, mo_ic, mo_br0, mo_br1, mo_br2, mo_br3, mo_br4, mo_br5, mo_swi, mo_sw0, mo_sw1, mo_rt0, mo_rti0, mo_rti1, mo_rtl, mo_rta, mo_mx, mo_dupi, mo_dupr, mo_dup2, mo_dupx, mo_popi, mo_popr, mo_i2, mo_l2, mo_lbin, mo_ldv, mo_lsh, mo_lcm, mj_st1, mj_st2, mj_kill, mj_cat, mj_w1, mw_0, List.getElem?_cons_zero, List.getElem?_cons_succ, List.set_cons_zero, List.set_cons_succ, List.length_cons, List.length_nil, List.mem_cons, List.not_mem_nil, or_false, false_or, or_true, true_or, if_true, if_false, true_and, and_true, Nat.reduceEqDiff, Nat.reduceLT, Nat.reduceLTLE, Nat.reduceAdd, Nat.reduceLeDiff, reduceCtorEq, OfNat.ofNat_ne_zero, Nat.zero_add, Nat.lt_irrefl, f126_0, f126_1, f126_2, f126_3, f126_4, f126_5, f126_6, f126_7, f126_8, f126_9, f126_10, f126_11, f126_12, f126_13, f126_14, f126_15, f126_16, f126_17, f126_18, f126_19, f126_20, f126_21, f126_22, f126_23, f126_24, f126_25, f126_26, f126_27, f126_28, f126_29, al136, al137, al130]
  sorry
