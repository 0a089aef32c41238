-- the class: a plan's start, all worked out
theorem wGr_0 (s : Nat → Int) : wGr s (w0 s) = gF s (fun y => s (1 + y)) (s 0).toNat := rfl
theorem x_21_35 {K : mj_C} {d : Nat} {M : Nat → Nat → Int} {N : Nat → Nat → Int64} (hD : 3 ≤ d) (s : Nat → Int) (hs : pRg s) (hS : cSV 2 M s) (hz : ∀ p, p ≤ 20 → M 38 p = 0) : mj_X K d 21 [.inr (.inr (.inl 35)), .inr (.inr (.inl 2))] (mj_Sh, M, N) (fun r Z => r = none ∧ ∃ M1, Z = (mj_Sh, M1, N) ∧ (∀ c, c < 35 ∨ 35 < c ∧ c < 39 ∨ 49 < c → M1 c = M c) ∧ cPl 35 M1 s (w0 s)) := by
  show mj_T K d 21 0 [some (.inr (.inr (.inl 35))), some (.inr (.inr (.inl 2))), none] [] (mj_Sh, M, N) _
  have h0 := hs.1 0 (by omega)
  have h5 := hs.2.1
  obtain ⟨Y, hYe⟩ : ∃ Y : Nat, Y = (s 0).toNat := ⟨_, rfl⟩
  have hY0 : s 0 = (Y : Int) := by omega
  have pS0 : ∀ n, pS (fun _ => (0 : Int)) 0 n = 0 := by
    intro n; induction n with
    | zero => rfl
    | succ n ih => rw [pS, ih]; rfl
  have key : ∀ y : Nat, y ≤ Y → ∀ q0 p1 p2 : Nat → Int, (q0 11 = s 0 ∧ q0 12 = s 44 ∧ q0 13 = 0 ∧ q0 14 = 0 ∧ q0 15 = 0) → (∀ k, k < y → p1 k = s (1 + k) ∧ p2 k = 0) → mj_T K d 21 35 [some (.inr (.inr (.inl 35))), some (.inr (.inr (.inl 2))), some (.inl ((y : Nat) : Int))] [] (mj_Sh, (st M [(35, q0), (48, p1), (49, p2)]), N) (fun r Z => r = none ∧ ∃ M1, Z = (mj_Sh, M1, N) ∧ (∀ c, c < 35 ∨ 35 < c ∧ c < 39 ∨ 49 < c → M1 c = M c) ∧ cPl 35 M1 s (w0 s)) := by
    refine up_to Y ?_ ?_
    · show ∀ q0 p1 p2 : Nat → Int, (q0 11 = s 0 ∧ q0 12 = s 44 ∧ q0 13 = 0 ∧ q0 14 = 0 ∧ q0 15 = 0) → (∀ k, k < Y → p1 k = s (1 + k) ∧ p2 k = 0) → mj_T K d 21 35 [some (.inr (.inr (.inl 35))), some (.inr (.inr (.inl 2))), some (.inl ((Y : Nat) : Int))] [] (mj_Sh, (st M [(35, q0), (48, p1), (49, p2)]), N) (fun r Z => r = none ∧ ∃ M1, Z = (mj_Sh, M1, N) ∧ (∀ c, c < 35 ∨ 35 < c ∧ c < 39 ∨ 49 < c → M1 c = M c) ∧ cPl 35 M1 s (w0 s))
      intro q0 p1 p2 hq hp
      refine tw_iload k21_35 rfl ?_
      refine tw_aload k21_36 rfl ?_
      refine tw_geti k21_37 f35_11 rfl (v := ((Y : Nat) : Int)) (show q0 11 = _ from (hq.1.trans hY0)) ?_
      refine tw_cgeT k21_40 (by omega) ?_
      refine tw_aload k21_68 rfl ?_
      refine tw_getr k21_69 f35_0 ?_
      refine tw_aload k21_72 rfl ?_
      refine tw_call (by omega) (S' := []) (as := [.inr (.inr (.inl 36)), .inr (.inr (.inl 2))]) k21_73 (x_1_35 (M := (st M [(35, q0), (48, p1), (49, p2)])) (N := N) (by omega) s hs (show cSV 2 (st M [(35, q0), (48, p1), (49, p2)]) s from hS) (fun p hp => hz p hp)) rfl rfl rfl rfl rfl (fun r73 Z73 hq73 => ?_)
      obtain ⟨rfl, M2, rfl, hf2, hd2⟩ := hq73
      refine tw_as (S := []) (M := M2) (N := N) rfl rfl ?_
      refine tw_aload k21_76 rfl ?_
      refine tw_getr k21_77 f35_1 ?_
      refine tw_aload k21_80 rfl ?_
      refine tw_getr k21_81 f35_0 ?_
      refine tw_aload k21_84 rfl ?_
      refine tw_getr k21_85 f35_2 ?_
      refine tw_aload k21_88 rfl ?_
      refine tw_geti k21_89 f35_11 rfl (v := ((Y : Nat) : Int)) (by rw [hf2 _ (by omega)]; exact hq.1.trans hY0) ?_
      refine tw_call (by omega) (S' := []) (as := [.inr (.inr (.inl 44)), .inr (.inr (.inl 36)), .inr (.inr (.inl 48)), .inl ((Y : Nat) : Int)]) k21_92 (x_7_35 (M := M2) (N := N) (by omega) s hs hd2 Y hYe (fun y => s (1 + y)) (fun y hy => by rw [hf2 _ (by omega)]; exact (hp y hy).1) (fun y hy => by have := hs.1 (1 + y) (by omega); omega)) rfl rfl rfl rfl rfl (fun r92 Z92 hq92 => ?_)
      obtain ⟨rfl, f0, f1, f2, f3, rfl, hG2⟩ := hq92
      refine tw_as (S := []) (M := (st M2 [(44, f0), (45, f1), (46, f2), (47, f3)])) (N := N) rfl rfl ?_
      exact tw_rv k21_95 (⟨rfl, _, rfl, fun c hc => by rw [st_c, if_neg (by omega), st_c, if_neg (by omega), st_c, if_neg (by omega), st_c, if_neg (by omega), st_nil, hf2 c (by omega), st_c, if_neg (by omega), st_c, if_neg (by omega), st_c, if_neg (by omega), st_nil],
        by show M2 35 11 = _; rw [hf2 _ (by omega)]; exact hq.1, by show M2 35 12 = _; rw [hf2 _ (by omega)]; exact hq.2.1, by show M2 35 13 = _; rw [hf2 _ (by omega)]; exact hq.2.2.1, by show M2 35 14 = _; rw [hf2 _ (by omega)]; exact hq.2.2.2.1, by show M2 35 15 = _; rw [hf2 _ (by omega)]; exact hq.2.2.2.2.trans (pS0 _).symm,
        fun y hy => ⟨by show M2 48 y = _; rw [hf2 _ (by omega)]; exact (hp y (by omega)).1, by show M2 49 y = _; rw [hf2 _ (by omega)]; exact (hp y (by omega)).2⟩, by rw [wGr_0, ← hYe]; exact hG2, dM_fr hs hd2 (fun c _ _ => by rw [st_c, if_neg (by omega), st_c, if_neg (by omega), st_c, if_neg (by omega), st_c, if_neg (by omega), st_nil])⟩)
    · intro y hmy ih
      have ih : ∀ q0 p1 p2 : Nat → Int, (q0 11 = s 0 ∧ q0 12 = s 44 ∧ q0 13 = 0 ∧ q0 14 = 0 ∧ q0 15 = 0) → (∀ k, k < (y + 1) → p1 k = s (1 + k) ∧ p2 k = 0) → mj_T K d 21 35 [some (.inr (.inr (.inl 35))), some (.inr (.inr (.inl 2))), some (.inl (((y + 1) : Nat) : Int))] [] (mj_Sh, (st M [(35, q0), (48, p1), (49, p2)]), N) (fun r Z => r = none ∧ ∃ M1, Z = (mj_Sh, M1, N) ∧ (∀ c, c < 35 ∨ 35 < c ∧ c < 39 ∨ 49 < c → M1 c = M c) ∧ cPl 35 M1 s (w0 s)) := ih
      show ∀ q0 p1 p2 : Nat → Int, (q0 11 = s 0 ∧ q0 12 = s 44 ∧ q0 13 = 0 ∧ q0 14 = 0 ∧ q0 15 = 0) → (∀ k, k < y → p1 k = s (1 + k) ∧ p2 k = 0) → mj_T K d 21 35 [some (.inr (.inr (.inl 35))), some (.inr (.inr (.inl 2))), some (.inl ((y : Nat) : Int))] [] (mj_Sh, (st M [(35, q0), (48, p1), (49, p2)]), N) (fun r Z => r = none ∧ ∃ M1, Z = (mj_Sh, M1, N) ∧ (∀ c, c < 35 ∨ 35 < c ∧ c < 39 ∨ 49 < c → M1 c = M c) ∧ cPl 35 M1 s (w0 s))
      intro q0 p1 p2 hq hp
      refine tw_iload k21_35 rfl ?_
      refine tw_aload k21_36 rfl ?_
      refine tw_geti k21_37 f35_11 rfl (v := ((Y : Nat) : Int)) (show q0 11 = _ from (hq.1.trans hY0)) ?_
      refine tw_cgeF k21_40 (by omega) ?_
      refine tw_aload k21_43 rfl ?_
      refine tw_getr k21_44 f35_2 ?_
      refine tw_iload k21_47 rfl ?_
      refine tw_aload k21_48 rfl ?_
      refine tw_getr k21_49 f2_0 ?_
      refine tw_iload k21_52 rfl ?_
      refine tw_iald (j := y) (v := (s (1 + y))) k21_53 al3 rfl (by omega) (show M 3 y = _ from (hS.2.2.1 y (by omega)).1) ?_
      refine tw_iast (M := M) (N := N) (l := [(35, q0), (48, p1), (49, p2)]) (l' := [(35, q0), (48, (pU p1 y (s (1 + y)))), (49, p2)]) (j := y) k21_54 al48 rfl (by omega) rfl ?_
      refine tw_aload k21_55 rfl ?_
      refine tw_getr k21_56 f35_3 ?_
      refine tw_iload k21_59 rfl ?_
      refine tw_const k21_60 ?_
      refine tw_iast (M := M) (N := N) (l := [(35, q0), (48, (pU p1 y (s (1 + y)))), (49, p2)]) (l' := [(35, q0), (48, (pU p1 y (s (1 + y)))), (49, (pU p2 y (0 : Int)))]) (j := y) k21_61 al49 rfl (by omega) rfl ?_
      refine tw_iinc k21_62 rfl (v := ((y + 1 : Nat) : Int)) rfl (by omega) rfl (L' := [some (.inr (.inr (.inl 35))), some (.inr (.inr (.inl 2))), some (.inl ((y + 1 : Nat) : Int))]) rfl ?_
      refine tw_goto k21_65 ?_
      refine ih _ _ _ hq (fun k hk => ?_)
      by_cases e : k = y
      · subst e; exact ⟨pU_eq, pU_eq⟩
      · rw [pU_ne e, pU_ne e]; exact hp k (by omega)
  refine tw_aload k21_0 rfl ?_
  refine tw_aload k21_1 rfl ?_
  refine tw_geti k21_2 f2_6 rfl (v := (s 0)) hS.1 ?_
  refine tw_puti (M := M) (N := N) (l := []) (l' := [(35, (pU (M 35) 11 (s 0)))]) k21_5 f35_11 rfl ?_
  refine tw_aload k21_8 rfl ?_
  refine tw_aload k21_9 rfl ?_
  refine tw_getr k21_10 f2_5 ?_
  refine tw_const k21_13 ?_
  refine tw_iald (j := 2) (v := (s 44)) k21_14 al8 rfl (by decide) (show M 8 2 = _ from (hS.2.2.2.2 2 (by omega))) ?_
  refine tw_puti (M := M) (N := N) (l := [(35, (pU (M 35) 11 (s 0)))]) (l' := [(35, (pU (pU (M 35) 11 (s 0)) 12 (s 44)))]) k21_15 f35_12 rfl ?_
  refine tw_aload k21_18 rfl ?_
  refine tw_const k21_19 ?_
  refine tw_puti (M := M) (N := N) (l := [(35, (pU (pU (M 35) 11 (s 0)) 12 (s 44)))]) (l' := [(35, (pU (pU (pU (M 35) 11 (s 0)) 12 (s 44)) 13 (0 : Int)))]) k21_20 f35_13 rfl ?_
  refine tw_aload k21_23 rfl ?_
  refine tw_const k21_24 ?_
  refine tw_puti (M := M) (N := N) (l := [(35, (pU (pU (pU (M 35) 11 (s 0)) 12 (s 44)) 13 (0 : Int)))]) (l' := [(35, (pU (pU (pU (pU (M 35) 11 (s 0)) 12 (s 44)) 13 (0 : Int)) 14 (0 : Int)))]) k21_25 f35_14 rfl ?_
  refine tw_aload k21_28 rfl ?_
  refine tw_const k21_29 ?_
  refine tw_puti (M := M) (N := N) (l := [(35, (pU (pU (pU (pU (M 35) 11 (s 0)) 12 (s 44)) 13 (0 : Int)) 14 (0 : Int)))]) (l' := [(35, (pU (pU (pU (pU (pU (M 35) 11 (s 0)) 12 (s 44)) 13 (0 : Int)) 14 (0 : Int)) 15 (0 : Int)))]) k21_30 f35_15 rfl ?_
  refine tw_const k21_33 ?_
  refine tw_istore k21_34 rfl (L' := [some (.inr (.inr (.inl 35))), some (.inr (.inr (.inl 2))), some (.inl (0 : Int))]) rfl ?_
  refine tw_pad (M := M) (N := N) (l := [(35, (pU (pU (pU (pU (pU (M 35) 11 (s 0)) 12 (s 44)) 13 (0 : Int)) 14 (0 : Int)) 15 (0 : Int)))]) (l' := [(35, (pU (pU (pU (pU (pU (M 35) 11 (s 0)) 12 (s 44)) 13 (0 : Int)) 14 (0 : Int)) 15 (0 : Int))), (48, M 48), (49, M 49)]) [48, 49] rfl ?_
  refine key 0 (by omega) _ _ _ ⟨?_, ?_, ?_, ?_, ?_⟩ (fun k hk => by omega)
  · rw [pU_ne (by omega), pU_ne (by omega), pU_ne (by omega), pU_ne (by omega), pU_eq]
  · rw [pU_ne (by omega), pU_ne (by omega), pU_ne (by omega), pU_eq]
  · rw [pU_ne (by omega), pU_ne (by omega), pU_eq]
  · rw [pU_ne (by omega), pU_eq]
  · rw [pU_eq]
theorem x_12_35 {K : mj_C} {d : Nat} {M : Nat → Nat → Int} {N : Nat → Nat → Int64} (hD : 4 ≤ d) (s : Nat → Int) (hs : pRg s) (hS : cSV 2 M s) (hz : ∀ p, p ≤ 20 → M 38 p = 0) : mj_X K d 12 [.inr (.inr (.inl 35)), .inr (.inr (.inl 2))] (mj_Sh, M, N) (fun r Z => r = none ∧ ∃ M1 N1, Z = (mj_Sh, M1, N1) ∧ (∀ c, c < 35 ∨ 61 < c → M1 c = M c) ∧ (∀ c, c ≠ 35 → N1 c = N c) ∧ (∀ p, p ≤ 20 → M1 38 p = 0) ∧ (∀ i j, j < i → i < 5 → M1 (56 + i) j = M (56 + i) j) ∧ cPV 35 M1 N1 s) := by
  show mj_T K d 12 0 [some (.inr (.inr (.inl 35))), some (.inr (.inr (.inl 2))), none] [] (mj_Sh, M, N) _
  have h0 := hs.1 0 (by omega)
  have h5 := hs.2.1
  obtain ⟨Y, hYe⟩ : ∃ Y : Nat, Y = (s 0).toNat := ⟨_, rfl⟩
  have hY0 : s 0 = (Y : Int) := by omega
  have key : ∀ g : Nat, g ≤ (wG s).1 → ∀ M5 : Nat → Nat → Int, (∀ c, c < 35 ∨ 61 < c → M5 c = M c) → (∀ p, p ≤ 20 → M5 38 p = 0) → (∀ i j, j < i → i < 5 → M5 (56 + i) j = M (56 + i) j) → cPl 35 M5 s (wB s) → (∀ k, k < g → (∀ y, (wG s).2.1 k ≤ y → y ≤ (wG s).2.2.1 k → M5 50 y = (k : Int) ∧ M5 51 y = wU s (wB s).1 (wG s) y ∧ M5 52 y = wBk s (wB s).1 (wG s) y ∧ (∀ i, i ≤ y → M5 (56 + i) y = wFl s (wB s).1 (wG s) i y) ∧ 0 ≤ M5 61 y ∧ M5 61 y ≤ 1000) ∧ M5 53 k = wLk s (wB s).1 (wG s) k) → mj_T K d 12 37 [some (.inr (.inr (.inl 35))), some (.inr (.inr (.inl 2))), some (.inl ((g : Nat) : Int))] [] (mj_Sh, M5, N) (fun r Z => r = none ∧ ∃ M1 N1, Z = (mj_Sh, M1, N1) ∧ (∀ c, c < 35 ∨ 61 < c → M1 c = M c) ∧ (∀ c, c ≠ 35 → N1 c = N c) ∧ (∀ p, p ≤ 20 → M1 38 p = 0) ∧ (∀ i j, j < i → i < 5 → M1 (56 + i) j = M (56 + i) j) ∧ cPV 35 M1 N1 s) := by
    refine up_to (wG s).1 ?_ ?_
    · show ∀ M5 : Nat → Nat → Int, (∀ c, c < 35 ∨ 61 < c → M5 c = M c) → (∀ p, p ≤ 20 → M5 38 p = 0) → (∀ i j, j < i → i < 5 → M5 (56 + i) j = M (56 + i) j) → cPl 35 M5 s (wB s) → (∀ k, k < (wG s).1 → (∀ y, (wG s).2.1 k ≤ y → y ≤ (wG s).2.2.1 k → M5 50 y = (k : Int) ∧ M5 51 y = wU s (wB s).1 (wG s) y ∧ M5 52 y = wBk s (wB s).1 (wG s) y ∧ (∀ i, i ≤ y → M5 (56 + i) y = wFl s (wB s).1 (wG s) i y) ∧ 0 ≤ M5 61 y ∧ M5 61 y ≤ 1000) ∧ M5 53 k = wLk s (wB s).1 (wG s) k) → mj_T K d 12 37 [some (.inr (.inr (.inl 35))), some (.inr (.inr (.inl 2))), some (.inl (((wG s).1 : Nat) : Int))] [] (mj_Sh, M5, N) (fun r Z => r = none ∧ ∃ M1 N1, Z = (mj_Sh, M1, N1) ∧ (∀ c, c < 35 ∨ 61 < c → M1 c = M c) ∧ (∀ c, c ≠ 35 → N1 c = N c) ∧ (∀ p, p ≤ 20 → M1 38 p = 0) ∧ (∀ i j, j < i → i < 5 → M1 (56 + i) j = M (56 + i) j) ∧ cPV 35 M1 N1 s)
      intro M5 f1 f2 f3 f4 f5
      have hG5 : (wG s).1 ≤ 5 := by have := (wGr_ok s (wB s)).1; unfold wG; omega
      have hcov : ∀ y, y < (s 0).toNat → (gOf (wG s) y < (wG s).1 ∧ (wG s).2.1 (gOf (wG s) y) ≤ y ∧ y ≤ (wG s).2.2.1 (gOf (wG s) y)) := fun y hy => gOf_in (wGr_ok s (wB s)) hy
      have hur := fun y (hy : y < (s 0).toNat) => wU_rg hs (by omega) (wGr_ok s (wB s)) (fun k hk => (wI_p (wB_I hs) k hk).1) hy
      refine tw_iload k12_37 rfl ?_
      refine tw_aload k12_38 rfl ?_
      refine tw_getr k12_39 f35_1 ?_
      refine tw_geti k12_42 f44_3 rfl (v := (((wG s).1 : Nat) : Int)) f4.2.2.2.2.2.2.1.1 ?_
      refine tw_cgeT k12_45 (by omega) ?_
      refine tw_aload k12_64 rfl ?_
      refine tw_aload k12_65 rfl ?_
      refine tw_call (by omega) (S' := []) (as := [.inr (.inr (.inl 35)), .inr (.inr (.inl 2))]) k12_66 (x_30_35 (M := M5) (N := N) (by omega) s hs (cSV_fr hS (fun c _ _ => f1 c (by omega))) (wG s) (by omega) f4.2.2.2.2.2.2.1 (wU s (wB s).1 (wG s)) (wLk s (wB s).1 (wG s)) (fun y hy => ⟨((f5 _ (hcov y hy).1).1 y (hcov y hy).2.1 (hcov y hy).2.2).2.1, (hur y hy).1, (hur y hy).2.1⟩) (fun g hg => ⟨(f5 g hg).2, wLk_rg hs (wGr_ok s (wB s)) (wI_p (wB_I hs)) hg⟩)) rfl rfl rfl rfl rfl (fun r66 Z66 hq66 => ?_)
      obtain ⟨rfl, v1, rfl, hv1⟩ := hq66
      refine tw_as (S := []) (M := (st M5 [(54, v1)])) (N := (st N [(35, (pU (N 35) 16 (wTt s)))])) rfl rfl ?_
      exact tw_rv k12_69 (⟨rfl, _, _, rfl, fun c hc => by rw [st_c, if_neg (by omega), st_nil]; exact f1 c hc, fun c hc => by rw [st_c, if_neg hc, st_nil], f2, fun i j hij hi => by rw [st_c, if_neg (by omega), st_nil]; exact f3 i j hij hi,
        ⟨f4.1, f4.2.1, f4.2.2.1, f4.2.2.2.1, f4.2.2.2.2.1, f4.2.2.2.2.2.1, f4.2.2.2.2.2.2.1, dM_fr hs f4.2.2.2.2.2.2.2 (fun c _ _ => by rw [st_c, if_neg (by omega), st_nil])⟩,
        fun y hy => by
          have h := (f5 _ (hcov y hy).1).1 y (hcov y hy).2.1 (hcov y hy).2.2
          exact ⟨h.1, h.2.1, h.2.2.1⟩,
        fun g hg => (f5 g hg).2, hv1, fun i j hij hj => by rw [st_c, if_neg (by omega), st_nil]; exact ((f5 _ (hcov j hj).1).1 j (hcov j hj).2.1 (hcov j hj).2.2).2.2.2.1 i hij, show pU (N 35) 16 (wTt s) 16 = wTt s from pU_eq⟩)
    · intro g hmg ih
      have ih : ∀ M5 : Nat → Nat → Int, (∀ c, c < 35 ∨ 61 < c → M5 c = M c) → (∀ p, p ≤ 20 → M5 38 p = 0) → (∀ i j, j < i → i < 5 → M5 (56 + i) j = M (56 + i) j) → cPl 35 M5 s (wB s) → (∀ k, k < (g + 1) → (∀ y, (wG s).2.1 k ≤ y → y ≤ (wG s).2.2.1 k → M5 50 y = (k : Int) ∧ M5 51 y = wU s (wB s).1 (wG s) y ∧ M5 52 y = wBk s (wB s).1 (wG s) y ∧ (∀ i, i ≤ y → M5 (56 + i) y = wFl s (wB s).1 (wG s) i y) ∧ 0 ≤ M5 61 y ∧ M5 61 y ≤ 1000) ∧ M5 53 k = wLk s (wB s).1 (wG s) k) → mj_T K d 12 37 [some (.inr (.inr (.inl 35))), some (.inr (.inr (.inl 2))), some (.inl (((g + 1) : Nat) : Int))] [] (mj_Sh, M5, N) (fun r Z => r = none ∧ ∃ M1 N1, Z = (mj_Sh, M1, N1) ∧ (∀ c, c < 35 ∨ 61 < c → M1 c = M c) ∧ (∀ c, c ≠ 35 → N1 c = N c) ∧ (∀ p, p ≤ 20 → M1 38 p = 0) ∧ (∀ i j, j < i → i < 5 → M1 (56 + i) j = M (56 + i) j) ∧ cPV 35 M1 N1 s) := ih
      show ∀ M5 : Nat → Nat → Int, (∀ c, c < 35 ∨ 61 < c → M5 c = M c) → (∀ p, p ≤ 20 → M5 38 p = 0) → (∀ i j, j < i → i < 5 → M5 (56 + i) j = M (56 + i) j) → cPl 35 M5 s (wB s) → (∀ k, k < g → (∀ y, (wG s).2.1 k ≤ y → y ≤ (wG s).2.2.1 k → M5 50 y = (k : Int) ∧ M5 51 y = wU s (wB s).1 (wG s) y ∧ M5 52 y = wBk s (wB s).1 (wG s) y ∧ (∀ i, i ≤ y → M5 (56 + i) y = wFl s (wB s).1 (wG s) i y) ∧ 0 ≤ M5 61 y ∧ M5 61 y ≤ 1000) ∧ M5 53 k = wLk s (wB s).1 (wG s) k) → mj_T K d 12 37 [some (.inr (.inr (.inl 35))), some (.inr (.inr (.inl 2))), some (.inl ((g : Nat) : Int))] [] (mj_Sh, M5, N) (fun r Z => r = none ∧ ∃ M1 N1, Z = (mj_Sh, M1, N1) ∧ (∀ c, c < 35 ∨ 61 < c → M1 c = M c) ∧ (∀ c, c ≠ 35 → N1 c = N c) ∧ (∀ p, p ≤ 20 → M1 38 p = 0) ∧ (∀ i j, j < i → i < 5 → M1 (56 + i) j = M (56 + i) j) ∧ cPV 35 M1 N1 s)
      intro M5 f1 f2 f3 f4 f5
      have hO1 : (wG s).1 ≤ (s 0).toNat := (wGr_ok s (wB s)).1
      have hcov : ∀ y, y < (s 0).toNat → (gOf (wG s) y < (wG s).1 ∧ (wG s).2.1 (gOf (wG s) y) ≤ y ∧ y ≤ (wG s).2.2.1 (gOf (wG s) y)) := fun y hy => gOf_in (wGr_ok s (wB s)) hy
      have hur := fun y (hy : y < (s 0).toNat) => wU_rg hs (by omega) (wGr_ok s (wB s)) (fun k hk => (wI_p (wB_I hs) k hk).1) hy
      have hshL : ∀ i, i < (wG s).2.1 g → 0 ≤ M5 61 i ∧ M5 61 i ≤ 1000 := by
        intro i hi
        have h7 : (wG s).2.1 g ≤ (wG s).2.2.1 g ∧ (wG s).2.2.1 g < (s 0).toNat := (wGr_ok s (wB s)).2.1 g hmg
        have hc := hcov i (by omega)
        have hlt : gOf (wG s) i < g := by
          by_cases h3 : gOf (wG s) i < g
          · exact h3
          · by_cases h4 : gOf (wG s) i = g
            · rw [h4] at hc; omega
            · have h5 := gOk_lt (wGr_ok s (wB s)) (j := g) (gOf (wG s) i - g - 1) (by show _ < (wG s).1; omega)
              have h6 : g + 1 + (gOf (wG s) i - g - 1) = gOf (wG s) i := by omega
              rw [h6] at h5
              have h5 : (wG s).2.2.1 g < (wG s).2.1 (gOf (wG s) i) := h5
              omega
        exact ((f5 _ hlt).1 i hc.2.1 hc.2.2).2.2.2.2
      refine tw_iload k12_37 rfl ?_
      refine tw_aload k12_38 rfl ?_
      refine tw_getr k12_39 f35_1 ?_
      refine tw_geti k12_42 f44_3 rfl (v := (((wG s).1 : Nat) : Int)) f4.2.2.2.2.2.2.1.1 ?_
      refine tw_cgeF k12_45 (by omega) ?_
      refine tw_aload k12_48 rfl ?_
      refine tw_iload k12_49 rfl ?_
      refine tw_call (by omega) (S' := []) (as := [.inr (.inr (.inl 35)), .inl ((g : Nat) : Int)]) k12_50 (x_28_35 (M := M5) (N := N) (by omega) s hs (wG s) (wGr_ok s (wB s)) f4.2.2.2.2.2.2.1 (wB s).1 (fun y hy => (f4.2.2.2.2.2.1 y hy).1) (wI_p (wB_I hs)) f4.2.2.2.2.2.2.2 g hmg (gF_20 _ _ _ _)) rfl rfl rfl rfl rfl (fun r50 Z50 hq50 => ?_)
      obtain ⟨rfl, u1, u2, u3, rfl, hu1, hu2⟩ := hq50
      refine tw_as (S := []) (M := (st M5 [(50, u3), (51, u1), (52, u2), (53, (pU (M5 53) g (wLk s (wB s).1 (wG s) g)))])) (N := N) rfl rfl ?_
      refine tw_aload k12_53 rfl ?_
      refine tw_iload k12_54 rfl ?_
      refine tw_call (by omega) (S' := []) (as := [.inr (.inr (.inl 35)), .inl ((g : Nat) : Int)]) k12_55 (x_29_35 (M := (st M5 [(50, u3), (51, u1), (52, u2), (53, (pU (M5 53) g (wLk s (wB s).1 (wG s) g)))])) (N := N) s hs (wG s) (wGr_ok s (wB s)) f4.2.2.2.2.2.2.1 (wB s).1 (fun y hy => (f4.2.2.2.2.2.1 y hy).1) (wI_p (wB_I hs)) (wU s (wB s).1 (wG s)) (fun y hy => ⟨(hur y hy).1, (hur y hy).2.1⟩) g hmg (fun y h1 h2 => (hu1 y h1 h2).1) hshL) rfl rfl rfl rfl rfl (fun r55 Z55 hq55 => ?_)
      obtain ⟨rfl, M6, rfl, k1, k2, k3, k4⟩ := hq55
      refine tw_as (S := []) (M := M6) (N := N) rfl rfl ?_
      refine tw_iinc k12_58 rfl (v := ((g + 1 : Nat) : Int)) rfl (by omega) rfl (L' := [some (.inr (.inr (.inl 35))), some (.inr (.inr (.inl 2))), some (.inl ((g + 1 : Nat) : Int))]) rfl ?_
      refine tw_goto k12_61 ?_
      refine ih M6 (fun c hc => by rw [k1 c (by omega), st_c, if_neg (by omega), st_c, if_neg (by omega), st_c, if_neg (by omega), st_c, if_neg (by omega), st_nil]; exact f1 c hc) (fun p hp => by rw [k1 _ (by omega)]; exact f2 p hp) (fun i j hij hi => by rw [k3 i j hi (by omega), st_c, if_neg (by omega), st_c, if_neg (by omega), st_c, if_neg (by omega), st_c, if_neg (by omega), st_nil]; exact f3 i j hij hi) ⟨?_, ?_, ?_, ?_, ?_, fun y hy => ⟨?_, ?_⟩, ?_, dM_fr hs f4.2.2.2.2.2.2.2 (fun c _ _ => by rw [k1 _ (by omega), st_c, if_neg (by omega), st_c, if_neg (by omega), st_c, if_neg (by omega), st_c, if_neg (by omega), st_nil])⟩ (fun k hk => ?_)
      · rw [k1 _ (by omega)]; exact f4.1
      · rw [k1 _ (by omega)]; exact f4.2.1
      · rw [k1 _ (by omega)]; exact f4.2.2.1
      · rw [k1 _ (by omega)]; exact f4.2.2.2.1
      · rw [k1 _ (by omega)]; exact f4.2.2.2.2.1
      · rw [k1 _ (by omega)]; exact (f4.2.2.2.2.2.1 y hy).1
      · rw [k1 _ (by omega)]; exact (f4.2.2.2.2.2.1 y hy).2
      · rw [k1 44 (by omega), k1 45 (by omega), k1 46 (by omega), k1 47 (by omega)]; exact f4.2.2.2.2.2.2.1
      · by_cases e : k = g
        · subst e
          refine ⟨fun y h1 h2 => ⟨?_, ?_, ?_, fun i hi => k2 y h1 h2 i hi, k4 y h2⟩, ?_⟩
          · rw [k1 _ (by omega)]; exact (hu1 y h1 h2).2.2
          · rw [k1 _ (by omega)]; exact (hu1 y h1 h2).1
          · rw [k1 _ (by omega)]; exact (hu1 y h1 h2).2.1
          · rw [k1 _ (by omega)]; show pU (M5 53) _ _ k = _; rw [pU_eq]
        · have hlt := gOk_lt (wGr_ok s (wB s)) (j := k) (g - k - 1) (by show _ < (wG s).1; omega)
          have e2 : k + 1 + (g - k - 1) = g := by omega
          rw [e2] at hlt
          have hlt : (wG s).2.2.1 k < (wG s).2.1 g := hlt
          have h7 : (wG s).2.1 g ≤ (wG s).2.2.1 g ∧ (wG s).2.2.1 g < (s 0).toNat := (wGr_ok s (wB s)).2.1 g hmg
          have hk7 := f5 k (by omega)
          refine ⟨fun y h1 h2 => ⟨?_, ?_, ?_, fun i hi => ?_, k4 y (by omega)⟩, ?_⟩
          · rw [k1 _ (by omega)]; exact ((hu2 y (by omega)).2.2).trans (hk7.1 y h1 h2).1
          · rw [k1 _ (by omega)]; exact ((hu2 y (by omega)).1).trans (hk7.1 y h1 h2).2.1
          · rw [k1 _ (by omega)]; exact ((hu2 y (by omega)).2.1).trans (hk7.1 y h1 h2).2.2.1
          · rw [k3 i y (by omega) (by omega), st_c, if_neg (by omega), st_c, if_neg (by omega), st_c, if_neg (by omega), st_c, if_neg (by omega), st_nil]; exact (hk7.1 y h1 h2).2.2.2.1 i hi
          · rw [k1 _ (by omega)]; show pU (M5 53) _ _ k = _; rw [pU_ne e]; exact hk7.2
  refine tw_aload k12_0 rfl ?_
  refine tw_aload k12_1 rfl ?_
  refine tw_call (by omega) (S' := []) (as := [.inr (.inr (.inl 35)), .inr (.inr (.inl 2))]) k12_2 (x_21_35 (M := M) (N := N) (by omega) s hs hS hz) rfl rfl rfl rfl rfl (fun r2 Z2 hq2 => ?_)
  obtain ⟨rfl, M1, rfl, g1, hc1⟩ := hq2
  refine tw_as (S := []) (M := M1) (N := N) rfl rfl ?_
  refine tw_aload k12_5 rfl ?_
  refine tw_aload k12_6 rfl ?_
  refine tw_getr k12_7 f2_5 ?_
  refine tw_const k12_10 ?_
  refine tw_iald (j := 0) (v := (s 42)) k12_11 al8 rfl (by decide) ((cSV_fr hS (fun c _ _ => g1 c (by omega))).2.2.2.2 0 (by omega)) ?_
  refine tw_call (by omega) (S' := []) (as := [.inr (.inr (.inl 35)), .inl (s 42)]) k12_12 (x_22_35 (M := M1) (N := N) (by omega) s hs (w0 s) hc1 (w0_I hs).1 (w0_I hs).2) rfl rfl rfl rfl rfl (fun r12 Z12 hq12 => ?_)
  obtain ⟨rfl, M2, rfl, g2, hc2⟩ := hq12
  refine tw_as (S := []) (M := M2) (N := N) rfl rfl ?_
  refine tw_aload k12_15 rfl ?_
  refine tw_aload k12_16 rfl ?_
  refine tw_getr k12_17 f2_5 ?_
  refine tw_const k12_20 ?_
  refine tw_iald (j := 1) (v := (s 43)) k12_21 al8 rfl (by decide) ((cSV_fr hS (fun c _ _ => by rw [g2 c (by omega)]; exact g1 c (by omega))).2.2.2.2 1 (by omega)) ?_
  refine tw_call (by omega) (S' := []) (as := [.inr (.inr (.inl 35)), .inl (s 43)]) k12_22 (x_24_35 (M := M2) (N := N) (by omega) s hs (wT s) hc2 (wT_I hs).1 (wT_I hs).2) rfl rfl rfl rfl rfl (fun r22 Z22 hq22 => ?_)
  obtain ⟨rfl, M3, rfl, g3, hc3⟩ := hq22
  refine tw_as (S := []) (M := M3) (N := N) rfl rfl ?_
  refine tw_aload k12_25 rfl ?_
  refine tw_aload k12_26 rfl ?_
  refine tw_getr k12_27 f2_5 ?_
  refine tw_const k12_30 ?_
  refine tw_iald (j := 3) (v := (s 45)) k12_31 al8 rfl (by decide) ((cSV_fr hS (fun c _ _ => by rw [g3 c (by omega), g2 c (by omega)]; exact g1 c (by omega))).2.2.2.2 3 (by omega)) ?_
  refine tw_call (by omega) (S' := []) (as := [.inr (.inr (.inl 35)), .inl (s 45)]) k12_32 (x_26_35 (M := M3) (N := N) (by omega) s hs (wV s) hc3 (wV_I hs)) rfl rfl rfl rfl rfl (fun r32 Z32 hq32 => ?_)
  obtain ⟨rfl, M4, rfl, g4, hc4⟩ := hq32
  refine tw_as (S := []) (M := M4) (N := N) rfl rfl ?_
  refine tw_const k12_35 ?_
  refine tw_istore k12_36 rfl (L' := [some (.inr (.inr (.inl 35))), some (.inr (.inr (.inl 2))), some (.inl (0 : Int))]) rfl ?_
  exact key 0 (by omega) M4 (fun c hc => by rw [g4 c (by omega), g3 c (by omega), g2 c (by omega)]; exact g1 c (by omega)) (fun p hp => by rw [g4 _ (by omega), g3 _ (by omega), g2 _ (by omega), g1 _ (by omega)]; exact hz p hp) (fun i j hij hi => by rw [g4 _ (by omega), g3 _ (by omega), g2 _ (by omega), g1 _ (by omega)]) hc4 (fun k hk => by omega)
theorem x_21_69 {K : mj_C} {d : Nat} {M : Nat → Nat → Int} {N : Nat → Nat → Int64} (hD : 3 ≤ d) (s : Nat → Int) (hs : pRg s) (hS : cSV 62 M s) (hz : ∀ p, p ≤ 20 → M 72 p = 0) : mj_X K d 21 [.inr (.inr (.inl 69)), .inr (.inr (.inl 62))] (mj_Sh, M, N) (fun r Z => r = none ∧ ∃ M1, Z = (mj_Sh, M1, N) ∧ (∀ c, c < 69 ∨ 69 < c ∧ c < 73 ∨ 83 < c → M1 c = M c) ∧ cPl 69 M1 s (w0 s)) := by
  show mj_T K d 21 0 [some (.inr (.inr (.inl 69))), some (.inr (.inr (.inl 62))), none] [] (mj_Sh, M, N) _
  have h0 := hs.1 0 (by omega)
  have h5 := hs.2.1
  obtain ⟨Y, hYe⟩ : ∃ Y : Nat, Y = (s 0).toNat := ⟨_, rfl⟩
  have hY0 : s 0 = (Y : Int) := by omega
  have pS0 : ∀ n, pS (fun _ => (0 : Int)) 0 n = 0 := by
    intro n; induction n with
    | zero => rfl
    | succ n ih => rw [pS, ih]; rfl
  have key : ∀ y : Nat, y ≤ Y → ∀ q0 p1 p2 : Nat → Int, (q0 11 = s 0 ∧ q0 12 = s 44 ∧ q0 13 = 0 ∧ q0 14 = 0 ∧ q0 15 = 0) → (∀ k, k < y → p1 k = s (1 + k) ∧ p2 k = 0) → mj_T K d 21 35 [some (.inr (.inr (.inl 69))), some (.inr (.inr (.inl 62))), some (.inl ((y : Nat) : Int))] [] (mj_Sh, (st M [(69, q0), (82, p1), (83, p2)]), N) (fun r Z => r = none ∧ ∃ M1, Z = (mj_Sh, M1, N) ∧ (∀ c, c < 69 ∨ 69 < c ∧ c < 73 ∨ 83 < c → M1 c = M c) ∧ cPl 69 M1 s (w0 s)) := by
    refine up_to Y ?_ ?_
    · show ∀ q0 p1 p2 : Nat → Int, (q0 11 = s 0 ∧ q0 12 = s 44 ∧ q0 13 = 0 ∧ q0 14 = 0 ∧ q0 15 = 0) → (∀ k, k < Y → p1 k = s (1 + k) ∧ p2 k = 0) → mj_T K d 21 35 [some (.inr (.inr (.inl 69))), some (.inr (.inr (.inl 62))), some (.inl ((Y : Nat) : Int))] [] (mj_Sh, (st M [(69, q0), (82, p1), (83, p2)]), N) (fun r Z => r = none ∧ ∃ M1, Z = (mj_Sh, M1, N) ∧ (∀ c, c < 69 ∨ 69 < c ∧ c < 73 ∨ 83 < c → M1 c = M c) ∧ cPl 69 M1 s (w0 s))
      intro q0 p1 p2 hq hp
      refine tw_iload k21_35 rfl ?_
      refine tw_aload k21_36 rfl ?_
      refine tw_geti k21_37 f69_11 rfl (v := ((Y : Nat) : Int)) (show q0 11 = _ from (hq.1.trans hY0)) ?_
      refine tw_cgeT k21_40 (by omega) ?_
      refine tw_aload k21_68 rfl ?_
      refine tw_getr k21_69 f69_0 ?_
      refine tw_aload k21_72 rfl ?_
      refine tw_call (by omega) (S' := []) (as := [.inr (.inr (.inl 70)), .inr (.inr (.inl 62))]) k21_73 (x_1_69 (M := (st M [(69, q0), (82, p1), (83, p2)])) (N := N) (by omega) s hs (show cSV 62 (st M [(69, q0), (82, p1), (83, p2)]) s from hS) (fun p hp => hz p hp)) rfl rfl rfl rfl rfl (fun r73 Z73 hq73 => ?_)
      obtain ⟨rfl, M2, rfl, hf2, hd2⟩ := hq73
      refine tw_as (S := []) (M := M2) (N := N) rfl rfl ?_
      refine tw_aload k21_76 rfl ?_
      refine tw_getr k21_77 f69_1 ?_
      refine tw_aload k21_80 rfl ?_
      refine tw_getr k21_81 f69_0 ?_
      refine tw_aload k21_84 rfl ?_
      refine tw_getr k21_85 f69_2 ?_
      refine tw_aload k21_88 rfl ?_
      refine tw_geti k21_89 f69_11 rfl (v := ((Y : Nat) : Int)) (by rw [hf2 _ (by omega)]; exact hq.1.trans hY0) ?_
      refine tw_call (by omega) (S' := []) (as := [.inr (.inr (.inl 78)), .inr (.inr (.inl 70)), .inr (.inr (.inl 82)), .inl ((Y : Nat) : Int)]) k21_92 (x_7_69 (M := M2) (N := N) (by omega) s hs hd2 Y hYe (fun y => s (1 + y)) (fun y hy => by rw [hf2 _ (by omega)]; exact (hp y hy).1) (fun y hy => by have := hs.1 (1 + y) (by omega); omega)) rfl rfl rfl rfl rfl (fun r92 Z92 hq92 => ?_)
      obtain ⟨rfl, f0, f1, f2, f3, rfl, hG2⟩ := hq92
      refine tw_as (S := []) (M := (st M2 [(78, f0), (79, f1), (80, f2), (81, f3)])) (N := N) rfl rfl ?_
      exact tw_rv k21_95 (⟨rfl, _, rfl, fun c hc => by rw [st_c, if_neg (by omega), st_c, if_neg (by omega), st_c, if_neg (by omega), st_c, if_neg (by omega), st_nil, hf2 c (by omega), st_c, if_neg (by omega), st_c, if_neg (by omega), st_c, if_neg (by omega), st_nil],
        by show M2 69 11 = _; rw [hf2 _ (by omega)]; exact hq.1, by show M2 69 12 = _; rw [hf2 _ (by omega)]; exact hq.2.1, by show M2 69 13 = _; rw [hf2 _ (by omega)]; exact hq.2.2.1, by show M2 69 14 = _; rw [hf2 _ (by omega)]; exact hq.2.2.2.1, by show M2 69 15 = _; rw [hf2 _ (by omega)]; exact hq.2.2.2.2.trans (pS0 _).symm,
        fun y hy => ⟨by show M2 82 y = _; rw [hf2 _ (by omega)]; exact (hp y (by omega)).1, by show M2 83 y = _; rw [hf2 _ (by omega)]; exact (hp y (by omega)).2⟩, by rw [wGr_0, ← hYe]; exact hG2, dM_fr hs hd2 (fun c _ _ => by rw [st_c, if_neg (by omega), st_c, if_neg (by omega), st_c, if_neg (by omega), st_c, if_neg (by omega), st_nil])⟩)
    · intro y hmy ih
      have ih : ∀ q0 p1 p2 : Nat → Int, (q0 11 = s 0 ∧ q0 12 = s 44 ∧ q0 13 = 0 ∧ q0 14 = 0 ∧ q0 15 = 0) → (∀ k, k < (y + 1) → p1 k = s (1 + k) ∧ p2 k = 0) → mj_T K d 21 35 [some (.inr (.inr (.inl 69))), some (.inr (.inr (.inl 62))), some (.inl (((y + 1) : Nat) : Int))] [] (mj_Sh, (st M [(69, q0), (82, p1), (83, p2)]), N) (fun r Z => r = none ∧ ∃ M1, Z = (mj_Sh, M1, N) ∧ (∀ c, c < 69 ∨ 69 < c ∧ c < 73 ∨ 83 < c → M1 c = M c) ∧ cPl 69 M1 s (w0 s)) := ih
      show ∀ q0 p1 p2 : Nat → Int, (q0 11 = s 0 ∧ q0 12 = s 44 ∧ q0 13 = 0 ∧ q0 14 = 0 ∧ q0 15 = 0) → (∀ k, k < y → p1 k = s (1 + k) ∧ p2 k = 0) → mj_T K d 21 35 [some (.inr (.inr (.inl 69))), some (.inr (.inr (.inl 62))), some (.inl ((y : Nat) : Int))] [] (mj_Sh, (st M [(69, q0), (82, p1), (83, p2)]), N) (fun r Z => r = none ∧ ∃ M1, Z = (mj_Sh, M1, N) ∧ (∀ c, c < 69 ∨ 69 < c ∧ c < 73 ∨ 83 < c → M1 c = M c) ∧ cPl 69 M1 s (w0 s))
      intro q0 p1 p2 hq hp
      refine tw_iload k21_35 rfl ?_
      refine tw_aload k21_36 rfl ?_
      refine tw_geti k21_37 f69_11 rfl (v := ((Y : Nat) : Int)) (show q0 11 = _ from (hq.1.trans hY0)) ?_
      refine tw_cgeF k21_40 (by omega) ?_
      refine tw_aload k21_43 rfl ?_
      refine tw_getr k21_44 f69_2 ?_
      refine tw_iload k21_47 rfl ?_
      refine tw_aload k21_48 rfl ?_
      refine tw_getr k21_49 f62_0 ?_
      refine tw_iload k21_52 rfl ?_
      refine tw_iald (j := y) (v := (s (1 + y))) k21_53 al63 rfl (by omega) (show M 63 y = _ from (hS.2.2.1 y (by omega)).1) ?_
      refine tw_iast (M := M) (N := N) (l := [(69, q0), (82, p1), (83, p2)]) (l' := [(69, q0), (82, (pU p1 y (s (1 + y)))), (83, p2)]) (j := y) k21_54 al82 rfl (by omega) rfl ?_
      refine tw_aload k21_55 rfl ?_
      refine tw_getr k21_56 f69_3 ?_
      refine tw_iload k21_59 rfl ?_
      refine tw_const k21_60 ?_
      refine tw_iast (M := M) (N := N) (l := [(69, q0), (82, (pU p1 y (s (1 + y)))), (83, p2)]) (l' := [(69, q0), (82, (pU p1 y (s (1 + y)))), (83, (pU p2 y (0 : Int)))]) (j := y) k21_61 al83 rfl (by omega) rfl ?_
      refine tw_iinc k21_62 rfl (v := ((y + 1 : Nat) : Int)) rfl (by omega) rfl (L' := [some (.inr (.inr (.inl 69))), some (.inr (.inr (.inl 62))), some (.inl ((y + 1 : Nat) : Int))]) rfl ?_
      refine tw_goto k21_65 ?_
      refine ih _ _ _ hq (fun k hk => ?_)
      by_cases e : k = y
      · subst e; exact ⟨pU_eq, pU_eq⟩
      · rw [pU_ne e, pU_ne e]; exact hp k (by omega)
  refine tw_aload k21_0 rfl ?_
  refine tw_aload k21_1 rfl ?_
  refine tw_geti k21_2 f62_6 rfl (v := (s 0)) hS.1 ?_
  refine tw_puti (M := M) (N := N) (l := []) (l' := [(69, (pU (M 69) 11 (s 0)))]) k21_5 f69_11 rfl ?_
  refine tw_aload k21_8 rfl ?_
  refine tw_aload k21_9 rfl ?_
  refine tw_getr k21_10 f62_5 ?_
  refine tw_const k21_13 ?_
  refine tw_iald (j := 2) (v := (s 44)) k21_14 al68 rfl (by decide) (show M 68 2 = _ from (hS.2.2.2.2 2 (by omega))) ?_
  refine tw_puti (M := M) (N := N) (l := [(69, (pU (M 69) 11 (s 0)))]) (l' := [(69, (pU (pU (M 69) 11 (s 0)) 12 (s 44)))]) k21_15 f69_12 rfl ?_
  refine tw_aload k21_18 rfl ?_
  refine tw_const k21_19 ?_
  refine tw_puti (M := M) (N := N) (l := [(69, (pU (pU (M 69) 11 (s 0)) 12 (s 44)))]) (l' := [(69, (pU (pU (pU (M 69) 11 (s 0)) 12 (s 44)) 13 (0 : Int)))]) k21_20 f69_13 rfl ?_
  refine tw_aload k21_23 rfl ?_
  refine tw_const k21_24 ?_
  refine tw_puti (M := M) (N := N) (l := [(69, (pU (pU (pU (M 69) 11 (s 0)) 12 (s 44)) 13 (0 : Int)))]) (l' := [(69, (pU (pU (pU (pU (M 69) 11 (s 0)) 12 (s 44)) 13 (0 : Int)) 14 (0 : Int)))]) k21_25 f69_14 rfl ?_
  refine tw_aload k21_28 rfl ?_
  refine tw_const k21_29 ?_
  refine tw_puti (M := M) (N := N) (l := [(69, (pU (pU (pU (pU (M 69) 11 (s 0)) 12 (s 44)) 13 (0 : Int)) 14 (0 : Int)))]) (l' := [(69, (pU (pU (pU (pU (pU (M 69) 11 (s 0)) 12 (s 44)) 13 (0 : Int)) 14 (0 : Int)) 15 (0 : Int)))]) k21_30 f69_15 rfl ?_
  refine tw_const k21_33 ?_
  refine tw_istore k21_34 rfl (L' := [some (.inr (.inr (.inl 69))), some (.inr (.inr (.inl 62))), some (.inl (0 : Int))]) rfl ?_
  refine tw_pad (M := M) (N := N) (l := [(69, (pU (pU (pU (pU (pU (M 69) 11 (s 0)) 12 (s 44)) 13 (0 : Int)) 14 (0 : Int)) 15 (0 : Int)))]) (l' := [(69, (pU (pU (pU (pU (pU (M 69) 11 (s 0)) 12 (s 44)) 13 (0 : Int)) 14 (0 : Int)) 15 (0 : Int))), (82, M 82), (83, M 83)]) [82, 83] rfl ?_
  refine key 0 (by omega) _ _ _ ⟨?_, ?_, ?_, ?_, ?_⟩ (fun k hk => by omega)
  · rw [pU_ne (by omega), pU_ne (by omega), pU_ne (by omega), pU_ne (by omega), pU_eq]
  · rw [pU_ne (by omega), pU_ne (by omega), pU_ne (by omega), pU_eq]
  · rw [pU_ne (by omega), pU_ne (by omega), pU_eq]
  · rw [pU_ne (by omega), pU_eq]
  · rw [pU_eq]
theorem x_12_69 {K : mj_C} {d : Nat} {M : Nat → Nat → Int} {N : Nat → Nat → Int64} (hD : 4 ≤ d) (s : Nat → Int) (hs : pRg s) (hS : cSV 62 M s) (hz : ∀ p, p ≤ 20 → M 72 p = 0) : mj_X K d 12 [.inr (.inr (.inl 69)), .inr (.inr (.inl 62))] (mj_Sh, M, N) (fun r Z => r = none ∧ ∃ M1 N1, Z = (mj_Sh, M1, N1) ∧ (∀ c, c < 69 ∨ 95 < c → M1 c = M c) ∧ (∀ c, c ≠ 69 → N1 c = N c) ∧ (∀ p, p ≤ 20 → M1 72 p = 0) ∧ (∀ i j, j < i → i < 5 → M1 (90 + i) j = M (90 + i) j) ∧ cPV 69 M1 N1 s) := by
  show mj_T K d 12 0 [some (.inr (.inr (.inl 69))), some (.inr (.inr (.inl 62))), none] [] (mj_Sh, M, N) _
  have h0 := hs.1 0 (by omega)
  have h5 := hs.2.1
  obtain ⟨Y, hYe⟩ : ∃ Y : Nat, Y = (s 0).toNat := ⟨_, rfl⟩
  have hY0 : s 0 = (Y : Int) := by omega
  have key : ∀ g : Nat, g ≤ (wG s).1 → ∀ M5 : Nat → Nat → Int, (∀ c, c < 69 ∨ 95 < c → M5 c = M c) → (∀ p, p ≤ 20 → M5 72 p = 0) → (∀ i j, j < i → i < 5 → M5 (90 + i) j = M (90 + i) j) → cPl 69 M5 s (wB s) → (∀ k, k < g → (∀ y, (wG s).2.1 k ≤ y → y ≤ (wG s).2.2.1 k → M5 84 y = (k : Int) ∧ M5 85 y = wU s (wB s).1 (wG s) y ∧ M5 86 y = wBk s (wB s).1 (wG s) y ∧ (∀ i, i ≤ y → M5 (90 + i) y = wFl s (wB s).1 (wG s) i y) ∧ 0 ≤ M5 95 y ∧ M5 95 y ≤ 1000) ∧ M5 87 k = wLk s (wB s).1 (wG s) k) → mj_T K d 12 37 [some (.inr (.inr (.inl 69))), some (.inr (.inr (.inl 62))), some (.inl ((g : Nat) : Int))] [] (mj_Sh, M5, N) (fun r Z => r = none ∧ ∃ M1 N1, Z = (mj_Sh, M1, N1) ∧ (∀ c, c < 69 ∨ 95 < c → M1 c = M c) ∧ (∀ c, c ≠ 69 → N1 c = N c) ∧ (∀ p, p ≤ 20 → M1 72 p = 0) ∧ (∀ i j, j < i → i < 5 → M1 (90 + i) j = M (90 + i) j) ∧ cPV 69 M1 N1 s) := by
    refine up_to (wG s).1 ?_ ?_
    · show ∀ M5 : Nat → Nat → Int, (∀ c, c < 69 ∨ 95 < c → M5 c = M c) → (∀ p, p ≤ 20 → M5 72 p = 0) → (∀ i j, j < i → i < 5 → M5 (90 + i) j = M (90 + i) j) → cPl 69 M5 s (wB s) → (∀ k, k < (wG s).1 → (∀ y, (wG s).2.1 k ≤ y → y ≤ (wG s).2.2.1 k → M5 84 y = (k : Int) ∧ M5 85 y = wU s (wB s).1 (wG s) y ∧ M5 86 y = wBk s (wB s).1 (wG s) y ∧ (∀ i, i ≤ y → M5 (90 + i) y = wFl s (wB s).1 (wG s) i y) ∧ 0 ≤ M5 95 y ∧ M5 95 y ≤ 1000) ∧ M5 87 k = wLk s (wB s).1 (wG s) k) → mj_T K d 12 37 [some (.inr (.inr (.inl 69))), some (.inr (.inr (.inl 62))), some (.inl (((wG s).1 : Nat) : Int))] [] (mj_Sh, M5, N) (fun r Z => r = none ∧ ∃ M1 N1, Z = (mj_Sh, M1, N1) ∧ (∀ c, c < 69 ∨ 95 < c → M1 c = M c) ∧ (∀ c, c ≠ 69 → N1 c = N c) ∧ (∀ p, p ≤ 20 → M1 72 p = 0) ∧ (∀ i j, j < i → i < 5 → M1 (90 + i) j = M (90 + i) j) ∧ cPV 69 M1 N1 s)
      intro M5 f1 f2 f3 f4 f5
      have hG5 : (wG s).1 ≤ 5 := by have := (wGr_ok s (wB s)).1; unfold wG; omega
      have hcov : ∀ y, y < (s 0).toNat → (gOf (wG s) y < (wG s).1 ∧ (wG s).2.1 (gOf (wG s) y) ≤ y ∧ y ≤ (wG s).2.2.1 (gOf (wG s) y)) := fun y hy => gOf_in (wGr_ok s (wB s)) hy
      have hur := fun y (hy : y < (s 0).toNat) => wU_rg hs (by omega) (wGr_ok s (wB s)) (fun k hk => (wI_p (wB_I hs) k hk).1) hy
      refine tw_iload k12_37 rfl ?_
      refine tw_aload k12_38 rfl ?_
      refine tw_getr k12_39 f69_1 ?_
      refine tw_geti k12_42 f78_3 rfl (v := (((wG s).1 : Nat) : Int)) f4.2.2.2.2.2.2.1.1 ?_
      refine tw_cgeT k12_45 (by omega) ?_
      refine tw_aload k12_64 rfl ?_
      refine tw_aload k12_65 rfl ?_
      refine tw_call (by omega) (S' := []) (as := [.inr (.inr (.inl 69)), .inr (.inr (.inl 62))]) k12_66 (x_30_69 (M := M5) (N := N) (by omega) s hs (cSV_fr hS (fun c _ _ => f1 c (by omega))) (wG s) (by omega) f4.2.2.2.2.2.2.1 (wU s (wB s).1 (wG s)) (wLk s (wB s).1 (wG s)) (fun y hy => ⟨((f5 _ (hcov y hy).1).1 y (hcov y hy).2.1 (hcov y hy).2.2).2.1, (hur y hy).1, (hur y hy).2.1⟩) (fun g hg => ⟨(f5 g hg).2, wLk_rg hs (wGr_ok s (wB s)) (wI_p (wB_I hs)) hg⟩)) rfl rfl rfl rfl rfl (fun r66 Z66 hq66 => ?_)
      obtain ⟨rfl, v1, rfl, hv1⟩ := hq66
      refine tw_as (S := []) (M := (st M5 [(88, v1)])) (N := (st N [(69, (pU (N 69) 16 (wTt s)))])) rfl rfl ?_
      exact tw_rv k12_69 (⟨rfl, _, _, rfl, fun c hc => by rw [st_c, if_neg (by omega), st_nil]; exact f1 c hc, fun c hc => by rw [st_c, if_neg hc, st_nil], f2, fun i j hij hi => by rw [st_c, if_neg (by omega), st_nil]; exact f3 i j hij hi,
        ⟨f4.1, f4.2.1, f4.2.2.1, f4.2.2.2.1, f4.2.2.2.2.1, f4.2.2.2.2.2.1, f4.2.2.2.2.2.2.1, dM_fr hs f4.2.2.2.2.2.2.2 (fun c _ _ => by rw [st_c, if_neg (by omega), st_nil])⟩,
        fun y hy => by
          have h := (f5 _ (hcov y hy).1).1 y (hcov y hy).2.1 (hcov y hy).2.2
          exact ⟨h.1, h.2.1, h.2.2.1⟩,
        fun g hg => (f5 g hg).2, hv1, fun i j hij hj => by rw [st_c, if_neg (by omega), st_nil]; exact ((f5 _ (hcov j hj).1).1 j (hcov j hj).2.1 (hcov j hj).2.2).2.2.2.1 i hij, show pU (N 69) 16 (wTt s) 16 = wTt s from pU_eq⟩)
    · intro g hmg ih
      have ih : ∀ M5 : Nat → Nat → Int, (∀ c, c < 69 ∨ 95 < c → M5 c = M c) → (∀ p, p ≤ 20 → M5 72 p = 0) → (∀ i j, j < i → i < 5 → M5 (90 + i) j = M (90 + i) j) → cPl 69 M5 s (wB s) → (∀ k, k < (g + 1) → (∀ y, (wG s).2.1 k ≤ y → y ≤ (wG s).2.2.1 k → M5 84 y = (k : Int) ∧ M5 85 y = wU s (wB s).1 (wG s) y ∧ M5 86 y = wBk s (wB s).1 (wG s) y ∧ (∀ i, i ≤ y → M5 (90 + i) y = wFl s (wB s).1 (wG s) i y) ∧ 0 ≤ M5 95 y ∧ M5 95 y ≤ 1000) ∧ M5 87 k = wLk s (wB s).1 (wG s) k) → mj_T K d 12 37 [some (.inr (.inr (.inl 69))), some (.inr (.inr (.inl 62))), some (.inl (((g + 1) : Nat) : Int))] [] (mj_Sh, M5, N) (fun r Z => r = none ∧ ∃ M1 N1, Z = (mj_Sh, M1, N1) ∧ (∀ c, c < 69 ∨ 95 < c → M1 c = M c) ∧ (∀ c, c ≠ 69 → N1 c = N c) ∧ (∀ p, p ≤ 20 → M1 72 p = 0) ∧ (∀ i j, j < i → i < 5 → M1 (90 + i) j = M (90 + i) j) ∧ cPV 69 M1 N1 s) := ih
      show ∀ M5 : Nat → Nat → Int, (∀ c, c < 69 ∨ 95 < c → M5 c = M c) → (∀ p, p ≤ 20 → M5 72 p = 0) → (∀ i j, j < i → i < 5 → M5 (90 + i) j = M (90 + i) j) → cPl 69 M5 s (wB s) → (∀ k, k < g → (∀ y, (wG s).2.1 k ≤ y → y ≤ (wG s).2.2.1 k → M5 84 y = (k : Int) ∧ M5 85 y = wU s (wB s).1 (wG s) y ∧ M5 86 y = wBk s (wB s).1 (wG s) y ∧ (∀ i, i ≤ y → M5 (90 + i) y = wFl s (wB s).1 (wG s) i y) ∧ 0 ≤ M5 95 y ∧ M5 95 y ≤ 1000) ∧ M5 87 k = wLk s (wB s).1 (wG s) k) → mj_T K d 12 37 [some (.inr (.inr (.inl 69))), some (.inr (.inr (.inl 62))), some (.inl ((g : Nat) : Int))] [] (mj_Sh, M5, N) (fun r Z => r = none ∧ ∃ M1 N1, Z = (mj_Sh, M1, N1) ∧ (∀ c, c < 69 ∨ 95 < c → M1 c = M c) ∧ (∀ c, c ≠ 69 → N1 c = N c) ∧ (∀ p, p ≤ 20 → M1 72 p = 0) ∧ (∀ i j, j < i → i < 5 → M1 (90 + i) j = M (90 + i) j) ∧ cPV 69 M1 N1 s)
      intro M5 f1 f2 f3 f4 f5
      have hO1 : (wG s).1 ≤ (s 0).toNat := (wGr_ok s (wB s)).1
      have hcov : ∀ y, y < (s 0).toNat → (gOf (wG s) y < (wG s).1 ∧ (wG s).2.1 (gOf (wG s) y) ≤ y ∧ y ≤ (wG s).2.2.1 (gOf (wG s) y)) := fun y hy => gOf_in (wGr_ok s (wB s)) hy
      have hur := fun y (hy : y < (s 0).toNat) => wU_rg hs (by omega) (wGr_ok s (wB s)) (fun k hk => (wI_p (wB_I hs) k hk).1) hy
      have hshL : ∀ i, i < (wG s).2.1 g → 0 ≤ M5 95 i ∧ M5 95 i ≤ 1000 := by
        intro i hi
        have h7 : (wG s).2.1 g ≤ (wG s).2.2.1 g ∧ (wG s).2.2.1 g < (s 0).toNat := (wGr_ok s (wB s)).2.1 g hmg
        have hc := hcov i (by omega)
        have hlt : gOf (wG s) i < g := by
          by_cases h3 : gOf (wG s) i < g
          · exact h3
          · by_cases h4 : gOf (wG s) i = g
            · rw [h4] at hc; omega
            · have h5 := gOk_lt (wGr_ok s (wB s)) (j := g) (gOf (wG s) i - g - 1) (by show _ < (wG s).1; omega)
              have h6 : g + 1 + (gOf (wG s) i - g - 1) = gOf (wG s) i := by omega
              rw [h6] at h5
              have h5 : (wG s).2.2.1 g < (wG s).2.1 (gOf (wG s) i) := h5
              omega
        exact ((f5 _ hlt).1 i hc.2.1 hc.2.2).2.2.2.2
      refine tw_iload k12_37 rfl ?_
      refine tw_aload k12_38 rfl ?_
      refine tw_getr k12_39 f69_1 ?_
      refine tw_geti k12_42 f78_3 rfl (v := (((wG s).1 : Nat) : Int)) f4.2.2.2.2.2.2.1.1 ?_
      refine tw_cgeF k12_45 (by omega) ?_
      refine tw_aload k12_48 rfl ?_
      refine tw_iload k12_49 rfl ?_
      refine tw_call (by omega) (S' := []) (as := [.inr (.inr (.inl 69)), .inl ((g : Nat) : Int)]) k12_50 (x_28_69 (M := M5) (N := N) (by omega) s hs (wG s) (wGr_ok s (wB s)) f4.2.2.2.2.2.2.1 (wB s).1 (fun y hy => (f4.2.2.2.2.2.1 y hy).1) (wI_p (wB_I hs)) f4.2.2.2.2.2.2.2 g hmg (gF_20 _ _ _ _)) rfl rfl rfl rfl rfl (fun r50 Z50 hq50 => ?_)
      obtain ⟨rfl, u1, u2, u3, rfl, hu1, hu2⟩ := hq50
      refine tw_as (S := []) (M := (st M5 [(84, u3), (85, u1), (86, u2), (87, (pU (M5 87) g (wLk s (wB s).1 (wG s) g)))])) (N := N) rfl rfl ?_
      refine tw_aload k12_53 rfl ?_
      refine tw_iload k12_54 rfl ?_
      refine tw_call (by omega) (S' := []) (as := [.inr (.inr (.inl 69)), .inl ((g : Nat) : Int)]) k12_55 (x_29_69 (M := (st M5 [(84, u3), (85, u1), (86, u2), (87, (pU (M5 87) g (wLk s (wB s).1 (wG s) g)))])) (N := N) s hs (wG s) (wGr_ok s (wB s)) f4.2.2.2.2.2.2.1 (wB s).1 (fun y hy => (f4.2.2.2.2.2.1 y hy).1) (wI_p (wB_I hs)) (wU s (wB s).1 (wG s)) (fun y hy => ⟨(hur y hy).1, (hur y hy).2.1⟩) g hmg (fun y h1 h2 => (hu1 y h1 h2).1) hshL) rfl rfl rfl rfl rfl (fun r55 Z55 hq55 => ?_)
      obtain ⟨rfl, M6, rfl, k1, k2, k3, k4⟩ := hq55
      refine tw_as (S := []) (M := M6) (N := N) rfl rfl ?_
      refine tw_iinc k12_58 rfl (v := ((g + 1 : Nat) : Int)) rfl (by omega) rfl (L' := [some (.inr (.inr (.inl 69))), some (.inr (.inr (.inl 62))), some (.inl ((g + 1 : Nat) : Int))]) rfl ?_
      refine tw_goto k12_61 ?_
      refine ih M6 (fun c hc => by rw [k1 c (by omega), st_c, if_neg (by omega), st_c, if_neg (by omega), st_c, if_neg (by omega), st_c, if_neg (by omega), st_nil]; exact f1 c hc) (fun p hp => by rw [k1 _ (by omega)]; exact f2 p hp) (fun i j hij hi => by rw [k3 i j hi (by omega), st_c, if_neg (by omega), st_c, if_neg (by omega), st_c, if_neg (by omega), st_c, if_neg (by omega), st_nil]; exact f3 i j hij hi) ⟨?_, ?_, ?_, ?_, ?_, fun y hy => ⟨?_, ?_⟩, ?_, dM_fr hs f4.2.2.2.2.2.2.2 (fun c _ _ => by rw [k1 _ (by omega), st_c, if_neg (by omega), st_c, if_neg (by omega), st_c, if_neg (by omega), st_c, if_neg (by omega), st_nil])⟩ (fun k hk => ?_)
      · rw [k1 _ (by omega)]; exact f4.1
      · rw [k1 _ (by omega)]; exact f4.2.1
      · rw [k1 _ (by omega)]; exact f4.2.2.1
      · rw [k1 _ (by omega)]; exact f4.2.2.2.1
      · rw [k1 _ (by omega)]; exact f4.2.2.2.2.1
      · rw [k1 _ (by omega)]; exact (f4.2.2.2.2.2.1 y hy).1
      · rw [k1 _ (by omega)]; exact (f4.2.2.2.2.2.1 y hy).2
      · rw [k1 78 (by omega), k1 79 (by omega), k1 80 (by omega), k1 81 (by omega)]; exact f4.2.2.2.2.2.2.1
      · by_cases e : k = g
        · subst e
          refine ⟨fun y h1 h2 => ⟨?_, ?_, ?_, fun i hi => k2 y h1 h2 i hi, k4 y h2⟩, ?_⟩
          · rw [k1 _ (by omega)]; exact (hu1 y h1 h2).2.2
          · rw [k1 _ (by omega)]; exact (hu1 y h1 h2).1
          · rw [k1 _ (by omega)]; exact (hu1 y h1 h2).2.1
          · rw [k1 _ (by omega)]; show pU (M5 87) _ _ k = _; rw [pU_eq]
        · have hlt := gOk_lt (wGr_ok s (wB s)) (j := k) (g - k - 1) (by show _ < (wG s).1; omega)
          have e2 : k + 1 + (g - k - 1) = g := by omega
          rw [e2] at hlt
          have hlt : (wG s).2.2.1 k < (wG s).2.1 g := hlt
          have h7 : (wG s).2.1 g ≤ (wG s).2.2.1 g ∧ (wG s).2.2.1 g < (s 0).toNat := (wGr_ok s (wB s)).2.1 g hmg
          have hk7 := f5 k (by omega)
          refine ⟨fun y h1 h2 => ⟨?_, ?_, ?_, fun i hi => ?_, k4 y (by omega)⟩, ?_⟩
          · rw [k1 _ (by omega)]; exact ((hu2 y (by omega)).2.2).trans (hk7.1 y h1 h2).1
          · rw [k1 _ (by omega)]; exact ((hu2 y (by omega)).1).trans (hk7.1 y h1 h2).2.1
          · rw [k1 _ (by omega)]; exact ((hu2 y (by omega)).2.1).trans (hk7.1 y h1 h2).2.2.1
          · rw [k3 i y (by omega) (by omega), st_c, if_neg (by omega), st_c, if_neg (by omega), st_c, if_neg (by omega), st_c, if_neg (by omega), st_nil]; exact (hk7.1 y h1 h2).2.2.2.1 i hi
          · rw [k1 _ (by omega)]; show pU (M5 87) _ _ k = _; rw [pU_ne e]; exact hk7.2
  refine tw_aload k12_0 rfl ?_
  refine tw_aload k12_1 rfl ?_
  refine tw_call (by omega) (S' := []) (as := [.inr (.inr (.inl 69)), .inr (.inr (.inl 62))]) k12_2 (x_21_69 (M := M) (N := N) (by omega) s hs hS hz) rfl rfl rfl rfl rfl (fun r2 Z2 hq2 => ?_)
  obtain ⟨rfl, M1, rfl, g1, hc1⟩ := hq2
  refine tw_as (S := []) (M := M1) (N := N) rfl rfl ?_
  refine tw_aload k12_5 rfl ?_
  refine tw_aload k12_6 rfl ?_
  refine tw_getr k12_7 f62_5 ?_
  refine tw_const k12_10 ?_
  refine tw_iald (j := 0) (v := (s 42)) k12_11 al68 rfl (by decide) ((cSV_fr hS (fun c _ _ => g1 c (by omega))).2.2.2.2 0 (by omega)) ?_
  refine tw_call (by omega) (S' := []) (as := [.inr (.inr (.inl 69)), .inl (s 42)]) k12_12 (x_22_69 (M := M1) (N := N) (by omega) s hs (w0 s) hc1 (w0_I hs).1 (w0_I hs).2) rfl rfl rfl rfl rfl (fun r12 Z12 hq12 => ?_)
  obtain ⟨rfl, M2, rfl, g2, hc2⟩ := hq12
  refine tw_as (S := []) (M := M2) (N := N) rfl rfl ?_
  refine tw_aload k12_15 rfl ?_
  refine tw_aload k12_16 rfl ?_
  refine tw_getr k12_17 f62_5 ?_
  refine tw_const k12_20 ?_
  refine tw_iald (j := 1) (v := (s 43)) k12_21 al68 rfl (by decide) ((cSV_fr hS (fun c _ _ => by rw [g2 c (by omega)]; exact g1 c (by omega))).2.2.2.2 1 (by omega)) ?_
  refine tw_call (by omega) (S' := []) (as := [.inr (.inr (.inl 69)), .inl (s 43)]) k12_22 (x_24_69 (M := M2) (N := N) (by omega) s hs (wT s) hc2 (wT_I hs).1 (wT_I hs).2) rfl rfl rfl rfl rfl (fun r22 Z22 hq22 => ?_)
  obtain ⟨rfl, M3, rfl, g3, hc3⟩ := hq22
  refine tw_as (S := []) (M := M3) (N := N) rfl rfl ?_
  refine tw_aload k12_25 rfl ?_
  refine tw_aload k12_26 rfl ?_
  refine tw_getr k12_27 f62_5 ?_
  refine tw_const k12_30 ?_
  refine tw_iald (j := 3) (v := (s 45)) k12_31 al68 rfl (by decide) ((cSV_fr hS (fun c _ _ => by rw [g3 c (by omega), g2 c (by omega)]; exact g1 c (by omega))).2.2.2.2 3 (by omega)) ?_
  refine tw_call (by omega) (S' := []) (as := [.inr (.inr (.inl 69)), .inl (s 45)]) k12_32 (x_26_69 (M := M3) (N := N) (by omega) s hs (wV s) hc3 (wV_I hs)) rfl rfl rfl rfl rfl (fun r32 Z32 hq32 => ?_)
  obtain ⟨rfl, M4, rfl, g4, hc4⟩ := hq32
  refine tw_as (S := []) (M := M4) (N := N) rfl rfl ?_
  refine tw_const k12_35 ?_
  refine tw_istore k12_36 rfl (L' := [some (.inr (.inr (.inl 69))), some (.inr (.inr (.inl 62))), some (.inl (0 : Int))]) rfl ?_
  exact key 0 (by omega) M4 (fun c hc => by rw [g4 c (by omega), g3 c (by omega), g2 c (by omega)]; exact g1 c (by omega)) (fun p hp => by rw [g4 _ (by omega), g3 _ (by omega), g2 _ (by omega), g1 _ (by omega)]; exact hz p hp) (fun i j hij hi => by rw [g4 _ (by omega), g3 _ (by omega), g2 _ (by omega), g1 _ (by omega)]) hc4 (fun k hk => by omega)
