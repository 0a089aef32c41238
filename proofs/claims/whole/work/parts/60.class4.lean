-- the class: odds, fits, after
theorem odN_s {s : Nat → Int} {y n : Nat} : odN s y (n + 1) = odN s y n + (if s 43 < wPr (pU s (1 + y) (n : Int)) y then 1 else 0) := by
  unfold odN; rw [pS, Nat.zero_add]
theorem x_90n {K : mj_C} {d : Nat} {M : Nat → Nat → Int} {N : Nat → Nat → Int64} (hD : 6 ≤ d) (hK : kOk K) (s im : Nat → Int) (kp : Int) (tx : Nat → Int) (ln : Int) (so it : Nat → Int) (ce : Nat → Int64) (hI : IC s im kp tx ln so it ce M N) (hV : VI s im kp tx ln so it) (k : Nat) (part : Int) : mj_X K d 90 [.inr (.inr (.inl 0)), .inl ((k : Nat) : Int), .inl part] (mj_Sh, M, N) (fun r Z => r = some (.inr (.inl (qOdds s ((k : Nat) : Int) part))) ∧ ∃ M1 N1, Z = (mj_Sh, M1, N1) ∧ IC s im kp tx ln so it ce M1 N1 ∧ fr6 M N M1 N1) := by
  show mj_T K d 90 0 [some (.inr (.inr (.inl 0))), some (.inl ((k : Nat) : Int)), some (.inl part), none, none] [] (mj_Sh, M, N) _
  have hVs := hV.1
  have hs := hVs.1
  have h0 := hs.1 0 (by omega)
  have h5 := hs.2.1
  have h11 := hs.1 11 (by omega)
  have hc11 := hs.2.2.1
  have hI0 := hI
  obtain ⟨⟨hS, hse, hev, hbo⟩, hkp, hkim, hfs, hzz, htxt, htp⟩ := hI
  by_cases hyy : (0 ≤ ((k : Nat) : Int) ∧ ((k : Nat) : Int) < s 0) ∧ 0 ≤ part ∧ part ≤ 1
  · refine tw_aload k90_0 rfl ?_
    refine tw_getr k90_1 f0_0 ?_
    refine tw_getr k90_4 f1_0 ?_
    refine tw_iload k90_7 rfl ?_
    refine tw_callbT (by omega) (S' := []) (as := [.inr (.inr (.inl 2)), .inl ((k : Nat) : Int)]) k90_8 (x_47_2 (M := M) (N := N) (by omega) s (hs.1 0 (by omega)) hS ((k : Nat) : Int)) rfl rfl rfl rfl rfl hyy.1 ?_
    refine tw_zeqF k90_11 (by decide) ?_
    refine tw_iload k90_14 rfl ?_
    refine tw_const k90_15 ?_
    refine tw_const k90_16 ?_
    refine tw_callbT (by omega) (S' := []) (as := [.inl part, .inl (0 : Int), .inl (1 : Int)]) k90_17 (x_104 part (0 : Int) (1 : Int)) rfl rfl rfl rfl rfl hyy.2 ?_
    refine tw_zneT k90_20 (by decide) ?_
    refine tw_const k90_27 ?_
    refine tw_istore k90_28 rfl (L' := [some (.inr (.inr (.inl 0))), some (.inl ((k : Nat) : Int)), some (.inl part), some (.inl (0 : Int)), none]) rfl ?_
    refine tw_aload k90_29 rfl ?_
    refine tw_call (by omega) (S' := []) (as := [.inr (.inr (.inl 0))]) k90_30 (x_107 (M := M) (N := N) (by omega) hK s im kp tx ln so it ce hI0 hV) rfl rfl rfl rfl rfl (fun r30 Z30 hq30 => ?_)
    obtain ⟨rfl, M4, rfl, j1, j2, j3⟩ := hq30
    have hT : TR s s im kp tx ln so it ce M N M4 N := ⟨j1, j2, fun c hc => ⟨j3 c (by omega), rfl⟩⟩
    refine tw_as (S := []) (M := M4) (N := N) rfl rfl ?_
    refine tw_const k90_33 ?_
    refine tw_istore k90_34 rfl (L' := [some (.inr (.inr (.inl 0))), some (.inl ((k : Nat) : Int)), some (.inl part), some (.inl (0 : Int)), some (.inl (0 : Int))]) rfl ?_
    have key : ∀ i : Nat, i ≤ 10 → ∀ Mx Nx v, TR (pU s (1 + k) v) s im kp tx ln so it ce M N Mx Nx → mj_T K d 90 36 [some (.inr (.inr (.inl 0))), some (.inl ((k : Nat) : Int)), some (.inl part), some (.inl (odN s k i)), some (.inl ((i : Nat) : Int))] [] (mj_Sh, Mx, Nx) (fun r Z => r = some (.inr (.inl (qOdds s ((k : Nat) : Int) part))) ∧ ∃ M1 N1, Z = (mj_Sh, M1, N1) ∧ IC s im kp tx ln so it ce M1 N1 ∧ fr6 M N M1 N1) := by
      refine up_to 10 ?_ ?_
      · show ∀ Mx Nx v, TR (pU s (1 + k) v) s im kp tx ln so it ce M N Mx Nx → mj_T K d 90 36 [some (.inr (.inr (.inl 0))), some (.inl ((k : Nat) : Int)), some (.inl part), some (.inl (odN s k 10)), some (.inl ((10 : Nat) : Int))] [] (mj_Sh, Mx, Nx) (fun r Z => r = some (.inr (.inl (qOdds s ((k : Nat) : Int) part))) ∧ ∃ M1 N1, Z = (mj_Sh, M1, N1) ∧ IC s im kp tx ln so it ce M1 N1 ∧ fr6 M N M1 N1)
        intro Mx Nx v hT
        have ho := odN_rg (s := s) (y := k) 10
        obtain ⟨x, hx⟩ : ∃ x : Nat, odN s k 10 = (x : Int) := ⟨(odN s k 10).toNat, by omega⟩
        refine tw_iload k90_36 rfl ?_
        refine tw_const k90_38 ?_
        refine tw_cgeT k90_40 (by omega) ?_
        refine tw_iload k90_83 rfl ?_
        refine tw_const k90_84 ?_
        refine tw_iload k90_86 rfl ?_
        refine tw_callp (v := .inr (.inl (qPart x 10 part))) (by omega) (S' := []) (as := [.inl (odN s k 10), .inl (10 : Int), .inl part]) k90_87 (show mj_X K (d - 1) 110 [.inl (odN s k 10), .inl (10 : Int), .inl part] _ (fun r Z' => r = some (.inr (.inl (qPart x 10 part))) ∧ Z' = (mj_Sh, Mx, Nx)) by rw [hx]; exact x_110 x 10 (by omega) (by omega) (by omega) part) rfl rfl rfl rfl rfl ?_
        exact tw_rl k90_90 (⟨by unfold qOdds; rw [if_pos hyy, Int.toNat_natCast, hx, Int.toNat_natCast], Mx, Nx, rfl, hT.1, hT.2.2⟩)
      · intro i hmi ih
        have ih : ∀ Mx Nx v, TR (pU s (1 + k) v) s im kp tx ln so it ce M N Mx Nx → mj_T K d 90 36 [some (.inr (.inr (.inl 0))), some (.inl ((k : Nat) : Int)), some (.inl part), some (.inl (odN s k (i + 1))), some (.inl (((i + 1) : Nat) : Int))] [] (mj_Sh, Mx, Nx) (fun r Z => r = some (.inr (.inl (qOdds s ((k : Nat) : Int) part))) ∧ ∃ M1 N1, Z = (mj_Sh, M1, N1) ∧ IC s im kp tx ln so it ce M1 N1 ∧ fr6 M N M1 N1) := ih
        show ∀ Mx Nx v, TR (pU s (1 + k) v) s im kp tx ln so it ce M N Mx Nx → mj_T K d 90 36 [some (.inr (.inr (.inl 0))), some (.inl ((k : Nat) : Int)), some (.inl part), some (.inl (odN s k i)), some (.inl ((i : Nat) : Int))] [] (mj_Sh, Mx, Nx) (fun r Z => r = some (.inr (.inl (qOdds s ((k : Nat) : Int) part))) ∧ ∃ M1 N1, Z = (mj_Sh, M1, N1) ∧ IC s im kp tx ln so it ce M1 N1 ∧ fr6 M N M1 N1)
        intro Mx Nx v hT
        have ho := odN_rg (s := s) (y := k) i
        refine tw_iload k90_36 rfl ?_
        refine tw_const k90_38 ?_
        refine tw_cgeF k90_40 (by omega) ?_
        refine tw_aload k90_43 rfl ?_
        refine tw_getr k90_44 f0_5 ?_
        refine tw_getr k90_47 f62_0 ?_
        refine tw_iload k90_50 rfl ?_
        refine tw_iload k90_51 rfl ?_
        refine tw_iast (M := Mx) (N := Nx) (l := []) (l' := [(63, (pU (Mx 63) k ((i : Nat) : Int)))]) (j := k) k90_53 al63 rfl (by omega) rfl ?_
        refine tw_aload k90_54 rfl ?_
        refine tw_call (by omega) (S' := []) (as := [.inr (.inr (.inl 0))]) k90_55 (x_108 (M := (st Mx [(63, (pU (Mx 63) k ((i : Nat) : Int)))])) (N := Nx) (by omega) hK s im kp tx ln so it ce ((by have h := TR_put hs hT (x := 63) (b := 1) (k := k) (v := ((i : Nat) : Int)) (by omega); rwa [pU_pU] at h) : TR (pU s (1 + k) ((i : Nat) : Int)) s im kp tx ln so it ce M N (st Mx [(63, (pU (Mx 63) k ((i : Nat) : Int)))]) Nx).1 hV (pU s (1 + k) ((i : Nat) : Int)) (pRg_put hs (by omega) (by omega)) ((by have h := TR_put hs hT (x := 63) (b := 1) (k := k) (v := ((i : Nat) : Int)) (by omega); rwa [pU_pU] at h) : TR (pU s (1 + k) ((i : Nat) : Int)) s im kp tx ln so it ce M N (st Mx [(63, (pU (Mx 63) k ((i : Nat) : Int)))]) Nx).2.1) rfl rfl rfl rfl rfl (fun r55 Z55 hq55 => ?_)
        obtain ⟨rfl, M5, N5, rfl, t1, t2, t3, t4, t5⟩ := hq55
        have hT5a : TR (pU s (1 + k) ((i : Nat) : Int)) s im kp tx ln so it ce M N (st Mx [(63, (pU (Mx 63) k ((i : Nat) : Int)))]) Nx := (by have h := TR_put hs hT (x := 63) (b := 1) (k := k) (v := ((i : Nat) : Int)) (by omega); rwa [pU_pU] at h)
        have hT5 : TR (pU s (1 + k) ((i : Nat) : Int)) s im kp tx ln so it ce M N M5 N5 := ⟨t1, t3, fr6_tr hT5a.2.2 t4⟩
        have hP5 : cPV 69 M5 N5 (pU s (1 + k) ((i : Nat) : Int)) := t2
        refine tw_as (S := [.inr (.inr (.inl 69))]) (M := M5) (N := N5) rfl rfl ?_
        refine tw_iload k90_58 rfl ?_
        refine tw_callp (v := .inl (wPr (pU s (1 + k) ((i : Nat) : Int)) k)) (by omega) (S' := []) (as := [.inr (.inr (.inl 69)), .inl ((k : Nat) : Int)]) k90_59 (x_13_69 (M := M5) (N := N5) (pU s (1 + k) ((i : Nat) : Int)) (pRg_put hs (by omega) (by omega)) hP5 k (by rw [pU_ne (by omega)]; omega)) rfl rfl rfl rfl rfl ?_
        refine tw_aload k90_62 rfl ?_
        refine tw_getr k90_63 f0_5 ?_
        refine tw_getr k90_66 f62_5 ?_
        refine tw_const k90_69 ?_
        refine tw_iald (j := 1) (v := (s 43)) k90_70 al68 rfl (by decide) ((hT5.2.1.2.2.2.2 1 (by omega)).trans (pU_ne (by omega))) ?_
        refine tw_cle k90_71 (fun h71 => ?_) (fun h71 => ?_)
        · refine tw_iinc k90_77 rfl (v := ((i + 1 : Nat) : Int)) rfl (by omega) rfl (L' := [some (.inr (.inr (.inl 0))), some (.inl ((k : Nat) : Int)), some (.inl part), some (.inl (odN s k i)), some (.inl ((i + 1 : Nat) : Int))]) rfl ?_
          refine tw_goto k90_80 ?_
          refine tw_eqL (L' := [some (.inr (.inr (.inl 0))), some (.inl ((k : Nat) : Int)), some (.inl part), some (.inl (odN s k (i + 1))), some (.inl (((i + 1) : Nat) : Int))]) (e_c rfl (e_c rfl (e_c rfl (e_c (e_i (by rw [odN_s, if_neg h71]; omega)) (e_c rfl rfl))))) ?_
          exact ih M5 N5 _ hT5
        · refine tw_iinc k90_74 rfl (v := ((odN s k i) + (1 : Int))) rfl (by omega) rfl (L' := [some (.inr (.inr (.inl 0))), some (.inl ((k : Nat) : Int)), some (.inl part), some (.inl ((odN s k i) + (1 : Int))), some (.inl ((i : Nat) : Int))]) rfl ?_
          refine tw_iinc k90_77 rfl (v := ((i + 1 : Nat) : Int)) rfl (by omega) rfl (L' := [some (.inr (.inr (.inl 0))), some (.inl ((k : Nat) : Int)), some (.inl part), some (.inl ((odN s k i) + (1 : Int))), some (.inl ((i + 1 : Nat) : Int))]) rfl ?_
          refine tw_goto k90_80 ?_
          refine tw_eqL (L' := [some (.inr (.inr (.inl 0))), some (.inl ((k : Nat) : Int)), some (.inl part), some (.inl (odN s k (i + 1))), some (.inl (((i + 1) : Nat) : Int))]) (e_c rfl (e_c rfl (e_c rfl (e_c (e_i (by rw [odN_s, if_pos h71])) (e_c rfl rfl))))) ?_
          exact ih M5 N5 _ hT5
    refine tw_eqL (L' := [some (.inr (.inr (.inl 0))), some (.inl ((k : Nat) : Int)), some (.inl part), some (.inl (odN s k 0)), some (.inl ((0 : Nat) : Int))]) (e_c rfl (e_c rfl (e_c rfl (e_c (e_i rfl) (e_c (e_i rfl) rfl))))) ?_
    exact key 0 (by omega) M4 N (s (1 + k)) (by rw [pU_sf]; exact hT)
  · by_cases hy1 : 0 ≤ ((k : Nat) : Int) ∧ ((k : Nat) : Int) < s 0
    · refine tw_aload k90_0 rfl ?_
      refine tw_getr k90_1 f0_0 ?_
      refine tw_getr k90_4 f1_0 ?_
      refine tw_iload k90_7 rfl ?_
      refine tw_callbT (by omega) (S' := []) (as := [.inr (.inr (.inl 2)), .inl ((k : Nat) : Int)]) k90_8 (x_47_2 (M := M) (N := N) (by omega) s (hs.1 0 (by omega)) hS ((k : Nat) : Int)) rfl rfl rfl rfl rfl hy1 ?_
      refine tw_zeqF k90_11 (by decide) ?_
      refine tw_iload k90_14 rfl ?_
      refine tw_const k90_15 ?_
      refine tw_const k90_16 ?_
      refine tw_callbF (by omega) (S' := []) (as := [.inl part, .inl (0 : Int), .inl (1 : Int)]) k90_17 (x_104 part (0 : Int) (1 : Int)) rfl rfl rfl rfl rfl (fun q => hyy ⟨hy1, q⟩) ?_
      refine tw_zneF k90_20 (by decide) ?_
      refine tw_lconst k90_23 ?_
      exact tw_rl k90_26 (⟨by unfold qOdds; rw [if_neg hyy]; rfl, M, N, rfl, hI0, fun c _ => ⟨rfl, rfl⟩⟩)
    · refine tw_aload k90_0 rfl ?_
      refine tw_getr k90_1 f0_0 ?_
      refine tw_getr k90_4 f1_0 ?_
      refine tw_iload k90_7 rfl ?_
      refine tw_callbF (by omega) (S' := []) (as := [.inr (.inr (.inl 2)), .inl ((k : Nat) : Int)]) k90_8 (x_47_2 (M := M) (N := N) (by omega) s (hs.1 0 (by omega)) hS ((k : Nat) : Int)) rfl rfl rfl rfl rfl hy1 ?_
      refine tw_zeqT k90_11 (by decide) ?_
      refine tw_lconst k90_23 ?_
      exact tw_rl k90_26 (⟨by unfold qOdds; rw [if_neg hyy]; rfl, M, N, rfl, hI0, fun c _ => ⟨rfl, rfl⟩⟩)
theorem x_90 {K : mj_C} {d : Nat} {M : Nat → Nat → Int} {N : Nat → Nat → Int64} (hD : 6 ≤ d) (hK : kOk K) (s im : Nat → Int) (kp : Int) (tx : Nat → Int) (ln : Int) (so it : Nat → Int) (ce : Nat → Int64) (hI : IC s im kp tx ln so it ce M N) (hV : VI s im kp tx ln so it) (y part : Int) : mj_X K d 90 [.inr (.inr (.inl 0)), .inl y, .inl part] (mj_Sh, M, N) (fun r Z => r = some (.inr (.inl (qOdds s y part))) ∧ ∃ M1 N1, Z = (mj_Sh, M1, N1) ∧ IC s im kp tx ln so it ce M1 N1 ∧ fr6 M N M1 N1) := by
  show mj_T K d 90 0 [some (.inr (.inr (.inl 0))), some (.inl y), some (.inl part), none, none] [] (mj_Sh, M, N) _
  by_cases hy0 : 0 ≤ y
  · obtain ⟨k, rfl⟩ : ∃ k : Nat, y = (k : Int) := ⟨y.toNat, by omega⟩
    exact x_90n hD hK s im kp tx ln so it ce hI hV k part
  · have hVs := hV.1
    have hs := hVs.1
    have h0 := hs.1 0 (by omega)
    have h5 := hs.2.1
    have h11 := hs.1 11 (by omega)
    have hc11 := hs.2.2.1
    have hI0 := hI
    obtain ⟨⟨hS, hse, hev, hbo⟩, hkp, hkim, hfs, hzz, htxt, htp⟩ := hI
    refine tw_aload k90_0 rfl ?_
    refine tw_getr k90_1 f0_0 ?_
    refine tw_getr k90_4 f1_0 ?_
    refine tw_iload k90_7 rfl ?_
    refine tw_callbF (by omega) (S' := []) (as := [.inr (.inr (.inl 2)), .inl y]) k90_8 (x_47_2 (M := M) (N := N) (by omega) s (hs.1 0 (by omega)) hS y) rfl rfl rfl rfl rfl (by omega) ?_
    refine tw_zeqT k90_11 (by decide) ?_
    refine tw_lconst k90_23 ?_
    exact tw_rl k90_26 (⟨by unfold qOdds; rw [if_neg (by omega)]; rfl, M, N, rfl, hI0, fun c _ => ⟨rfl, rfl⟩⟩)
theorem fN_e {s : Nat → Int} {y n : Nat} : fN s y 0 (n + 1) = fN s y 0 n + (if fOk s y n then 1 else 0) := by
  unfold fN; rw [pS, Nat.zero_add]
theorem x_89n {K : mj_C} {d : Nat} {M : Nat → Nat → Int} {N : Nat → Nat → Int64} (hD : 6 ≤ d) (hK : kOk K) (s im : Nat → Int) (kp : Int) (tx : Nat → Int) (ln : Int) (so it : Nat → Int) (ce : Nat → Int64) (hI : IC s im kp tx ln so it ce M N) (hV : VI s im kp tx ln so it) (k : Nat) (what : Int) : mj_X K d 89 [.inr (.inr (.inl 0)), .inl ((k : Nat) : Int), .inl what] (mj_Sh, M, N) (fun r Z => r = some (.inl (qFits s ((k : Nat) : Int) what)) ∧ ∃ M1 N1, Z = (mj_Sh, M1, N1) ∧ IC s im kp tx ln so it ce M1 N1 ∧ fr6 M N M1 N1) := by
  show mj_T K d 89 0 [some (.inr (.inr (.inl 0))), some (.inl ((k : Nat) : Int)), some (.inl what), none, none, none] [] (mj_Sh, M, N) _
  have hVs := hV.1
  have hs := hVs.1
  have h0 := hs.1 0 (by omega)
  have h5 := hs.2.1
  have h11 := hs.1 11 (by omega)
  have hc11 := hs.2.2.1
  have hI0 := hI
  obtain ⟨⟨hS, hse, hev, hbo⟩, hkp, hkim, hfs, hzz, htxt, htp⟩ := hI
  by_cases hyy : (0 ≤ ((k : Nat) : Int) ∧ ((k : Nat) : Int) < s 0) ∧ 0 ≤ what ∧ what ≤ 1
  · refine tw_aload k89_0 rfl ?_
    refine tw_getr k89_1 f0_0 ?_
    refine tw_getr k89_4 f1_0 ?_
    refine tw_iload k89_7 rfl ?_
    refine tw_callbT (by omega) (S' := []) (as := [.inr (.inr (.inl 2)), .inl ((k : Nat) : Int)]) k89_8 (x_47_2 (M := M) (N := N) (by omega) s (hs.1 0 (by omega)) hS ((k : Nat) : Int)) rfl rfl rfl rfl rfl hyy.1 ?_
    refine tw_zeqF k89_11 (by decide) ?_
    refine tw_iload k89_14 rfl ?_
    refine tw_const k89_15 ?_
    refine tw_const k89_16 ?_
    refine tw_callbT (by omega) (S' := []) (as := [.inl what, .inl (0 : Int), .inl (1 : Int)]) k89_17 (x_104 what (0 : Int) (1 : Int)) rfl rfl rfl rfl rfl hyy.2 ?_
    refine tw_zneT k89_20 (by decide) ?_
    refine tw_const k89_25 ?_
    refine tw_istore k89_26 rfl (L' := [some (.inr (.inr (.inl 0))), some (.inl ((k : Nat) : Int)), some (.inl what), some (.inl (0 : Int)), none, none]) rfl ?_
    refine tw_const k89_27 ?_
    refine tw_istore k89_29 rfl (L' := [some (.inr (.inr (.inl 0))), some (.inl ((k : Nat) : Int)), some (.inl what), some (.inl (0 : Int)), some (.inl (-5 : Int)), none]) rfl ?_
    refine tw_aload k89_31 rfl ?_
    refine tw_call (by omega) (S' := []) (as := [.inr (.inr (.inl 0))]) k89_32 (x_107 (M := M) (N := N) (by omega) hK s im kp tx ln so it ce hI0 hV) rfl rfl rfl rfl rfl (fun r32 Z32 hq32 => ?_)
    obtain ⟨rfl, M4, rfl, j1, j2, j3⟩ := hq32
    have hT : TR s s im kp tx ln so it ce M N M4 N := ⟨j1, j2, fun c hc => ⟨j3 c (by omega), rfl⟩⟩
    refine tw_as (S := []) (M := M4) (N := N) rfl rfl ?_
    refine tw_const k89_35 ?_
    refine tw_istore k89_36 rfl (L' := [some (.inr (.inr (.inl 0))), some (.inl ((k : Nat) : Int)), some (.inl what), some (.inl (0 : Int)), some (.inl (-5 : Int)), some (.inl (0 : Int))]) rfl ?_
    have key : ∀ i : Nat, i ≤ 11 → ∀ Mx Nx v lv, TR (pU s (6 + k) v) s im kp tx ln so it ce M N Mx Nx → ((fN s k 0 i = 0 ∧ lv = -5 ∧ ∀ j, j < i → ¬ fOk s k j) ∨ (0 < fN s k 0 i ∧ ∃ r, r < i ∧ fOk s k r ∧ (∀ j, j < r → ¬ fOk s k j) ∧ lv = ((2 * r : Nat) : Int))) → mj_T K d 89 38 [some (.inr (.inr (.inl 0))), some (.inl ((k : Nat) : Int)), some (.inl what), some (.inl (fN s k 0 i)), some (.inl lv), some (.inl (((2 * i) : Nat) : Int))] [] (mj_Sh, Mx, Nx) (fun r Z => r = some (.inl (qFits s ((k : Nat) : Int) what)) ∧ ∃ M1 N1, Z = (mj_Sh, M1, N1) ∧ IC s im kp tx ln so it ce M1 N1 ∧ fr6 M N M1 N1) := by
      refine up_to 11 ?_ ?_
      · show ∀ Mx Nx v lv, TR (pU s (6 + k) v) s im kp tx ln so it ce M N Mx Nx → ((fN s k 0 11 = 0 ∧ lv = -5 ∧ ∀ j, j < 11 → ¬ fOk s k j) ∨ (0 < fN s k 0 11 ∧ ∃ r, r < 11 ∧ fOk s k r ∧ (∀ j, j < r → ¬ fOk s k j) ∧ lv = ((2 * r : Nat) : Int))) → mj_T K d 89 38 [some (.inr (.inr (.inl 0))), some (.inl ((k : Nat) : Int)), some (.inl what), some (.inl (fN s k 0 11)), some (.inl lv), some (.inl (((2 * 11) : Nat) : Int))] [] (mj_Sh, Mx, Nx) (fun r Z => r = some (.inl (qFits s ((k : Nat) : Int) what)) ∧ ∃ M1 N1, Z = (mj_Sh, M1, N1) ∧ IC s im kp tx ln so it ce M1 N1 ∧ fr6 M N M1 N1)
        intro Mx Nx v lv hT hlv
        have hfl : lv = fL s k 0 := by
          unfold fL
          rcases hlv with ⟨_, h2, h3⟩ | ⟨_, r, h2, h3, h4, h5⟩
          · rw [pFd_no _ 0 (fun j _ hj => h3 j (by omega)), if_neg (by omega)]; exact h2
          · rw [pFd_eq _ 0 r (by omega) (by omega) h3 (fun j _ hj => h4 j hj), if_pos (by omega)]; exact h5
        refine tw_iload k89_38 rfl ?_
        refine tw_const k89_40 ?_
        refine tw_cgtT k89_42 (by omega) ?_
        refine tw_iload k89_97 rfl ?_
        refine tw_zne k89_98 (fun h98 => ?_) (fun h98 => ?_)
        · refine tw_iload k89_105 rfl ?_
          exact tw_ri k89_107 (⟨by unfold qFits; rw [if_pos hyy, Int.toNat_natCast]; rw [if_neg (by omega), hfl], Mx, Nx, rfl, hT.1, hT.2.2⟩)
        · refine tw_iload k89_101 rfl ?_
          refine tw_goto k89_102 ?_
          exact tw_ri k89_107 (⟨by unfold qFits; rw [if_pos hyy, Int.toNat_natCast]; rw [if_pos (by omega)], Mx, Nx, rfl, hT.1, hT.2.2⟩)
      · intro i hmi ih
        have ih : ∀ Mx Nx v lv, TR (pU s (6 + k) v) s im kp tx ln so it ce M N Mx Nx → ((fN s k 0 (i + 1) = 0 ∧ lv = -5 ∧ ∀ j, j < (i + 1) → ¬ fOk s k j) ∨ (0 < fN s k 0 (i + 1) ∧ ∃ r, r < (i + 1) ∧ fOk s k r ∧ (∀ j, j < r → ¬ fOk s k j) ∧ lv = ((2 * r : Nat) : Int))) → mj_T K d 89 38 [some (.inr (.inr (.inl 0))), some (.inl ((k : Nat) : Int)), some (.inl what), some (.inl (fN s k 0 (i + 1))), some (.inl lv), some (.inl (((2 * (i + 1)) : Nat) : Int))] [] (mj_Sh, Mx, Nx) (fun r Z => r = some (.inl (qFits s ((k : Nat) : Int) what)) ∧ ∃ M1 N1, Z = (mj_Sh, M1, N1) ∧ IC s im kp tx ln so it ce M1 N1 ∧ fr6 M N M1 N1) := ih
        show ∀ Mx Nx v lv, TR (pU s (6 + k) v) s im kp tx ln so it ce M N Mx Nx → ((fN s k 0 i = 0 ∧ lv = -5 ∧ ∀ j, j < i → ¬ fOk s k j) ∨ (0 < fN s k 0 i ∧ ∃ r, r < i ∧ fOk s k r ∧ (∀ j, j < r → ¬ fOk s k j) ∧ lv = ((2 * r : Nat) : Int))) → mj_T K d 89 38 [some (.inr (.inr (.inl 0))), some (.inl ((k : Nat) : Int)), some (.inl what), some (.inl (fN s k 0 i)), some (.inl lv), some (.inl (((2 * i) : Nat) : Int))] [] (mj_Sh, Mx, Nx) (fun r Z => r = some (.inl (qFits s ((k : Nat) : Int) what)) ∧ ∃ M1 N1, Z = (mj_Sh, M1, N1) ∧ IC s im kp tx ln so it ce M1 N1 ∧ fr6 M N M1 N1)
        intro Mx Nx v lv hT hlv
        have ho := fN_rg (s := s) (y := k) (a := 0) i
        refine tw_iload k89_38 rfl ?_
        refine tw_const k89_40 ?_
        refine tw_cgtF k89_42 (by omega) ?_
        refine tw_aload k89_45 rfl ?_
        refine tw_getr k89_46 f0_5 ?_
        refine tw_getr k89_49 f62_1 ?_
        refine tw_iload k89_52 rfl ?_
        refine tw_iload k89_53 rfl ?_
        refine tw_iast (M := Mx) (N := Nx) (l := []) (l' := [(64, (pU (Mx 64) k (((2 * i) : Nat) : Int)))]) (j := k) k89_55 al64 rfl (by omega) rfl ?_
        refine tw_aload k89_56 rfl ?_
        refine tw_call (by omega) (S' := []) (as := [.inr (.inr (.inl 0))]) k89_57 (x_108 (M := (st Mx [(64, (pU (Mx 64) k (((2 * i) : Nat) : Int)))])) (N := Nx) (by omega) hK s im kp tx ln so it ce ((by have h := TR_put hs hT (x := 64) (b := 6) (k := k) (v := ((2 * i : Nat) : Int)) (by omega); rwa [pU_pU] at h) : TR (pU s (6 + k) ((2 * i : Nat) : Int)) s im kp tx ln so it ce M N (st Mx [(64, (pU (Mx 64) k (((2 * i) : Nat) : Int)))]) Nx).1 hV (pU s (6 + k) ((2 * i : Nat) : Int)) (pRg_put hs (by omega) (by omega)) ((by have h := TR_put hs hT (x := 64) (b := 6) (k := k) (v := ((2 * i : Nat) : Int)) (by omega); rwa [pU_pU] at h) : TR (pU s (6 + k) ((2 * i : Nat) : Int)) s im kp tx ln so it ce M N (st Mx [(64, (pU (Mx 64) k (((2 * i) : Nat) : Int)))]) Nx).2.1) rfl rfl rfl rfl rfl (fun r57 Z57 hq57 => ?_)
        obtain ⟨rfl, M5, N5, rfl, t1, t2, t3, t4, t5⟩ := hq57
        have hT5a : TR (pU s (6 + k) ((2 * i : Nat) : Int)) s im kp tx ln so it ce M N (st Mx [(64, (pU (Mx 64) k (((2 * i) : Nat) : Int)))]) Nx := (by have h := TR_put hs hT (x := 64) (b := 6) (k := k) (v := ((2 * i : Nat) : Int)) (by omega); rwa [pU_pU] at h)
        have hT5 : TR (pU s (6 + k) ((2 * i : Nat) : Int)) s im kp tx ln so it ce M N M5 N5 := ⟨t1, t3, fr6_tr hT5a.2.2 t4⟩
        have hP5 : cPV 69 M5 N5 (pU s (6 + k) ((2 * i : Nat) : Int)) := t2
        refine tw_as (S := [.inr (.inr (.inl 69))]) (M := M5) (N := N5) rfl rfl ?_
        refine tw_aload k89_60 rfl ?_
        refine tw_getr k89_61 f0_0 ?_
        refine tw_getr k89_64 f1_1 ?_
        refine tw_callp (v := .inl (qFirst (pU s (6 + k) ((2 * i : Nat) : Int)) 46)) (by omega) (S' := []) (as := [.inr (.inr (.inl 69)), .inr (.inr (.inl 9))]) k89_67 (x_20_69 (M := M5) (N := N5) (by omega) (pU s (6 + k) ((2 * i : Nat) : Int)) (pRg_put hs (by omega) (by omega)) hP5 (rV_cg hT5.1.1.2.1 (by omega) (fun j hj => pU_ne (by omega))) (pLs_pU hVs.2.2.1 (by omega) (by omega))) rfl rfl rfl rfl rfl ?_
        refine tw_const k89_70 ?_
        refine tw_cne k89_72 (fun h72 => ?_) (fun h72 => ?_)
        · refine tw_iinc k89_91 rfl (v := (((2 * i) + 2 : Nat) : Int)) rfl (by omega) rfl (L' := [some (.inr (.inr (.inl 0))), some (.inl ((k : Nat) : Int)), some (.inl what), some (.inl (fN s k 0 i)), some (.inl lv), some (.inl (((2 * i) + 2 : Nat) : Int))]) rfl ?_
          refine tw_goto k89_94 ?_
          refine tw_eqL (L' := [some (.inr (.inr (.inl 0))), some (.inl ((k : Nat) : Int)), some (.inl what), some (.inl (fN s k 0 (i + 1))), some (.inl lv), some (.inl (((2 * (i + 1)) : Nat) : Int))]) (e_c rfl (e_c rfl (e_c rfl (e_c (e_i (by rw [fN_e, if_neg h72, Int.add_zero])) (e_c rfl (e_c (e_i (by omega)) rfl)))))) ?_
          exact ih M5 N5 _ lv hT5 (by
             rw [fN_e, if_neg h72, Int.add_zero]
             rcases hlv with ⟨h1, h2, h3⟩ | ⟨h1, r, h2, h3, h4, h5⟩
             · exact Or.inl ⟨h1, h2, fun j hj => by
                 by_cases e : j = i
                 · subst e; exact h72
                 · exact h3 j (by omega)⟩
             · exact Or.inr ⟨h1, r, by omega, h3, h4, h5⟩)
        · refine tw_iload k89_75 rfl ?_
          refine tw_zne k89_76 (fun h76 => ?_) (fun h76 => ?_)
          · refine tw_iload k89_84 rfl ?_
            refine tw_istore k89_86 rfl (L' := [some (.inr (.inr (.inl 0))), some (.inl ((k : Nat) : Int)), some (.inl what), some (.inl (fN s k 0 i)), some (.inl lv), some (.inl (((2 * i) : Nat) : Int))]) rfl ?_
            refine tw_iinc k89_88 rfl (v := ((fN s k 0 i) + (1 : Int))) rfl (by omega) rfl (L' := [some (.inr (.inr (.inl 0))), some (.inl ((k : Nat) : Int)), some (.inl what), some (.inl ((fN s k 0 i) + (1 : Int))), some (.inl lv), some (.inl (((2 * i) : Nat) : Int))]) rfl ?_
            refine tw_iinc k89_91 rfl (v := (((2 * i) + 2 : Nat) : Int)) rfl (by omega) rfl (L' := [some (.inr (.inr (.inl 0))), some (.inl ((k : Nat) : Int)), some (.inl what), some (.inl ((fN s k 0 i) + (1 : Int))), some (.inl lv), some (.inl (((2 * i) + 2 : Nat) : Int))]) rfl ?_
            refine tw_goto k89_94 ?_
            refine tw_eqL (L' := [some (.inr (.inr (.inl 0))), some (.inl ((k : Nat) : Int)), some (.inl what), some (.inl (fN s k 0 (i + 1))), some (.inl lv), some (.inl (((2 * (i + 1)) : Nat) : Int))]) (e_c rfl (e_c rfl (e_c rfl (e_c (e_i (by rw [fN_e, if_pos h72])) (e_c rfl (e_c (e_i (by omega)) rfl)))))) ?_
            exact ih M5 N5 _ lv hT5 (by
               rw [fN_e, if_pos h72]
               rcases hlv with ⟨h1, h2, h3⟩ | ⟨h1, r, h2, h3, h4, h5⟩
               · exact absurd h1 h76
               · exact Or.inr ⟨by omega, r, by omega, h3, h4, h5⟩)
          · refine tw_iload k89_79 rfl ?_
            refine tw_goto k89_81 ?_
            refine tw_istore k89_86 rfl (L' := [some (.inr (.inr (.inl 0))), some (.inl ((k : Nat) : Int)), some (.inl what), some (.inl (fN s k 0 i)), some (.inl (((2 * i) : Nat) : Int)), some (.inl (((2 * i) : Nat) : Int))]) rfl ?_
            refine tw_iinc k89_88 rfl (v := ((fN s k 0 i) + (1 : Int))) rfl (by omega) rfl (L' := [some (.inr (.inr (.inl 0))), some (.inl ((k : Nat) : Int)), some (.inl what), some (.inl ((fN s k 0 i) + (1 : Int))), some (.inl (((2 * i) : Nat) : Int)), some (.inl (((2 * i) : Nat) : Int))]) rfl ?_
            refine tw_iinc k89_91 rfl (v := (((2 * i) + 2 : Nat) : Int)) rfl (by omega) rfl (L' := [some (.inr (.inr (.inl 0))), some (.inl ((k : Nat) : Int)), some (.inl what), some (.inl ((fN s k 0 i) + (1 : Int))), some (.inl (((2 * i) : Nat) : Int)), some (.inl (((2 * i) + 2 : Nat) : Int))]) rfl ?_
            refine tw_goto k89_94 ?_
            refine tw_eqL (L' := [some (.inr (.inr (.inl 0))), some (.inl ((k : Nat) : Int)), some (.inl what), some (.inl (fN s k 0 (i + 1))), some (.inl (((2 * i) : Nat) : Int)), some (.inl (((2 * (i + 1)) : Nat) : Int))]) (e_c rfl (e_c rfl (e_c rfl (e_c (e_i (by rw [fN_e, if_pos h72])) (e_c rfl (e_c (e_i (by omega)) rfl)))))) ?_
            exact ih M5 N5 _ _ hT5 (by
               rw [fN_e, if_pos h72]
               rcases hlv with ⟨h1, h2, h3⟩ | ⟨h1, r, h2, h3, h4, h5⟩
               · exact Or.inr ⟨by omega, i, by omega, h72, h3, rfl⟩
               · omega)
    refine tw_eqL (L' := [some (.inr (.inr (.inl 0))), some (.inl ((k : Nat) : Int)), some (.inl what), some (.inl (fN s k 0 0)), some (.inl (-5 : Int)), some (.inl (((2 * 0) : Nat) : Int))]) (e_c rfl (e_c rfl (e_c rfl (e_c (e_i rfl) (e_c rfl (e_c (e_i rfl) rfl)))))) ?_
    exact key 0 (by omega) M4 N (s (6 + k)) _ (by rw [pU_sf]; exact hT) (Or.inl ⟨rfl, rfl, fun j hj => absurd hj (by omega)⟩)
  · by_cases hy1 : 0 ≤ ((k : Nat) : Int) ∧ ((k : Nat) : Int) < s 0
    · refine tw_aload k89_0 rfl ?_
      refine tw_getr k89_1 f0_0 ?_
      refine tw_getr k89_4 f1_0 ?_
      refine tw_iload k89_7 rfl ?_
      refine tw_callbT (by omega) (S' := []) (as := [.inr (.inr (.inl 2)), .inl ((k : Nat) : Int)]) k89_8 (x_47_2 (M := M) (N := N) (by omega) s (hs.1 0 (by omega)) hS ((k : Nat) : Int)) rfl rfl rfl rfl rfl hy1 ?_
      refine tw_zeqF k89_11 (by decide) ?_
      refine tw_iload k89_14 rfl ?_
      refine tw_const k89_15 ?_
      refine tw_const k89_16 ?_
      refine tw_callbF (by omega) (S' := []) (as := [.inl what, .inl (0 : Int), .inl (1 : Int)]) k89_17 (x_104 what (0 : Int) (1 : Int)) rfl rfl rfl rfl rfl (fun q => hyy ⟨hy1, q⟩) ?_
      refine tw_zneF k89_20 (by decide) ?_
      refine tw_const k89_23 ?_
      exact tw_ri k89_24 (⟨by unfold qFits; rw [if_neg hyy], M, N, rfl, hI0, fun c _ => ⟨rfl, rfl⟩⟩)
    · refine tw_aload k89_0 rfl ?_
      refine tw_getr k89_1 f0_0 ?_
      refine tw_getr k89_4 f1_0 ?_
      refine tw_iload k89_7 rfl ?_
      refine tw_callbF (by omega) (S' := []) (as := [.inr (.inr (.inl 2)), .inl ((k : Nat) : Int)]) k89_8 (x_47_2 (M := M) (N := N) (by omega) s (hs.1 0 (by omega)) hS ((k : Nat) : Int)) rfl rfl rfl rfl rfl hy1 ?_
      refine tw_zeqT k89_11 (by decide) ?_
      refine tw_const k89_23 ?_
      exact tw_ri k89_24 (⟨by unfold qFits; rw [if_neg hyy], M, N, rfl, hI0, fun c _ => ⟨rfl, rfl⟩⟩)
theorem x_89 {K : mj_C} {d : Nat} {M : Nat → Nat → Int} {N : Nat → Nat → Int64} (hD : 6 ≤ d) (hK : kOk K) (s im : Nat → Int) (kp : Int) (tx : Nat → Int) (ln : Int) (so it : Nat → Int) (ce : Nat → Int64) (hI : IC s im kp tx ln so it ce M N) (hV : VI s im kp tx ln so it) (y what : Int) : mj_X K d 89 [.inr (.inr (.inl 0)), .inl y, .inl what] (mj_Sh, M, N) (fun r Z => r = some (.inl (qFits s y what)) ∧ ∃ M1 N1, Z = (mj_Sh, M1, N1) ∧ IC s im kp tx ln so it ce M1 N1 ∧ fr6 M N M1 N1) := by
  show mj_T K d 89 0 [some (.inr (.inr (.inl 0))), some (.inl y), some (.inl what), none, none, none] [] (mj_Sh, M, N) _
  by_cases hy0 : 0 ≤ y
  · obtain ⟨k, rfl⟩ : ∃ k : Nat, y = (k : Int) := ⟨y.toNat, by omega⟩
    exact x_89n hD hK s im kp tx ln so it ce hI hV k what
  · have hVs := hV.1
    have hs := hVs.1
    have h0 := hs.1 0 (by omega)
    have h5 := hs.2.1
    have h11 := hs.1 11 (by omega)
    have hc11 := hs.2.2.1
    have hI0 := hI
    obtain ⟨⟨hS, hse, hev, hbo⟩, hkp, hkim, hfs, hzz, htxt, htp⟩ := hI
    refine tw_aload k89_0 rfl ?_
    refine tw_getr k89_1 f0_0 ?_
    refine tw_getr k89_4 f1_0 ?_
    refine tw_iload k89_7 rfl ?_
    refine tw_callbF (by omega) (S' := []) (as := [.inr (.inr (.inl 2)), .inl y]) k89_8 (x_47_2 (M := M) (N := N) (by omega) s (hs.1 0 (by omega)) hS y) rfl rfl rfl rfl rfl (by omega) ?_
    refine tw_zeqT k89_11 (by decide) ?_
    refine tw_const k89_23 ?_
    exact tw_ri k89_24 (⟨by unfold qFits; rw [if_neg (by omega)], M, N, rfl, hI0, fun c _ => ⟨rfl, rfl⟩⟩)
theorem x_93 {K : mj_C} {d : Nat} {M : Nat → Nat → Int} {N : Nat → Nat → Int64} (hD : 6 ≤ d) (hK : kOk K) (s im : Nat → Int) (kp : Int) (tx : Nat → Int) (ln : Int) (so it : Nat → Int) (ce : Nat → Int64) (hI : IC s im kp tx ln so it ce M N) (hV : VI s im kp tx ln so it) (what : Int) : mj_X K d 93 [.inr (.inr (.inl 0)), .inl what] (mj_Sh, M, N) (fun r Z => r = some (.inr (.inl (qAfter s what))) ∧ ∃ M1 N1, Z = (mj_Sh, M1, N1) ∧ IC s im kp tx ln so it ce M1 N1 ∧ fr6 M N M1 N1) := by
  show mj_T K d 93 0 [some (.inr (.inr (.inl 0))), some (.inl what), none] [] (mj_Sh, M, N) _
  have hVs := hV.1
  have hs := hVs.1
  have h0 := hs.1 0 (by omega)
  have h5 := hs.2.1
  have h11 := hs.1 11 (by omega)
  have hc11 := hs.2.2.1
  have hI0 := hI
  obtain ⟨⟨hS, hse, hev, hbo⟩, hkp, hkim, hfs, hzz, htxt, htp⟩ := hI
  by_cases hyy : 0 ≤ what ∧ what ≤ 2
  · refine tw_iload k93_0 rfl ?_
    refine tw_const k93_1 ?_
    refine tw_const k93_2 ?_
    refine tw_callbT (by omega) (S' := []) (as := [.inl what, .inl (0 : Int), .inl (2 : Int)]) k93_3 (x_104 what (0 : Int) (2 : Int)) rfl rfl rfl rfl rfl hyy ?_
    refine tw_zneT k93_6 (by decide) ?_
    refine tw_aload k93_13 rfl ?_
    refine tw_call (by omega) (S' := []) (as := [.inr (.inr (.inl 0))]) k93_14 (x_107 (M := M) (N := N) (by omega) hK s im kp tx ln so it ce hI0 hV) rfl rfl rfl rfl rfl (fun r14 Z14 hq14 => ?_)
    obtain ⟨rfl, M4, rfl, j1, j2, j3⟩ := hq14
    have hT : TR s s im kp tx ln so it ce M N M4 N := ⟨j1, j2, fun c hc => ⟨j3 c (by omega), rfl⟩⟩
    refine tw_as (S := []) (M := M4) (N := N) rfl rfl ?_
    refine tw_const k93_17 ?_
    refine tw_istore k93_18 rfl (L' := [some (.inr (.inr (.inl 0))), some (.inl what), some (.inl (0 : Int))]) rfl ?_
    have key : ∀ i : Nat, i ≤ (s 57).toNat → ∀ Mx Nx, TR (evN s i) s im kp tx ln so it ce M N Mx Nx → mj_T K d 93 19 [some (.inr (.inr (.inl 0))), some (.inl what), some (.inl ((i : Nat) : Int))] [] (mj_Sh, Mx, Nx) (fun r Z => r = some (.inr (.inl (qAfter s what))) ∧ ∃ M1 N1, Z = (mj_Sh, M1, N1) ∧ IC s im kp tx ln so it ce M1 N1 ∧ fr6 M N M1 N1) := by
      refine up_to (s 57).toNat ?_ ?_
      · show ∀ Mx Nx, TR (evN s (s 57).toNat) s im kp tx ln so it ce M N Mx Nx → mj_T K d 93 19 [some (.inr (.inr (.inl 0))), some (.inl what), some (.inl (((s 57).toNat : Nat) : Int))] [] (mj_Sh, Mx, Nx) (fun r Z => r = some (.inr (.inl (qAfter s what))) ∧ ∃ M1 N1, Z = (mj_Sh, M1, N1) ∧ IC s im kp tx ln so it ce M1 N1 ∧ fr6 M N M1 N1)
        intro Mx Nx hT
        have hEs := (evN_sp hVs (s 57).toNat (by have := hs.1 0 (by omega); have := hVs.2.2.2.2.1; omega)).1
        obtain ⟨E, hE⟩ : ∃ E, E = evN s (s 57).toNat := ⟨_, rfl⟩
        rw [← hE] at hT hEs
        refine tw_iload k93_19 rfl ?_
        refine tw_aload k93_20 rfl ?_
        refine tw_getr k93_21 f0_0 ?_
        refine tw_getr k93_24 f1_2 ?_
        refine tw_geti k93_27 f12_2 rfl (v := (s 57)) hT.1.1.2.2.1.1 ?_
        refine tw_cgeT k93_30 (by have := hVs.2.2.2.2.1; omega) ?_
        refine tw_aload k93_70 rfl ?_
        refine tw_call (by omega) (S' := []) (as := [.inr (.inr (.inl 0))]) k93_71 (x_108 (M := Mx) (N := Nx) (by omega) hK s im kp tx ln so it ce (hT : TR E s im kp tx ln so it ce M N Mx Nx).1 hV E hEs (hT : TR E s im kp tx ln so it ce M N Mx Nx).2.1) rfl rfl rfl rfl rfl (fun r71 Z71 hq71 => ?_)
        obtain ⟨rfl, M5, N5, rfl, t1, t2, t3, t4, t5⟩ := hq71
        have hT5a : TR E s im kp tx ln so it ce M N Mx Nx := hT
        have hT5 : TR E s im kp tx ln so it ce M N M5 N5 := ⟨t1, t3, fr6_tr hT5a.2.2 t4⟩
        have hP5 : cPV 69 M5 N5 E := t2
        refine tw_as (S := [.inr (.inr (.inl 69))]) (M := M5) (N := N5) rfl rfl ?_
        refine tw_astore k93_74 rfl (L' := [some (.inr (.inr (.inl 0))), some (.inl what), some (.inr (.inr (.inl 69)))]) rfl ?_
        refine tw_iload k93_75 rfl ?_
        refine tw_sw k93_76 ?_
        refine tw_pk (fun h76_0 => ?_) (fun h76_0 => ?_)
        · refine tw_aload k93_104 rfl ?_
          refine tw_getl k93_105 f69_16 (v := (N5 69 16)) rfl ?_
          exact tw_rl k93_108 (⟨by unfold qAfter; rw [if_pos hyy, ← hE, if_pos (by omega)]; exact congrArg (fun x => some (Sum.inr (Sum.inl x))) hP5.2.2.2.2.2, M5, N5, rfl, hT5.1, hT5.2.2⟩)
        · skip
          refine tw_pk (fun h76_1 => ?_) (fun h76_1 => ?_)
          · refine tw_aload k93_109 rfl ?_
            refine tw_getr k93_110 f69_1 ?_
            refine tw_geti k93_113 f78_3 rfl (v := (((wG E).1 : Nat) : Int)) hP5.1.2.2.2.2.2.2.1.1 ?_
            refine tw_i2l k93_116 ?_
            exact tw_rl k93_117 (⟨by unfold qAfter; rw [if_pos hyy, ← hE, if_neg (by omega), if_pos (by omega)], M5, N5, rfl, hT5.1, hT5.2.2⟩)
          · skip
            refine tw_pk0 ?_
            refine tw_aload k93_118 rfl ?_
            refine tw_geti k93_119 f69_12 rfl (v := (wB E).2.2.1) hP5.1.2.1 ?_
            refine tw_i2l k93_122 ?_
            exact tw_rl k93_123 (⟨by unfold qAfter; rw [if_pos hyy, ← hE, if_neg (by omega), if_neg (by omega)], M5, N5, rfl, hT5.1, hT5.2.2⟩)
      · intro i hmi ih
        have ih : ∀ Mx Nx, TR (evN s (i + 1)) s im kp tx ln so it ce M N Mx Nx → mj_T K d 93 19 [some (.inr (.inr (.inl 0))), some (.inl what), some (.inl (((i + 1) : Nat) : Int))] [] (mj_Sh, Mx, Nx) (fun r Z => r = some (.inr (.inl (qAfter s what))) ∧ ∃ M1 N1, Z = (mj_Sh, M1, N1) ∧ IC s im kp tx ln so it ce M1 N1 ∧ fr6 M N M1 N1) := ih
        show ∀ Mx Nx, TR (evN s i) s im kp tx ln so it ce M N Mx Nx → mj_T K d 93 19 [some (.inr (.inr (.inl 0))), some (.inl what), some (.inl ((i : Nat) : Int))] [] (mj_Sh, Mx, Nx) (fun r Z => r = some (.inr (.inl (qAfter s what))) ∧ ∃ M1 N1, Z = (mj_Sh, M1, N1) ∧ IC s im kp tx ln so it ce M1 N1 ∧ fr6 M N M1 N1)
        intro Mx Nx hT
        have h57 := hVs.2.2.2.2.2.1
        have hsp := evN_sp hVs i (by omega)
        have hsi := hsp.1
        have he0 := hsp.2 0 (by omega)
        have hev := hVs.2.2.2.2.2.2 i (by omega)
        refine tw_iload k93_19 rfl ?_
        refine tw_aload k93_20 rfl ?_
        refine tw_getr k93_21 f0_0 ?_
        refine tw_getr k93_24 f1_2 ?_
        refine tw_geti k93_27 f12_2 rfl (v := (s 57)) hT.1.1.2.2.1.1 ?_
        refine tw_cgeF k93_30 (by omega) ?_
        refine tw_aload k93_33 rfl ?_
        refine tw_getr k93_34 f0_5 ?_
        refine tw_aload k93_37 rfl ?_
        refine tw_getr k93_38 f0_0 ?_
        refine tw_getr k93_41 f1_2 ?_
        refine tw_getr k93_44 f12_0 ?_
        refine tw_iload k93_47 rfl ?_
        refine tw_iald (j := i) (v := (s (58 + 2 * i))) k93_48 al13 rfl (by omega) (show Mx 13 i = s (58 + 2 * i) from (hT.1.1.2.2.1.2 i (by omega)).1) ?_
        refine tw_aload k93_49 rfl ?_
        refine tw_getr k93_50 f0_0 ?_
        refine tw_getr k93_53 f1_2 ?_
        refine tw_getr k93_56 f12_1 ?_
        refine tw_iload k93_59 rfl ?_
        refine tw_iald (j := i) (v := (s (59 + 2 * i))) k93_60 al14 rfl (by omega) (show Mx 14 i = s (59 + 2 * i) from (hT.1.1.2.2.1.2 i (by omega)).2) ?_
        refine tw_call (by omega) (S' := []) (as := [.inr (.inr (.inl 62)), .inl (s (58 + 2 * i)), .inl (s (59 + 2 * i))]) k93_61 (x_53 (M := Mx) (N := Nx) (by omega) hK (evN s i) hsi hT.2.1 (s (58 + 2 * i)) (s (59 + 2 * i)) hev.1 (fun q => by rw [he0]; exact hev.2.1 q)) rfl rfl rfl rfl rfl (fun r61 Z61 hq61 => ?_)
        obtain ⟨rfl, M5, rfl, v1, v2⟩ := hq61
        refine tw_as (S := []) (M := M5) (N := Nx) rfl rfl ?_
        refine tw_iinc k93_64 rfl (v := ((i + 1 : Nat) : Int)) rfl (by omega) rfl (L' := [some (.inr (.inr (.inl 0))), some (.inl what), some (.inl ((i + 1 : Nat) : Int))]) rfl ?_
        refine tw_goto k93_67 ?_
        refine tw_eqL (L' := [some (.inr (.inr (.inl 0))), some (.inl what), some (.inl (((i + 1) : Nat) : Int))]) (e_c rfl (e_c rfl (e_c rfl rfl))) ?_
        exact ih M5 Nx (TR_m hs hT v2 v1)
    refine tw_eqL (L' := [some (.inr (.inr (.inl 0))), some (.inl what), some (.inl ((0 : Nat) : Int))]) (e_c rfl (e_c rfl (e_c (e_i rfl) rfl))) ?_
    exact key 0 (by omega) M4 N hT
  · refine tw_iload k93_0 rfl ?_
    refine tw_const k93_1 ?_
    refine tw_const k93_2 ?_
    refine tw_callbF (by omega) (S' := []) (as := [.inl what, .inl (0 : Int), .inl (2 : Int)]) k93_3 (x_104 what (0 : Int) (2 : Int)) rfl rfl rfl rfl rfl hyy ?_
    refine tw_zneF k93_6 (by decide) ?_
    refine tw_lconst k93_9 ?_
    exact tw_rl k93_12 (⟨by unfold qAfter; rw [if_neg hyy]; rfl, M, N, rfl, hI0, fun c _ => ⟨rfl, rfl⟩⟩)
