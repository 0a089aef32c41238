-- the model: fits, odds, after
theorem pLs_pU {s : Nat → Int} {c most j : Nat} {v : Int} (h : pLs s c most) (hj : 1 ≤ j ∧ j < 46) (hc : 46 ≤ c) : pLs (pU s j v) c most := by
  unfold pLs at h ⊢
  rw [pU_ne (by omega), pU_ne (by omega)]
  refine ⟨h.1, h.2.1, fun i hi => ?_⟩
  rw [pU_ne (by omega), pU_ne (by omega)]; exact h.2.2 i hi
theorem qFirst_rg (s : Nat → Int) (c : Nat) : qFirst s c = -5 ∨ 0 ≤ qFirst s c := by
  unfold qFirst; split <;> omega
theorem fN_s {s : Nat → Int} {y a n : Nat} : fN s y a (n + 1) = (if fOk s y a then 1 else 0) + fN s y (a + 1) n := pS_cons n
theorem fL_s {s : Nat → Int} {y a : Nat} (h : a < 11) : fL s y a = if fOk s y a then ((2 * a : Nat) : Int) else fL s y (a + 1) := by
  unfold fL
  rw [show 11 - a = (11 - (a + 1)) + 1 by omega, pFd]
  by_cases e : fOk s y a
  · rw [if_pos e, if_pos e, if_pos h]
  · rw [if_neg e, if_neg e]
theorem fN_rg {s : Nat → Int} {y a : Nat} (n : Nat) : 0 ≤ fN s y a n ∧ fN s y a n ≤ n := by
  have := pS_rg (f := fun i => if fOk s y i then 1 else 0) (a := a) (B := 1) n (fun i _ _ => by (try dsimp only); split <;> omega)
  unfold fN
  omega
theorem odN_rg {s : Nat → Int} {y : Nat} (n : Nat) : 0 ≤ odN s y n ∧ odN s y n ≤ n := by
  have := pS_rg (f := fun c => if s 43 < wPr (pU s (1 + y) (c : Int)) y then 1 else 0) (a := 0) (B := 1) n (fun i _ _ => by (try dsimp only); split <;> omega)
  unfold odN
  omega
theorem x_169 {K : mj_C} {d : Nat} {M : Nat → Nat → Int} {N : Nat → Nat → Int64} (hD : 8 ≤ d) (hV : pVI (M 127)) (hM : mW M) (y what : Int) : mj_X K d 169 [.inr (.inr (.inl 126)), .inl y, .inl what] (mj_Sh, M, N) (fun r Z => r = some (.inl (qFits (M 127) y what)) ∧ ∃ M1, Z = (mj_Sh, M1, N) ∧ M1 127 = M 127 ∧ mW M1 ∧ mKq M M1) := by
  show mj_T K d 169 0 [some (.inr (.inr (.inl 126))), some (.inl y), some (.inl what), none, none, none] [] (mj_Sh, M, N) _
  have hs := hV.1
  have h0 := hs.1 0 (by omega)
  have h5 := hs.2.1
  have h11 := hs.1 11 (by omega)
  have hc11 := hs.2.2.1
  by_cases hyy : (0 ≤ y ∧ y < M 127 0) ∧ 0 ≤ what ∧ what ≤ 1
  · obtain ⟨k, rfl⟩ : ∃ k : Nat, y = (k : Int) := ⟨y.toNat, by omega⟩
    have key : ∀ j : Nat, j ≤ 11 → ∀ M1 : Nat → Nat → Int, (∀ e, pU (M1 127) (6 + k) e = pU (M 127) (6 + k) e) → (∀ i, 91 ≤ i → M1 127 i = M 127 i) → M1 129 = pC (M 127) (M 129) → mKq M M1 → mj_T K d 169 33 [some (.inr (.inr (.inl 126))), some (.inl ((k : Nat) : Int)), some (.inl what), some (.inl (fN (M 127) k (11 - j) j)), some (.inl (fL (M 127) k (11 - j))), some (.inl ((20 : Int) - 2 * ((j : Nat) : Int)))] [] (mj_Sh, M1, N) (fun r Z => r = some (.inl (qFits (M 127) ((k : Nat) : Int) what)) ∧ ∃ M1, Z = (mj_Sh, M1, N) ∧ M1 127 = M 127 ∧ mW M1 ∧ mKq M M1) := by
      refine up_to 11 ?_ ?_
      · show ∀ M1 : Nat → Nat → Int, (∀ e, pU (M1 127) (6 + k) e = pU (M 127) (6 + k) e) → (∀ i, 91 ≤ i → M1 127 i = M 127 i) → M1 129 = pC (M 127) (M 129) → mKq M M1 → mj_T K d 169 33 [some (.inr (.inr (.inl 126))), some (.inl ((k : Nat) : Int)), some (.inl what), some (.inl (fN (M 127) k (11 - 11) 11)), some (.inl (fL (M 127) k (11 - 11))), some (.inl ((20 : Int) - 2 * ((11 : Nat) : Int)))] [] (mj_Sh, M1, N) (fun r Z => r = some (.inl (qFits (M 127) ((k : Nat) : Int) what)) ∧ ∃ M1, Z = (mj_Sh, M1, N) ∧ M1 127 = M 127 ∧ mW M1 ∧ mKq M M1)
        intro M1 q1 q2 q3 q4
        have hbk : pC (M1 129) (M1 127) = M 127 := by rw [q3]; exact pC_back q2
        refine tw_iload k169_33 rfl ?_
        refine tw_zltT k169_35 (by omega) ?_
        refine tw_aload k169_74 rfl ?_
        refine tw_call (by omega) (S' := []) (as := [.inr (.inr (.inl 126))]) k169_75 (x_163 (M := M1) (N := N) (by omega) (by rw [hbk]; exact hs)) rfl rfl rfl rfl rfl (fun r75 Z75 hq75 => ?_)
        obtain ⟨rfl, M3, rfl, hc1, hc2, hc3⟩ := hq75
        refine tw_as (S := []) (M := M3) (N := N) rfl rfl ?_
        refine tw_iload k169_78 rfl ?_
        refine tw_zne k169_79 (fun h79 => ?_) (fun h79 => ?_)
        · refine tw_iload k169_86 rfl ?_
          exact tw_ri k169_88 (⟨by unfold qFits; rw [if_pos hyy]; simp only [Int.toNat_natCast]; rw [if_neg (by omega)], M3, rfl, by rw [hc1, hbk], hc2, mKq_tr q4 (mKp_q hc3)⟩)
        · refine tw_iload k169_82 rfl ?_
          refine tw_goto k169_83 ?_
          exact tw_ri k169_88 (⟨by unfold qFits; rw [if_pos hyy]; simp only [Int.toNat_natCast]; rw [if_pos (by omega)], M3, rfl, by rw [hc1, hbk], hc2, mKq_tr q4 (mKp_q hc3)⟩)
      · intro j hmj ih
        have ih : ∀ M1 : Nat → Nat → Int, (∀ e, pU (M1 127) (6 + k) e = pU (M 127) (6 + k) e) → (∀ i, 91 ≤ i → M1 127 i = M 127 i) → M1 129 = pC (M 127) (M 129) → mKq M M1 → mj_T K d 169 33 [some (.inr (.inr (.inl 126))), some (.inl ((k : Nat) : Int)), some (.inl what), some (.inl (fN (M 127) k (11 - (j + 1)) (j + 1))), some (.inl (fL (M 127) k (11 - (j + 1)))), some (.inl ((20 : Int) - 2 * (((j + 1) : Nat) : Int)))] [] (mj_Sh, M1, N) (fun r Z => r = some (.inl (qFits (M 127) ((k : Nat) : Int) what)) ∧ ∃ M1, Z = (mj_Sh, M1, N) ∧ M1 127 = M 127 ∧ mW M1 ∧ mKq M M1) := ih
        show ∀ M1 : Nat → Nat → Int, (∀ e, pU (M1 127) (6 + k) e = pU (M 127) (6 + k) e) → (∀ i, 91 ≤ i → M1 127 i = M 127 i) → M1 129 = pC (M 127) (M 129) → mKq M M1 → mj_T K d 169 33 [some (.inr (.inr (.inl 126))), some (.inl ((k : Nat) : Int)), some (.inl what), some (.inl (fN (M 127) k (11 - j) j)), some (.inl (fL (M 127) k (11 - j))), some (.inl ((20 : Int) - 2 * ((j : Nat) : Int)))] [] (mj_Sh, M1, N) (fun r Z => r = some (.inl (qFits (M 127) ((k : Nat) : Int) what)) ∧ ∃ M1, Z = (mj_Sh, M1, N) ∧ M1 127 = M 127 ∧ mW M1 ∧ mKq M M1)
        intro M1 q1 q2 q3 q4
        have hfn := fN_rg (s := M 127) (y := k) (a := 11 - j) j
        have hee : ((20 : Int) - 2 * ((j : Nat) : Int)) = ((2 * (10 - j) : Nat) : Int) := by omega
        have hok : fOk (M 127) k (10 - j) ↔ qFirst (pU (M 127) (6 + k) ((20 : Int) - 2 * ((j : Nat) : Int))) 46 = -5 := by unfold fOk; rw [hee]
        have hqr := qFirst_rg (pU (M 127) (6 + k) ((20 : Int) - 2 * ((j : Nat) : Int))) 46
        have hfs : fN (M 127) k (11 - (j + 1)) (j + 1) = (if fOk (M 127) k (10 - j) then 1 else 0) + fN (M 127) k (11 - j) j := by
          rw [fN_s, show 11 - (j + 1) = 10 - j by omega, show 10 - j + 1 = 11 - j by omega]
        have hfl : fL (M 127) k (11 - (j + 1)) = if fOk (M 127) k (10 - j) then ((2 * (10 - j) : Nat) : Int) else fL (M 127) k (11 - j) := by
          rw [fL_s (by omega), show 11 - (j + 1) = 10 - j by omega, show 10 - j + 1 = 11 - j by omega]
        refine tw_iload k169_33 rfl ?_
        refine tw_zltF k169_35 (by omega) ?_
        refine tw_aload k169_38 rfl ?_
        refine tw_const k169_39 ?_
        refine tw_iload k169_41 rfl ?_
        refine tw_iadd k169_42 (v := ((6 + k : Nat) : Int)) rfl (by omega) ?_
        refine tw_iload k169_43 rfl ?_
        refine tw_call (by omega) (S' := []) (as := [.inr (.inr (.inl 126)), .inl ((6 + k : Nat) : Int), .inl ((20 : Int) - 2 * ((j : Nat) : Int))]) k169_45 (x_136 (M := M1) (N := N) (by omega) (6 + k) (by omega) ((20 : Int) - 2 * ((j : Nat) : Int)) (by rw [q1]; exact pRg_put hs (by omega) (by omega))) rfl rfl rfl rfl rfl (fun r45 Z45 hq45 => ?_)
        obtain ⟨rfl, M2, rfl, hb1, hb2, hb3⟩ := hq45
        have hb1 : M2 127 = pU (M 127) (6 + k) ((20 : Int) - 2 * ((j : Nat) : Int)) := hb1.trans (q1 _)
        refine tw_as (S := [.inl (M1 127 (6 + k))]) (M := M2) (N := N) rfl rfl ?_
        refine tw_popi k169_48 ?_
        refine tw_aload k169_49 rfl ?_
        refine tw_const k169_50 ?_
        refine tw_callp (v := .inl (qFirst (M2 127) 46)) (by omega) (S' := []) (as := [.inr (.inr (.inl 126)), .inl (46 : Int)]) k169_52 (x_167_46 (M := M2) (N := N) (by omega) hb2 (by rw [hb1]; exact pLs_pU hV.2.2.1 (by omega) (by omega))) rfl rfl rfl rfl rfl ?_
        refine tw_eqS (S' := [.inl (qFirst (pU (M 127) (6 + k) ((20 : Int) - 2 * ((j : Nat) : Int))) 46)]) (e_c (congrArg Sum.inl (by rw [hb1])) rfl) ?_
        refine tw_zlt k169_55 (fun h55 => ?_) (fun h55 => ?_)
        · refine tw_iinc k169_61 rfl (v := ((fN (M 127) k (11 - j) j) + (1 : Int))) rfl (by omega) rfl (L' := [some (.inr (.inr (.inl 126))), some (.inl ((k : Nat) : Int)), some (.inl what), some (.inl ((fN (M 127) k (11 - j) j) + (1 : Int))), some (.inl (fL (M 127) k (11 - j))), some (.inl ((20 : Int) - 2 * ((j : Nat) : Int)))]) rfl ?_
          refine tw_iload k169_64 rfl ?_
          refine tw_istore k169_66 rfl (L' := [some (.inr (.inr (.inl 126))), some (.inl ((k : Nat) : Int)), some (.inl what), some (.inl ((fN (M 127) k (11 - j) j) + (1 : Int))), some (.inl ((20 : Int) - 2 * ((j : Nat) : Int))), some (.inl ((20 : Int) - 2 * ((j : Nat) : Int)))]) rfl ?_
          refine tw_iinc k169_68 rfl (v := (((20 : Int) - 2 * ((j : Nat) : Int)) + (-2))) rfl (by omega) rfl (L' := [some (.inr (.inr (.inl 126))), some (.inl ((k : Nat) : Int)), some (.inl what), some (.inl ((fN (M 127) k (11 - j) j) + (1 : Int))), some (.inl ((20 : Int) - 2 * ((j : Nat) : Int))), some (.inl (((20 : Int) - 2 * ((j : Nat) : Int)) + (-2)))]) rfl ?_
          refine tw_goto k169_71 ?_
          refine tw_eqL (L' := [some (.inr (.inr (.inl 126))), some (.inl ((k : Nat) : Int)), some (.inl what), some (.inl (fN (M 127) k (11 - (j + 1)) (j + 1))), some (.inl (fL (M 127) k (11 - (j + 1)))), some (.inl ((20 : Int) - 2 * (((j + 1) : Nat) : Int)))]) (e_c rfl (e_c rfl (e_c rfl (e_c (e_i (by rw [hfs, if_pos (hok.mpr (by omega))]; omega)) (e_c (e_i (by rw [hfl, if_pos (hok.mpr (by omega)), hee])) (e_c (e_i (by omega)) rfl)))))) ?_
          exact ih M2 (fun e => by rw [hb1, pU_pU]) (fun i hi => by rw [hb1, pU_ne (by omega)]) ((hb3.1 129 (by omega)).trans q3) (mKq_tr q4 (mKp_q hb3))
        · refine tw_goto k169_58 ?_
          refine tw_iinc k169_68 rfl (v := (((20 : Int) - 2 * ((j : Nat) : Int)) + (-2))) rfl (by omega) rfl (L' := [some (.inr (.inr (.inl 126))), some (.inl ((k : Nat) : Int)), some (.inl what), some (.inl (fN (M 127) k (11 - j) j)), some (.inl (fL (M 127) k (11 - j))), some (.inl (((20 : Int) - 2 * ((j : Nat) : Int)) + (-2)))]) rfl ?_
          refine tw_goto k169_71 ?_
          refine tw_eqL (L' := [some (.inr (.inr (.inl 126))), some (.inl ((k : Nat) : Int)), some (.inl what), some (.inl (fN (M 127) k (11 - (j + 1)) (j + 1))), some (.inl (fL (M 127) k (11 - (j + 1)))), some (.inl ((20 : Int) - 2 * (((j + 1) : Nat) : Int)))]) (e_c rfl (e_c rfl (e_c rfl (e_c (e_i (by rw [hfs, if_neg (fun q => by have := hok.mp q; omega)]; omega)) (e_c (e_i (by rw [hfl, if_neg (fun q => by have := hok.mp q; omega)])) (e_c (e_i (by omega)) rfl)))))) ?_
          exact ih M2 (fun e => by rw [hb1, pU_pU]) (fun i hi => by rw [hb1, pU_ne (by omega)]) ((hb3.1 129 (by omega)).trans q3) (mKq_tr q4 (mKp_q hb3))
    refine tw_aload k169_0 rfl ?_
    refine tw_iload k169_1 rfl ?_
    refine tw_callbT (by omega) (S' := []) (as := [.inr (.inr (.inl 126)), .inl ((k : Nat) : Int)]) k169_2 (x_113 (M := M) (N := N) (by omega) hs ((k : Nat) : Int)) rfl rfl rfl rfl rfl hyy.1 ?_
    refine tw_zeqF k169_5 (by decide) ?_
    refine tw_iload k169_8 rfl ?_
    refine tw_const k169_9 ?_
    refine tw_const k169_10 ?_
    refine tw_callbT (by omega) (S' := []) (as := [.inl what, .inl (0 : Int), .inl (1 : Int)]) k169_11 (x_112 what (0 : Int) (1 : Int)) rfl rfl rfl rfl rfl hyy.2 ?_
    refine tw_zneT k169_14 (by decide) ?_
    refine tw_aload k169_19 rfl ?_
    refine tw_call (by omega) (S' := []) (as := [.inr (.inr (.inl 126))]) k169_20 (x_162 (M := M) (N := N) (by omega)) rfl rfl rfl rfl rfl (fun r20 Z20 hq20 => ?_)
    obtain ⟨rfl, rfl⟩ := hq20
    refine tw_as (S := []) (M := (st M [(129, (pC (M 127) (M 129)))])) (N := N) rfl rfl ?_
    refine tw_const k169_23 ?_
    refine tw_istore k169_24 rfl (L' := [some (.inr (.inr (.inl 126))), some (.inl ((k : Nat) : Int)), some (.inl what), some (.inl (0 : Int)), none, none]) rfl ?_
    refine tw_const k169_25 ?_
    refine tw_istore k169_27 rfl (L' := [some (.inr (.inr (.inl 126))), some (.inl ((k : Nat) : Int)), some (.inl what), some (.inl (0 : Int)), some (.inl (-5 : Int)), none]) rfl ?_
    refine tw_const k169_29 ?_
    refine tw_istore k169_31 rfl (L' := [some (.inr (.inr (.inl 126))), some (.inl ((k : Nat) : Int)), some (.inl what), some (.inl (0 : Int)), some (.inl (-5 : Int)), some (.inl (20 : Int))]) rfl ?_
    refine tw_eqL (L' := [some (.inr (.inr (.inl 126))), some (.inl ((k : Nat) : Int)), some (.inl what), some (.inl (fN (M 127) k (11 - 0) 0)), some (.inl (fL (M 127) k (11 - 0))), some (.inl ((20 : Int) - 2 * ((0 : Nat) : Int)))]) (e_c rfl (e_c rfl (e_c rfl (e_c (e_i rfl) (e_c (e_i rfl) (e_c (e_i (by omega)) rfl)))))) ?_
    exact key 0 (by omega) (st M [(129, pC (M 127) (M 129))]) (fun e => rfl) (fun i hi => rfl) rfl ⟨fun c hc => by rw [st_c, if_neg (by omega), st_nil], fun j hj => rfl⟩
  · refine tw_aload k169_0 rfl ?_
    refine tw_iload k169_1 rfl ?_
    refine tw_callb (by omega) (S' := []) (as := [.inr (.inr (.inl 126)), .inl y]) k169_2 (x_113 (M := M) (N := N) (by omega) hs y) rfl rfl rfl rfl rfl (fun h2 => ?_) (fun h2 => ?_)
    · refine tw_zeqF k169_5 (by decide) ?_
      refine tw_iload k169_8 rfl ?_
      refine tw_const k169_9 ?_
      refine tw_const k169_10 ?_
      refine tw_callb (by omega) (S' := []) (as := [.inl what, .inl (0 : Int), .inl (1 : Int)]) k169_11 (x_112 what (0 : Int) (1 : Int)) rfl rfl rfl rfl rfl (fun h11 => ?_) (fun h11 => ?_)
      · refine tw_zneT k169_14 (by decide) ?_
        exact absurd ⟨h2, h11⟩ hyy
      · refine tw_zneF k169_14 (by decide) ?_
        refine tw_const k169_17 ?_
        exact tw_ri k169_18 (⟨by unfold qFits; rw [if_neg hyy], M, rfl, rfl, hM, mKq_refl M⟩)
    · refine tw_zeqT k169_5 (by decide) ?_
      refine tw_const k169_17 ?_
      exact tw_ri k169_18 (⟨by unfold qFits; rw [if_neg hyy], M, rfl, rfl, hM, mKq_refl M⟩)
theorem x_172 {K : mj_C} {d : Nat} {M : Nat → Nat → Int} {N : Nat → Nat → Int64} (hD : 13 ≤ d) (hV : pVI (M 127)) (hM : mW M) (y part : Int) : mj_X K d 172 [.inr (.inr (.inl 126)), .inl y, .inl part] (mj_Sh, M, N) (fun r Z => r = some (.inr (.inl (qOdds (M 127) y part))) ∧ ∃ M1, Z = (mj_Sh, M1, N) ∧ M1 127 = M 127 ∧ mW M1 ∧ mKq M M1) := by
  show mj_T K d 172 0 [some (.inr (.inr (.inl 126))), some (.inl y), some (.inl part), none, none] [] (mj_Sh, M, N) _
  have hs := hV.1
  have h0 := hs.1 0 (by omega)
  have h5 := hs.2.1
  have h11 := hs.1 11 (by omega)
  have hc11 := hs.2.2.1
  by_cases hyy : (0 ≤ y ∧ y < M 127 0) ∧ 0 ≤ part ∧ part ≤ 1
  · obtain ⟨k, rfl⟩ : ∃ k : Nat, y = (k : Int) := ⟨y.toNat, by omega⟩
    have key : ∀ j : Nat, j ≤ 10 → ∀ M1 : Nat → Nat → Int, (∀ e, pU (M1 127) (1 + k) e = pU (M 127) (1 + k) e) → (∀ i, 91 ≤ i → M1 127 i = M 127 i) → M1 129 = pC (M 127) (M 129) → mKq M M1 → mj_T K d 172 30 [some (.inr (.inr (.inl 126))), some (.inl ((k : Nat) : Int)), some (.inl part), some (.inl (odN (M 127) k j)), some (.inl ((j : Nat) : Int))] [] (mj_Sh, M1, N) (fun r Z => r = some (.inr (.inl (qOdds (M 127) ((k : Nat) : Int) part))) ∧ ∃ M1, Z = (mj_Sh, M1, N) ∧ M1 127 = M 127 ∧ mW M1 ∧ mKq M M1) := by
      refine up_to 10 ?_ ?_
      · show ∀ M1 : Nat → Nat → Int, (∀ e, pU (M1 127) (1 + k) e = pU (M 127) (1 + k) e) → (∀ i, 91 ≤ i → M1 127 i = M 127 i) → M1 129 = pC (M 127) (M 129) → mKq M M1 → mj_T K d 172 30 [some (.inr (.inr (.inl 126))), some (.inl ((k : Nat) : Int)), some (.inl part), some (.inl (odN (M 127) k 10)), some (.inl ((10 : Nat) : Int))] [] (mj_Sh, M1, N) (fun r Z => r = some (.inr (.inl (qOdds (M 127) ((k : Nat) : Int) part))) ∧ ∃ M1, Z = (mj_Sh, M1, N) ∧ M1 127 = M 127 ∧ mW M1 ∧ mKq M M1)
        intro M1 q1 q2 q3 q4
        have hbk : pC (M1 129) (M1 127) = M 127 := by rw [q3]; exact pC_back q2
        have hor := odN_rg (s := M 127) (y := k) 10
        obtain ⟨x, hx⟩ : ∃ x : Nat, odN (M 127) k 10 = (x : Int) := ⟨(odN (M 127) k 10).toNat, by omega⟩
        refine tw_iload k172_30 rfl ?_
        refine tw_const k172_32 ?_
        refine tw_cgtT k172_34 (by omega) ?_
        refine tw_aload k172_77 rfl ?_
        refine tw_call (by omega) (S' := []) (as := [.inr (.inr (.inl 126))]) k172_78 (x_163 (M := M1) (N := N) (by omega) (by rw [hbk]; exact hs)) rfl rfl rfl rfl rfl (fun r78 Z78 hq78 => ?_)
        obtain ⟨rfl, M3, rfl, hc1, hc2, hc3⟩ := hq78
        refine tw_as (S := []) (M := M3) (N := N) rfl rfl ?_
        refine tw_iload k172_81 rfl ?_
        refine tw_i2l k172_82 ?_
        refine tw_lconst k172_83 ?_
        refine tw_iload k172_86 rfl ?_
        refine tw_callp (v := .inr (.inl (qPart x 10 part))) (by omega) (S' := []) (as := [.inr (.inl ((Int32.ofInt (odN (M 127) k 10)).toInt64)), .inr (.inl (Int64.ofInt 10)), .inl part]) k172_87 (show mj_X K (d - 1) 171 [.inr (.inl ((Int32.ofInt (odN (M 127) k 10)).toInt64)), .inr (.inl (Int64.ofInt 10)), .inl part] _ (fun r Z' => r = some (.inr (.inl (qPart x 10 part))) ∧ Z' = (mj_Sh, M3, N)) by rw [hx, fI x (by omega)]; exact x_171 x 10 (by omega) (by omega) (by omega) part (by omega)) rfl rfl rfl rfl rfl ?_
        exact tw_rl k172_90 (⟨by unfold qOdds; rw [if_pos hyy]; simp only [Int.toNat_natCast]; rw [hx]; rfl, M3, rfl, by rw [hc1, hbk], hc2, mKq_tr q4 (mKp_q hc3)⟩)
      · intro j hmj ih
        have ih : ∀ M1 : Nat → Nat → Int, (∀ e, pU (M1 127) (1 + k) e = pU (M 127) (1 + k) e) → (∀ i, 91 ≤ i → M1 127 i = M 127 i) → M1 129 = pC (M 127) (M 129) → mKq M M1 → mj_T K d 172 30 [some (.inr (.inr (.inl 126))), some (.inl ((k : Nat) : Int)), some (.inl part), some (.inl (odN (M 127) k (j + 1))), some (.inl (((j + 1) : Nat) : Int))] [] (mj_Sh, M1, N) (fun r Z => r = some (.inr (.inl (qOdds (M 127) ((k : Nat) : Int) part))) ∧ ∃ M1, Z = (mj_Sh, M1, N) ∧ M1 127 = M 127 ∧ mW M1 ∧ mKq M M1) := ih
        show ∀ M1 : Nat → Nat → Int, (∀ e, pU (M1 127) (1 + k) e = pU (M 127) (1 + k) e) → (∀ i, 91 ≤ i → M1 127 i = M 127 i) → M1 129 = pC (M 127) (M 129) → mKq M M1 → mj_T K d 172 30 [some (.inr (.inr (.inl 126))), some (.inl ((k : Nat) : Int)), some (.inl part), some (.inl (odN (M 127) k j)), some (.inl ((j : Nat) : Int))] [] (mj_Sh, M1, N) (fun r Z => r = some (.inr (.inl (qOdds (M 127) ((k : Nat) : Int) part))) ∧ ∃ M1, Z = (mj_Sh, M1, N) ∧ M1 127 = M 127 ∧ mW M1 ∧ mKq M M1)
        intro M1 q1 q2 q3 q4
        have hor := odN_rg (s := M 127) (y := k) j
        refine tw_iload k172_30 rfl ?_
        refine tw_const k172_32 ?_
        refine tw_cgtF k172_34 (by omega) ?_
        refine tw_aload k172_37 rfl ?_
        refine tw_const k172_38 ?_
        refine tw_iload k172_39 rfl ?_
        refine tw_iadd k172_40 (v := ((1 + k : Nat) : Int)) rfl (by omega) ?_
        refine tw_iload k172_41 rfl ?_
        refine tw_call (by omega) (S' := []) (as := [.inr (.inr (.inl 126)), .inl ((1 + k : Nat) : Int), .inl ((j : Nat) : Int)]) k172_43 (x_136 (M := M1) (N := N) (by omega) (1 + k) (by omega) ((j : Nat) : Int) (by rw [q1]; exact pRg_put hs (by omega) (by omega))) rfl rfl rfl rfl rfl (fun r43 Z43 hq43 => ?_)
        obtain ⟨rfl, M2, rfl, hb1, hb2, hb3⟩ := hq43
        have hb1 : M2 127 = pU (M 127) (1 + k) ((j : Nat) : Int) := hb1.trans (q1 _)
        refine tw_as (S := [.inl (M1 127 (1 + k))]) (M := M2) (N := N) rfl rfl ?_
        refine tw_popi k172_46 ?_
        refine tw_iload k172_47 rfl ?_
        refine tw_aload k172_48 rfl ?_
        refine tw_iload k172_49 rfl ?_
        refine tw_const k172_50 ?_
        refine tw_callp (v := .inl (qOf (M2 127) (k : Int) 4)) (by omega) (S' := [.inl (odN (M 127) k j)]) (as := [.inr (.inr (.inl 126)), .inl ((k : Nat) : Int), .inl (4 : Int)]) k172_51 (x_148 (M := M2) (N := N) (by omega) hb2 (k : Int) 4) rfl rfl rfl rfl rfl ?_
        refine tw_eqS (S' := [.inl (wPr (pU (M 127) (1 + k) (j : Int)) k), .inl (odN (M 127) k j)]) (e_c (congrArg Sum.inl (by rw [hb1]; exact qOf4 (by rw [pU_ne (by omega)]; omega))) rfl) ?_
        refine tw_aload k172_54 rfl ?_
        refine tw_getr k172_55 f126_0 ?_
        refine tw_const k172_58 ?_
        refine tw_iald (j := 43) (v := (M 127 43)) k172_60 al127 rfl (by decide) (by rw [hb1, pU_ne (by omega)]) ?_
        refine tw_cle k172_61 (fun h61 => ?_) (fun h61 => ?_)
        · refine tw_const k172_68 ?_
          refine tw_iadd k172_69 (v := ((odN (M 127) k j) + (0 : Int))) rfl (by omega) ?_
          refine tw_istore k172_70 rfl (L' := [some (.inr (.inr (.inl 126))), some (.inl ((k : Nat) : Int)), some (.inl part), some (.inl ((odN (M 127) k j) + (0 : Int))), some (.inl ((j : Nat) : Int))]) rfl ?_
          refine tw_iinc k172_71 rfl (v := ((j + 1 : Nat) : Int)) rfl (by omega) rfl (L' := [some (.inr (.inr (.inl 126))), some (.inl ((k : Nat) : Int)), some (.inl part), some (.inl ((odN (M 127) k j) + (0 : Int))), some (.inl ((j + 1 : Nat) : Int))]) rfl ?_
          refine tw_goto k172_74 ?_
          refine tw_eqL (L' := [some (.inr (.inr (.inl 126))), some (.inl ((k : Nat) : Int)), some (.inl part), some (.inl (odN (M 127) k (j + 1))), some (.inl (((j + 1) : Nat) : Int))]) (e_c rfl (e_c rfl (e_c rfl (e_c (e_i (by unfold odN; rw [pS]; (try dsimp only); rw [Nat.zero_add, if_neg (by omega), Int.add_zero])) (e_c rfl rfl))))) ?_
          exact ih M2 (fun e => by rw [hb1, pU_pU]) (fun i hi => by rw [hb1, pU_ne (by omega)]) ((hb3.1 129 (by omega)).trans q3) (mKq_tr q4 (mKp_q hb3))
        · refine tw_const k172_64 ?_
          refine tw_goto k172_65 ?_
          refine tw_iadd k172_69 (v := ((odN (M 127) k j) + (1 : Int))) rfl (by omega) ?_
          refine tw_istore k172_70 rfl (L' := [some (.inr (.inr (.inl 126))), some (.inl ((k : Nat) : Int)), some (.inl part), some (.inl ((odN (M 127) k j) + (1 : Int))), some (.inl ((j : Nat) : Int))]) rfl ?_
          refine tw_iinc k172_71 rfl (v := ((j + 1 : Nat) : Int)) rfl (by omega) rfl (L' := [some (.inr (.inr (.inl 126))), some (.inl ((k : Nat) : Int)), some (.inl part), some (.inl ((odN (M 127) k j) + (1 : Int))), some (.inl ((j + 1 : Nat) : Int))]) rfl ?_
          refine tw_goto k172_74 ?_
          refine tw_eqL (L' := [some (.inr (.inr (.inl 126))), some (.inl ((k : Nat) : Int)), some (.inl part), some (.inl (odN (M 127) k (j + 1))), some (.inl (((j + 1) : Nat) : Int))]) (e_c rfl (e_c rfl (e_c rfl (e_c (e_i (by unfold odN; rw [pS]; (try dsimp only); rw [Nat.zero_add, if_pos (by omega)])) (e_c rfl rfl))))) ?_
          exact ih M2 (fun e => by rw [hb1, pU_pU]) (fun i hi => by rw [hb1, pU_ne (by omega)]) ((hb3.1 129 (by omega)).trans q3) (mKq_tr q4 (mKp_q hb3))
    refine tw_aload k172_0 rfl ?_
    refine tw_iload k172_1 rfl ?_
    refine tw_callbT (by omega) (S' := []) (as := [.inr (.inr (.inl 126)), .inl ((k : Nat) : Int)]) k172_2 (x_113 (M := M) (N := N) (by omega) hs ((k : Nat) : Int)) rfl rfl rfl rfl rfl hyy.1 ?_
    refine tw_zeqF k172_5 (by decide) ?_
    refine tw_iload k172_8 rfl ?_
    refine tw_const k172_9 ?_
    refine tw_const k172_10 ?_
    refine tw_callbT (by omega) (S' := []) (as := [.inl part, .inl (0 : Int), .inl (1 : Int)]) k172_11 (x_112 part (0 : Int) (1 : Int)) rfl rfl rfl rfl rfl hyy.2 ?_
    refine tw_zneT k172_14 (by decide) ?_
    refine tw_aload k172_21 rfl ?_
    refine tw_call (by omega) (S' := []) (as := [.inr (.inr (.inl 126))]) k172_22 (x_162 (M := M) (N := N) (by omega)) rfl rfl rfl rfl rfl (fun r22 Z22 hq22 => ?_)
    obtain ⟨rfl, rfl⟩ := hq22
    refine tw_as (S := []) (M := (st M [(129, (pC (M 127) (M 129)))])) (N := N) rfl rfl ?_
    refine tw_const k172_25 ?_
    refine tw_istore k172_26 rfl (L' := [some (.inr (.inr (.inl 126))), some (.inl ((k : Nat) : Int)), some (.inl part), some (.inl (0 : Int)), none]) rfl ?_
    refine tw_const k172_27 ?_
    refine tw_istore k172_28 rfl (L' := [some (.inr (.inr (.inl 126))), some (.inl ((k : Nat) : Int)), some (.inl part), some (.inl (0 : Int)), some (.inl (0 : Int))]) rfl ?_
    refine tw_eqL (L' := [some (.inr (.inr (.inl 126))), some (.inl ((k : Nat) : Int)), some (.inl part), some (.inl (odN (M 127) k 0)), some (.inl ((0 : Nat) : Int))]) (e_c rfl (e_c rfl (e_c rfl (e_c (e_i rfl) (e_c (e_i rfl) rfl))))) ?_
    exact key 0 (by omega) (st M [(129, pC (M 127) (M 129))]) (fun e => rfl) (fun i hi => rfl) rfl ⟨fun c hc => by rw [st_c, if_neg (by omega), st_nil], fun j hj => rfl⟩
  · refine tw_aload k172_0 rfl ?_
    refine tw_iload k172_1 rfl ?_
    refine tw_callb (by omega) (S' := []) (as := [.inr (.inr (.inl 126)), .inl y]) k172_2 (x_113 (M := M) (N := N) (by omega) hs y) rfl rfl rfl rfl rfl (fun h2 => ?_) (fun h2 => ?_)
    · refine tw_zeqF k172_5 (by decide) ?_
      refine tw_iload k172_8 rfl ?_
      refine tw_const k172_9 ?_
      refine tw_const k172_10 ?_
      refine tw_callb (by omega) (S' := []) (as := [.inl part, .inl (0 : Int), .inl (1 : Int)]) k172_11 (x_112 part (0 : Int) (1 : Int)) rfl rfl rfl rfl rfl (fun h11 => ?_) (fun h11 => ?_)
      · refine tw_zneT k172_14 (by decide) ?_
        exact absurd ⟨h2, h11⟩ hyy
      · refine tw_zneF k172_14 (by decide) ?_
        refine tw_lconst k172_17 ?_
        exact tw_rl k172_20 (⟨by unfold qOdds; rw [if_neg hyy]; rfl, M, rfl, rfl, hM, mKq_refl M⟩)
    · refine tw_zeqT k172_5 (by decide) ?_
      refine tw_lconst k172_17 ?_
      exact tw_rl k172_20 (⟨by unfold qOdds; rw [if_neg hyy]; rfl, M, rfl, rfl, hM, mKq_refl M⟩)
theorem x_175 {K : mj_C} {d : Nat} {M : Nat → Nat → Int} {N : Nat → Nat → Int64} (hD : 8 ≤ d) (hV : pVI (M 127)) (hM : mW M) (what : Int) : mj_X K d 175 [.inr (.inr (.inl 126)), .inl what] (mj_Sh, M, N) (fun r Z => r = some (.inr (.inl (qAfter (M 127) what))) ∧ ∃ M1, Z = (mj_Sh, M1, N) ∧ M1 127 = M 127 ∧ mW M1 ∧ mKq M M1) := by
  show mj_T K d 175 0 [some (.inr (.inr (.inl 126))), some (.inl what), none, none] [] (mj_Sh, M, N) _
  have hs := hV.1
  have h0 := hs.1 0 (by omega)
  have h5 := hs.2.1
  have h11 := hs.1 11 (by omega)
  have hc11 := hs.2.2.1
  by_cases hyy : 0 ≤ what ∧ what ≤ 2
  · have hE := hV.2.2.2.2
    have hE1 := hE.1
    have hE2 := hE.2.1
    have key : ∀ i : Nat, i ≤ (M 127 57).toNat → ∀ o3 (f : Nat → Int), f = evN (M 127) i → mj_T K d 175 19 [some (.inr (.inr (.inl 126))), some (.inl what), some (.inl ((i : Nat) : Int)), sv o3] [] (mj_Sh, (st M [(129, (pC (M 127) (M 129))), (127, f)]), N) (fun r Z => r = some (.inr (.inl (qAfter (M 127) what))) ∧ ∃ M1, Z = (mj_Sh, M1, N) ∧ M1 127 = M 127 ∧ mW M1 ∧ mKq M M1) := by
      refine up_to (M 127 57).toNat ?_ ?_
      · show ∀ o3 (f : Nat → Int), f = evN (M 127) (M 127 57).toNat → mj_T K d 175 19 [some (.inr (.inr (.inl 126))), some (.inl what), some (.inl (((M 127 57).toNat : Nat) : Int)), sv o3] [] (mj_Sh, (st M [(129, (pC (M 127) (M 129))), (127, f)]), N) (fun r Z => r = some (.inr (.inl (qAfter (M 127) what))) ∧ ∃ M1, Z = (mj_Sh, M1, N) ∧ M1 127 = M 127 ∧ mW M1 ∧ mKq M M1)
        intro o3 f hf
        have hev := evN_sp hV (M 127 57).toNat (by omega)
        refine tw_iload k175_19 rfl ?_
        refine tw_aload k175_20 rfl ?_
        refine tw_getr k175_21 f126_0 ?_
        refine tw_const k175_24 ?_
        refine tw_iald (j := 57) (v := (M 127 57)) k175_26 al127 rfl (by decide) (show f 57 = _ from (by rw [hf, hev.2 57 (by omega)])) ?_
        refine tw_cgeT k175_27 (by omega) ?_
        refine tw_aload k175_145 rfl ?_
        refine tw_call (by omega) (S' := []) (as := [.inr (.inr (.inl 126))]) k175_146 (x_133 (M := (st M [(129, (pC (M 127) (M 129))), (127, f)])) (N := N) (by omega) (show pRg f by rw [hf]; exact hev.1)) rfl rfl rfl rfl rfl (fun r146 Z146 hq146 => ?_)
        obtain ⟨rfl, M1, rfl, hw, hfr⟩ := hq146
        have hk := wk1 (M := (st M [(129, (pC (M 127) (M 129))), (127, f)])) (show pRg f by rw [hf]; exact hev.1) hw hfr
        have hk2 : M1 127 = evN (M 127) (M 127 57).toNat := hk.2.trans hf
        have hk3 : M1 129 = pC (M 127) (M 129) := (hfr.1 129 (by omega)).trans rfl
        have hbk : pC (M1 129) (M1 127) = M 127 := by rw [hk3, hk2]; exact pC_back (fun i hi => hev.2 i (by omega))
        refine tw_as (S := []) (M := M1) (N := N) rfl rfl ?_
        refine tw_iload k175_149 rfl ?_
        refine tw_zne k175_150 (fun h150 => ?_) (fun h150 => ?_)
        · refine tw_iload k175_160 rfl ?_
          refine tw_const k175_161 ?_
          refine tw_cne k175_162 (fun h162 => ?_) (fun h162 => ?_)
          · refine tw_aload k175_173 rfl ?_
            refine tw_geti k175_174 f126_18 rfl (v := (wB (M1 127)).2.2.1) hk.1.2.2.1.1 ?_
            refine tw_i2l k175_177 ?_
            refine tw_lstore k175_178 rfl (L' := [some (.inr (.inr (.inl 126))), some (.inl what), some (.inr (.inl ((Int32.ofInt ((wB (M1 127)).2.2.1)).toInt64))), none]) rfl ?_
            refine tw_aload k175_179 rfl ?_
            refine tw_call (by omega) (S' := []) (as := [.inr (.inr (.inl 126))]) k175_180 (x_163 (M := M1) (N := N) (by omega) (by rw [hbk]; exact hs)) rfl rfl rfl rfl rfl (fun r180 Z180 hq180 => ?_)
            obtain ⟨rfl, M3, rfl, hc1, hc2, hc3⟩ := hq180
            refine tw_as (S := []) (M := M3) (N := N) rfl rfl ?_
            refine tw_lload k175_183 rfl ?_
            exact tw_rl k175_184 (⟨by unfold qAfter; rw [if_pos hyy, if_neg (by omega), if_neg (by omega), hk2], M3, rfl, by rw [hc1, hbk], hc2, mKq_tr ⟨fun c hc => (hfr.1 c (by omega)).trans (by rw [st_c, if_neg (by omega), st_c, if_neg (by omega), st_nil]), fun j hj => hfr.2 j (by omega)⟩ (mKp_q hc3)⟩)
          · refine tw_aload k175_165 rfl ?_
            refine tw_geti k175_166 f126_17 rfl (v := (((wG (M1 127)).1 : Nat) : Int)) hk.1.2.1.1 ?_
            refine tw_i2l k175_169 ?_
            refine tw_goto k175_170 ?_
            refine tw_lstore k175_178 rfl (L' := [some (.inr (.inr (.inl 126))), some (.inl what), some (.inr (.inl ((Int32.ofInt (((wG (M1 127)).1 : Nat) : Int)).toInt64))), none]) rfl ?_
            refine tw_aload k175_179 rfl ?_
            refine tw_call (by omega) (S' := []) (as := [.inr (.inr (.inl 126))]) k175_180 (x_163 (M := M1) (N := N) (by omega) (by rw [hbk]; exact hs)) rfl rfl rfl rfl rfl (fun r180 Z180 hq180 => ?_)
            obtain ⟨rfl, M3, rfl, hc1, hc2, hc3⟩ := hq180
            refine tw_as (S := []) (M := M3) (N := N) rfl rfl ?_
            refine tw_lload k175_183 rfl ?_
            exact tw_rl k175_184 (⟨by unfold qAfter; rw [if_pos hyy, if_neg (by omega), if_pos (by omega), hk2], M3, rfl, by rw [hc1, hbk], hc2, mKq_tr ⟨fun c hc => (hfr.1 c (by omega)).trans (by rw [st_c, if_neg (by omega), st_c, if_neg (by omega), st_nil]), fun j hj => hfr.2 j (by omega)⟩ (mKp_q hc3)⟩)
        · refine tw_aload k175_153 rfl ?_
          refine tw_callp (v := .inr (.inl (wTt (M1 127)))) (by omega) (S' := []) (as := [.inr (.inr (.inl 126))]) k175_154 (x_155 (M := M1) (N := N) (by omega) hk.1) rfl rfl rfl rfl rfl ?_
          refine tw_goto k175_157 ?_
          refine tw_lstore k175_178 rfl (L' := [some (.inr (.inr (.inl 126))), some (.inl what), some (.inr (.inl (wTt (M1 127)))), none]) rfl ?_
          refine tw_aload k175_179 rfl ?_
          refine tw_call (by omega) (S' := []) (as := [.inr (.inr (.inl 126))]) k175_180 (x_163 (M := M1) (N := N) (by omega) (by rw [hbk]; exact hs)) rfl rfl rfl rfl rfl (fun r180 Z180 hq180 => ?_)
          obtain ⟨rfl, M3, rfl, hc1, hc2, hc3⟩ := hq180
          refine tw_as (S := []) (M := M3) (N := N) rfl rfl ?_
          refine tw_lload k175_183 rfl ?_
          exact tw_rl k175_184 (⟨by unfold qAfter; rw [if_pos hyy, if_pos (by omega), hk2], M3, rfl, by rw [hc1, hbk], hc2, mKq_tr ⟨fun c hc => (hfr.1 c (by omega)).trans (by rw [st_c, if_neg (by omega), st_c, if_neg (by omega), st_nil]), fun j hj => hfr.2 j (by omega)⟩ (mKp_q hc3)⟩)
      · intro i hmi ih
        have ih : ∀ o3 (f : Nat → Int), f = evN (M 127) (i + 1) → mj_T K d 175 19 [some (.inr (.inr (.inl 126))), some (.inl what), some (.inl (((i + 1) : Nat) : Int)), sv o3] [] (mj_Sh, (st M [(129, (pC (M 127) (M 129))), (127, f)]), N) (fun r Z => r = some (.inr (.inl (qAfter (M 127) what))) ∧ ∃ M1, Z = (mj_Sh, M1, N) ∧ M1 127 = M 127 ∧ mW M1 ∧ mKq M M1) := ih
        show ∀ o3 (f : Nat → Int), f = evN (M 127) i → mj_T K d 175 19 [some (.inr (.inr (.inl 126))), some (.inl what), some (.inl ((i : Nat) : Int)), sv o3] [] (mj_Sh, (st M [(129, (pC (M 127) (M 129))), (127, f)]), N) (fun r Z => r = some (.inr (.inl (qAfter (M 127) what))) ∧ ∃ M1, Z = (mj_Sh, M1, N) ∧ M1 127 = M 127 ∧ mW M1 ∧ mKq M M1)
        intro o3 f hf
        have hev := evN_sp hV i (by omega)
        have hx := hE.2.2 i (by omega)
        have h6b := hev.1.1 (6 + (M 127 (59 + 2 * i)).toNat)
        have hfb : (M 127 (58 + 2 * i)) < 2 → 0 ≤ f (6 + (M 127 (59 + 2 * i)).toNat) ∧ f (6 + (M 127 (59 + 2 * i)).toNat) ≤ 100 := fun q => by rw [hf]; exact h6b (by have := hx.2.1 q; omega)
        refine tw_iload k175_19 rfl ?_
        refine tw_aload k175_20 rfl ?_
        refine tw_getr k175_21 f126_0 ?_
        refine tw_const k175_24 ?_
        refine tw_iald (j := 57) (v := (M 127 57)) k175_26 al127 rfl (by decide) (show f 57 = _ from (by rw [hf, hev.2 57 (by omega)])) ?_
        refine tw_cgeF k175_27 (by omega) ?_
        refine tw_aload k175_30 rfl ?_
        refine tw_getr k175_31 f126_0 ?_
        refine tw_const k175_34 ?_
        refine tw_const k175_36 ?_
        refine tw_iload k175_37 rfl ?_
        refine tw_imul k175_38 (v := ((2 * i : Nat) : Int)) rfl (by omega) ?_
        refine tw_iadd k175_39 (v := ((58 + (2 * i) : Nat) : Int)) rfl (by omega) ?_
        refine tw_const k175_40 ?_
        refine tw_iadd k175_41 (v := (((58 + (2 * i)) + 1 : Nat) : Int)) rfl (by omega) ?_
        refine tw_iald (j := (59 + 2 * i)) (v := (M 127 (59 + 2 * i))) k175_42 al127 (by omega) (by omega) (show f (59 + 2 * i) = _ from (by rw [hf, hev.2 _ (by omega)])) ?_
        refine tw_istore k175_43 rfl (L' := [some (.inr (.inr (.inl 126))), some (.inl what), some (.inl ((i : Nat) : Int)), some (.inl (M 127 (59 + 2 * i)))]) rfl ?_
        refine tw_aload k175_44 rfl ?_
        refine tw_getr k175_45 f126_0 ?_
        refine tw_const k175_48 ?_
        refine tw_const k175_50 ?_
        refine tw_iload k175_51 rfl ?_
        refine tw_imul k175_52 (v := ((2 * i : Nat) : Int)) rfl (by omega) ?_
        refine tw_iadd k175_53 (v := ((58 + (2 * i) : Nat) : Int)) rfl (by omega) ?_
        refine tw_iald (j := (58 + 2 * i)) (v := (M 127 (58 + 2 * i))) k175_54 al127 (by omega) (by omega) (show f (58 + 2 * i) = _ from (by rw [hf, hev.2 _ (by omega)])) ?_
        refine tw_sw k175_55 ?_
        refine tw_pk (fun h55_0 => ?_) (fun h55_0 => ?_)
        · refine tw_aload k175_80 rfl ?_
          refine tw_getr k175_81 f126_0 ?_
          refine tw_const k175_84 ?_
          refine tw_iload k175_85 rfl ?_
          refine tw_iadd k175_86 (v := ((1 : Int) + (M 127 (59 + 2 * i)))) rfl (by omega) ?_
          refine tw_const k175_87 ?_
          refine tw_iast (M := M) (N := N) (l := [(129, (pC (M 127) (M 129))), (127, f)]) (l' := [(129, (pC (M 127) (M 129))), (127, (pU f (1 + (M 127 (59 + 2 * i)).toNat) (0 : Int)))]) (j := (1 + (M 127 (59 + 2 * i)).toNat)) k175_88 al127 (by omega) (by omega) rfl ?_
          refine tw_goto k175_89 ?_
          refine tw_iinc k175_139 rfl (v := ((i + 1 : Nat) : Int)) rfl (by omega) rfl (L' := [some (.inr (.inr (.inl 126))), some (.inl what), some (.inl ((i + 1 : Nat) : Int)), some (.inl (M 127 (59 + 2 * i)))]) rfl ?_
          refine tw_goto k175_142 ?_
          exact ih (some (.inl (M 127 (59 + 2 * i)))) _ (by rw [evN]; unfold evS; rw [if_pos (by omega), hf])
        · skip
          refine tw_pk (fun h55_1 => ?_) (fun h55_1 => ?_)
          · refine tw_aload k175_92 rfl ?_
            refine tw_getr k175_93 f126_0 ?_
            refine tw_const k175_96 ?_
            refine tw_iload k175_98 rfl ?_
            refine tw_iadd k175_99 (v := ((6 : Int) + (M 127 (59 + 2 * i)))) rfl (by omega) ?_
            refine tw_const k175_100 ?_
            refine tw_aload k175_102 rfl ?_
            refine tw_getr k175_103 f126_0 ?_
            refine tw_const k175_106 ?_
            refine tw_iload k175_108 rfl ?_
            refine tw_iadd k175_109 (v := ((6 : Int) + (M 127 (59 + 2 * i)))) rfl (by omega) ?_
            refine tw_iald (j := (6 + (M 127 (59 + 2 * i)).toNat)) (v := (f (6 + (M 127 (59 + 2 * i)).toNat))) k175_110 al127 (by omega) (by omega) rfl ?_
            refine tw_const k175_111 ?_
            refine tw_iadd k175_112 (v := ((f (6 + (M 127 (59 + 2 * i)).toNat)) + (5 : Int))) rfl (by omega) ?_
            refine tw_min k175_113 rfl ?_
            refine tw_iast (M := M) (N := N) (l := [(129, (pC (M 127) (M 129))), (127, f)]) (l' := [(129, (pC (M 127) (M 129))), (127, (pU f (6 + (M 127 (59 + 2 * i)).toNat) (min (40 : Int) ((f (6 + (M 127 (59 + 2 * i)).toNat)) + (5 : Int)))))]) (j := (6 + (M 127 (59 + 2 * i)).toNat)) k175_116 al127 (by omega) (by omega) rfl ?_
            refine tw_goto k175_117 ?_
            refine tw_iinc k175_139 rfl (v := ((i + 1 : Nat) : Int)) rfl (by omega) rfl (L' := [some (.inr (.inr (.inl 126))), some (.inl what), some (.inl ((i + 1 : Nat) : Int)), some (.inl (M 127 (59 + 2 * i)))]) rfl ?_
            refine tw_goto k175_142 ?_
            exact ih (some (.inl (M 127 (59 + 2 * i)))) _ (by rw [evN]; unfold evS; rw [if_neg (by omega), if_pos (by omega), hf])
          · skip
            refine tw_pk (fun h55_2 => ?_) (fun h55_2 => ?_)
            · refine tw_aload k175_120 rfl ?_
              refine tw_getr k175_121 f126_0 ?_
              refine tw_const k175_124 ?_
              refine tw_iload k175_126 rfl ?_
              refine tw_iast (M := M) (N := N) (l := [(129, (pC (M 127) (M 129))), (127, f)]) (l' := [(129, (pC (M 127) (M 129))), (127, (pU f 45 (M 127 (59 + 2 * i))))]) (j := 45) k175_127 al127 rfl (by decide) rfl ?_
              refine tw_goto k175_128 ?_
              refine tw_iinc k175_139 rfl (v := ((i + 1 : Nat) : Int)) rfl (by omega) rfl (L' := [some (.inr (.inr (.inl 126))), some (.inl what), some (.inl ((i + 1 : Nat) : Int)), some (.inl (M 127 (59 + 2 * i)))]) rfl ?_
              refine tw_goto k175_142 ?_
              exact ih (some (.inl (M 127 (59 + 2 * i)))) _ (by rw [evN]; unfold evS; rw [if_neg (by omega), if_neg (by omega), if_pos (by omega), hf])
            · skip
              refine tw_pk0 ?_
              refine tw_aload k175_131 rfl ?_
              refine tw_getr k175_132 f126_0 ?_
              refine tw_const k175_135 ?_
              refine tw_iload k175_137 rfl ?_
              refine tw_iast (M := M) (N := N) (l := [(129, (pC (M 127) (M 129))), (127, f)]) (l' := [(129, (pC (M 127) (M 129))), (127, (pU f 42 (M 127 (59 + 2 * i))))]) (j := 42) k175_138 al127 rfl (by decide) rfl ?_
              refine tw_iinc k175_139 rfl (v := ((i + 1 : Nat) : Int)) rfl (by omega) rfl (L' := [some (.inr (.inr (.inl 126))), some (.inl what), some (.inl ((i + 1 : Nat) : Int)), some (.inl (M 127 (59 + 2 * i)))]) rfl ?_
              refine tw_goto k175_142 ?_
              exact ih (some (.inl (M 127 (59 + 2 * i)))) _ (by rw [evN]; unfold evS; rw [if_neg (by omega), if_neg (by omega), if_neg (by omega), hf])
    refine tw_iload k175_0 rfl ?_
    refine tw_const k175_1 ?_
    refine tw_const k175_2 ?_
    refine tw_callbT (by omega) (S' := []) (as := [.inl what, .inl (0 : Int), .inl (2 : Int)]) k175_3 (x_112 what (0 : Int) (2 : Int)) rfl rfl rfl rfl rfl hyy ?_
    refine tw_zneT k175_6 (by decide) ?_
    refine tw_aload k175_13 rfl ?_
    refine tw_call (by omega) (S' := []) (as := [.inr (.inr (.inl 126))]) k175_14 (x_162 (M := M) (N := N) (by omega)) rfl rfl rfl rfl rfl (fun r14 Z14 hq14 => ?_)
    obtain ⟨rfl, rfl⟩ := hq14
    refine tw_as (S := []) (M := (st M [(129, (pC (M 127) (M 129)))])) (N := N) rfl rfl ?_
    refine tw_const k175_17 ?_
    refine tw_istore k175_18 rfl (L' := [some (.inr (.inr (.inl 126))), some (.inl what), some (.inl (0 : Int)), none]) rfl ?_
    refine tw_pad (M := M) (N := N) (l := [(129, (pC (M 127) (M 129)))]) (l' := [(129, (pC (M 127) (M 129))), (127, M 127)]) [127] rfl ?_
    exact key 0 (by omega) none _ rfl
  · refine tw_iload k175_0 rfl ?_
    refine tw_const k175_1 ?_
    refine tw_const k175_2 ?_
    refine tw_callbF (by omega) (S' := []) (as := [.inl what, .inl (0 : Int), .inl (2 : Int)]) k175_3 (x_112 what (0 : Int) (2 : Int)) rfl rfl rfl rfl rfl hyy ?_
    refine tw_zneF k175_6 (by decide) ?_
    refine tw_lconst k175_9 ?_
    exact tw_rl k175_12 (⟨by unfold qAfter; rw [if_neg hyy]; rfl, M, rfl, rfl, hM, mKq_refl M⟩)
