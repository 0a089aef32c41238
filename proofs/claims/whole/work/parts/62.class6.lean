-- the class: judging, tapes
theorem tp_yes {so it : Nat → Int} {ce : Nat → Int64} {t k n : Int} (h : tpK t k n) : aTpS so t k n = pU so t.toNat k ∧ aTpI it t k n = pU it t.toNat (tpN k n) ∧ aTpC ce t k n = (fun c => if 60 * t.toNat ≤ c ∧ c < 60 * t.toNat + (tpN k n).toNat then Int64.ofInt 0 else ce c) := by
  unfold aTpS aTpI aTpC
  rw [if_pos h, if_pos h, if_pos h]
  exact ⟨rfl, rfl, rfl⟩
theorem x_96n {K : mj_C} {d : Nat} {M : Nat → Nat → Int} {N : Nat → Nat → Int64} (hD : 6 ≤ d) (hK : kOk K) (s im : Nat → Int) (kp : Int) (tx : Nat → Int) (ln : Int) (so it : Nat → Int) (ce : Nat → Int64) (hI : IC s im kp tx ln so it ce M N) (hV : VI s im kp tx ln so it) (t : Nat) (ht : t < 6) (i : Int) (hi : -2147483648 ≤ i ∧ i ≤ 2147483647) : mj_X K d 96 [.inr (.inr (.inl 0)), .inl ((t : Nat) : Int), .inl i] (mj_Sh, M, N) (fun r Z => r = some (.inl (qJudge s so it ce ((t : Nat) : Int) i)) ∧ ∃ M1 N1, Z = (mj_Sh, M1, N1) ∧ IC s im kp tx ln so it ce M1 N1 ∧ fr6 M N M1 N1) := by
  show mj_T K d 96 0 [some (.inr (.inr (.inl 0))), some (.inl ((t : Nat) : Int)), some (.inl i), none, none, none] [] (mj_Sh, M, N) _
  have hVs := hV.1
  have hs := hVs.1
  have h0 := hs.1 0 (by omega)
  have h5 := hs.2.1
  have h11 := hs.1 11 (by omega)
  have hc11 := hs.2.2.1
  have hI0 := hI
  obtain ⟨⟨hS, hse, hev, hbo⟩, hkp, hkim, hfs, hzz, htxt, htp⟩ := hI
  have htk := hV.2.2.2.2 t ht
  obtain ⟨Y, hYe⟩ : ∃ Y : Nat, Y = (s 0).toNat := ⟨_, rfl⟩
  have hY0 : s 0 = (Y : Int) := by omega
  refine tw_iload k96_0 rfl ?_
  refine tw_callbT (by omega) (S' := []) (as := [.inl ((t : Nat) : Int)]) k96_1 (x_105 (by omega) ((t : Nat) : Int)) rfl rfl rfl rfl rfl (by omega) ?_
  refine tw_zneT k96_4 (by decide) ?_
  refine tw_aload k96_9 rfl ?_
  refine tw_getr k96_10 f0_8 ?_
  refine tw_iload k96_13 rfl ?_
  refine tw_aald (j := t) (u := (114 + 2 * t)) k96_14 rfl (rr113 ht) ?_
  refine tw_astore k96_15 rfl (L' := [some (.inr (.inr (.inl 0))), some (.inl ((t : Nat) : Int)), some (.inl i), some (.inr (.inr (.inl (114 + 2 * t)))), none, none]) rfl ?_
  refine tw_aload k96_16 rfl ?_
  refine tw_geti k96_17 (fT1 ht) rfl (v := (so t)) (htp t ht).1 ?_
  refine tw_const k96_20 ?_
  refine tw_ceq k96_21 (fun h21 => ?_) (fun h21 => ?_)
  · refine tw_aload k96_35 rfl ?_
    refine tw_call (by omega) (S' := []) (as := [.inr (.inr (.inl 0))]) k96_36 (x_106 (M := M) (N := N) (by omega) hK s im kp tx ln so it ce hI0 hV) rfl rfl rfl rfl rfl (fun r36 Z36 hq36 => ?_)
    obtain ⟨rfl, M3, N3, rfl, hIM3, hPM3, hFM3, hGM3⟩ := hq36
    have hS3 : cSV 2 M3 s := hIM3.1.1
    have hP0 := hPM3
    obtain ⟨⟨p11, p12, p13, p14, p15, hpp, hpg, hpd⟩, hu, hl, hd, hv, hn⟩ := hPM3
    have hpg : gRel (M3 44 3) (M3 45) (M3 46) (M3 47) (wG s) := hpg
    refine tw_as (S := [.inr (.inr (.inl 35))]) (M := M3) (N := N3) rfl rfl ?_
    refine tw_astore k96_39 rfl (L' := [some (.inr (.inr (.inl 0))), some (.inl ((t : Nat) : Int)), some (.inl i), some (.inr (.inr (.inl (114 + 2 * t)))), some (.inr (.inr (.inl 35))), none]) rfl ?_
    refine tw_const k96_41 ?_
    refine tw_istore k96_42 rfl (L' := [some (.inr (.inr (.inl 0))), some (.inl ((t : Nat) : Int)), some (.inl i), some (.inr (.inr (.inl (114 + 2 * t)))), some (.inr (.inr (.inl 35))), some (.inl (0 : Int))]) rfl ?_
    have key : ∀ y : Nat, y ≤ Y → jF s so it ce t i (Y - y) y = qJudge s so it ce ((t : Nat) : Int) i → (y = 0 ∨ 0 ≤ i ∧ i ≤ 60) → mj_T K d 96 44 [some (.inr (.inr (.inl 0))), some (.inl ((t : Nat) : Int)), some (.inl i), some (.inr (.inr (.inl (114 + 2 * t)))), some (.inr (.inr (.inl 35))), some (.inl ((y : Nat) : Int))] [] (mj_Sh, M3, N3) (fun r Z => r = some (.inl (qJudge s so it ce ((t : Nat) : Int) i)) ∧ ∃ M1 N1, Z = (mj_Sh, M1, N1) ∧ IC s im kp tx ln so it ce M1 N1 ∧ fr6 M N M1 N1) := by
      refine up_to Y ?_ ?_
      · show jF s so it ce t i (Y - Y) Y = qJudge s so it ce ((t : Nat) : Int) i → (Y = 0 ∨ 0 ≤ i ∧ i ≤ 60) → mj_T K d 96 44 [some (.inr (.inr (.inl 0))), some (.inl ((t : Nat) : Int)), some (.inl i), some (.inr (.inr (.inl (114 + 2 * t)))), some (.inr (.inr (.inl 35))), some (.inl ((Y : Nat) : Int))] [] (mj_Sh, M3, N3) (fun r Z => r = some (.inl (qJudge s so it ce ((t : Nat) : Int) i)) ∧ ∃ M1 N1, Z = (mj_Sh, M1, N1) ∧ IC s im kp tx ln so it ce M1 N1 ∧ fr6 M N M1 N1)
        intro hj _
        refine tw_iload k96_44 rfl ?_
        refine tw_aload k96_46 rfl ?_
        refine tw_getr k96_47 f0_0 ?_
        refine tw_getr k96_50 f1_0 ?_
        refine tw_geti k96_53 f2_6 rfl (v := ((Y : Nat) : Int)) (hS3.1.trans hY0) ?_
        refine tw_cgeT k96_56 (by omega) ?_
        refine tw_const k96_106 ?_
        exact tw_ri k96_108 (⟨by rw [← hj, Nat.sub_self, jF], M3, N3, rfl, hIM3, hFM3⟩)
      · intro y hmy ih
        have ih : jF s so it ce t i (Y - (y + 1)) (y + 1) = qJudge s so it ce ((t : Nat) : Int) i → ((y + 1) = 0 ∨ 0 ≤ i ∧ i ≤ 60) → mj_T K d 96 44 [some (.inr (.inr (.inl 0))), some (.inl ((t : Nat) : Int)), some (.inl i), some (.inr (.inr (.inl (114 + 2 * t)))), some (.inr (.inr (.inl 35))), some (.inl (((y + 1) : Nat) : Int))] [] (mj_Sh, M3, N3) (fun r Z => r = some (.inl (qJudge s so it ce ((t : Nat) : Int) i)) ∧ ∃ M1 N1, Z = (mj_Sh, M1, N1) ∧ IC s im kp tx ln so it ce M1 N1 ∧ fr6 M N M1 N1) := ih
        show jF s so it ce t i (Y - y) y = qJudge s so it ce ((t : Nat) : Int) i → (y = 0 ∨ 0 ≤ i ∧ i ≤ 60) → mj_T K d 96 44 [some (.inr (.inr (.inl 0))), some (.inl ((t : Nat) : Int)), some (.inl i), some (.inr (.inr (.inl (114 + 2 * t)))), some (.inr (.inr (.inl 35))), some (.inl ((y : Nat) : Int))] [] (mj_Sh, M3, N3) (fun r Z => r = some (.inl (qJudge s so it ce ((t : Nat) : Int) i)) ∧ ∃ M1 N1, Z = (mj_Sh, M1, N1) ∧ IC s im kp tx ln so it ce M1 N1 ∧ fr6 M N M1 N1)
        intro hj h0i
        have hjs : Y - y = (Y - (y + 1)) + 1 := by omega
        rw [hjs, jF] at hj
        by_cases hin : 0 ≤ i + (y : Int) ∧ i + (y : Int) < it t
        · refine tw_iload k96_44 rfl ?_
          refine tw_aload k96_46 rfl ?_
          refine tw_getr k96_47 f0_0 ?_
          refine tw_getr k96_50 f1_0 ?_
          refine tw_geti k96_53 f2_6 rfl (v := ((Y : Nat) : Int)) (hS3.1.trans hY0) ?_
          refine tw_cgeF k96_56 (by omega) ?_
          refine tw_aload k96_59 rfl ?_
          refine tw_iload k96_60 rfl ?_
          refine tw_iload k96_61 rfl ?_
          refine tw_iadd k96_63 (v := (i + ((y : Nat) : Int))) rfl (by omega) ?_
          refine tw_callbT (by omega) (S' := []) (as := [.inr (.inr (.inl (114 + 2 * t))), .inl (i + ((y : Nat) : Int))]) k96_64 (x_65 (M := M3) (N := N3) (by omega) t ht (it t) (hIM3.2.2.2.2.2.2 t ht).2.1 htk.2.1 (i + ((y : Nat) : Int))) rfl rfl rfl (rcvT ht rfl) rfl hin ?_
          refine tw_zneT k96_67 (by decide) ?_
          refine tw_aload k96_76 rfl ?_
          refine tw_getr k96_77 (fT0 ht) ?_
          refine tw_iload k96_80 rfl ?_
          refine tw_iload k96_81 rfl ?_
          refine tw_iadd k96_83 (v := (i + ((y : Nat) : Int))) rfl (by omega) ?_
          refine tw_lald (j := (i.toNat + y)) (v := (ce (60 * t + i.toNat + y))) k96_84 (alT ht) (by omega) (by omega) (((hIM3.2.2.2.2.2.2 t ht).2.2 (i.toNat + y) (by omega)).trans (by rw [Nat.add_assoc])) ?_
          refine tw_aload k96_85 rfl ?_
          refine tw_iload k96_87 rfl ?_
          refine tw_callp (v := .inl (wPr s y)) (by omega) (S' := [.inr (.inl (ce (60 * t + i.toNat + y)))]) (as := [.inr (.inr (.inl 35)), .inl ((y : Nat) : Int)]) k96_89 (x_13_35 (M := M3) (N := N3) s hs hP0 y (by omega)) rfl rfl rfl rfl rfl ?_
          refine tw_i2l k96_92 ?_
          refine tw_lcmp k96_93 ?_
          refine tw_zeq k96_94 (fun h94 => ?_) (fun h94 => ?_)
          · refine tw_iinc k96_100 rfl (v := ((y + 1 : Nat) : Int)) rfl (by omega) rfl (L' := [some (.inr (.inr (.inl 0))), some (.inl ((t : Nat) : Int)), some (.inl i), some (.inr (.inr (.inl (114 + 2 * t)))), some (.inr (.inr (.inl 35))), some (.inl ((y + 1 : Nat) : Int))]) rfl ?_
            refine tw_goto k96_103 ?_
            refine ih ?_ (by omega)
            rw [← hj, if_neg (by omega), if_pos h94]
          · refine tw_iload k96_97 rfl ?_
            exact tw_ri k96_99 (⟨by rw [← hj, if_neg (by omega), if_neg h94], M3, N3, rfl, hIM3, hFM3⟩)
        · refine tw_iload k96_44 rfl ?_
          refine tw_aload k96_46 rfl ?_
          refine tw_getr k96_47 f0_0 ?_
          refine tw_getr k96_50 f1_0 ?_
          refine tw_geti k96_53 f2_6 rfl (v := ((Y : Nat) : Int)) (hS3.1.trans hY0) ?_
          refine tw_cgeF k96_56 (by omega) ?_
          refine tw_aload k96_59 rfl ?_
          refine tw_iload k96_60 rfl ?_
          refine tw_iload k96_61 rfl ?_
          refine tw_iadd k96_63 (v := (i + ((y : Nat) : Int))) rfl (by omega) ?_
          refine tw_callbF (by omega) (S' := []) (as := [.inr (.inr (.inl (114 + 2 * t))), .inl (i + ((y : Nat) : Int))]) k96_64 (x_65 (M := M3) (N := N3) (by omega) t ht (it t) (hIM3.2.2.2.2.2.2 t ht).2.1 htk.2.1 (i + ((y : Nat) : Int))) rfl rfl rfl (rcvT ht rfl) rfl hin ?_
          refine tw_zneF k96_67 (by decide) ?_
          refine tw_const k96_70 ?_
          refine tw_iload k96_72 rfl ?_
          refine tw_iadd k96_74 (v := ((100 + y : Nat) : Int)) rfl (by omega) ?_
          exact tw_ri k96_75 (⟨by rw [← hj, if_pos (by omega)]; rfl, M3, N3, rfl, hIM3, hFM3⟩)
    refine tw_eqL (L' := [some (.inr (.inr (.inl 0))), some (.inl ((t : Nat) : Int)), some (.inl i), some (.inr (.inr (.inl (114 + 2 * t)))), some (.inr (.inr (.inl 35))), some (.inl ((0 : Nat) : Int))]) (e_c rfl (e_c rfl (e_c rfl (e_c rfl (e_c rfl (e_c (e_i rfl) rfl)))))) ?_
    exact key 0 (by omega) (by unfold qJudge; rw [if_pos (by omega)]; simp only [Int.toNat_natCast]; rw [if_neg (by omega), Nat.sub_zero, hYe]) (Or.inl rfl)
  · refine tw_aload k96_24 rfl ?_
    refine tw_geti k96_25 (fT1 ht) rfl (v := (so t)) (htp t ht).1 ?_
    refine tw_const k96_28 ?_
    refine tw_ceq k96_29 (fun h29 => ?_) (fun h29 => ?_)
    · refine tw_aload k96_35 rfl ?_
      refine tw_call (by omega) (S' := []) (as := [.inr (.inr (.inl 0))]) k96_36 (x_106 (M := M) (N := N) (by omega) hK s im kp tx ln so it ce hI0 hV) rfl rfl rfl rfl rfl (fun r36 Z36 hq36 => ?_)
      obtain ⟨rfl, M3, N3, rfl, hIM3, hPM3, hFM3, hGM3⟩ := hq36
      have hS3 : cSV 2 M3 s := hIM3.1.1
      have hP0 := hPM3
      obtain ⟨⟨p11, p12, p13, p14, p15, hpp, hpg, hpd⟩, hu, hl, hd, hv, hn⟩ := hPM3
      have hpg : gRel (M3 44 3) (M3 45) (M3 46) (M3 47) (wG s) := hpg
      refine tw_as (S := [.inr (.inr (.inl 35))]) (M := M3) (N := N3) rfl rfl ?_
      refine tw_astore k96_39 rfl (L' := [some (.inr (.inr (.inl 0))), some (.inl ((t : Nat) : Int)), some (.inl i), some (.inr (.inr (.inl (114 + 2 * t)))), some (.inr (.inr (.inl 35))), none]) rfl ?_
      refine tw_const k96_41 ?_
      refine tw_istore k96_42 rfl (L' := [some (.inr (.inr (.inl 0))), some (.inl ((t : Nat) : Int)), some (.inl i), some (.inr (.inr (.inl (114 + 2 * t)))), some (.inr (.inr (.inl 35))), some (.inl (0 : Int))]) rfl ?_
      have key : ∀ y : Nat, y ≤ Y → jF s so it ce t i (Y - y) y = qJudge s so it ce ((t : Nat) : Int) i → (y = 0 ∨ 0 ≤ i ∧ i ≤ 60) → mj_T K d 96 44 [some (.inr (.inr (.inl 0))), some (.inl ((t : Nat) : Int)), some (.inl i), some (.inr (.inr (.inl (114 + 2 * t)))), some (.inr (.inr (.inl 35))), some (.inl ((y : Nat) : Int))] [] (mj_Sh, M3, N3) (fun r Z => r = some (.inl (qJudge s so it ce ((t : Nat) : Int) i)) ∧ ∃ M1 N1, Z = (mj_Sh, M1, N1) ∧ IC s im kp tx ln so it ce M1 N1 ∧ fr6 M N M1 N1) := by
        refine up_to Y ?_ ?_
        · show jF s so it ce t i (Y - Y) Y = qJudge s so it ce ((t : Nat) : Int) i → (Y = 0 ∨ 0 ≤ i ∧ i ≤ 60) → mj_T K d 96 44 [some (.inr (.inr (.inl 0))), some (.inl ((t : Nat) : Int)), some (.inl i), some (.inr (.inr (.inl (114 + 2 * t)))), some (.inr (.inr (.inl 35))), some (.inl ((Y : Nat) : Int))] [] (mj_Sh, M3, N3) (fun r Z => r = some (.inl (qJudge s so it ce ((t : Nat) : Int) i)) ∧ ∃ M1 N1, Z = (mj_Sh, M1, N1) ∧ IC s im kp tx ln so it ce M1 N1 ∧ fr6 M N M1 N1)
          intro hj _
          refine tw_iload k96_44 rfl ?_
          refine tw_aload k96_46 rfl ?_
          refine tw_getr k96_47 f0_0 ?_
          refine tw_getr k96_50 f1_0 ?_
          refine tw_geti k96_53 f2_6 rfl (v := ((Y : Nat) : Int)) (hS3.1.trans hY0) ?_
          refine tw_cgeT k96_56 (by omega) ?_
          refine tw_const k96_106 ?_
          exact tw_ri k96_108 (⟨by rw [← hj, Nat.sub_self, jF], M3, N3, rfl, hIM3, hFM3⟩)
        · intro y hmy ih
          have ih : jF s so it ce t i (Y - (y + 1)) (y + 1) = qJudge s so it ce ((t : Nat) : Int) i → ((y + 1) = 0 ∨ 0 ≤ i ∧ i ≤ 60) → mj_T K d 96 44 [some (.inr (.inr (.inl 0))), some (.inl ((t : Nat) : Int)), some (.inl i), some (.inr (.inr (.inl (114 + 2 * t)))), some (.inr (.inr (.inl 35))), some (.inl (((y + 1) : Nat) : Int))] [] (mj_Sh, M3, N3) (fun r Z => r = some (.inl (qJudge s so it ce ((t : Nat) : Int) i)) ∧ ∃ M1 N1, Z = (mj_Sh, M1, N1) ∧ IC s im kp tx ln so it ce M1 N1 ∧ fr6 M N M1 N1) := ih
          show jF s so it ce t i (Y - y) y = qJudge s so it ce ((t : Nat) : Int) i → (y = 0 ∨ 0 ≤ i ∧ i ≤ 60) → mj_T K d 96 44 [some (.inr (.inr (.inl 0))), some (.inl ((t : Nat) : Int)), some (.inl i), some (.inr (.inr (.inl (114 + 2 * t)))), some (.inr (.inr (.inl 35))), some (.inl ((y : Nat) : Int))] [] (mj_Sh, M3, N3) (fun r Z => r = some (.inl (qJudge s so it ce ((t : Nat) : Int) i)) ∧ ∃ M1 N1, Z = (mj_Sh, M1, N1) ∧ IC s im kp tx ln so it ce M1 N1 ∧ fr6 M N M1 N1)
          intro hj h0i
          have hjs : Y - y = (Y - (y + 1)) + 1 := by omega
          rw [hjs, jF] at hj
          by_cases hin : 0 ≤ i + (y : Int) ∧ i + (y : Int) < it t
          · refine tw_iload k96_44 rfl ?_
            refine tw_aload k96_46 rfl ?_
            refine tw_getr k96_47 f0_0 ?_
            refine tw_getr k96_50 f1_0 ?_
            refine tw_geti k96_53 f2_6 rfl (v := ((Y : Nat) : Int)) (hS3.1.trans hY0) ?_
            refine tw_cgeF k96_56 (by omega) ?_
            refine tw_aload k96_59 rfl ?_
            refine tw_iload k96_60 rfl ?_
            refine tw_iload k96_61 rfl ?_
            refine tw_iadd k96_63 (v := (i + ((y : Nat) : Int))) rfl (by omega) ?_
            refine tw_callbT (by omega) (S' := []) (as := [.inr (.inr (.inl (114 + 2 * t))), .inl (i + ((y : Nat) : Int))]) k96_64 (x_65 (M := M3) (N := N3) (by omega) t ht (it t) (hIM3.2.2.2.2.2.2 t ht).2.1 htk.2.1 (i + ((y : Nat) : Int))) rfl rfl rfl (rcvT ht rfl) rfl hin ?_
            refine tw_zneT k96_67 (by decide) ?_
            refine tw_aload k96_76 rfl ?_
            refine tw_getr k96_77 (fT0 ht) ?_
            refine tw_iload k96_80 rfl ?_
            refine tw_iload k96_81 rfl ?_
            refine tw_iadd k96_83 (v := (i + ((y : Nat) : Int))) rfl (by omega) ?_
            refine tw_lald (j := (i.toNat + y)) (v := (ce (60 * t + i.toNat + y))) k96_84 (alT ht) (by omega) (by omega) (((hIM3.2.2.2.2.2.2 t ht).2.2 (i.toNat + y) (by omega)).trans (by rw [Nat.add_assoc])) ?_
            refine tw_aload k96_85 rfl ?_
            refine tw_iload k96_87 rfl ?_
            refine tw_callp (v := .inl (wPr s y)) (by omega) (S' := [.inr (.inl (ce (60 * t + i.toNat + y)))]) (as := [.inr (.inr (.inl 35)), .inl ((y : Nat) : Int)]) k96_89 (x_13_35 (M := M3) (N := N3) s hs hP0 y (by omega)) rfl rfl rfl rfl rfl ?_
            refine tw_i2l k96_92 ?_
            refine tw_lcmp k96_93 ?_
            refine tw_zeq k96_94 (fun h94 => ?_) (fun h94 => ?_)
            · refine tw_iinc k96_100 rfl (v := ((y + 1 : Nat) : Int)) rfl (by omega) rfl (L' := [some (.inr (.inr (.inl 0))), some (.inl ((t : Nat) : Int)), some (.inl i), some (.inr (.inr (.inl (114 + 2 * t)))), some (.inr (.inr (.inl 35))), some (.inl ((y + 1 : Nat) : Int))]) rfl ?_
              refine tw_goto k96_103 ?_
              refine ih ?_ (by omega)
              rw [← hj, if_neg (by omega), if_pos h94]
            · refine tw_iload k96_97 rfl ?_
              exact tw_ri k96_99 (⟨by rw [← hj, if_neg (by omega), if_neg h94], M3, N3, rfl, hIM3, hFM3⟩)
          · refine tw_iload k96_44 rfl ?_
            refine tw_aload k96_46 rfl ?_
            refine tw_getr k96_47 f0_0 ?_
            refine tw_getr k96_50 f1_0 ?_
            refine tw_geti k96_53 f2_6 rfl (v := ((Y : Nat) : Int)) (hS3.1.trans hY0) ?_
            refine tw_cgeF k96_56 (by omega) ?_
            refine tw_aload k96_59 rfl ?_
            refine tw_iload k96_60 rfl ?_
            refine tw_iload k96_61 rfl ?_
            refine tw_iadd k96_63 (v := (i + ((y : Nat) : Int))) rfl (by omega) ?_
            refine tw_callbF (by omega) (S' := []) (as := [.inr (.inr (.inl (114 + 2 * t))), .inl (i + ((y : Nat) : Int))]) k96_64 (x_65 (M := M3) (N := N3) (by omega) t ht (it t) (hIM3.2.2.2.2.2.2 t ht).2.1 htk.2.1 (i + ((y : Nat) : Int))) rfl rfl rfl (rcvT ht rfl) rfl hin ?_
            refine tw_zneF k96_67 (by decide) ?_
            refine tw_const k96_70 ?_
            refine tw_iload k96_72 rfl ?_
            refine tw_iadd k96_74 (v := ((100 + y : Nat) : Int)) rfl (by omega) ?_
            exact tw_ri k96_75 (⟨by rw [← hj, if_pos (by omega)]; rfl, M3, N3, rfl, hIM3, hFM3⟩)
      refine tw_eqL (L' := [some (.inr (.inr (.inl 0))), some (.inl ((t : Nat) : Int)), some (.inl i), some (.inr (.inr (.inl (114 + 2 * t)))), some (.inr (.inr (.inl 35))), some (.inl ((0 : Nat) : Int))]) (e_c rfl (e_c rfl (e_c rfl (e_c rfl (e_c rfl (e_c (e_i rfl) rfl)))))) ?_
      exact key 0 (by omega) (by unfold qJudge; rw [if_pos (by omega)]; simp only [Int.toNat_natCast]; rw [if_neg (by omega), Nat.sub_zero, hYe]) (Or.inl rfl)
    · refine tw_const k96_32 ?_
      exact tw_ri k96_34 (⟨by unfold qJudge; rw [if_pos (by omega)]; simp only [Int.toNat_natCast]; rw [if_pos (by omega)], M, N, rfl, hI0, fun c _ => ⟨rfl, rfl⟩⟩)
theorem x_96 {K : mj_C} {d : Nat} {M : Nat → Nat → Int} {N : Nat → Nat → Int64} (hD : 6 ≤ d) (hK : kOk K) (s im : Nat → Int) (kp : Int) (tx : Nat → Int) (ln : Int) (so it : Nat → Int) (ce : Nat → Int64) (hI : IC s im kp tx ln so it ce M N) (hV : VI s im kp tx ln so it) (t i : Int) (hi : -2147483648 ≤ i ∧ i ≤ 2147483647) : mj_X K d 96 [.inr (.inr (.inl 0)), .inl t, .inl i] (mj_Sh, M, N) (fun r Z => r = some (.inl (qJudge s so it ce t i)) ∧ ∃ M1 N1, Z = (mj_Sh, M1, N1) ∧ IC s im kp tx ln so it ce M1 N1 ∧ fr6 M N M1 N1) := by
  show mj_T K d 96 0 [some (.inr (.inr (.inl 0))), some (.inl t), some (.inl i), none, none, none] [] (mj_Sh, M, N) _
  by_cases hyy : 0 ≤ t ∧ t ≤ 5
  · obtain ⟨tq, rfl⟩ : ∃ tq : Nat, t = (tq : Int) := ⟨t.toNat, by omega⟩
    exact x_96n hD hK s im kp tx ln so it ce hI hV tq (by omega) i hi
  · have hVs := hV.1
    have hs := hVs.1
    have h0 := hs.1 0 (by omega)
    have h5 := hs.2.1
    have h11 := hs.1 11 (by omega)
    have hc11 := hs.2.2.1
    have hI0 := hI
    obtain ⟨⟨hS, hse, hev, hbo⟩, hkp, hkim, hfs, hzz, htxt, htp⟩ := hI
    refine tw_iload k96_0 rfl ?_
    refine tw_callbF (by omega) (S' := []) (as := [.inl t]) k96_1 (x_105 (by omega) t) rfl rfl rfl rfl rfl hyy ?_
    refine tw_zneF k96_4 (by decide) ?_
    refine tw_const k96_7 ?_
    exact tw_ri k96_8 (⟨by unfold qJudge; rw [if_neg hyy], M, N, rfl, hI0, fun c _ => ⟨rfl, rfl⟩⟩)
theorem x_100n {K : mj_C} {d : Nat} {M : Nat → Nat → Int} {N : Nat → Nat → Int64} (hD : 6 ≤ d) (hK : kOk K) (s im : Nat → Int) (kp : Int) (tx : Nat → Int) (ln : Int) (so it : Nat → Int) (ce : Nat → Int64) (hI : IC s im kp tx ln so it ce M N) (hV : VI s im kp tx ln so it) (t : Nat) (ht : t < 6) (k n : Int) : mj_X K d 100 [.inr (.inr (.inl 0)), .inl ((t : Nat) : Int), .inl k, .inl n] (mj_Sh, M, N) (fun r Z => r = some (.inl (qTape ((t : Nat) : Int) k n)) ∧ ∃ M1 N1, Z = (mj_Sh, M1, N1) ∧ IC s im kp tx ln (aTpS so ((t : Nat) : Int) k n) (aTpI it ((t : Nat) : Int) k n) (aTpC ce ((t : Nat) : Int) k n) M1 N1 ∧ fr6 M N M1 N1) := by
  show mj_T K d 100 0 [some (.inr (.inr (.inl 0))), some (.inl ((t : Nat) : Int)), some (.inl k), some (.inl n)] [] (mj_Sh, M, N) _
  have hVs := hV.1
  have hs := hVs.1
  have h0 := hs.1 0 (by omega)
  have h5 := hs.2.1
  have h11 := hs.1 11 (by omega)
  have hc11 := hs.2.2.1
  have hI0 := hI
  obtain ⟨⟨hS, hse, hev, hbo⟩, hkp, hkim, hfs, hzz, htxt, htp⟩ := hI
  have htk := hV.2.2.2.2 t ht
  refine tw_iload k100_0 rfl ?_
  refine tw_callbT (by omega) (S' := []) (as := [.inl ((t : Nat) : Int)]) k100_1 (x_105 (by omega) ((t : Nat) : Int)) rfl rfl rfl rfl rfl (by omega) ?_
  refine tw_zneT k100_4 (by decide) ?_
  refine tw_iload k100_9 rfl ?_
  refine tw_const k100_10 ?_
  refine tw_cne k100_11 (fun h11 => ?_) (fun h11 => ?_)
  · refine tw_iload k100_27 rfl ?_
    refine tw_const k100_28 ?_
    refine tw_const k100_29 ?_
    refine tw_callb (by omega) (S' := []) (as := [.inl k, .inl (0 : Int), .inl (4 : Int)]) k100_30 (x_104 k (0 : Int) (4 : Int)) rfl rfl rfl rfl rfl (fun h30 => ?_) (fun h30 => ?_)
    · refine tw_zeqF k100_33 (by decide) ?_
      refine tw_iload k100_36 rfl ?_
      refine tw_const k100_37 ?_
      refine tw_cle k100_39 (fun h39 => ?_) (fun h39 => ?_)
      · refine tw_iload k100_45 rfl ?_
        refine tw_zge k100_46 (fun h46 => ?_) (fun h46 => ?_)
        · refine tw_aload k100_52 rfl ?_
          refine tw_getr k100_53 f0_8 ?_
          refine tw_iload k100_56 rfl ?_
          refine tw_aald (j := t) (u := (114 + 2 * t)) k100_57 rfl (rr113 ht) ?_
          refine tw_iload k100_58 rfl ?_
          refine tw_iload k100_59 rfl ?_
          refine tw_call (by omega) (S' := []) (as := [.inr (.inr (.inl (114 + 2 * t))), .inl k, .inl n]) k100_60 (x_64 (M := M) (N := N) t ht k n) rfl rfl rfl (rcvT ht rfl) rfl (fun r60 Z60 hq60 => ?_)
          obtain ⟨rfl, M2, N2, rfl, g1, g2, g3, g4, g5⟩ := hq60
          refine tw_as (S := []) (M := M2) (N := N2) rfl rfl ?_
          refine tw_const k100_63 ?_
          exact tw_ri k100_64 (by
             have hok : tpK ((t : Nat) : Int) k n := by unfold tpK; omega
             have hn0 : 0 ≤ tpN k n ∧ tpN k n ≤ 60 := by unfold tpN; split <;> omega
             have hz := tp_yes (so := so) (it := it) (ce := ce) hok
             rw [Int.toNat_natCast] at hz
             refine ⟨by unfold qTape; (try simp only [Int.toNat_natCast]); (repeat' split) <;> first | rfl | omega | (exfalso; omega), M2, N2, rfl, ?_, fun c hc => ⟨g4 c (by omega), g5 c (by omega)⟩⟩
             rw [hz.1, hz.2.1, hz.2.2]
             refine IC_t hs hI0 (fun c hc => g4 c (by omega)) (fun c hc => g5 c (by omega)) (tV_fr2 hV.2.2.2.2 htp t ht (by rw [pU_eq]; first | exact g1 | (rw [g1]; omega)) (by rw [g2, pU_eq]; unfold tpN; split <;> omega) (fun i hi => ?_) g4 g5 (fun i hi => pU_ne hi) (fun i hi => pU_ne hi) (fun i hi => by show (if _ then _ else _) = _; rw [if_neg (by omega)]))
             rw [pU_eq] at hi
             show _ = (if _ then _ else _)
             rw [if_pos (by omega)]
             exact g3 i (by omega))
        · refine tw_const k100_49 ?_
          exact tw_ri k100_51 (⟨by unfold qTape; (try simp only [Int.toNat_natCast]); (repeat' split) <;> first | rfl | omega | (exfalso; omega), M, N, rfl, by have h := tp_no (so := so) (it := it) (ce := ce) (show ¬ tpK ((t : Nat) : Int) k n by unfold tpK; omega); rw [h.1, h.2.1, h.2.2]; exact hI0, fun c _ => ⟨rfl, rfl⟩⟩)
      · refine tw_const k100_42 ?_
        exact tw_ri k100_44 (⟨by unfold qTape; (try simp only [Int.toNat_natCast]); (repeat' split) <;> first | rfl | omega | (exfalso; omega), M, N, rfl, by have h := tp_no (so := so) (it := it) (ce := ce) (show ¬ tpK ((t : Nat) : Int) k n by unfold tpK; omega); rw [h.1, h.2.1, h.2.2]; exact hI0, fun c _ => ⟨rfl, rfl⟩⟩)
    · refine tw_zeqT k100_33 (by decide) ?_
      refine tw_const k100_42 ?_
      exact tw_ri k100_44 (⟨by unfold qTape; (try simp only [Int.toNat_natCast]); (repeat' split) <;> first | rfl | omega | (exfalso; omega), M, N, rfl, by have h := tp_no (so := so) (it := it) (ce := ce) (show ¬ tpK ((t : Nat) : Int) k n by unfold tpK; omega); rw [h.1, h.2.1, h.2.2]; exact hI0, fun c _ => ⟨rfl, rfl⟩⟩)
  · refine tw_aload k100_14 rfl ?_
    refine tw_getr k100_15 f0_8 ?_
    refine tw_iload k100_18 rfl ?_
    refine tw_aald (j := t) (u := (114 + 2 * t)) k100_19 rfl (rr113 ht) ?_
    refine tw_const k100_20 ?_
    refine tw_const k100_21 ?_
    refine tw_call (by omega) (S' := []) (as := [.inr (.inr (.inl (114 + 2 * t))), .inl (-1 : Int), .inl (0 : Int)]) k100_22 (x_64 (M := M) (N := N) t ht (-1 : Int) (0 : Int)) rfl rfl rfl (rcvT ht rfl) rfl (fun r22 Z22 hq22 => ?_)
    obtain ⟨rfl, M2, N2, rfl, g1, g2, g3, g4, g5⟩ := hq22
    refine tw_as (S := []) (M := M2) (N := N2) rfl rfl ?_
    refine tw_const k100_25 ?_
    exact tw_ri k100_26 (by
       have hok : tpK ((t : Nat) : Int) k n := by unfold tpK; omega
       have hn0 : 0 ≤ tpN k n ∧ tpN k n ≤ 60 := by unfold tpN; split <;> omega
       have hz := tp_yes (so := so) (it := it) (ce := ce) hok
       rw [Int.toNat_natCast] at hz
       refine ⟨by unfold qTape; (try simp only [Int.toNat_natCast]); (repeat' split) <;> first | rfl | omega | (exfalso; omega), M2, N2, rfl, ?_, fun c hc => ⟨g4 c (by omega), g5 c (by omega)⟩⟩
       rw [hz.1, hz.2.1, hz.2.2]
       refine IC_t hs hI0 (fun c hc => g4 c (by omega)) (fun c hc => g5 c (by omega)) (tV_fr2 hV.2.2.2.2 htp t ht (by rw [pU_eq]; first | exact g1 | (rw [g1]; omega)) (by rw [g2, pU_eq]; unfold tpN; split <;> omega) (fun i hi => ?_) g4 g5 (fun i hi => pU_ne hi) (fun i hi => pU_ne hi) (fun i hi => by show (if _ then _ else _) = _; rw [if_neg (by omega)]))
       rw [pU_eq] at hi
       show _ = (if _ then _ else _)
       rw [if_pos (by omega)]
       exact g3 i (by omega))
theorem x_100 {K : mj_C} {d : Nat} {M : Nat → Nat → Int} {N : Nat → Nat → Int64} (hD : 6 ≤ d) (hK : kOk K) (s im : Nat → Int) (kp : Int) (tx : Nat → Int) (ln : Int) (so it : Nat → Int) (ce : Nat → Int64) (hI : IC s im kp tx ln so it ce M N) (hV : VI s im kp tx ln so it) (t k n : Int) : mj_X K d 100 [.inr (.inr (.inl 0)), .inl t, .inl k, .inl n] (mj_Sh, M, N) (fun r Z => r = some (.inl (qTape t k n)) ∧ ∃ M1 N1, Z = (mj_Sh, M1, N1) ∧ IC s im kp tx ln (aTpS so t k n) (aTpI it t k n) (aTpC ce t k n) M1 N1 ∧ fr6 M N M1 N1) := by
  show mj_T K d 100 0 [some (.inr (.inr (.inl 0))), some (.inl t), some (.inl k), some (.inl n)] [] (mj_Sh, M, N) _
  by_cases hyy : 0 ≤ t ∧ t ≤ 5
  · obtain ⟨tq, rfl⟩ : ∃ tq : Nat, t = (tq : Int) := ⟨t.toNat, by omega⟩
    exact x_100n hD hK s im kp tx ln so it ce hI hV tq (by omega) k n
  · have hVs := hV.1
    have hs := hVs.1
    have h0 := hs.1 0 (by omega)
    have h5 := hs.2.1
    have h11 := hs.1 11 (by omega)
    have hc11 := hs.2.2.1
    have hI0 := hI
    obtain ⟨⟨hS, hse, hev, hbo⟩, hkp, hkim, hfs, hzz, htxt, htp⟩ := hI
    refine tw_iload k100_0 rfl ?_
    refine tw_callbF (by omega) (S' := []) (as := [.inl t]) k100_1 (x_105 (by omega) t) rfl rfl rfl rfl rfl hyy ?_
    refine tw_zneF k100_4 (by decide) ?_
    refine tw_const k100_7 ?_
    exact tw_ri k100_8 (⟨by unfold qTape; rw [if_neg hyy], M, N, rfl, by have h := tp_no (so := so) (it := it) (ce := ce) (show ¬ tpK t k n by unfold tpK; omega); rw [h.1, h.2.1, h.2.2]; exact hI0, fun c _ => ⟨rfl, rfl⟩⟩)
theorem x_101n {K : mj_C} {d : Nat} {M : Nat → Nat → Int} {N : Nat → Nat → Int64} (hD : 6 ≤ d) (hK : kOk K) (s im : Nat → Int) (kp : Int) (tx : Nat → Int) (ln : Int) (so it : Nat → Int) (ce : Nat → Int64) (hI : IC s im kp tx ln so it ce M N) (hV : VI s im kp tx ln so it) (t : Nat) (ht : t < 6) (i : Int) (v : Int64) : mj_X K d 101 [.inr (.inr (.inl 0)), .inl ((t : Nat) : Int), .inl i, .inr (.inl v)] (mj_Sh, M, N) (fun r Z => r = some (.inl (qItem so it ((t : Nat) : Int) i)) ∧ ∃ M1 N1, Z = (mj_Sh, M1, N1) ∧ IC s im kp tx ln so it (aItem so it ce ((t : Nat) : Int) i v) M1 N1 ∧ fr6 M N M1 N1) := by
  show mj_T K d 101 0 [some (.inr (.inr (.inl 0))), some (.inl ((t : Nat) : Int)), some (.inl i), some (.inr (.inl v)), none, none] [] (mj_Sh, M, N) _
  have hVs := hV.1
  have hs := hVs.1
  have h0 := hs.1 0 (by omega)
  have h5 := hs.2.1
  have h11 := hs.1 11 (by omega)
  have hc11 := hs.2.2.1
  have hI0 := hI
  obtain ⟨⟨hS, hse, hev, hbo⟩, hkp, hkim, hfs, hzz, htxt, htp⟩ := hI
  have htk := hV.2.2.2.2 t ht
  refine tw_iload k101_0 rfl ?_
  refine tw_callbT (by omega) (S' := []) (as := [.inl ((t : Nat) : Int)]) k101_1 (x_105 (by omega) ((t : Nat) : Int)) rfl rfl rfl rfl rfl (by omega) ?_
  refine tw_zneT k101_4 (by decide) ?_
  refine tw_aload k101_9 rfl ?_
  refine tw_getr k101_10 f0_8 ?_
  refine tw_iload k101_13 rfl ?_
  refine tw_aald (j := t) (u := (114 + 2 * t)) k101_14 rfl (rr113 ht) ?_
  refine tw_astore k101_15 rfl (L' := [some (.inr (.inr (.inl 0))), some (.inl ((t : Nat) : Int)), some (.inl i), some (.inr (.inl v)), none, some (.inr (.inr (.inl (114 + 2 * t))))]) rfl ?_
  refine tw_aload k101_17 rfl ?_
  refine tw_geti k101_19 (fT1 ht) rfl (v := (so t)) (htp t ht).1 ?_
  refine tw_const k101_22 ?_
  refine tw_cne k101_23 (fun h23 => ?_) (fun h23 => ?_)
  · refine tw_aload k101_29 rfl ?_
    refine tw_iload k101_31 rfl ?_
    refine tw_callb (by omega) (S' := []) (as := [.inr (.inr (.inl (114 + 2 * t))), .inl i]) k101_32 (x_65 (M := M) (N := N) (by omega) t ht (it t) (htp t ht).2.1 htk.2.1 i) rfl rfl rfl (rcvT ht rfl) rfl (fun h32 => ?_) (fun h32 => ?_)
    · refine tw_zneT k101_35 (by decide) ?_
      refine tw_aload k101_41 rfl ?_
      refine tw_getr k101_43 (fT0 ht) ?_
      refine tw_iload k101_46 rfl ?_
      refine tw_aload k101_47 rfl ?_
      refine tw_lload k101_49 rfl ?_
      refine tw_callp (v := .inr (.inl (lb (so t) v))) (by omega) (S' := [.inl i, .inr (.inr (.inl (115 + 2 * t)))]) (as := [.inr (.inr (.inl (114 + 2 * t))), .inr (.inl v)]) k101_50 (x_67 (M := M) (N := N) t ht (so t) (htp t ht).1 v (by omega)) rfl rfl rfl (rcvT ht rfl) rfl ?_
      refine tw_lastu (j := (i).toNat) k101_53 (alT ht) (by omega) (by omega) ?_
      refine tw_const k101_54 ?_
      exact tw_ri k101_55 (by
         have ha : aItem so it ce ((t : Nat) : Int) i v = pU ce (60 * t + i.toNat) (lb (so t) v) := by unfold aItem tiK; simp only [Int.toNat_natCast]; rw [if_pos ⟨⟨by omega, by omega⟩, by omega, by omega, by omega⟩]
         refine ⟨by unfold qItem; (try simp only [Int.toNat_natCast]); (repeat' split) <;> first | rfl | omega | (exfalso; omega), M, _, rfl, ?_, fun c hc => ⟨rfl, tu_row (by omega)⟩⟩
         rw [ha]
         refine IC_t hs hI0 (fun c _ => rfl) (fun c hc => tu_row (by omega)) (tV_fr2 hV.2.2.2.2 htp t ht (htp t ht).1 (htp t ht).2.1 (fun j hj => ?_) (fun c _ => rfl) (fun c hc => tu_row hc) (fun _ _ => rfl) (fun _ _ => rfl) (fun j hj => pU_ne (by omega)))
         by_cases e : j = i.toNat
         · subst e; rw [tu_eq, pU_eq]
         · rw [tu_ne (Or.inr e), pU_ne (by omega)]; exact (htp t ht).2.2 j hj)
    · refine tw_zneF k101_35 (by decide) ?_
      refine tw_const k101_38 ?_
      exact tw_ri k101_40 (⟨by unfold qItem; (try simp only [Int.toNat_natCast]); (repeat' split) <;> first | rfl | omega | (exfalso; omega), M, N, rfl, by rw [show aItem so it ce ((t : Nat) : Int) i v = ce from if_neg (by unfold tiK; (try simp only [Int.toNat_natCast]); omega)]; exact hI0, fun c _ => ⟨rfl, rfl⟩⟩)
  · refine tw_const k101_26 ?_
    exact tw_ri k101_28 (⟨by unfold qItem; (try simp only [Int.toNat_natCast]); (repeat' split) <;> first | rfl | omega | (exfalso; omega), M, N, rfl, by rw [show aItem so it ce ((t : Nat) : Int) i v = ce from if_neg (by unfold tiK; (try simp only [Int.toNat_natCast]); omega)]; exact hI0, fun c _ => ⟨rfl, rfl⟩⟩)
theorem x_101 {K : mj_C} {d : Nat} {M : Nat → Nat → Int} {N : Nat → Nat → Int64} (hD : 6 ≤ d) (hK : kOk K) (s im : Nat → Int) (kp : Int) (tx : Nat → Int) (ln : Int) (so it : Nat → Int) (ce : Nat → Int64) (hI : IC s im kp tx ln so it ce M N) (hV : VI s im kp tx ln so it) (t i : Int) (v : Int64) : mj_X K d 101 [.inr (.inr (.inl 0)), .inl t, .inl i, .inr (.inl v)] (mj_Sh, M, N) (fun r Z => r = some (.inl (qItem so it t i)) ∧ ∃ M1 N1, Z = (mj_Sh, M1, N1) ∧ IC s im kp tx ln so it (aItem so it ce t i v) M1 N1 ∧ fr6 M N M1 N1) := by
  show mj_T K d 101 0 [some (.inr (.inr (.inl 0))), some (.inl t), some (.inl i), some (.inr (.inl v)), none, none] [] (mj_Sh, M, N) _
  by_cases hyy : 0 ≤ t ∧ t ≤ 5
  · obtain ⟨tq, rfl⟩ : ∃ tq : Nat, t = (tq : Int) := ⟨t.toNat, by omega⟩
    exact x_101n hD hK s im kp tx ln so it ce hI hV tq (by omega) i v
  · have hVs := hV.1
    have hs := hVs.1
    have h0 := hs.1 0 (by omega)
    have h5 := hs.2.1
    have h11 := hs.1 11 (by omega)
    have hc11 := hs.2.2.1
    have hI0 := hI
    obtain ⟨⟨hS, hse, hev, hbo⟩, hkp, hkim, hfs, hzz, htxt, htp⟩ := hI
    refine tw_iload k101_0 rfl ?_
    refine tw_callbF (by omega) (S' := []) (as := [.inl t]) k101_1 (x_105 (by omega) t) rfl rfl rfl rfl rfl hyy ?_
    refine tw_zneF k101_4 (by decide) ?_
    refine tw_const k101_7 ?_
    exact tw_ri k101_8 (⟨by unfold qItem; (try simp only [Int.toNat_natCast]); (repeat' split) <;> first | rfl | omega | (exfalso; omega), M, N, rfl, by rw [show aItem so it ce t i v = ce from if_neg (by unfold tiK; (try simp only [Int.toNat_natCast]); omega)]; exact hI0, fun c _ => ⟨rfl, rfl⟩⟩)
theorem x_102n {K : mj_C} {d : Nat} {M : Nat → Nat → Int} {N : Nat → Nat → Int64} (hD : 6 ≤ d) (hK : kOk K) (s im : Nat → Int) (kp : Int) (tx : Nat → Int) (ln : Int) (so it : Nat → Int) (ce : Nat → Int64) (hI : IC s im kp tx ln so it ce M N) (hV : VI s im kp tx ln so it) (t : Nat) (ht : t < 6) (i : Int) : mj_X K d 102 [.inr (.inr (.inl 0)), .inl ((t : Nat) : Int), .inl i] (mj_Sh, M, N) (fun r Z => r = some (.inr (.inl (qPeek so it ce ((t : Nat) : Int) i))) ∧ ∃ M1 N1, Z = (mj_Sh, M1, N1) ∧ IC s im kp tx ln so it ce M1 N1 ∧ fr6 M N M1 N1) := by
  show mj_T K d 102 0 [some (.inr (.inr (.inl 0))), some (.inl ((t : Nat) : Int)), some (.inl i)] [] (mj_Sh, M, N) _
  have hVs := hV.1
  have hs := hVs.1
  have h0 := hs.1 0 (by omega)
  have h5 := hs.2.1
  have h11 := hs.1 11 (by omega)
  have hc11 := hs.2.2.1
  have hI0 := hI
  obtain ⟨⟨hS, hse, hev, hbo⟩, hkp, hkim, hfs, hzz, htxt, htp⟩ := hI
  have htk := hV.2.2.2.2 t ht
  refine tw_iload k102_0 rfl ?_
  refine tw_callbT (by omega) (S' := []) (as := [.inl ((t : Nat) : Int)]) k102_1 (x_105 (by omega) ((t : Nat) : Int)) rfl rfl rfl rfl rfl (by omega) ?_
  refine tw_zeqF k102_4 (by decide) ?_
  refine tw_aload k102_7 rfl ?_
  refine tw_getr k102_8 f0_8 ?_
  refine tw_iload k102_11 rfl ?_
  refine tw_aald (j := t) (u := (114 + 2 * t)) k102_12 rfl (rr113 ht) ?_
  refine tw_iload k102_13 rfl ?_
  refine tw_callb (by omega) (S' := []) (as := [.inr (.inr (.inl (114 + 2 * t))), .inl i]) k102_14 (x_65 (M := M) (N := N) (by omega) t ht (it t) (htp t ht).2.1 htk.2.1 i) rfl rfl rfl (rcvT ht rfl) rfl (fun h14 => ?_) (fun h14 => ?_)
  · refine tw_zneT k102_17 (by decide) ?_
    refine tw_aload k102_24 rfl ?_
    refine tw_getr k102_25 f0_8 ?_
    refine tw_iload k102_28 rfl ?_
    refine tw_aald (j := t) (u := (114 + 2 * t)) k102_29 rfl (rr113 ht) ?_
    refine tw_getr k102_30 (fT0 ht) ?_
    refine tw_iload k102_33 rfl ?_
    refine tw_lald (j := (i).toNat) (v := (ce (60 * t + i.toNat))) k102_34 (alT ht) (by omega) (by omega) ((htp t ht).2.2 i.toNat (by omega)) ?_
    exact tw_rl k102_35 (⟨by unfold qPeek tiK; simp only [Int.toNat_natCast]; rw [if_pos ⟨⟨by omega, by omega⟩, by omega, by omega, by omega⟩], M, N, rfl, hI0, fun c _ => ⟨rfl, rfl⟩⟩)
  · refine tw_zneF k102_17 (by decide) ?_
    refine tw_lconst k102_20 ?_
    exact tw_rl k102_23 (⟨by unfold qPeek; rw [if_neg (by unfold tiK; (try simp only [Int.toNat_natCast]); omega)]; rfl, M, N, rfl, hI0, fun c _ => ⟨rfl, rfl⟩⟩)
theorem x_102 {K : mj_C} {d : Nat} {M : Nat → Nat → Int} {N : Nat → Nat → Int64} (hD : 6 ≤ d) (hK : kOk K) (s im : Nat → Int) (kp : Int) (tx : Nat → Int) (ln : Int) (so it : Nat → Int) (ce : Nat → Int64) (hI : IC s im kp tx ln so it ce M N) (hV : VI s im kp tx ln so it) (t i : Int) : mj_X K d 102 [.inr (.inr (.inl 0)), .inl t, .inl i] (mj_Sh, M, N) (fun r Z => r = some (.inr (.inl (qPeek so it ce t i))) ∧ ∃ M1 N1, Z = (mj_Sh, M1, N1) ∧ IC s im kp tx ln so it ce M1 N1 ∧ fr6 M N M1 N1) := by
  show mj_T K d 102 0 [some (.inr (.inr (.inl 0))), some (.inl t), some (.inl i)] [] (mj_Sh, M, N) _
  by_cases hyy : 0 ≤ t ∧ t ≤ 5
  · obtain ⟨tq, rfl⟩ : ∃ tq : Nat, t = (tq : Int) := ⟨t.toNat, by omega⟩
    exact x_102n hD hK s im kp tx ln so it ce hI hV tq (by omega) i
  · have hVs := hV.1
    have hs := hVs.1
    have h0 := hs.1 0 (by omega)
    have h5 := hs.2.1
    have h11 := hs.1 11 (by omega)
    have hc11 := hs.2.2.1
    have hI0 := hI
    obtain ⟨⟨hS, hse, hev, hbo⟩, hkp, hkim, hfs, hzz, htxt, htp⟩ := hI
    refine tw_iload k102_0 rfl ?_
    refine tw_callbF (by omega) (S' := []) (as := [.inl t]) k102_1 (x_105 (by omega) t) rfl rfl rfl rfl rfl hyy ?_
    refine tw_zeqT k102_4 (by decide) ?_
    refine tw_lconst k102_20 ?_
    exact tw_rl k102_23 (⟨by unfold qPeek; rw [if_neg (by unfold tiK; (try simp only [Int.toNat_natCast]); omega)]; rfl, M, N, rfl, hI0, fun c _ => ⟨rfl, rfl⟩⟩)
theorem x_103n {K : mj_C} {d : Nat} {M : Nat → Nat → Int} {N : Nat → Nat → Int64} (hD : 6 ≤ d) (hK : kOk K) (s im : Nat → Int) (kp : Int) (tx : Nat → Int) (ln : Int) (so it : Nat → Int) (ce : Nat → Int64) (hI : IC s im kp tx ln so it ce M N) (hV : VI s im kp tx ln so it) (t o : Nat) (ht : t < 6) (ho : o < 6) (i j n : Int) : mj_X K d 103 [.inr (.inr (.inl 0)), .inl ((t : Nat) : Int), .inl i, .inl ((o : Nat) : Int), .inl j, .inl n] (mj_Sh, M, N) (fun r Z => r = some (.inl (qShift so it ((t : Nat) : Int) i ((o : Nat) : Int) j n)) ∧ ∃ M1 N1, Z = (mj_Sh, M1, N1) ∧ IC s im kp tx ln so it (aShift so it ce ((t : Nat) : Int) i ((o : Nat) : Int) j n) M1 N1 ∧ fr6 M N M1 N1) := by
  show mj_T K d 103 0 [some (.inr (.inr (.inl 0))), some (.inl ((t : Nat) : Int)), some (.inl i), some (.inl ((o : Nat) : Int)), some (.inl j), some (.inl n), none, none] [] (mj_Sh, M, N) _
  have hVs := hV.1
  have hs := hVs.1
  have h0 := hs.1 0 (by omega)
  have h5 := hs.2.1
  have h11 := hs.1 11 (by omega)
  have hc11 := hs.2.2.1
  have hI0 := hI
  obtain ⟨⟨hS, hse, hev, hbo⟩, hkp, hkim, hfs, hzz, htxt, htp⟩ := hI
  have htk := hV.2.2.2.2 t ht
  have hok_ := hV.2.2.2.2 o ho
  refine tw_iload k103_0 rfl ?_
  refine tw_callbT (by omega) (S' := []) (as := [.inl ((t : Nat) : Int)]) k103_1 (x_105 (by omega) ((t : Nat) : Int)) rfl rfl rfl rfl rfl (by omega) ?_
  refine tw_zeqF k103_4 (by decide) ?_
  refine tw_iload k103_7 rfl ?_
  refine tw_callbT (by omega) (S' := []) (as := [.inl ((o : Nat) : Int)]) k103_8 (x_105 (by omega) ((o : Nat) : Int)) rfl rfl rfl rfl rfl (by omega) ?_
  refine tw_zneT k103_11 (by decide) ?_
  refine tw_aload k103_16 rfl ?_
  refine tw_getr k103_17 f0_8 ?_
  refine tw_iload k103_20 rfl ?_
  refine tw_aald (j := t) (u := (114 + 2 * t)) k103_21 rfl (rr113 ht) ?_
  refine tw_astore k103_22 rfl (L' := [some (.inr (.inr (.inl 0))), some (.inl ((t : Nat) : Int)), some (.inl i), some (.inl ((o : Nat) : Int)), some (.inl j), some (.inl n), some (.inr (.inr (.inl (114 + 2 * t)))), none]) rfl ?_
  refine tw_aload k103_24 rfl ?_
  refine tw_getr k103_25 f0_8 ?_
  refine tw_iload k103_28 rfl ?_
  refine tw_aald (j := o) (u := (114 + 2 * o)) k103_29 rfl (rr113 ho) ?_
  refine tw_astore k103_30 rfl (L' := [some (.inr (.inr (.inl 0))), some (.inl ((t : Nat) : Int)), some (.inl i), some (.inl ((o : Nat) : Int)), some (.inl j), some (.inl n), some (.inr (.inr (.inl (114 + 2 * t)))), some (.inr (.inr (.inl (114 + 2 * o))))]) rfl ?_
  refine tw_aload k103_32 rfl ?_
  refine tw_geti k103_34 (fT1 ht) rfl (v := (so t)) (htp t ht).1 ?_
  refine tw_const k103_37 ?_
  refine tw_ceq k103_38 (fun h38 => ?_) (fun h38 => ?_)
  · refine tw_const k103_50 ?_
    exact tw_ri k103_52 (⟨by unfold qShift; (try simp only [Int.toNat_natCast]); (repeat' split) <;> first | rfl | omega | (exfalso; omega), M, N, rfl, by rw [show aShift so it ce ((t : Nat) : Int) i ((o : Nat) : Int) j n = ce from if_neg (by unfold tsK; (try simp only [Int.toNat_natCast]); omega)]; exact hI0, fun c _ => ⟨rfl, rfl⟩⟩)
  · refine tw_aload k103_41 rfl ?_
    refine tw_geti k103_43 (fT1 ho) rfl (v := (so o)) (htp o ho).1 ?_
    refine tw_const k103_46 ?_
    refine tw_cne k103_47 (fun h47 => ?_) (fun h47 => ?_)
    · refine tw_aload k103_53 rfl ?_
      refine tw_geti k103_55 (fT1 ht) rfl (v := (so t)) (htp t ht).1 ?_
      refine tw_aload k103_58 rfl ?_
      refine tw_geti k103_60 (fT1 ho) rfl (v := (so o)) (htp o ho).1 ?_
      refine tw_ceq k103_63 (fun h63 => ?_) (fun h63 => ?_)
      · refine tw_aload k103_69 rfl ?_
        refine tw_iload k103_71 rfl ?_
        refine tw_iload k103_72 rfl ?_
        refine tw_callb (by omega) (S' := []) (as := [.inr (.inr (.inl (114 + 2 * t))), .inl i, .inl n]) k103_74 (x_66 (M := M) (N := N) (by omega) t ht (it t) (htp t ht).2.1 htk.2.1 i n) rfl rfl rfl (rcvT ht rfl) rfl (fun h74 => ?_) (fun h74 => ?_)
        · refine tw_zeqF k103_77 (by decide) ?_
          refine tw_aload k103_80 rfl ?_
          refine tw_iload k103_82 rfl ?_
          refine tw_iload k103_84 rfl ?_
          refine tw_callb (by omega) (S' := []) (as := [.inr (.inr (.inl (114 + 2 * o))), .inl j, .inl n]) k103_86 (x_66 (M := M) (N := N) (by omega) o ho (it o) (htp o ho).2.1 hok_.2.1 j n) rfl rfl rfl (rcvT ho rfl) rfl (fun h86 => ?_) (fun h86 => ?_)
          · refine tw_zneT k103_89 (by decide) ?_
            refine tw_aload k103_95 rfl ?_
            refine tw_getr k103_97 (fT0 ht) ?_
            refine tw_iload k103_100 rfl ?_
            refine tw_aload k103_101 rfl ?_
            refine tw_getr k103_103 (fT0 ho) ?_
            refine tw_iload k103_106 rfl ?_
            refine tw_iload k103_108 rfl ?_
            refine tw_acplu (i' := (i).toNat) (j' := (j).toNat) (n' := (n).toNat) k103_110 (alT ht) (alT ho) (by omega) (by omega) (by omega) (by omega) (by omega) rfl ?_
            refine tw_iload k103_113 rfl ?_
            exact tw_ri k103_115 (by
               have ha : aShift so it ce ((t : Nat) : Int) i ((o : Nat) : Int) j n = pCp ce ce (60 * t + i.toNat) (60 * o + j.toNat) n.toNat := by unfold aShift tsK; simp only [Int.toNat_natCast]; rw [if_pos ⟨⟨⟨by omega, by omega⟩, by omega, by omega⟩, ⟨by omega, by omega⟩, by omega, by omega, ⟨by omega, by omega⟩, by omega, by omega⟩]
               have hrow : ∀ c, c ≠ 115 + 2 * o → (mj_cpy N (115 + 2 * t) (i).toNat (115 + 2 * o) (j).toNat (n).toNat) c = N c := fun c hc => by funext k; rw [cp_c, if_neg (by omega)]
               refine ⟨by unfold qShift; (try simp only [Int.toNat_natCast]); (repeat' split) <;> first | rfl | omega | (exfalso; omega), M, _, rfl, ?_, fun c hc => ⟨rfl, hrow c (by omega)⟩⟩
               rw [ha]
               refine IC_t hs hI0 (fun c _ => rfl) (fun c hc => hrow c (by omega)) (tV_fr2 hV.2.2.2.2 htp o ho (htp o ho).1 (htp o ho).2.1 (fun k hk => ?_) (fun c _ => rfl) hrow (fun _ _ => rfl) (fun _ _ => rfl) (fun k hk => by unfold pCp; rw [if_neg (by omega)]))
               rw [cp_c]
               unfold pCp
               by_cases e : j.toNat ≤ k ∧ k < j.toNat + n.toNat
               · rw [if_pos ⟨rfl, e⟩, if_pos (by omega), (htp t ht).2.2 _ (by omega), show 60 * t + i.toNat + (60 * o + k - (60 * o + j.toNat)) = 60 * t + (i.toNat + (k - j.toNat)) by omega]
               · rw [if_neg (fun q => e q.2), if_neg (by omega)]; exact (htp o ho).2.2 k hk)
          · refine tw_zneF k103_89 (by decide) ?_
            refine tw_const k103_92 ?_
            exact tw_ri k103_94 (⟨by unfold qShift; (try simp only [Int.toNat_natCast]); (repeat' split) <;> first | rfl | omega | (exfalso; omega), M, N, rfl, by rw [show aShift so it ce ((t : Nat) : Int) i ((o : Nat) : Int) j n = ce from if_neg (by unfold tsK; (try simp only [Int.toNat_natCast]); omega)]; exact hI0, fun c _ => ⟨rfl, rfl⟩⟩)
        · refine tw_zeqT k103_77 (by decide) ?_
          refine tw_const k103_92 ?_
          exact tw_ri k103_94 (⟨by unfold qShift; (try simp only [Int.toNat_natCast]); (repeat' split) <;> first | rfl | omega | (exfalso; omega), M, N, rfl, by rw [show aShift so it ce ((t : Nat) : Int) i ((o : Nat) : Int) j n = ce from if_neg (by unfold tsK; (try simp only [Int.toNat_natCast]); omega)]; exact hI0, fun c _ => ⟨rfl, rfl⟩⟩)
      · refine tw_const k103_66 ?_
        exact tw_ri k103_68 (⟨by unfold qShift; (try simp only [Int.toNat_natCast]); (repeat' split) <;> first | rfl | omega | (exfalso; omega), M, N, rfl, by rw [show aShift so it ce ((t : Nat) : Int) i ((o : Nat) : Int) j n = ce from if_neg (by unfold tsK; (try simp only [Int.toNat_natCast]); omega)]; exact hI0, fun c _ => ⟨rfl, rfl⟩⟩)
    · refine tw_const k103_50 ?_
      exact tw_ri k103_52 (⟨by unfold qShift; (try simp only [Int.toNat_natCast]); (repeat' split) <;> first | rfl | omega | (exfalso; omega), M, N, rfl, by rw [show aShift so it ce ((t : Nat) : Int) i ((o : Nat) : Int) j n = ce from if_neg (by unfold tsK; (try simp only [Int.toNat_natCast]); omega)]; exact hI0, fun c _ => ⟨rfl, rfl⟩⟩)
theorem x_103 {K : mj_C} {d : Nat} {M : Nat → Nat → Int} {N : Nat → Nat → Int64} (hD : 6 ≤ d) (hK : kOk K) (s im : Nat → Int) (kp : Int) (tx : Nat → Int) (ln : Int) (so it : Nat → Int) (ce : Nat → Int64) (hI : IC s im kp tx ln so it ce M N) (hV : VI s im kp tx ln so it) (t i o j n : Int) : mj_X K d 103 [.inr (.inr (.inl 0)), .inl t, .inl i, .inl o, .inl j, .inl n] (mj_Sh, M, N) (fun r Z => r = some (.inl (qShift so it t i o j n)) ∧ ∃ M1 N1, Z = (mj_Sh, M1, N1) ∧ IC s im kp tx ln so it (aShift so it ce t i o j n) M1 N1 ∧ fr6 M N M1 N1) := by
  show mj_T K d 103 0 [some (.inr (.inr (.inl 0))), some (.inl t), some (.inl i), some (.inl o), some (.inl j), some (.inl n), none, none] [] (mj_Sh, M, N) _
  by_cases hyy : (0 ≤ t ∧ t ≤ 5) ∧ 0 ≤ o ∧ o ≤ 5
  · obtain ⟨tq, rfl⟩ : ∃ tq : Nat, t = (tq : Int) := ⟨t.toNat, by omega⟩
    obtain ⟨oq, rfl⟩ : ∃ oq : Nat, o = (oq : Int) := ⟨o.toNat, by omega⟩
    exact x_103n hD hK s im kp tx ln so it ce hI hV tq oq (by omega) (by omega) i j n
  · have hVs := hV.1
    have hs := hVs.1
    have h0 := hs.1 0 (by omega)
    have h5 := hs.2.1
    have h11 := hs.1 11 (by omega)
    have hc11 := hs.2.2.1
    have hI0 := hI
    obtain ⟨⟨hS, hse, hev, hbo⟩, hkp, hkim, hfs, hzz, htxt, htp⟩ := hI
    by_cases hy1 : 0 ≤ t ∧ t ≤ 5
    · refine tw_iload k103_0 rfl ?_
      refine tw_callbT (by omega) (S' := []) (as := [.inl t]) k103_1 (x_105 (by omega) t) rfl rfl rfl rfl rfl hy1 ?_
      refine tw_zeqF k103_4 (by decide) ?_
      refine tw_iload k103_7 rfl ?_
      refine tw_callbF (by omega) (S' := []) (as := [.inl o]) k103_8 (x_105 (by omega) o) rfl rfl rfl rfl rfl (fun q => hyy ⟨hy1, q⟩) ?_
      refine tw_zneF k103_11 (by decide) ?_
      refine tw_const k103_14 ?_
      exact tw_ri k103_15 (⟨by unfold qShift; (try simp only [Int.toNat_natCast]); (repeat' split) <;> first | rfl | omega | (exfalso; omega), M, N, rfl, by rw [show aShift so it ce t i o j n = ce from if_neg (by unfold tsK; (try simp only [Int.toNat_natCast]); omega)]; exact hI0, fun c _ => ⟨rfl, rfl⟩⟩)
    · refine tw_iload k103_0 rfl ?_
      refine tw_callbF (by omega) (S' := []) (as := [.inl t]) k103_1 (x_105 (by omega) t) rfl rfl rfl rfl rfl hy1 ?_
      refine tw_zeqT k103_4 (by decide) ?_
      refine tw_const k103_14 ?_
      exact tw_ri k103_15 (⟨by unfold qShift; (try simp only [Int.toNat_natCast]); (repeat' split) <;> first | rfl | omega | (exfalso; omega), M, N, rfl, by rw [show aShift so it ce t i o j n = ce from if_neg (by unfold tsK; (try simp only [Int.toNat_natCast]); omega)]; exact hI0, fun c _ => ⟨rfl, rfl⟩⟩)
