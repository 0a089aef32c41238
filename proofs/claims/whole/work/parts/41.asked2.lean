-- the model's answers, second part
theorem wDv_rg {s : Nat → Int} (hs : pRg s) {m : Nat} (hm : m < 10) : 0 ≤ wDv s m ∧ wDv s m ≤ 100 := wDn_rg hs hm
theorem wFl_rg {s : Nat → Int} (hs : pRg s) {i j : Nat} (hj : j < (s 0).toNat) (hi : i < 5) : 0 ≤ wFl s (wB s).1 (wG s) i j ∧ wFl s (wB s).1 (wG s) i j ≤ 1000 := by
  have h5 := hs.2.1
  have hO : gOk (s 0).toNat (wG s) := wGr_ok s (wB s)
  have hU : ∀ y, y < (s 0).toNat → 0 ≤ wU s (wB s).1 (wG s) y := fun y hy => (wU_rg hs (by omega) hO (fun y hy => (wI_p (wB_I hs) y hy).1) hy).1
  have hL := fLf_rg (fst := fun j => (wG s).2.1 (gOf (wG s) j)) (us := wU s (wB s).1 (wG s)) (Y := (s 0).toNat) (wI_p (wB_I hs)) hU j (by omega) (by omega)
  unfold wFl fFl
  split
  · rename_i h
    have h1 := hL i hi
    have h2 := fWn_rg (left := fLf (fun j => (wG s).2.1 (gOf (wG s) j)) (wU s (wB s).1 (wG s)) (wB s).1 j) (a := (wG s).2.1 (gOf (wG s) j)) (hU j hj) (i - (wG s).2.1 (gOf (wG s) j)) (fun k hk => (hL _ (by have := h.1; have := h.2; dsimp only at *; omega)).1)
    dsimp only at *
    omega
  · omega
theorem x_154 {K : mj_C} {d : Nat} {M : Nat → Nat → Int} {N : Nat → Nat → Int64} (hD : 1 ≤ d) (hM : mW M) (what : Int) : mj_X K d 154 [.inr (.inr (.inl 126)), .inl what] (mj_Sh, M, N) (fun r Z => r = some (.inl (qTold (M 127) what)) ∧ Z = (mj_Sh, M, N)) := by
  show mj_T K d 154 0 [some (.inr (.inr (.inl 126))), some (.inl what), none, none] [] (mj_Sh, M, N) _
  have hM0 := hM
  obtain ⟨hs, hG, ⟨hr18, hr19, hr20⟩, hp, hu, hl, hd, hv⟩ := hM
  have h0 := hs.1 0 (by omega)
  have h5 := hs.2.1
  have h11 := hs.1 11 (by omega)
  have hc11 := hs.2.2.1
  have hGk : gOk (M 127 0).toNat (wG (M 127)) := wGr_ok (M 127) (wB (M 127))
  have hG1 : (wG (M 127)).1 ≤ (M 127 0).toNat := hGk.1
  have hI := wB_I hs
  refine tw_iload k154_0 rfl ?_
  refine tw_sw k154_1 ?_
  refine tw_pk (fun h1_0 => ?_) (fun h1_0 => ?_)
  · refine tw_aload k154_68 rfl ?_
    refine tw_getr k154_69 f126_0 ?_
    refine tw_const k154_72 ?_
    refine tw_iald (j := 0) (v := (M 127 0)) k154_73 al127 rfl (by decide) rfl ?_
    exact tw_ri k154_74 (⟨by unfold qTold; rw [if_pos (by omega)], rfl⟩)
  · skip
    refine tw_pk (fun h1_1 => ?_) (fun h1_1 => ?_)
    · refine tw_aload k154_75 rfl ?_
      refine tw_getr k154_76 f126_0 ?_
      refine tw_const k154_79 ?_
      refine tw_iald (j := 11) (v := (M 127 11)) k154_81 al127 rfl (by decide) rfl ?_
      exact tw_ri k154_82 (⟨by unfold qTold; rw [if_neg (by omega), if_pos (by omega)], rfl⟩)
    · skip
      refine tw_pk (fun h1_2 => ?_) (fun h1_2 => ?_)
      · refine tw_aload k154_83 rfl ?_
        refine tw_getr k154_84 f126_0 ?_
        refine tw_const k154_87 ?_
        refine tw_iload k154_89 rfl ?_
        refine tw_iadd k154_90 (v := ((42 : Int) + what)) rfl (by omega) ?_
        refine tw_const k154_91 ?_
        refine tw_isub k154_92 (v := (((42 : Int) + what) - (2 : Int))) rfl (by omega) ?_
        refine tw_iald (j := 42) (v := (M 127 42)) k154_93 al127 (by omega) (by decide) rfl ?_
        exact tw_ri k154_94 (⟨by unfold qTold; rw [if_neg (by omega), if_neg (by omega), if_pos (by omega)], rfl⟩)
      · skip
        refine tw_pk (fun h1_3 => ?_) (fun h1_3 => ?_)
        · refine tw_aload k154_83 rfl ?_
          refine tw_getr k154_84 f126_0 ?_
          refine tw_const k154_87 ?_
          refine tw_iload k154_89 rfl ?_
          refine tw_iadd k154_90 (v := ((42 : Int) + what)) rfl (by omega) ?_
          refine tw_const k154_91 ?_
          refine tw_isub k154_92 (v := (((42 : Int) + what) - (2 : Int))) rfl (by omega) ?_
          refine tw_iald (j := 43) (v := (M 127 43)) k154_93 al127 (by omega) (by decide) rfl ?_
          exact tw_ri k154_94 (⟨by unfold qTold; rw [if_neg (by omega), if_neg (by omega), if_neg (by omega), if_pos (by omega)], rfl⟩)
        · skip
          refine tw_pk (fun h1_4 => ?_) (fun h1_4 => ?_)
          · refine tw_aload k154_83 rfl ?_
            refine tw_getr k154_84 f126_0 ?_
            refine tw_const k154_87 ?_
            refine tw_iload k154_89 rfl ?_
            refine tw_iadd k154_90 (v := ((42 : Int) + what)) rfl (by omega) ?_
            refine tw_const k154_91 ?_
            refine tw_isub k154_92 (v := (((42 : Int) + what) - (2 : Int))) rfl (by omega) ?_
            refine tw_iald (j := 44) (v := (M 127 44)) k154_93 al127 (by omega) (by decide) rfl ?_
            exact tw_ri k154_94 (⟨by unfold qTold; rw [if_neg (by omega), if_neg (by omega), if_neg (by omega), if_neg (by omega), if_pos (by omega)], rfl⟩)
          · skip
            refine tw_pk (fun h1_5 => ?_) (fun h1_5 => ?_)
            · refine tw_aload k154_83 rfl ?_
              refine tw_getr k154_84 f126_0 ?_
              refine tw_const k154_87 ?_
              refine tw_iload k154_89 rfl ?_
              refine tw_iadd k154_90 (v := ((42 : Int) + what)) rfl (by omega) ?_
              refine tw_const k154_91 ?_
              refine tw_isub k154_92 (v := (((42 : Int) + what) - (2 : Int))) rfl (by omega) ?_
              refine tw_iald (j := 45) (v := (M 127 45)) k154_93 al127 (by omega) (by decide) rfl ?_
              exact tw_ri k154_94 (⟨by unfold qTold; rw [if_neg (by omega), if_neg (by omega), if_neg (by omega), if_neg (by omega), if_neg (by omega), if_pos (by omega)], rfl⟩)
            · skip
              refine tw_pk (fun h1_6 => ?_) (fun h1_6 => ?_)
              · refine tw_aload k154_95 rfl ?_
                refine tw_geti k154_96 f126_17 rfl (v := (((wG (M 127)).1 : Nat) : Int)) hG.1 ?_
                exact tw_ri k154_99 (⟨by unfold qTold; rw [if_neg (by omega), if_neg (by omega), if_neg (by omega), if_neg (by omega), if_neg (by omega), if_neg (by omega), if_pos (by omega)], rfl⟩)
              · skip
                refine tw_pk (fun h1_7 => ?_) (fun h1_7 => ?_)
                · refine tw_aload k154_100 rfl ?_
                  refine tw_geti k154_101 f126_18 rfl (v := (wB (M 127)).2.2.1) hr18 ?_
                  exact tw_ri k154_104 (⟨by unfold qTold; rw [if_neg (by omega), if_neg (by omega), if_neg (by omega), if_neg (by omega), if_neg (by omega), if_neg (by omega), if_neg (by omega), if_pos (by omega)], rfl⟩)
                · skip
                  refine tw_pk (fun h1_8 => ?_) (fun h1_8 => ?_)
                  · refine tw_aload k154_105 rfl ?_
                    refine tw_geti k154_106 f126_19 rfl (v := (wB (M 127)).2.2.2.1) hr19 ?_
                    exact tw_ri k154_109 (⟨by unfold qTold; rw [if_neg (by omega), if_neg (by omega), if_neg (by omega), if_neg (by omega), if_neg (by omega), if_neg (by omega), if_neg (by omega), if_neg (by omega), if_pos (by omega)], rfl⟩)
                  · skip
                    refine tw_pk (fun h1_9 => ?_) (fun h1_9 => ?_)
                    · refine tw_aload k154_110 rfl ?_
                      refine tw_geti k154_111 f126_20 rfl (v := (wB (M 127)).2.2.2.2) hr20 ?_
                      exact tw_ri k154_114 (⟨by unfold qTold; rw [if_neg (by omega), if_neg (by omega), if_neg (by omega), if_neg (by omega), if_neg (by omega), if_neg (by omega), if_neg (by omega), if_neg (by omega), if_neg (by omega), if_pos (by omega)], rfl⟩)
                    · skip
                      refine tw_pk (fun h1_10 => ?_) (fun h1_10 => ?_)
                      · refine tw_const k154_115 ?_
                        refine tw_istore k154_116 rfl (L' := [some (.inr (.inr (.inl 126))), some (.inl what), some (.inl (0 : Int)), none]) rfl ?_
                        refine tw_const k154_117 ?_
                        refine tw_istore k154_118 rfl (L' := [some (.inr (.inr (.inl 126))), some (.inl what), some (.inl (0 : Int)), some (.inl (0 : Int))]) rfl ?_
                        have key : ∀ i : Nat, i ≤ (M 127 0).toNat → mj_T K d 154 119 [some (.inr (.inr (.inl 126))), some (.inl what), some (.inl (pS (wB (M 127)).2.1 0 i)), some (.inl ((i : Nat) : Int))] [] (mj_Sh, M, N) (fun r Z => r = some (.inl (qTold (M 127) what)) ∧ Z = (mj_Sh, M, N)) := by
                          refine up_to (M 127 0).toNat ?_ ?_
                          · show mj_T K d 154 119 [some (.inr (.inr (.inl 126))), some (.inl what), some (.inl (pS (wB (M 127)).2.1 0 (M 127 0).toNat)), some (.inl (((M 127 0).toNat : Nat) : Int))] [] (mj_Sh, M, N) (fun r Z => r = some (.inl (qTold (M 127) what)) ∧ Z = (mj_Sh, M, N))
                            refine tw_iload k154_119 rfl ?_
                            refine tw_aload k154_120 rfl ?_
                            refine tw_getr k154_121 f126_0 ?_
                            refine tw_const k154_124 ?_
                            refine tw_iald (j := 0) (v := (M 127 0)) k154_125 al127 rfl (by decide) rfl ?_
                            refine tw_cgeT k154_126 (by omega) ?_
                            refine tw_iload k154_144 rfl ?_
                            exact tw_ri k154_145 (⟨by unfold qTold; rw [if_neg (by omega), if_neg (by omega), if_neg (by omega), if_neg (by omega), if_neg (by omega), if_neg (by omega), if_neg (by omega), if_neg (by omega), if_neg (by omega), if_neg (by omega), if_pos (by omega)], rfl⟩)
                          · intro i hmi ih
                            have ih : mj_T K d 154 119 [some (.inr (.inr (.inl 126))), some (.inl what), some (.inl (pS (wB (M 127)).2.1 0 (i + 1))), some (.inl (((i + 1) : Nat) : Int))] [] (mj_Sh, M, N) (fun r Z => r = some (.inl (qTold (M 127) what)) ∧ Z = (mj_Sh, M, N)) := ih
                            show mj_T K d 154 119 [some (.inr (.inr (.inl 126))), some (.inl what), some (.inl (pS (wB (M 127)).2.1 0 i)), some (.inl ((i : Nat) : Int))] [] (mj_Sh, M, N) (fun r Z => r = some (.inl (qTold (M 127) what)) ∧ Z = (mj_Sh, M, N))
                            have hr5 := pS_rg (f := (wB (M 127)).2.1) (a := 0) (B := 100) i (fun y h1 h2 => (hI.1 y (by omega)).2)
                            have hr6 := hI.1 i (by omega)
                            refine tw_iload k154_119 rfl ?_
                            refine tw_aload k154_120 rfl ?_
                            refine tw_getr k154_121 f126_0 ?_
                            refine tw_const k154_124 ?_
                            refine tw_iald (j := 0) (v := (M 127 0)) k154_125 al127 rfl (by decide) rfl ?_
                            refine tw_cgeF k154_126 (by omega) ?_
                            refine tw_iload k154_129 rfl ?_
                            refine tw_aload k154_130 rfl ?_
                            refine tw_getr k154_131 f126_5 ?_
                            refine tw_iload k154_134 rfl ?_
                            refine tw_iald (j := i) (v := ((wB (M 127)).2.1 i)) k154_135 al131 rfl (by omega) (hp i (by omega)).2 ?_
                            refine tw_iadd k154_136 (v := ((pS (wB (M 127)).2.1 0 i) + ((wB (M 127)).2.1 i))) rfl (by omega) ?_
                            refine tw_istore k154_137 rfl (L' := [some (.inr (.inr (.inl 126))), some (.inl what), some (.inl ((pS (wB (M 127)).2.1 0 i) + ((wB (M 127)).2.1 i))), some (.inl ((i : Nat) : Int))]) rfl ?_
                            refine tw_iinc k154_138 rfl (v := ((i + 1 : Nat) : Int)) rfl (by omega) rfl (L' := [some (.inr (.inr (.inl 126))), some (.inl what), some (.inl ((pS (wB (M 127)).2.1 0 i) + ((wB (M 127)).2.1 i))), some (.inl ((i + 1 : Nat) : Int))]) rfl ?_
                            refine tw_goto k154_141 ?_
                            refine tw_eqL (L' := [some (.inr (.inr (.inl 126))), some (.inl what), some (.inl (pS (wB (M 127)).2.1 0 (i + 1))), some (.inl (((i + 1) : Nat) : Int))]) (e_c rfl (e_c rfl (e_c (e_i (by rw [pS, Nat.zero_add])) (e_c rfl rfl)))) ?_
                            exact ih
                        refine tw_eqL (L' := [some (.inr (.inr (.inl 126))), some (.inl what), some (.inl (pS (wB (M 127)).2.1 0 0)), some (.inl ((0 : Nat) : Int))]) (e_c rfl (e_c rfl (e_c (e_i rfl) (e_c (e_i rfl) rfl)))) ?_
                        exact key 0 (by omega)
                      · skip
                        refine tw_pk (fun h1_11 => ?_) (fun h1_11 => ?_)
                        · refine tw_aload k154_146 rfl ?_
                          refine tw_callp (v := .inl (wSh (M 127))) (by omega) (S' := []) (as := [.inr (.inr (.inl 126))]) k154_147 (x_152 (M := M) (N := N) hM0) rfl rfl rfl rfl rfl ?_
                          exact tw_ri k154_150 (⟨by unfold qTold; rw [if_neg (by omega), if_neg (by omega), if_neg (by omega), if_neg (by omega), if_neg (by omega), if_neg (by omega), if_neg (by omega), if_neg (by omega), if_neg (by omega), if_neg (by omega), if_neg (by omega), if_pos (by omega)], rfl⟩)
                        · skip
                          refine tw_pk (fun h1_12 => ?_) (fun h1_12 => ?_)
                          · refine tw_aload k154_151 rfl ?_
                            refine tw_callp (v := .inl (uN (wG (M 127)))) (by omega) (S' := []) (as := [.inr (.inr (.inl 126))]) k154_152 (x_153 (M := M) (N := N) hM0) rfl rfl rfl rfl rfl ?_
                            exact tw_ri k154_155 (⟨by unfold qTold; rw [if_neg (by omega), if_neg (by omega), if_neg (by omega), if_neg (by omega), if_neg (by omega), if_neg (by omega), if_neg (by omega), if_neg (by omega), if_neg (by omega), if_neg (by omega), if_neg (by omega), if_neg (by omega), if_pos (by omega)], rfl⟩)
                          · skip
                            refine tw_pk0 ?_
                            refine tw_const k154_156 ?_
                            exact tw_ri k154_157 (⟨by unfold qTold; rw [if_neg (by omega), if_neg (by omega), if_neg (by omega), if_neg (by omega), if_neg (by omega), if_neg (by omega), if_neg (by omega), if_neg (by omega), if_neg (by omega), if_neg (by omega), if_neg (by omega), if_neg (by omega), if_neg (by omega)], rfl⟩)
theorem x_155 {K : mj_C} {d : Nat} {M : Nat → Nat → Int} {N : Nat → Nat → Int64} (hD : 1 ≤ d) (hM : mW M) : mj_X K d 155 [.inr (.inr (.inl 126))] (mj_Sh, M, N) (fun r Z => r = some (.inr (.inl (wTt (M 127)))) ∧ Z = (mj_Sh, M, N)) := by
  show mj_T K d 155 0 [some (.inr (.inr (.inl 126))), none, none, none] [] (mj_Sh, M, N) _
  have hM0 := hM
  obtain ⟨hs, hG, ⟨hr18, hr19, hr20⟩, hp, hu, hl, hd, hv⟩ := hM
  have h0 := hs.1 0 (by omega)
  have h5 := hs.2.1
  have h11 := hs.1 11 (by omega)
  have hc11 := hs.2.2.1
  have hGk : gOk (M 127 0).toNat (wG (M 127)) := wGr_ok (M 127) (wB (M 127))
  have hG1 : (wG (M 127)).1 ≤ (M 127 0).toNat := hGk.1
  have key : ∀ i : Nat, i ≤ (M 127 11).toNat → mj_T K d 155 12 [some (.inr (.inr (.inl 126))), some (.inr (.inl (tt (M 127) (wDv (M 127)) (wSh (M 127)) i))), none, some (.inl ((i : Nat) : Int))] [] (mj_Sh, M, N) (fun r Z => r = some (.inr (.inl (wTt (M 127)))) ∧ Z = (mj_Sh, M, N)) := by
    refine up_to (M 127 11).toNat ?_ ?_
    · show mj_T K d 155 12 [some (.inr (.inr (.inl 126))), some (.inr (.inl (tt (M 127) (wDv (M 127)) (wSh (M 127)) (M 127 11).toNat))), none, some (.inl (((M 127 11).toNat : Nat) : Int))] [] (mj_Sh, M, N) (fun r Z => r = some (.inr (.inl (wTt (M 127)))) ∧ Z = (mj_Sh, M, N))
      refine tw_iload k155_12 rfl ?_
      refine tw_aload k155_13 rfl ?_
      refine tw_getr k155_14 f126_0 ?_
      refine tw_const k155_17 ?_
      refine tw_iald (j := 11) (v := (M 127 11)) k155_19 al127 rfl (by decide) rfl ?_
      refine tw_cgeT k155_20 (by omega) ?_
      refine tw_lload k155_50 rfl ?_
      exact tw_rl k155_51 (⟨rfl, rfl⟩)
    · intro i hmi ih
      have ih : mj_T K d 155 12 [some (.inr (.inr (.inl 126))), some (.inr (.inl (tt (M 127) (wDv (M 127)) (wSh (M 127)) (i + 1)))), none, some (.inl (((i + 1) : Nat) : Int))] [] (mj_Sh, M, N) (fun r Z => r = some (.inr (.inl (wTt (M 127)))) ∧ Z = (mj_Sh, M, N)) := ih
      show mj_T K d 155 12 [some (.inr (.inr (.inl 126))), some (.inr (.inl (tt (M 127) (wDv (M 127)) (wSh (M 127)) i))), none, some (.inl ((i : Nat) : Int))] [] (mj_Sh, M, N) (fun r Z => r = some (.inr (.inl (wTt (M 127)))) ∧ Z = (mj_Sh, M, N))
      refine tw_iload k155_12 rfl ?_
      refine tw_aload k155_13 rfl ?_
      refine tw_getr k155_14 f126_0 ?_
      refine tw_const k155_17 ?_
      refine tw_iald (j := 11) (v := (M 127 11)) k155_19 al127 rfl (by decide) rfl ?_
      refine tw_cgeF k155_20 (by omega) ?_
      refine tw_lload k155_23 rfl ?_
      refine tw_aload k155_24 rfl ?_
      refine tw_getr k155_25 f126_14 ?_
      refine tw_iload k155_28 rfl ?_
      refine tw_iald (j := i) (v := (wDv (M 127) i)) k155_29 al140 rfl (by omega) (hd i (by omega)) ?_
      refine tw_i2l k155_30 ?_
      refine tw_aload k155_31 rfl ?_
      refine tw_getr k155_32 f126_0 ?_
      refine tw_const k155_35 ?_
      refine tw_iload k155_37 rfl ?_
      refine tw_iadd k155_38 (v := ((22 + i : Nat) : Int)) rfl (by omega) ?_
      refine tw_iald (j := 22 + i) (v := (M 127 (22 + i))) k155_39 al127 rfl (by omega) rfl ?_
      refine tw_i2l k155_40 ?_
      refine tw_lmul k155_41 ?_
      refine tw_ladd k155_42 ?_
      refine tw_lstore k155_43 rfl (L' := [some (.inr (.inr (.inl 126))), some (.inr (.inl ((tt (M 127) (wDv (M 127)) (wSh (M 127)) i) + (((Int32.ofInt (wDv (M 127) i)).toInt64) * ((Int32.ofInt (M 127 (22 + i))).toInt64))))), none, some (.inl ((i : Nat) : Int))]) rfl ?_
      refine tw_iinc k155_44 rfl (v := ((i + 1 : Nat) : Int)) rfl (by omega) rfl (L' := [some (.inr (.inr (.inl 126))), some (.inr (.inl ((tt (M 127) (wDv (M 127)) (wSh (M 127)) i) + (((Int32.ofInt (wDv (M 127) i)).toInt64) * ((Int32.ofInt (M 127 (22 + i))).toInt64))))), none, some (.inl ((i + 1 : Nat) : Int))]) rfl ?_
      refine tw_goto k155_47 ?_
      refine tw_eqL (L' := [some (.inr (.inr (.inl 126))), some (.inr (.inl (tt (M 127) (wDv (M 127)) (wSh (M 127)) (i + 1)))), none, some (.inl (((i + 1) : Nat) : Int))]) (e_c rfl (e_c (e_l rfl) (e_c rfl (e_c rfl rfl)))) ?_
      exact ih
  refine tw_lconst k155_0 ?_
  refine tw_aload k155_3 rfl ?_
  refine tw_callp (v := .inl (wSh (M 127))) (by omega) (S' := [.inr (.inl (Int64.ofInt 20))]) (as := [.inr (.inr (.inl 126))]) k155_4 (x_152 (M := M) (N := N) hM0) rfl rfl rfl rfl rfl ?_
  refine tw_i2l k155_7 ?_
  refine tw_lmul k155_8 ?_
  refine tw_lstore k155_9 rfl (L' := [some (.inr (.inr (.inl 126))), some (.inr (.inl ((Int64.ofInt 20) * ((Int32.ofInt (wSh (M 127))).toInt64)))), none, none]) rfl ?_
  refine tw_const k155_10 ?_
  refine tw_istore k155_11 rfl (L' := [some (.inr (.inr (.inl 126))), some (.inr (.inl ((Int64.ofInt 20) * ((Int32.ofInt (wSh (M 127))).toInt64)))), none, some (.inl (0 : Int))]) rfl ?_
  refine tw_eqL (L' := [some (.inr (.inr (.inl 126))), some (.inr (.inl (tt (M 127) (wDv (M 127)) (wSh (M 127)) 0))), none, some (.inl ((0 : Nat) : Int))]) (e_c rfl (e_c (e_l rfl) (e_c rfl (e_c (e_i rfl) rfl)))) ?_
  exact key 0 (by omega)
theorem x_156 {K : mj_C} {d : Nat} {M : Nat → Nat → Int} {N : Nat → Nat → Int64} (hD : 3 ≤ d) (hM : mW M) (y : Int) : mj_X K d 156 [.inr (.inr (.inl 126)), .inl y] (mj_Sh, M, N) (fun r Z => r = some (.inl (qAlone (M 127) y)) ∧ Z = (mj_Sh, M, N)) := by
  show mj_T K d 156 0 [some (.inr (.inr (.inl 126))), some (.inl y)] [] (mj_Sh, M, N) _
  obtain ⟨hs, hG, ⟨hr18, hr19, hr20⟩, hp, hu, hl, hd, hv⟩ := hM
  have h0 := hs.1 0 (by omega)
  have h5 := hs.2.1
  have h11 := hs.1 11 (by omega)
  have hc11 := hs.2.2.1
  have hGk : gOk (M 127 0).toNat (wG (M 127)) := wGr_ok (M 127) (wB (M 127))
  have hG1 : (wG (M 127)).1 ≤ (M 127 0).toNat := hGk.1
  by_cases hyy : 0 ≤ y ∧ y < M 127 0
  · obtain ⟨k, rfl⟩ : ∃ k : Nat, y = (k : Int) := ⟨y.toNat, by omega⟩
    refine tw_aload k156_0 rfl ?_
    refine tw_iload k156_1 rfl ?_
    refine tw_callbT (by omega) (S' := []) (as := [.inr (.inr (.inl 126)), .inl ((k : Nat) : Int)]) k156_2 (x_113 (M := M) (N := N) (by omega) hs ((k : Nat) : Int)) rfl rfl rfl rfl rfl hyy ?_
    refine tw_zeqF k156_5 (by decide) ?_
    refine tw_aload k156_8 rfl ?_
    refine tw_iload k156_9 rfl ?_
    refine tw_iload k156_10 rfl ?_
    refine tw_aload k156_11 rfl ?_
    refine tw_getr k156_12 f126_0 ?_
    refine tw_const k156_15 ?_
    refine tw_iload k156_16 rfl ?_
    refine tw_iadd k156_17 (v := ((1 + k : Nat) : Int)) rfl (by omega) ?_
    refine tw_iald (j := 1 + k) (v := (M 127 (1 + k))) k156_18 al127 rfl (by omega) rfl ?_
    refine tw_callp (v := .inl (((pPr (M 127) k (k + 1 - k) (M 127 (1 + k))) : Nat) : Int)) (by omega) (S' := []) (as := [.inr (.inr (.inl 126)), .inl ((k : Nat) : Int), .inl ((k : Nat) : Int), .inl (M 127 (1 + k))]) k156_19 (x_119 (M := M) (N := N) (by omega) hs k k (by omega) (by omega) (M 127 (1 + k))) rfl rfl rfl rfl rfl ?_
    refine tw_goto k156_22 ?_
    exact tw_ri k156_26 (⟨by unfold qAlone; rw [if_pos hyy]; (try simp only [Int.toNat_natCast]); all_goals ((repeat' split) <;> first | rfl | omega), rfl⟩)
  · refine tw_aload k156_0 rfl ?_
    refine tw_iload k156_1 rfl ?_
    refine tw_callbF (by omega) (S' := []) (as := [.inr (.inr (.inl 126)), .inl y]) k156_2 (x_113 (M := M) (N := N) (by omega) hs y) rfl rfl rfl rfl rfl hyy ?_
    refine tw_zeqT k156_5 (by decide) ?_
    refine tw_const k156_25 ?_
    exact tw_ri k156_26 (⟨by unfold qAlone; rw [if_neg hyy], rfl⟩)
theorem x_157 {K : mj_C} {d : Nat} {M : Nat → Nat → Int} {N : Nat → Nat → Int64} (hD : 2 ≤ d) (hM : mW M) (i j : Int) : mj_X K d 157 [.inr (.inr (.inl 126)), .inl i, .inl j] (mj_Sh, M, N) (fun r Z => r = some (.inl (qWay (M 127) i j)) ∧ Z = (mj_Sh, M, N)) := by
  show mj_T K d 157 0 [some (.inr (.inr (.inl 126))), some (.inl i), some (.inl j)] [] (mj_Sh, M, N) _
  obtain ⟨hs, hG, ⟨hr18, hr19, hr20⟩, hp, hu, hl, hd, hv⟩ := hM
  have h0 := hs.1 0 (by omega)
  have h5 := hs.2.1
  have h11 := hs.1 11 (by omega)
  have hc11 := hs.2.2.1
  have hGk : gOk (M 127 0).toNat (wG (M 127)) := wGr_ok (M 127) (wB (M 127))
  have hG1 : (wG (M 127)).1 ≤ (M 127 0).toNat := hGk.1
  by_cases hyy : (0 ≤ i ∧ i < M 127 0) ∧ 0 ≤ j ∧ j < M 127 0
  · obtain ⟨a, rfl⟩ : ∃ a : Nat, i = (a : Int) := ⟨i.toNat, by omega⟩
    obtain ⟨b, rfl⟩ : ∃ b : Nat, j = (b : Int) := ⟨j.toNat, by omega⟩
    refine tw_aload k157_0 rfl ?_
    refine tw_iload k157_1 rfl ?_
    refine tw_callbT (by omega) (S' := []) (as := [.inr (.inr (.inl 126)), .inl ((a : Nat) : Int)]) k157_2 (x_113 (M := M) (N := N) (by omega) hs ((a : Nat) : Int)) rfl rfl rfl rfl rfl hyy.1 ?_
    refine tw_zeqF k157_5 (by decide) ?_
    refine tw_aload k157_8 rfl ?_
    refine tw_iload k157_9 rfl ?_
    refine tw_callbT (by omega) (S' := []) (as := [.inr (.inr (.inl 126)), .inl ((b : Nat) : Int)]) k157_10 (x_113 (M := M) (N := N) (by omega) hs ((b : Nat) : Int)) rfl rfl rfl rfl rfl hyy.2 ?_
    refine tw_zeqF k157_13 (by decide) ?_
    refine tw_aload k157_16 rfl ?_
    refine tw_getr k157_17 f126_15 ?_
    refine tw_const k157_20 ?_
    refine tw_iload k157_21 rfl ?_
    refine tw_imul k157_22 (v := ((5 * a : Nat) : Int)) rfl (by omega) ?_
    refine tw_iload k157_23 rfl ?_
    refine tw_iadd k157_24 (v := (((5 * a) + b : Nat) : Int)) rfl (by omega) ?_
    refine tw_iald (j := (5 * a + b)) (v := (wFl (M 127) (wB (M 127)).1 (wG (M 127)) a b)) k157_25 al141 rfl (by omega) ((hv a b (by omega) (by omega)).trans (if_pos (by omega))) ?_
    refine tw_goto k157_26 ?_
    exact tw_ri k157_30 (⟨by unfold qWay; rw [if_pos hyy]; (try simp only [Int.toNat_natCast]); all_goals ((repeat' split) <;> first | rfl | omega), rfl⟩)
  · by_cases hy1 : 0 ≤ i ∧ i < M 127 0
    · refine tw_aload k157_0 rfl ?_
      refine tw_iload k157_1 rfl ?_
      refine tw_callbT (by omega) (S' := []) (as := [.inr (.inr (.inl 126)), .inl i]) k157_2 (x_113 (M := M) (N := N) (by omega) hs i) rfl rfl rfl rfl rfl hy1 ?_
      refine tw_zeqF k157_5 (by decide) ?_
      refine tw_aload k157_8 rfl ?_
      refine tw_iload k157_9 rfl ?_
      refine tw_callbF (by omega) (S' := []) (as := [.inr (.inr (.inl 126)), .inl j]) k157_10 (x_113 (M := M) (N := N) (by omega) hs j) rfl rfl rfl rfl rfl (fun q => hyy ⟨hy1, q⟩) ?_
      refine tw_zeqT k157_13 (by decide) ?_
      refine tw_const k157_29 ?_
      exact tw_ri k157_30 (⟨by unfold qWay; rw [if_neg hyy], rfl⟩)
    · refine tw_aload k157_0 rfl ?_
      refine tw_iload k157_1 rfl ?_
      refine tw_callbF (by omega) (S' := []) (as := [.inr (.inr (.inl 126)), .inl i]) k157_2 (x_113 (M := M) (N := N) (by omega) hs i) rfl rfl rfl rfl rfl hy1 ?_
      refine tw_zeqT k157_5 (by decide) ?_
      refine tw_const k157_29 ?_
      exact tw_ri k157_30 (⟨by unfold qWay; rw [if_neg hyy], rfl⟩)
theorem x_158 {K : mj_C} {d : Nat} {M : Nat → Nat → Int} {N : Nat → Nat → Int64} (hD : 1 ≤ d) (hM : mW M) (k what : Int) : mj_X K d 158 [.inr (.inr (.inl 126)), .inl k, .inl what] (mj_Sh, M, N) (fun r Z => r = some (.inl (qWays (M 127) k what)) ∧ Z = (mj_Sh, M, N)) := by
  show mj_T K d 158 0 [some (.inr (.inr (.inl 126))), some (.inl k), some (.inl what), none, none, none, none] [] (mj_Sh, M, N) _
  obtain ⟨hs, hG, ⟨hr18, hr19, hr20⟩, hp, hu, hl, hd, hv⟩ := hM
  have h0 := hs.1 0 (by omega)
  have h5 := hs.2.1
  have h11 := hs.1 11 (by omega)
  have hc11 := hs.2.2.1
  have hGk : gOk (M 127 0).toNat (wG (M 127)) := wGr_ok (M 127) (wB (M 127))
  have hG1 : (wG (M 127)).1 ≤ (M 127 0).toNat := hGk.1
  by_cases hyy : 0 ≤ k ∧ 0 ≤ what ∧ what ≤ 2
  · have keyO : ∀ j : Nat, j ≤ (M 127 0).toNat → ∀ o5 o6, fcJ (wFl (M 127) (wB (M 127)).1 (wG (M 127))) j ≤ k → mj_T K d 158 5 [some (.inr (.inr (.inl 126))), some (.inl k), some (.inl what), some (.inl (fcJ (wFl (M 127) (wB (M 127)).1 (wG (M 127))) j)), some (.inl ((j : Nat) : Int)), sv o5, sv o6] [] (mj_Sh, M, N) (fun r Z => r = some (.inl (qWays (M 127) k what)) ∧ Z = (mj_Sh, M, N)) := by
      refine up_to (M 127 0).toNat ?_ ?_
      · show ∀ o5 o6, fcJ (wFl (M 127) (wB (M 127)).1 (wG (M 127))) (M 127 0).toNat ≤ k → mj_T K d 158 5 [some (.inr (.inr (.inl 126))), some (.inl k), some (.inl what), some (.inl (fcJ (wFl (M 127) (wB (M 127)).1 (wG (M 127))) (M 127 0).toNat)), some (.inl (((M 127 0).toNat : Nat) : Int)), sv o5, sv o6] [] (mj_Sh, M, N) (fun r Z => r = some (.inl (qWays (M 127) k what)) ∧ Z = (mj_Sh, M, N))
        intro o5 o6 hn
        refine tw_iload k158_5 rfl ?_
        refine tw_aload k158_7 rfl ?_
        refine tw_getr k158_8 f126_0 ?_
        refine tw_const k158_11 ?_
        refine tw_iald (j := 0) (v := (M 127 0)) k158_12 al127 rfl (by decide) rfl ?_
        refine tw_cgeT k158_13 (by omega) ?_
        refine tw_iload k158_99 rfl ?_
        refine tw_const k158_100 ?_
        refine tw_cneT k158_101 (by omega) ?_
        refine tw_const k158_108 ?_
        exact tw_ri k158_109 (⟨by unfold qWays; rw [if_neg (by omega), if_pos (by omega)]; unfold fPt; rw [if_neg (fk_no hn)], rfl⟩)
      · intro j hmj ih
        have ih : ∀ o5 o6, fcJ (wFl (M 127) (wB (M 127)).1 (wG (M 127))) (j + 1) ≤ k → mj_T K d 158 5 [some (.inr (.inr (.inl 126))), some (.inl k), some (.inl what), some (.inl (fcJ (wFl (M 127) (wB (M 127)).1 (wG (M 127))) (j + 1))), some (.inl (((j + 1) : Nat) : Int)), sv o5, sv o6] [] (mj_Sh, M, N) (fun r Z => r = some (.inl (qWays (M 127) k what)) ∧ Z = (mj_Sh, M, N)) := ih
        show ∀ o5 o6, fcJ (wFl (M 127) (wB (M 127)).1 (wG (M 127))) j ≤ k → mj_T K d 158 5 [some (.inr (.inr (.inl 126))), some (.inl k), some (.inl what), some (.inl (fcJ (wFl (M 127) (wB (M 127)).1 (wG (M 127))) j)), some (.inl ((j : Nat) : Int)), sv o5, sv o6] [] (mj_Sh, M, N) (fun r Z => r = some (.inl (qWays (M 127) k what)) ∧ Z = (mj_Sh, M, N))
        intro o5 o6 hn
        refine tw_iload k158_5 rfl ?_
        refine tw_aload k158_7 rfl ?_
        refine tw_getr k158_8 f126_0 ?_
        refine tw_const k158_11 ?_
        refine tw_iald (j := 0) (v := (M 127 0)) k158_12 al127 rfl (by decide) rfl ?_
        refine tw_cgeF k158_13 (by omega) ?_
        refine tw_const k158_16 ?_
        refine tw_istore k158_17 rfl (L' := [some (.inr (.inr (.inl 126))), some (.inl k), some (.inl what), some (.inl (fcJ (wFl (M 127) (wB (M 127)).1 (wG (M 127))) j)), some (.inl ((j : Nat) : Int)), some (.inl (0 : Int)), sv o6]) rfl ?_
        have ih2 := ih
        have keyI : ∀ i : Nat, i ≤ (j + 1) → ∀ o6, fcJ (wFl (M 127) (wB (M 127)).1 (wG (M 127))) j + fcI (wFl (M 127) (wB (M 127)).1 (wG (M 127))) j i ≤ k → mj_T K d 158 19 [some (.inr (.inr (.inl 126))), some (.inl k), some (.inl what), some (.inl (fcJ (wFl (M 127) (wB (M 127)).1 (wG (M 127))) j + fcI (wFl (M 127) (wB (M 127)).1 (wG (M 127))) j i)), some (.inl ((j : Nat) : Int)), some (.inl ((i : Nat) : Int)), sv o6] [] (mj_Sh, M, N) (fun r Z => r = some (.inl (qWays (M 127) k what)) ∧ Z = (mj_Sh, M, N)) := by
          refine up_to (j + 1) ?_ ?_
          · show ∀ o6, fcJ (wFl (M 127) (wB (M 127)).1 (wG (M 127))) j + fcI (wFl (M 127) (wB (M 127)).1 (wG (M 127))) j (j + 1) ≤ k → mj_T K d 158 19 [some (.inr (.inr (.inl 126))), some (.inl k), some (.inl what), some (.inl (fcJ (wFl (M 127) (wB (M 127)).1 (wG (M 127))) j + fcI (wFl (M 127) (wB (M 127)).1 (wG (M 127))) j (j + 1))), some (.inl ((j : Nat) : Int)), some (.inl (((j + 1) : Nat) : Int)), sv o6] [] (mj_Sh, M, N) (fun r Z => r = some (.inl (qWays (M 127) k what)) ∧ Z = (mj_Sh, M, N))
            intro o6 hn
            refine tw_iload k158_19 rfl ?_
            refine tw_iload k158_21 rfl ?_
            refine tw_cgtT k158_23 (by omega) ?_
            refine tw_iinc k158_93 rfl (v := ((j + 1 : Nat) : Int)) rfl (by omega) rfl (L' := [some (.inr (.inr (.inl 126))), some (.inl k), some (.inl what), some (.inl (fcJ (wFl (M 127) (wB (M 127)).1 (wG (M 127))) j + fcI (wFl (M 127) (wB (M 127)).1 (wG (M 127))) j (j + 1))), some (.inl ((j + 1 : Nat) : Int)), some (.inl (((j + 1) : Nat) : Int)), sv o6]) rfl ?_
            refine tw_goto k158_96 ?_
            refine tw_eqL (L' := [some (.inr (.inr (.inl 126))), some (.inl k), some (.inl what), some (.inl (fcJ (wFl (M 127) (wB (M 127)).1 (wG (M 127))) (j + 1))), some (.inl (((j + 1) : Nat) : Int)), sv (some (.inl (((j + 1) : Nat) : Int))), sv o6]) (e_c rfl (e_c rfl (e_c rfl (e_c (e_i (by rw [fcJ_s])) (e_c rfl (e_c rfl (e_c rfl rfl))))))) ?_
            exact ih2 _ _ (by rw [fcJ_s]; exact hn)
          · intro i hmi ih
            have ih : ∀ o6, fcJ (wFl (M 127) (wB (M 127)).1 (wG (M 127))) j + fcI (wFl (M 127) (wB (M 127)).1 (wG (M 127))) j (i + 1) ≤ k → mj_T K d 158 19 [some (.inr (.inr (.inl 126))), some (.inl k), some (.inl what), some (.inl (fcJ (wFl (M 127) (wB (M 127)).1 (wG (M 127))) j + fcI (wFl (M 127) (wB (M 127)).1 (wG (M 127))) j (i + 1))), some (.inl ((j : Nat) : Int)), some (.inl (((i + 1) : Nat) : Int)), sv o6] [] (mj_Sh, M, N) (fun r Z => r = some (.inl (qWays (M 127) k what)) ∧ Z = (mj_Sh, M, N)) := ih
            show ∀ o6, fcJ (wFl (M 127) (wB (M 127)).1 (wG (M 127))) j + fcI (wFl (M 127) (wB (M 127)).1 (wG (M 127))) j i ≤ k → mj_T K d 158 19 [some (.inr (.inr (.inl 126))), some (.inl k), some (.inl what), some (.inl (fcJ (wFl (M 127) (wB (M 127)).1 (wG (M 127))) j + fcI (wFl (M 127) (wB (M 127)).1 (wG (M 127))) j i)), some (.inl ((j : Nat) : Int)), some (.inl ((i : Nat) : Int)), sv o6] [] (mj_Sh, M, N) (fun r Z => r = some (.inl (qWays (M 127) k what)) ∧ Z = (mj_Sh, M, N))
            intro o6 hn
            have q1 := fcI_rg (f := (wFl (M 127) (wB (M 127)).1 (wG (M 127)))) (j := j) i
            have q2 := fcJ_rg (f := (wFl (M 127) (wB (M 127)).1 (wG (M 127)))) j (by omega)
            refine tw_iload k158_19 rfl ?_
            refine tw_iload k158_21 rfl ?_
            refine tw_cgtF k158_23 (by omega) ?_
            refine tw_aload k158_26 rfl ?_
            refine tw_getr k158_27 f126_15 ?_
            refine tw_const k158_30 ?_
            refine tw_iload k158_31 rfl ?_
            refine tw_imul k158_33 (v := ((5 * i : Nat) : Int)) rfl (by omega) ?_
            refine tw_iload k158_34 rfl ?_
            refine tw_iadd k158_36 (v := (((5 * i) + j : Nat) : Int)) rfl (by omega) ?_
            refine tw_iald (j := (5 * i + j)) (v := (wFl (M 127) (wB (M 127)).1 (wG (M 127)) i j)) k158_37 al141 rfl (by omega) ((hv i j (by omega) (by omega)).trans (if_pos (by omega))) ?_
            refine tw_istore k158_38 rfl (L' := [some (.inr (.inr (.inl 126))), some (.inl k), some (.inl what), some (.inl (fcJ (wFl (M 127) (wB (M 127)).1 (wG (M 127))) j + fcI (wFl (M 127) (wB (M 127)).1 (wG (M 127))) j i)), some (.inl ((j : Nat) : Int)), some (.inl ((i : Nat) : Int)), some (.inl (wFl (M 127) (wB (M 127)).1 (wG (M 127)) i j))]) rfl ?_
            refine tw_iload k158_40 rfl ?_
            refine tw_zne k158_42 (fun h42 => ?_) (fun h42 => ?_)
            · refine tw_iload k158_48 rfl ?_
              refine tw_iload k158_49 rfl ?_
              refine tw_cne k158_50 (fun h50 => ?_) (fun h50 => ?_)
              · refine tw_iinc k158_84 rfl (v := ((fcJ (wFl (M 127) (wB (M 127)).1 (wG (M 127))) j + fcI (wFl (M 127) (wB (M 127)).1 (wG (M 127))) j i) + (1 : Int))) rfl (by omega) rfl (L' := [some (.inr (.inr (.inl 126))), some (.inl k), some (.inl what), some (.inl ((fcJ (wFl (M 127) (wB (M 127)).1 (wG (M 127))) j + fcI (wFl (M 127) (wB (M 127)).1 (wG (M 127))) j i) + (1 : Int))), some (.inl ((j : Nat) : Int)), some (.inl ((i : Nat) : Int)), some (.inl (wFl (M 127) (wB (M 127)).1 (wG (M 127)) i j))]) rfl ?_
                refine tw_iinc k158_87 rfl (v := ((i + 1 : Nat) : Int)) rfl (by omega) rfl (L' := [some (.inr (.inr (.inl 126))), some (.inl k), some (.inl what), some (.inl ((fcJ (wFl (M 127) (wB (M 127)).1 (wG (M 127))) j + fcI (wFl (M 127) (wB (M 127)).1 (wG (M 127))) j i) + (1 : Int))), some (.inl ((j : Nat) : Int)), some (.inl ((i + 1 : Nat) : Int)), some (.inl (wFl (M 127) (wB (M 127)).1 (wG (M 127)) i j))]) rfl ?_
                refine tw_goto k158_90 ?_
                refine tw_eqL (L' := [some (.inr (.inr (.inl 126))), some (.inl k), some (.inl what), some (.inl (fcJ (wFl (M 127) (wB (M 127)).1 (wG (M 127))) j + fcI (wFl (M 127) (wB (M 127)).1 (wG (M 127))) j (i + 1))), some (.inl ((j : Nat) : Int)), some (.inl (((i + 1) : Nat) : Int)), sv (some (.inl (wFl (M 127) (wB (M 127)).1 (wG (M 127)) i j)))]) (e_c rfl (e_c rfl (e_c rfl (e_c (e_i (by rw [fcI_s, if_neg h42]; omega)) (e_c rfl (e_c rfl (e_c rfl rfl))))))) ?_
                exact ih _ (by rw [fcI_s, if_neg h42]; omega)
              · refine tw_iload k158_53 rfl ?_
                refine tw_const k158_54 ?_
                refine tw_const k158_55 ?_
                refine tw_callbT (by omega) (S' := []) (as := [.inl what, .inl (0 : Int), .inl (2 : Int)]) k158_56 (x_112 what (0 : Int) (2 : Int)) rfl rfl rfl rfl rfl (by omega) ?_
                refine tw_zeqF k158_59 (by decide) ?_
                refine tw_iload k158_62 rfl ?_
                refine tw_zne k158_63 (fun h63 => ?_) (fun h63 => ?_)
                · refine tw_iload k158_71 rfl ?_
                  refine tw_const k158_72 ?_
                  refine tw_cne k158_73 (fun h73 => ?_) (fun h73 => ?_)
                  · refine tw_iload k158_81 rfl ?_
                    exact tw_ri k158_83 (⟨by unfold qWays; rw [if_neg (by omega), if_pos (by omega)]; have hf := fk_at (f := (wFl (M 127) (wB (M 127)).1 (wG (M 127)))) (Y := (M 127 0).toNat) (by omega) (by omega) h42 (show _ = k by omega); unfold fPt; rw [hf.1, if_pos (by omega), hf.2]; (repeat' split) <;> first | rfl | omega, rfl⟩)
                  · refine tw_iload k158_76 rfl ?_
                    refine tw_goto k158_78 ?_
                    exact tw_ri k158_83 (⟨by unfold qWays; rw [if_neg (by omega), if_pos (by omega)]; have hf := fk_at (f := (wFl (M 127) (wB (M 127)).1 (wG (M 127)))) (Y := (M 127 0).toNat) (by omega) (by omega) h42 (show _ = k by omega); unfold fPt; rw [hf.1, if_pos (by omega), hf.2]; (repeat' split) <;> first | rfl | omega, rfl⟩)
                · refine tw_iload k158_66 rfl ?_
                  refine tw_goto k158_68 ?_
                  exact tw_ri k158_83 (⟨by unfold qWays; rw [if_neg (by omega), if_pos (by omega)]; have hf := fk_at (f := (wFl (M 127) (wB (M 127)).1 (wG (M 127)))) (Y := (M 127 0).toNat) (by omega) (by omega) h42 (show _ = k by omega); unfold fPt; rw [hf.1, if_pos (by omega), hf.2]; (repeat' split) <;> first | rfl | omega, rfl⟩)
            · refine tw_goto k158_45 ?_
              refine tw_iinc k158_87 rfl (v := ((i + 1 : Nat) : Int)) rfl (by omega) rfl (L' := [some (.inr (.inr (.inl 126))), some (.inl k), some (.inl what), some (.inl (fcJ (wFl (M 127) (wB (M 127)).1 (wG (M 127))) j + fcI (wFl (M 127) (wB (M 127)).1 (wG (M 127))) j i)), some (.inl ((j : Nat) : Int)), some (.inl ((i + 1 : Nat) : Int)), some (.inl (wFl (M 127) (wB (M 127)).1 (wG (M 127)) i j))]) rfl ?_
              refine tw_goto k158_90 ?_
              refine tw_eqL (L' := [some (.inr (.inr (.inl 126))), some (.inl k), some (.inl what), some (.inl (fcJ (wFl (M 127) (wB (M 127)).1 (wG (M 127))) j + fcI (wFl (M 127) (wB (M 127)).1 (wG (M 127))) j (i + 1))), some (.inl ((j : Nat) : Int)), some (.inl (((i + 1) : Nat) : Int)), sv (some (.inl (wFl (M 127) (wB (M 127)).1 (wG (M 127)) i j)))]) (e_c rfl (e_c rfl (e_c rfl (e_c (e_i (by rw [fcI_s, if_pos h42]; omega)) (e_c rfl (e_c rfl (e_c rfl rfl))))))) ?_
              exact ih _ (by rw [fcI_s, if_pos h42]; omega)
        refine tw_eqL (L' := [some (.inr (.inr (.inl 126))), some (.inl k), some (.inl what), some (.inl (fcJ (wFl (M 127) (wB (M 127)).1 (wG (M 127))) j + fcI (wFl (M 127) (wB (M 127)).1 (wG (M 127))) j 0)), some (.inl ((j : Nat) : Int)), some (.inl ((0 : Nat) : Int)), sv o6]) (e_c rfl (e_c rfl (e_c rfl (e_c (e_i (by show fcJ (wFl (M 127) (wB (M 127)).1 (wG (M 127))) j = fcJ (wFl (M 127) (wB (M 127)).1 (wG (M 127))) j + 0; omega)) (e_c rfl (e_c (e_i rfl) (e_c rfl rfl))))))) ?_
        exact keyI 0 (by omega) _ (by show fcJ (wFl (M 127) (wB (M 127)).1 (wG (M 127))) j + 0 ≤ k; omega)
    refine tw_const k158_0 ?_
    refine tw_istore k158_1 rfl (L' := [some (.inr (.inr (.inl 126))), some (.inl k), some (.inl what), some (.inl (0 : Int)), none, none, none]) rfl ?_
    refine tw_const k158_2 ?_
    refine tw_istore k158_3 rfl (L' := [some (.inr (.inr (.inl 126))), some (.inl k), some (.inl what), some (.inl (0 : Int)), some (.inl (0 : Int)), none, none]) rfl ?_
    refine tw_eqL (L' := [some (.inr (.inr (.inl 126))), some (.inl k), some (.inl what), some (.inl (fcJ (wFl (M 127) (wB (M 127)).1 (wG (M 127))) 0)), some (.inl ((0 : Nat) : Int)), sv none, sv none]) (e_c rfl (e_c rfl (e_c rfl (e_c (e_i rfl) (e_c (e_i rfl) (e_c rfl (e_c rfl rfl))))))) ?_
    exact keyO 0 (by omega) none none (show (0 : Int) ≤ k by omega)
  · have keyO : ∀ j : Nat, j ≤ (M 127 0).toNat → ∀ o5 o6, mj_T K d 158 5 [some (.inr (.inr (.inl 126))), some (.inl k), some (.inl what), some (.inl (fcJ (wFl (M 127) (wB (M 127)).1 (wG (M 127))) j)), some (.inl ((j : Nat) : Int)), sv o5, sv o6] [] (mj_Sh, M, N) (fun r Z => r = some (.inl (qWays (M 127) k what)) ∧ Z = (mj_Sh, M, N)) := by
      refine up_to (M 127 0).toNat ?_ ?_
      · show ∀ o5 o6, mj_T K d 158 5 [some (.inr (.inr (.inl 126))), some (.inl k), some (.inl what), some (.inl (fcJ (wFl (M 127) (wB (M 127)).1 (wG (M 127))) (M 127 0).toNat)), some (.inl (((M 127 0).toNat : Nat) : Int)), sv o5, sv o6] [] (mj_Sh, M, N) (fun r Z => r = some (.inl (qWays (M 127) k what)) ∧ Z = (mj_Sh, M, N))
        intro o5 o6
        refine tw_iload k158_5 rfl ?_
        refine tw_aload k158_7 rfl ?_
        refine tw_getr k158_8 f126_0 ?_
        refine tw_const k158_11 ?_
        refine tw_iald (j := 0) (v := (M 127 0)) k158_12 al127 rfl (by decide) rfl ?_
        refine tw_cgeT k158_13 (by omega) ?_
        refine tw_iload k158_99 rfl ?_
        refine tw_const k158_100 ?_
        refine tw_cne k158_101 (fun h101 => ?_) (fun h101 => ?_)
        · refine tw_const k158_108 ?_
          exact tw_ri k158_109 (⟨by unfold qWays; rw [if_neg (by omega), if_neg (by omega)], rfl⟩)
        · refine tw_iload k158_104 rfl ?_
          refine tw_goto k158_105 ?_
          exact tw_ri k158_109 (⟨by unfold qWays; rw [if_pos (by omega)], rfl⟩)
      · intro j hmj ih
        have ih : ∀ o5 o6, mj_T K d 158 5 [some (.inr (.inr (.inl 126))), some (.inl k), some (.inl what), some (.inl (fcJ (wFl (M 127) (wB (M 127)).1 (wG (M 127))) (j + 1))), some (.inl (((j + 1) : Nat) : Int)), sv o5, sv o6] [] (mj_Sh, M, N) (fun r Z => r = some (.inl (qWays (M 127) k what)) ∧ Z = (mj_Sh, M, N)) := ih
        show ∀ o5 o6, mj_T K d 158 5 [some (.inr (.inr (.inl 126))), some (.inl k), some (.inl what), some (.inl (fcJ (wFl (M 127) (wB (M 127)).1 (wG (M 127))) j)), some (.inl ((j : Nat) : Int)), sv o5, sv o6] [] (mj_Sh, M, N) (fun r Z => r = some (.inl (qWays (M 127) k what)) ∧ Z = (mj_Sh, M, N))
        intro o5 o6
        refine tw_iload k158_5 rfl ?_
        refine tw_aload k158_7 rfl ?_
        refine tw_getr k158_8 f126_0 ?_
        refine tw_const k158_11 ?_
        refine tw_iald (j := 0) (v := (M 127 0)) k158_12 al127 rfl (by decide) rfl ?_
        refine tw_cgeF k158_13 (by omega) ?_
        refine tw_const k158_16 ?_
        refine tw_istore k158_17 rfl (L' := [some (.inr (.inr (.inl 126))), some (.inl k), some (.inl what), some (.inl (fcJ (wFl (M 127) (wB (M 127)).1 (wG (M 127))) j)), some (.inl ((j : Nat) : Int)), some (.inl (0 : Int)), sv o6]) rfl ?_
        have ih2 := ih
        have keyI : ∀ i : Nat, i ≤ (j + 1) → ∀ o6, mj_T K d 158 19 [some (.inr (.inr (.inl 126))), some (.inl k), some (.inl what), some (.inl (fcJ (wFl (M 127) (wB (M 127)).1 (wG (M 127))) j + fcI (wFl (M 127) (wB (M 127)).1 (wG (M 127))) j i)), some (.inl ((j : Nat) : Int)), some (.inl ((i : Nat) : Int)), sv o6] [] (mj_Sh, M, N) (fun r Z => r = some (.inl (qWays (M 127) k what)) ∧ Z = (mj_Sh, M, N)) := by
          refine up_to (j + 1) ?_ ?_
          · show ∀ o6, mj_T K d 158 19 [some (.inr (.inr (.inl 126))), some (.inl k), some (.inl what), some (.inl (fcJ (wFl (M 127) (wB (M 127)).1 (wG (M 127))) j + fcI (wFl (M 127) (wB (M 127)).1 (wG (M 127))) j (j + 1))), some (.inl ((j : Nat) : Int)), some (.inl (((j + 1) : Nat) : Int)), sv o6] [] (mj_Sh, M, N) (fun r Z => r = some (.inl (qWays (M 127) k what)) ∧ Z = (mj_Sh, M, N))
            intro o6
            refine tw_iload k158_19 rfl ?_
            refine tw_iload k158_21 rfl ?_
            refine tw_cgtT k158_23 (by omega) ?_
            refine tw_iinc k158_93 rfl (v := ((j + 1 : Nat) : Int)) rfl (by omega) rfl (L' := [some (.inr (.inr (.inl 126))), some (.inl k), some (.inl what), some (.inl (fcJ (wFl (M 127) (wB (M 127)).1 (wG (M 127))) j + fcI (wFl (M 127) (wB (M 127)).1 (wG (M 127))) j (j + 1))), some (.inl ((j + 1 : Nat) : Int)), some (.inl (((j + 1) : Nat) : Int)), sv o6]) rfl ?_
            refine tw_goto k158_96 ?_
            refine tw_eqL (L' := [some (.inr (.inr (.inl 126))), some (.inl k), some (.inl what), some (.inl (fcJ (wFl (M 127) (wB (M 127)).1 (wG (M 127))) (j + 1))), some (.inl (((j + 1) : Nat) : Int)), sv (some (.inl (((j + 1) : Nat) : Int))), sv o6]) (e_c rfl (e_c rfl (e_c rfl (e_c (e_i (by rw [fcJ_s])) (e_c rfl (e_c rfl (e_c rfl rfl))))))) ?_
            exact ih2 _ _
          · intro i hmi ih
            have ih : ∀ o6, mj_T K d 158 19 [some (.inr (.inr (.inl 126))), some (.inl k), some (.inl what), some (.inl (fcJ (wFl (M 127) (wB (M 127)).1 (wG (M 127))) j + fcI (wFl (M 127) (wB (M 127)).1 (wG (M 127))) j (i + 1))), some (.inl ((j : Nat) : Int)), some (.inl (((i + 1) : Nat) : Int)), sv o6] [] (mj_Sh, M, N) (fun r Z => r = some (.inl (qWays (M 127) k what)) ∧ Z = (mj_Sh, M, N)) := ih
            show ∀ o6, mj_T K d 158 19 [some (.inr (.inr (.inl 126))), some (.inl k), some (.inl what), some (.inl (fcJ (wFl (M 127) (wB (M 127)).1 (wG (M 127))) j + fcI (wFl (M 127) (wB (M 127)).1 (wG (M 127))) j i)), some (.inl ((j : Nat) : Int)), some (.inl ((i : Nat) : Int)), sv o6] [] (mj_Sh, M, N) (fun r Z => r = some (.inl (qWays (M 127) k what)) ∧ Z = (mj_Sh, M, N))
            intro o6
            have q1 := fcI_rg (f := (wFl (M 127) (wB (M 127)).1 (wG (M 127)))) (j := j) i
            have q2 := fcJ_rg (f := (wFl (M 127) (wB (M 127)).1 (wG (M 127)))) j (by omega)
            by_cases hnk : (fcJ (wFl (M 127) (wB (M 127)).1 (wG (M 127))) j + fcI (wFl (M 127) (wB (M 127)).1 (wG (M 127))) j i) = k
            · refine tw_iload k158_19 rfl ?_
              refine tw_iload k158_21 rfl ?_
              refine tw_cgtF k158_23 (by omega) ?_
              refine tw_aload k158_26 rfl ?_
              refine tw_getr k158_27 f126_15 ?_
              refine tw_const k158_30 ?_
              refine tw_iload k158_31 rfl ?_
              refine tw_imul k158_33 (v := ((5 * i : Nat) : Int)) rfl (by omega) ?_
              refine tw_iload k158_34 rfl ?_
              refine tw_iadd k158_36 (v := (((5 * i) + j : Nat) : Int)) rfl (by omega) ?_
              refine tw_iald (j := (5 * i + j)) (v := (wFl (M 127) (wB (M 127)).1 (wG (M 127)) i j)) k158_37 al141 rfl (by omega) ((hv i j (by omega) (by omega)).trans (if_pos (by omega))) ?_
              refine tw_istore k158_38 rfl (L' := [some (.inr (.inr (.inl 126))), some (.inl k), some (.inl what), some (.inl (fcJ (wFl (M 127) (wB (M 127)).1 (wG (M 127))) j + fcI (wFl (M 127) (wB (M 127)).1 (wG (M 127))) j i)), some (.inl ((j : Nat) : Int)), some (.inl ((i : Nat) : Int)), some (.inl (wFl (M 127) (wB (M 127)).1 (wG (M 127)) i j))]) rfl ?_
              refine tw_iload k158_40 rfl ?_
              refine tw_zne k158_42 (fun h42 => ?_) (fun h42 => ?_)
              · refine tw_iload k158_48 rfl ?_
                refine tw_iload k158_49 rfl ?_
                refine tw_cneF k158_50 (by omega) ?_
                refine tw_iload k158_53 rfl ?_
                refine tw_const k158_54 ?_
                refine tw_const k158_55 ?_
                refine tw_callbF (by omega) (S' := []) (as := [.inl what, .inl (0 : Int), .inl (2 : Int)]) k158_56 (x_112 what (0 : Int) (2 : Int)) rfl rfl rfl rfl rfl (by omega) ?_
                refine tw_zeqT k158_59 (by decide) ?_
                refine tw_iinc k158_84 rfl (v := ((fcJ (wFl (M 127) (wB (M 127)).1 (wG (M 127))) j + fcI (wFl (M 127) (wB (M 127)).1 (wG (M 127))) j i) + (1 : Int))) rfl (by omega) rfl (L' := [some (.inr (.inr (.inl 126))), some (.inl k), some (.inl what), some (.inl ((fcJ (wFl (M 127) (wB (M 127)).1 (wG (M 127))) j + fcI (wFl (M 127) (wB (M 127)).1 (wG (M 127))) j i) + (1 : Int))), some (.inl ((j : Nat) : Int)), some (.inl ((i : Nat) : Int)), some (.inl (wFl (M 127) (wB (M 127)).1 (wG (M 127)) i j))]) rfl ?_
                refine tw_iinc k158_87 rfl (v := ((i + 1 : Nat) : Int)) rfl (by omega) rfl (L' := [some (.inr (.inr (.inl 126))), some (.inl k), some (.inl what), some (.inl ((fcJ (wFl (M 127) (wB (M 127)).1 (wG (M 127))) j + fcI (wFl (M 127) (wB (M 127)).1 (wG (M 127))) j i) + (1 : Int))), some (.inl ((j : Nat) : Int)), some (.inl ((i + 1 : Nat) : Int)), some (.inl (wFl (M 127) (wB (M 127)).1 (wG (M 127)) i j))]) rfl ?_
                refine tw_goto k158_90 ?_
                refine tw_eqL (L' := [some (.inr (.inr (.inl 126))), some (.inl k), some (.inl what), some (.inl (fcJ (wFl (M 127) (wB (M 127)).1 (wG (M 127))) j + fcI (wFl (M 127) (wB (M 127)).1 (wG (M 127))) j (i + 1))), some (.inl ((j : Nat) : Int)), some (.inl (((i + 1) : Nat) : Int)), sv (some (.inl (wFl (M 127) (wB (M 127)).1 (wG (M 127)) i j)))]) (e_c rfl (e_c rfl (e_c rfl (e_c (e_i (by rw [fcI_s, if_neg h42]; omega)) (e_c rfl (e_c rfl (e_c rfl rfl))))))) ?_
                exact ih _
              · refine tw_goto k158_45 ?_
                refine tw_iinc k158_87 rfl (v := ((i + 1 : Nat) : Int)) rfl (by omega) rfl (L' := [some (.inr (.inr (.inl 126))), some (.inl k), some (.inl what), some (.inl (fcJ (wFl (M 127) (wB (M 127)).1 (wG (M 127))) j + fcI (wFl (M 127) (wB (M 127)).1 (wG (M 127))) j i)), some (.inl ((j : Nat) : Int)), some (.inl ((i + 1 : Nat) : Int)), some (.inl (wFl (M 127) (wB (M 127)).1 (wG (M 127)) i j))]) rfl ?_
                refine tw_goto k158_90 ?_
                refine tw_eqL (L' := [some (.inr (.inr (.inl 126))), some (.inl k), some (.inl what), some (.inl (fcJ (wFl (M 127) (wB (M 127)).1 (wG (M 127))) j + fcI (wFl (M 127) (wB (M 127)).1 (wG (M 127))) j (i + 1))), some (.inl ((j : Nat) : Int)), some (.inl (((i + 1) : Nat) : Int)), sv (some (.inl (wFl (M 127) (wB (M 127)).1 (wG (M 127)) i j)))]) (e_c rfl (e_c rfl (e_c rfl (e_c (e_i (by rw [fcI_s, if_pos h42]; omega)) (e_c rfl (e_c rfl (e_c rfl rfl))))))) ?_
                exact ih _
            · refine tw_iload k158_19 rfl ?_
              refine tw_iload k158_21 rfl ?_
              refine tw_cgtF k158_23 (by omega) ?_
              refine tw_aload k158_26 rfl ?_
              refine tw_getr k158_27 f126_15 ?_
              refine tw_const k158_30 ?_
              refine tw_iload k158_31 rfl ?_
              refine tw_imul k158_33 (v := ((5 * i : Nat) : Int)) rfl (by omega) ?_
              refine tw_iload k158_34 rfl ?_
              refine tw_iadd k158_36 (v := (((5 * i) + j : Nat) : Int)) rfl (by omega) ?_
              refine tw_iald (j := (5 * i + j)) (v := (wFl (M 127) (wB (M 127)).1 (wG (M 127)) i j)) k158_37 al141 rfl (by omega) ((hv i j (by omega) (by omega)).trans (if_pos (by omega))) ?_
              refine tw_istore k158_38 rfl (L' := [some (.inr (.inr (.inl 126))), some (.inl k), some (.inl what), some (.inl (fcJ (wFl (M 127) (wB (M 127)).1 (wG (M 127))) j + fcI (wFl (M 127) (wB (M 127)).1 (wG (M 127))) j i)), some (.inl ((j : Nat) : Int)), some (.inl ((i : Nat) : Int)), some (.inl (wFl (M 127) (wB (M 127)).1 (wG (M 127)) i j))]) rfl ?_
              refine tw_iload k158_40 rfl ?_
              refine tw_zne k158_42 (fun h42 => ?_) (fun h42 => ?_)
              · refine tw_iload k158_48 rfl ?_
                refine tw_iload k158_49 rfl ?_
                refine tw_cneT k158_50 (by omega) ?_
                refine tw_iinc k158_84 rfl (v := ((fcJ (wFl (M 127) (wB (M 127)).1 (wG (M 127))) j + fcI (wFl (M 127) (wB (M 127)).1 (wG (M 127))) j i) + (1 : Int))) rfl (by omega) rfl (L' := [some (.inr (.inr (.inl 126))), some (.inl k), some (.inl what), some (.inl ((fcJ (wFl (M 127) (wB (M 127)).1 (wG (M 127))) j + fcI (wFl (M 127) (wB (M 127)).1 (wG (M 127))) j i) + (1 : Int))), some (.inl ((j : Nat) : Int)), some (.inl ((i : Nat) : Int)), some (.inl (wFl (M 127) (wB (M 127)).1 (wG (M 127)) i j))]) rfl ?_
                refine tw_iinc k158_87 rfl (v := ((i + 1 : Nat) : Int)) rfl (by omega) rfl (L' := [some (.inr (.inr (.inl 126))), some (.inl k), some (.inl what), some (.inl ((fcJ (wFl (M 127) (wB (M 127)).1 (wG (M 127))) j + fcI (wFl (M 127) (wB (M 127)).1 (wG (M 127))) j i) + (1 : Int))), some (.inl ((j : Nat) : Int)), some (.inl ((i + 1 : Nat) : Int)), some (.inl (wFl (M 127) (wB (M 127)).1 (wG (M 127)) i j))]) rfl ?_
                refine tw_goto k158_90 ?_
                refine tw_eqL (L' := [some (.inr (.inr (.inl 126))), some (.inl k), some (.inl what), some (.inl (fcJ (wFl (M 127) (wB (M 127)).1 (wG (M 127))) j + fcI (wFl (M 127) (wB (M 127)).1 (wG (M 127))) j (i + 1))), some (.inl ((j : Nat) : Int)), some (.inl (((i + 1) : Nat) : Int)), sv (some (.inl (wFl (M 127) (wB (M 127)).1 (wG (M 127)) i j)))]) (e_c rfl (e_c rfl (e_c rfl (e_c (e_i (by rw [fcI_s, if_neg h42]; omega)) (e_c rfl (e_c rfl (e_c rfl rfl))))))) ?_
                exact ih _
              · refine tw_goto k158_45 ?_
                refine tw_iinc k158_87 rfl (v := ((i + 1 : Nat) : Int)) rfl (by omega) rfl (L' := [some (.inr (.inr (.inl 126))), some (.inl k), some (.inl what), some (.inl (fcJ (wFl (M 127) (wB (M 127)).1 (wG (M 127))) j + fcI (wFl (M 127) (wB (M 127)).1 (wG (M 127))) j i)), some (.inl ((j : Nat) : Int)), some (.inl ((i + 1 : Nat) : Int)), some (.inl (wFl (M 127) (wB (M 127)).1 (wG (M 127)) i j))]) rfl ?_
                refine tw_goto k158_90 ?_
                refine tw_eqL (L' := [some (.inr (.inr (.inl 126))), some (.inl k), some (.inl what), some (.inl (fcJ (wFl (M 127) (wB (M 127)).1 (wG (M 127))) j + fcI (wFl (M 127) (wB (M 127)).1 (wG (M 127))) j (i + 1))), some (.inl ((j : Nat) : Int)), some (.inl (((i + 1) : Nat) : Int)), sv (some (.inl (wFl (M 127) (wB (M 127)).1 (wG (M 127)) i j)))]) (e_c rfl (e_c rfl (e_c rfl (e_c (e_i (by rw [fcI_s, if_pos h42]; omega)) (e_c rfl (e_c rfl (e_c rfl rfl))))))) ?_
                exact ih _
        refine tw_eqL (L' := [some (.inr (.inr (.inl 126))), some (.inl k), some (.inl what), some (.inl (fcJ (wFl (M 127) (wB (M 127)).1 (wG (M 127))) j + fcI (wFl (M 127) (wB (M 127)).1 (wG (M 127))) j 0)), some (.inl ((j : Nat) : Int)), some (.inl ((0 : Nat) : Int)), sv o6]) (e_c rfl (e_c rfl (e_c rfl (e_c (e_i (by show fcJ (wFl (M 127) (wB (M 127)).1 (wG (M 127))) j = fcJ (wFl (M 127) (wB (M 127)).1 (wG (M 127))) j + 0; omega)) (e_c rfl (e_c (e_i rfl) (e_c rfl rfl))))))) ?_
        exact keyI 0 (by omega) _
    refine tw_const k158_0 ?_
    refine tw_istore k158_1 rfl (L' := [some (.inr (.inr (.inl 126))), some (.inl k), some (.inl what), some (.inl (0 : Int)), none, none, none]) rfl ?_
    refine tw_const k158_2 ?_
    refine tw_istore k158_3 rfl (L' := [some (.inr (.inr (.inl 126))), some (.inl k), some (.inl what), some (.inl (0 : Int)), some (.inl (0 : Int)), none, none]) rfl ?_
    refine tw_eqL (L' := [some (.inr (.inr (.inl 126))), some (.inl k), some (.inl what), some (.inl (fcJ (wFl (M 127) (wB (M 127)).1 (wG (M 127))) 0)), some (.inl ((0 : Nat) : Int)), sv none, sv none]) (e_c rfl (e_c rfl (e_c rfl (e_c (e_i rfl) (e_c (e_i rfl) (e_c rfl (e_c rfl rfl))))))) ?_
    exact keyO 0 (by omega) none none
theorem x_159 {K : mj_C} {d : Nat} {M : Nat → Nat → Int} {N : Nat → Nat → Int64} (hM : mW M) (a b : Nat) (ha : (a : Int) < M 127 11) (hb : (b : Int) < M 127 11) : mj_X K d 159 [.inr (.inr (.inl 126)), .inl ((a : Nat) : Int), .inl ((b : Nat) : Int)] (mj_Sh, M, N) (fun r Z => r = some (.inl (if rkA (M 127) (wDv (M 127)) a b then 1 else 0)) ∧ Z = (mj_Sh, M, N)) := by
  show mj_T K d 159 0 [some (.inr (.inr (.inl 126))), some (.inl ((a : Nat) : Int)), some (.inl ((b : Nat) : Int)), none, none] [] (mj_Sh, M, N) _
  obtain ⟨hs, hG, ⟨hr18, hr19, hr20⟩, hp, hu, hl, hd, hv⟩ := hM
  have h0 := hs.1 0 (by omega)
  have h5 := hs.2.1
  have h11 := hs.1 11 (by omega)
  have hc11 := hs.2.2.1
  have hGk : gOk (M 127 0).toNat (wG (M 127)) := wGr_ok (M 127) (wB (M 127))
  have hG1 : (wG (M 127)).1 ≤ (M 127 0).toNat := hGk.1
  have q1 := wDv_rg hs (m := a) (by omega)
  have q2 := wDv_rg hs (m := b) (by omega)
  have q3 := hs.1 (32 + a) (by omega)
  have q4 := hs.1 (32 + b) (by omega)
  refine tw_aload k159_0 rfl ?_
  refine tw_getr k159_1 f126_0 ?_
  refine tw_const k159_4 ?_
  refine tw_iload k159_6 rfl ?_
  refine tw_iadd k159_7 (v := ((32 + a : Nat) : Int)) rfl (by omega) ?_
  refine tw_iald (j := 32 + a) (v := (M 127 (32 + a))) k159_8 al127 rfl (by omega) rfl ?_
  refine tw_aload k159_9 rfl ?_
  refine tw_getr k159_10 f126_14 ?_
  refine tw_iload k159_13 rfl ?_
  refine tw_iald (j := a) (v := (wDv (M 127) a)) k159_14 al140 rfl (by omega) (hd a (by omega)) ?_
  refine tw_isub k159_15 (v := ((M 127 (32 + a)) - (wDv (M 127) a))) rfl (by omega) ?_
  refine tw_istore k159_16 rfl (L' := [some (.inr (.inr (.inl 126))), some (.inl ((a : Nat) : Int)), some (.inl ((b : Nat) : Int)), some (.inl ((M 127 (32 + a)) - (wDv (M 127) a))), none]) rfl ?_
  refine tw_aload k159_17 rfl ?_
  refine tw_getr k159_18 f126_0 ?_
  refine tw_const k159_21 ?_
  refine tw_iload k159_23 rfl ?_
  refine tw_iadd k159_24 (v := ((32 + b : Nat) : Int)) rfl (by omega) ?_
  refine tw_iald (j := 32 + b) (v := (M 127 (32 + b))) k159_25 al127 rfl (by omega) rfl ?_
  refine tw_aload k159_26 rfl ?_
  refine tw_getr k159_27 f126_14 ?_
  refine tw_iload k159_30 rfl ?_
  refine tw_iald (j := b) (v := (wDv (M 127) b)) k159_31 al140 rfl (by omega) (hd b (by omega)) ?_
  refine tw_isub k159_32 (v := ((M 127 (32 + b)) - (wDv (M 127) b))) rfl (by omega) ?_
  refine tw_istore k159_33 rfl (L' := [some (.inr (.inr (.inl 126))), some (.inl ((a : Nat) : Int)), some (.inl ((b : Nat) : Int)), some (.inl ((M 127 (32 + a)) - (wDv (M 127) a))), some (.inl ((M 127 (32 + b)) - (wDv (M 127) b)))]) rfl ?_
  refine tw_iload k159_35 rfl ?_
  refine tw_iload k159_36 rfl ?_
  refine tw_ceq k159_38 (fun h38 => ?_) (fun h38 => ?_)
  · refine tw_aload k159_53 rfl ?_
    refine tw_getr k159_54 f126_0 ?_
    refine tw_const k159_57 ?_
    refine tw_iload k159_59 rfl ?_
    refine tw_iadd k159_60 (v := ((22 + a : Nat) : Int)) rfl (by omega) ?_
    refine tw_iald (j := 22 + a) (v := (M 127 (22 + a))) k159_61 al127 rfl (by omega) rfl ?_
    refine tw_aload k159_62 rfl ?_
    refine tw_getr k159_63 f126_0 ?_
    refine tw_const k159_66 ?_
    refine tw_iload k159_68 rfl ?_
    refine tw_iadd k159_69 (v := ((22 + b : Nat) : Int)) rfl (by omega) ?_
    refine tw_iald (j := 22 + b) (v := (M 127 (22 + b))) k159_70 al127 rfl (by omega) rfl ?_
    refine tw_ceq k159_71 (fun h71 => ?_) (fun h71 => ?_)
    · refine tw_iload k159_103 rfl ?_
      refine tw_iload k159_104 rfl ?_
      refine tw_cle k159_105 (fun h105 => ?_) (fun h105 => ?_)
      · refine tw_const k159_112 ?_
        exact tw_rb k159_113 (by decide) (⟨by rw [if_neg (by unfold rkA; omega)], rfl⟩)
      · refine tw_const k159_108 ?_
        refine tw_goto k159_109 ?_
        exact tw_rb k159_113 (by decide) (⟨by rw [if_pos (by unfold rkA; omega)], rfl⟩)
    · refine tw_aload k159_74 rfl ?_
      refine tw_getr k159_75 f126_0 ?_
      refine tw_const k159_78 ?_
      refine tw_iload k159_80 rfl ?_
      refine tw_iadd k159_81 (v := ((22 + a : Nat) : Int)) rfl (by omega) ?_
      refine tw_iald (j := 22 + a) (v := (M 127 (22 + a))) k159_82 al127 rfl (by omega) rfl ?_
      refine tw_aload k159_83 rfl ?_
      refine tw_getr k159_84 f126_0 ?_
      refine tw_const k159_87 ?_
      refine tw_iload k159_89 rfl ?_
      refine tw_iadd k159_90 (v := ((22 + b : Nat) : Int)) rfl (by omega) ?_
      refine tw_iald (j := 22 + b) (v := (M 127 (22 + b))) k159_91 al127 rfl (by omega) rfl ?_
      refine tw_cge k159_92 (fun h92 => ?_) (fun h92 => ?_)
      · refine tw_const k159_99 ?_
        refine tw_goto k159_100 ?_
        exact tw_rb k159_113 (by decide) (⟨by rw [if_neg (by unfold rkA; omega)], rfl⟩)
      · refine tw_const k159_95 ?_
        refine tw_goto k159_96 ?_
        exact tw_rb k159_113 (by decide) (⟨by rw [if_pos (by unfold rkA; omega)], rfl⟩)
  · refine tw_iload k159_41 rfl ?_
    refine tw_iload k159_42 rfl ?_
    refine tw_cle k159_44 (fun h44 => ?_) (fun h44 => ?_)
    · refine tw_const k159_51 ?_
      exact tw_rb k159_52 (by decide) (⟨by rw [if_neg (by unfold rkA; omega)], rfl⟩)
    · refine tw_const k159_47 ?_
      refine tw_goto k159_48 ?_
      exact tw_rb k159_52 (by decide) (⟨by rw [if_pos (by unfold rkA; omega)], rfl⟩)
theorem x_160 {K : mj_C} {d : Nat} {M : Nat → Nat → Int} {N : Nat → Nat → Int64} (hD : 1 ≤ d) (hM : mW M) (k : Int) : mj_X K d 160 [.inr (.inr (.inl 126)), .inl k] (mj_Sh, M, N) (fun r Z => r = some (.inl (qRank (M 127) k)) ∧ Z = (mj_Sh, M, N)) := by
  show mj_T K d 160 0 [some (.inr (.inr (.inl 126))), some (.inl k), none, none, none] [] (mj_Sh, M, N) _
  have hM0 := hM
  obtain ⟨hs, hG, ⟨hr18, hr19, hr20⟩, hp, hu, hl, hd, hv⟩ := hM
  have h0 := hs.1 0 (by omega)
  have h5 := hs.2.1
  have h11 := hs.1 11 (by omega)
  have hc11 := hs.2.2.1
  have hGk : gOk (M 127 0).toNat (wG (M 127)) := wGr_ok (M 127) (wB (M 127))
  have hG1 : (wG (M 127)).1 ≤ (M 127 0).toNat := hGk.1
  have keyO : ∀ q : Nat, q ≤ (M 127 11).toNat → ∀ o3 o4, (∀ j, j < q → ¬ rkN (M 127) (wDv (M 127)) j = k) → mj_T K d 160 2 [some (.inr (.inr (.inl 126))), some (.inl k), some (.inl ((q : Nat) : Int)), sv o3, sv o4] [] (mj_Sh, M, N) (fun r Z => r = some (.inl (qRank (M 127) k)) ∧ Z = (mj_Sh, M, N)) := by
    refine up_to (M 127 11).toNat ?_ ?_
    · show ∀ o3 o4, (∀ j, j < (M 127 11).toNat → ¬ rkN (M 127) (wDv (M 127)) j = k) → mj_T K d 160 2 [some (.inr (.inr (.inl 126))), some (.inl k), some (.inl (((M 127 11).toNat : Nat) : Int)), sv o3, sv o4] [] (mj_Sh, M, N) (fun r Z => r = some (.inl (qRank (M 127) k)) ∧ Z = (mj_Sh, M, N))
      intro o3 o4 hN
      refine tw_iload k160_2 rfl ?_
      refine tw_aload k160_3 rfl ?_
      refine tw_getr k160_4 f126_0 ?_
      refine tw_const k160_7 ?_
      refine tw_iald (j := 11) (v := (M 127 11)) k160_9 al127 rfl (by decide) rfl ?_
      refine tw_cgeT k160_10 (by omega) ?_
      refine tw_const k160_73 ?_
      exact tw_ri k160_74 (⟨by unfold qRank; rw [pFd_no _ 0 (fun j _ hj => hN j (by omega)), if_neg (by omega)], rfl⟩)
    · intro q hmq ih
      have ih : ∀ o3 o4, (∀ j, j < (q + 1) → ¬ rkN (M 127) (wDv (M 127)) j = k) → mj_T K d 160 2 [some (.inr (.inr (.inl 126))), some (.inl k), some (.inl (((q + 1) : Nat) : Int)), sv o3, sv o4] [] (mj_Sh, M, N) (fun r Z => r = some (.inl (qRank (M 127) k)) ∧ Z = (mj_Sh, M, N)) := ih
      show ∀ o3 o4, (∀ j, j < q → ¬ rkN (M 127) (wDv (M 127)) j = k) → mj_T K d 160 2 [some (.inr (.inr (.inl 126))), some (.inl k), some (.inl ((q : Nat) : Int)), sv o3, sv o4] [] (mj_Sh, M, N) (fun r Z => r = some (.inl (qRank (M 127) k)) ∧ Z = (mj_Sh, M, N))
      intro o3 o4 hN
      refine tw_iload k160_2 rfl ?_
      refine tw_aload k160_3 rfl ?_
      refine tw_getr k160_4 f126_0 ?_
      refine tw_const k160_7 ?_
      refine tw_iald (j := 11) (v := (M 127 11)) k160_9 al127 rfl (by decide) rfl ?_
      refine tw_cgeF k160_10 (by omega) ?_
      refine tw_const k160_13 ?_
      refine tw_istore k160_14 rfl (L' := [some (.inr (.inr (.inl 126))), some (.inl k), some (.inl ((q : Nat) : Int)), some (.inl (0 : Int)), sv o4]) rfl ?_
      refine tw_const k160_15 ?_
      refine tw_istore k160_16 rfl (L' := [some (.inr (.inr (.inl 126))), some (.inl k), some (.inl ((q : Nat) : Int)), some (.inl (0 : Int)), some (.inl (0 : Int))]) rfl ?_
      have ih2 := ih
      have keyI : ∀ i : Nat, i ≤ (M 127 11).toNat → mj_T K d 160 18 [some (.inr (.inr (.inl 126))), some (.inl k), some (.inl ((q : Nat) : Int)), some (.inl (pS (fun o => if rkA (M 127) (wDv (M 127)) o q then (1 : Int) else 0) 0 i)), some (.inl ((i : Nat) : Int))] [] (mj_Sh, M, N) (fun r Z => r = some (.inl (qRank (M 127) k)) ∧ Z = (mj_Sh, M, N)) := by
        refine up_to (M 127 11).toNat ?_ ?_
        · show mj_T K d 160 18 [some (.inr (.inr (.inl 126))), some (.inl k), some (.inl ((q : Nat) : Int)), some (.inl (pS (fun o => if rkA (M 127) (wDv (M 127)) o q then (1 : Int) else 0) 0 (M 127 11).toNat)), some (.inl (((M 127 11).toNat : Nat) : Int))] [] (mj_Sh, M, N) (fun r Z => r = some (.inl (qRank (M 127) k)) ∧ Z = (mj_Sh, M, N))
          refine tw_iload k160_18 rfl ?_
          refine tw_aload k160_20 rfl ?_
          refine tw_getr k160_21 f126_0 ?_
          refine tw_const k160_24 ?_
          refine tw_iald (j := 11) (v := (M 127 11)) k160_26 al127 rfl (by decide) rfl ?_
          refine tw_cgeT k160_27 (by omega) ?_
          refine tw_iload k160_60 rfl ?_
          refine tw_iload k160_61 rfl ?_
          refine tw_cne k160_62 (fun h62 => ?_) (fun h62 => ?_)
          · refine tw_iinc k160_67 rfl (v := ((q + 1 : Nat) : Int)) rfl (by omega) rfl (L' := [some (.inr (.inr (.inl 126))), some (.inl k), some (.inl ((q + 1 : Nat) : Int)), some (.inl (pS (fun o => if rkA (M 127) (wDv (M 127)) o q then (1 : Int) else 0) 0 (M 127 11).toNat)), some (.inl (((M 127 11).toNat : Nat) : Int))]) rfl ?_
            refine tw_goto k160_70 ?_
            refine tw_eqL (L' := [some (.inr (.inr (.inl 126))), some (.inl k), some (.inl (((q + 1) : Nat) : Int)), sv (some (.inl (pS (fun o => if rkA (M 127) (wDv (M 127)) o q then (1 : Int) else 0) 0 (M 127 11).toNat))), sv (some (.inl (((M 127 11).toNat : Nat) : Int)))]) (e_c rfl (e_c rfl (e_c rfl (e_c rfl (e_c rfl rfl))))) ?_
            exact ih2 _ _ (fun j hj => by
              by_cases e : j = q
              · subst e; exact h62
              · exact hN j (by omega))
          · refine tw_iload k160_65 rfl ?_
            exact tw_ri k160_66 (⟨by unfold qRank; rw [pFd_eq _ 0 q (by omega) (by omega) h62 (fun j _ hj => hN j hj), if_pos (by omega)], rfl⟩)
        · intro i hmi ih
          have ih : mj_T K d 160 18 [some (.inr (.inr (.inl 126))), some (.inl k), some (.inl ((q : Nat) : Int)), some (.inl (pS (fun o => if rkA (M 127) (wDv (M 127)) o q then (1 : Int) else 0) 0 (i + 1))), some (.inl (((i + 1) : Nat) : Int))] [] (mj_Sh, M, N) (fun r Z => r = some (.inl (qRank (M 127) k)) ∧ Z = (mj_Sh, M, N)) := ih
          show mj_T K d 160 18 [some (.inr (.inr (.inl 126))), some (.inl k), some (.inl ((q : Nat) : Int)), some (.inl (pS (fun o => if rkA (M 127) (wDv (M 127)) o q then (1 : Int) else 0) 0 i)), some (.inl ((i : Nat) : Int))] [] (mj_Sh, M, N) (fun r Z => r = some (.inl (qRank (M 127) k)) ∧ Z = (mj_Sh, M, N))
          have hr := pS_rg (f := (fun o => if rkA (M 127) (wDv (M 127)) o q then (1 : Int) else 0)) (a := 0) (B := 1) i (fun k _ _ => by (try dsimp only); split <;> omega)
          refine tw_iload k160_18 rfl ?_
          refine tw_aload k160_20 rfl ?_
          refine tw_getr k160_21 f126_0 ?_
          refine tw_const k160_24 ?_
          refine tw_iald (j := 11) (v := (M 127 11)) k160_26 al127 rfl (by decide) rfl ?_
          refine tw_cgeF k160_27 (by omega) ?_
          refine tw_iload k160_30 rfl ?_
          refine tw_iload k160_31 rfl ?_
          refine tw_iload k160_33 rfl ?_
          refine tw_ceq k160_34 (fun h34 => ?_) (fun h34 => ?_)
          · refine tw_const k160_51 ?_
            refine tw_iadd k160_52 (v := ((pS (fun o => if rkA (M 127) (wDv (M 127)) o q then (1 : Int) else 0) 0 i) + (0 : Int))) rfl (by omega) ?_
            refine tw_istore k160_53 rfl (L' := [some (.inr (.inr (.inl 126))), some (.inl k), some (.inl ((q : Nat) : Int)), some (.inl ((pS (fun o => if rkA (M 127) (wDv (M 127)) o q then (1 : Int) else 0) 0 i) + (0 : Int))), some (.inl ((i : Nat) : Int))]) rfl ?_
            refine tw_iinc k160_54 rfl (v := ((i + 1 : Nat) : Int)) rfl (by omega) rfl (L' := [some (.inr (.inr (.inl 126))), some (.inl k), some (.inl ((q : Nat) : Int)), some (.inl ((pS (fun o => if rkA (M 127) (wDv (M 127)) o q then (1 : Int) else 0) 0 i) + (0 : Int))), some (.inl ((i + 1 : Nat) : Int))]) rfl ?_
            refine tw_goto k160_57 ?_
            refine tw_eqL (L' := [some (.inr (.inr (.inl 126))), some (.inl k), some (.inl ((q : Nat) : Int)), some (.inl (pS (fun o => if rkA (M 127) (wDv (M 127)) o q then (1 : Int) else 0) 0 (i + 1))), some (.inl (((i + 1) : Nat) : Int))]) (e_c rfl (e_c rfl (e_c rfl (e_c (e_i (by have e : i = q := (by omega); subst e; rw [pS]; (try dsimp only); rw [Nat.zero_add, if_neg (by unfold rkA; omega), Int.add_zero])) (e_c rfl rfl))))) ?_
            exact ih
          · refine tw_aload k160_37 rfl ?_
            refine tw_iload k160_38 rfl ?_
            refine tw_iload k160_40 rfl ?_
            refine tw_callb (by omega) (S' := [.inl (pS (fun o => if rkA (M 127) (wDv (M 127)) o q then (1 : Int) else 0) 0 i)]) (as := [.inr (.inr (.inl 126)), .inl ((i : Nat) : Int), .inl ((q : Nat) : Int)]) k160_41 (x_159 (M := M) (N := N) hM0 i q (by omega) (by omega)) rfl rfl rfl rfl rfl (fun h41 => ?_) (fun h41 => ?_)
            · refine tw_zeqF k160_44 (by decide) ?_
              refine tw_const k160_47 ?_
              refine tw_goto k160_48 ?_
              refine tw_iadd k160_52 (v := ((pS (fun o => if rkA (M 127) (wDv (M 127)) o q then (1 : Int) else 0) 0 i) + (1 : Int))) rfl (by omega) ?_
              refine tw_istore k160_53 rfl (L' := [some (.inr (.inr (.inl 126))), some (.inl k), some (.inl ((q : Nat) : Int)), some (.inl ((pS (fun o => if rkA (M 127) (wDv (M 127)) o q then (1 : Int) else 0) 0 i) + (1 : Int))), some (.inl ((i : Nat) : Int))]) rfl ?_
              refine tw_iinc k160_54 rfl (v := ((i + 1 : Nat) : Int)) rfl (by omega) rfl (L' := [some (.inr (.inr (.inl 126))), some (.inl k), some (.inl ((q : Nat) : Int)), some (.inl ((pS (fun o => if rkA (M 127) (wDv (M 127)) o q then (1 : Int) else 0) 0 i) + (1 : Int))), some (.inl ((i + 1 : Nat) : Int))]) rfl ?_
              refine tw_goto k160_57 ?_
              refine tw_eqL (L' := [some (.inr (.inr (.inl 126))), some (.inl k), some (.inl ((q : Nat) : Int)), some (.inl (pS (fun o => if rkA (M 127) (wDv (M 127)) o q then (1 : Int) else 0) 0 (i + 1))), some (.inl (((i + 1) : Nat) : Int))]) (e_c rfl (e_c rfl (e_c rfl (e_c (e_i (by rw [pS]; (try dsimp only); rw [Nat.zero_add, if_pos h41])) (e_c rfl rfl))))) ?_
              exact ih
            · refine tw_zeqT k160_44 (by decide) ?_
              refine tw_const k160_51 ?_
              refine tw_iadd k160_52 (v := ((pS (fun o => if rkA (M 127) (wDv (M 127)) o q then (1 : Int) else 0) 0 i) + (0 : Int))) rfl (by omega) ?_
              refine tw_istore k160_53 rfl (L' := [some (.inr (.inr (.inl 126))), some (.inl k), some (.inl ((q : Nat) : Int)), some (.inl ((pS (fun o => if rkA (M 127) (wDv (M 127)) o q then (1 : Int) else 0) 0 i) + (0 : Int))), some (.inl ((i : Nat) : Int))]) rfl ?_
              refine tw_iinc k160_54 rfl (v := ((i + 1 : Nat) : Int)) rfl (by omega) rfl (L' := [some (.inr (.inr (.inl 126))), some (.inl k), some (.inl ((q : Nat) : Int)), some (.inl ((pS (fun o => if rkA (M 127) (wDv (M 127)) o q then (1 : Int) else 0) 0 i) + (0 : Int))), some (.inl ((i + 1 : Nat) : Int))]) rfl ?_
              refine tw_goto k160_57 ?_
              refine tw_eqL (L' := [some (.inr (.inr (.inl 126))), some (.inl k), some (.inl ((q : Nat) : Int)), some (.inl (pS (fun o => if rkA (M 127) (wDv (M 127)) o q then (1 : Int) else 0) 0 (i + 1))), some (.inl (((i + 1) : Nat) : Int))]) (e_c rfl (e_c rfl (e_c rfl (e_c (e_i (by rw [pS]; (try dsimp only); rw [Nat.zero_add, if_neg h41, Int.add_zero])) (e_c rfl rfl))))) ?_
              exact ih
      refine tw_eqL (L' := [some (.inr (.inr (.inl 126))), some (.inl k), some (.inl ((q : Nat) : Int)), some (.inl (pS (fun o => if rkA (M 127) (wDv (M 127)) o q then (1 : Int) else 0) 0 0)), some (.inl ((0 : Nat) : Int))]) (e_c rfl (e_c rfl (e_c rfl (e_c (e_i rfl) (e_c (e_i rfl) rfl))))) ?_
      exact keyI 0 (by omega)
  refine tw_const k160_0 ?_
  refine tw_istore k160_1 rfl (L' := [some (.inr (.inr (.inl 126))), some (.inl k), some (.inl (0 : Int)), none, none]) rfl ?_
  exact keyO 0 (by omega) none none (fun j hj => by omega)
theorem x_161 {K : mj_C} {d : Nat} {M : Nat → Nat → Int} {N : Nat → Nat → Int64} (hD : 3 ≤ d) (hM : mW M) (y k : Int) : mj_X K d 161 [.inr (.inr (.inl 126)), .inl y, .inl k] (mj_Sh, M, N) (fun r Z => r = some (.inl (qMerit (M 127) y k)) ∧ Z = (mj_Sh, M, N)) := by
  show mj_T K d 161 0 [some (.inr (.inr (.inl 126))), some (.inl y), some (.inl k)] [] (mj_Sh, M, N) _
  obtain ⟨hs, hG, ⟨hr18, hr19, hr20⟩, hp, hu, hl, hd, hv⟩ := hM
  have h0 := hs.1 0 (by omega)
  have h5 := hs.2.1
  have h11 := hs.1 11 (by omega)
  have hc11 := hs.2.2.1
  have hGk : gOk (M 127 0).toNat (wG (M 127)) := wGr_ok (M 127) (wB (M 127))
  have hG1 : (wG (M 127)).1 ≤ (M 127 0).toNat := hGk.1
  refine tw_aload k161_0 rfl ?_
  refine tw_iload k161_1 rfl ?_
  refine tw_callb (by omega) (S' := []) (as := [.inr (.inr (.inl 126)), .inl y]) k161_2 (x_113 (M := M) (N := N) (by omega) hs y) rfl rfl rfl rfl rfl (fun h2 => ?_) (fun h2 => ?_)
  · refine tw_zeqF k161_5 (by decide) ?_
    refine tw_iload k161_8 rfl ?_
    refine tw_zge k161_9 (fun h9 => ?_) (fun h9 => ?_)
    · refine tw_aload k161_16 rfl ?_
      refine tw_iload k161_17 rfl ?_
      refine tw_iload k161_18 rfl ?_
      refine tw_callp (v := .inl (byM (M 127) y k)) (by omega) (S' := []) (as := [.inr (.inr (.inl 126)), .inl y, .inl k]) k161_19 (x_131 (M := M) (N := N) (by omega) hs y k) rfl rfl rfl rfl rfl ?_
      exact tw_ri k161_22 (⟨by unfold qMerit; rw [if_pos (by omega)], rfl⟩)
    · refine tw_const k161_12 ?_
      refine tw_goto k161_13 ?_
      exact tw_ri k161_22 (⟨by unfold qMerit; rw [if_neg (by omega)], rfl⟩)
  · refine tw_zeqT k161_5 (by decide) ?_
    refine tw_const k161_12 ?_
    refine tw_goto k161_13 ?_
    exact tw_ri k161_22 (⟨by unfold qMerit; rw [if_neg (by omega)], rfl⟩)
