-- the model: a text read
theorem apS_VI {tx : Nat → Int} {L : Nat} {s : Nat → Int} (hs : pVI s) (p : Nat) : pVI (apS tx L s p) := by
  unfold apS
  (repeat' split)
  · exact aYear_VI hs _ _
  · exact aMeas_VI hs _ _ _
  · exact aSet_VI hs _ _
  · exact aSet_VI hs _ _
  · exact aSet_VI hs _ _
  · exact aSet_VI hs _ _
theorem rdS_VI {tx : Nat → Int} {L : Nat} {s : Nat → Int} (hs : pVI s) : ∀ k, pVI (rdS tx L s k)
  | 0 => hs
  | k + 1 => apS_VI (rdS_VI hs k) _
theorem rdC_rg {tx : Nat → Int} {L : Nat} {s : Nat → Int} : ∀ k, 0 ≤ rdC tx L s k ∧ rdC tx L s k ≤ k
  | 0 => by rw [rdC]; omega
  | k + 1 => by have := rdC_rg (tx := tx) (L := L) (s := s) k; rw [rdC]; split <;> omega
theorem mW_o {M : Nat → Nat → Int} {F g : Nat → Int} (h : mW M) (hF : ∀ j, 17 ≤ j → j ≤ 20 → F j = M 126 j) : mW (st M [(126, F), (144, g)]) := by
  obtain ⟨h1, ⟨g1, g2⟩, ⟨r1, r2, r3⟩, h3, h4, h5, h6, h7⟩ := h
  exact ⟨h1, ⟨(hF 17 (by omega) (by omega)).trans g1, g2⟩, ⟨(hF 18 (by omega) (by omega)).trans r1, (hF 19 (by omega) (by omega)).trans r2, (hF 20 (by omega) (by omega)).trans r3⟩, h3, h4, h5, h6, h7⟩
def mKr (M M1 : Nat → Nat → Int) : Prop := (∀ c, c < 126 ∨ c = 128 ∨ c = 143 ∨ 145 ≤ c → M1 c = M c) ∧ M1 126 3 = M 126 3 ∧ M1 126 23 = 0
theorem x_145 {K : mj_C} {d : Nat} {M : Nat → Nat → Int} {N : Nat → Nat → Int64} (hD : 9 ≤ d) (hV : pVI (M 127)) (hM : mW M) (tx : Nat → Int) (L p : Nat) (b : Nat) (hb : b + 3 < 56) (hv : rdV tx L p (M 144 b) (M 144 (b + 1)) (M 144 (b + 2)) (M 144 (b + 3))) : mj_X K d 145 [.inr (.inr (.inl 126)), .inl ((b : Nat) : Int)] (mj_Sh, M, N) (fun r Z => r = some (.inl (apQ tx L (M 127) p)) ∧ ∃ M1, Z = (mj_Sh, M1, N) ∧ M1 127 = apS tx L (M 127) p ∧ mW M1 ∧ mKp M M1) := by
  show mj_T K d 145 0 [some (.inr (.inr (.inl 126))), some (.inl ((b : Nat) : Int)), none] [] (mj_Sh, M, N) _
  obtain ⟨e0, ey, em, ef, el, eo⟩ := hv
  by_cases hc : tx p = 121
  · refine tw_aload k145_0 rfl ?_
    refine tw_getr k145_1 f126_22 ?_
    refine tw_iload k145_4 rfl ?_
    refine tw_const k145_5 ?_
    refine tw_iadd k145_6 (v := ((b + 1 : Nat) : Int)) rfl (by omega) ?_
    refine tw_iald (j := b + 1) (v := (nV tx L 2 (p + 1) 0)) k145_7 al144 rfl (by omega) (ey hc).1 ?_
    refine tw_istore k145_8 rfl (L' := [some (.inr (.inr (.inl 126))), some (.inl ((b : Nat) : Int)), some (.inl (nV tx L 2 (p + 1) 0))]) rfl ?_
    refine tw_aload k145_9 rfl ?_
    refine tw_getr k145_10 f126_22 ?_
    refine tw_iload k145_13 rfl ?_
    refine tw_iald (j := b) (v := (121 : Int)) k145_14 al144 rfl (by omega) (e0.trans hc) ?_
    refine tw_sw k145_15 ?_
    refine tw_pkF (by decide) ?_
    refine tw_pkF (by decide) ?_
    refine tw_pkF (by decide) ?_
    refine tw_pkF (by decide) ?_
    refine tw_pkT (by decide) ?_
    refine tw_aload k145_64 rfl ?_
    refine tw_iload k145_65 rfl ?_
    refine tw_aload k145_66 rfl ?_
    refine tw_getr k145_67 f126_22 ?_
    refine tw_iload k145_70 rfl ?_
    refine tw_const k145_71 ?_
    refine tw_iadd k145_72 (v := ((b + 2 : Nat) : Int)) rfl (by omega) ?_
    refine tw_iald (j := b + 2) (v := (nV tx L 2 (nP tx L 2 (p + 1) + 1) 0)) k145_73 al144 rfl (by omega) (ey hc).2 ?_
    refine tw_call (by omega) (S' := []) (as := [.inr (.inr (.inl 126)), .inl (nV tx L 2 (p + 1) 0), .inl (nV tx L 2 (nP tx L 2 (p + 1) + 1) 0)]) k145_74 (x_134 (M := M) (N := N) (by omega) hV hM (nV tx L 2 (p + 1) 0) (nV tx L 2 (nP tx L 2 (p + 1) + 1) 0)) rfl rfl rfl rfl rfl (fun r74 Z74 hq74 => ?_)
    obtain ⟨rfl, M2, rfl, hb1, hb2, hb3⟩ := hq74
    refine tw_as (S := [.inl (qYear (M 127) (nV tx L 2 (p + 1) 0) (nV tx L 2 (nP tx L 2 (p + 1) + 1) 0))]) (M := M2) (N := N) rfl rfl ?_
    exact tw_ri k145_77 (⟨by unfold apQ; rw [if_pos hc], M2, rfl, by rw [hb1]; unfold apS; rw [if_pos hc], hb2, hb3⟩)
  · by_cases hc : tx p = 109
    · refine tw_aload k145_0 rfl ?_
      refine tw_getr k145_1 f126_22 ?_
      refine tw_iload k145_4 rfl ?_
      refine tw_const k145_5 ?_
      refine tw_iadd k145_6 (v := ((b + 1 : Nat) : Int)) rfl (by omega) ?_
      refine tw_iald (j := b + 1) (v := (nV tx L 2 (nP tx L 1 (p + 1)) 0)) k145_7 al144 rfl (by omega) (em hc).2.1 ?_
      refine tw_istore k145_8 rfl (L' := [some (.inr (.inr (.inl 126))), some (.inl ((b : Nat) : Int)), some (.inl (nV tx L 2 (nP tx L 1 (p + 1)) 0))]) rfl ?_
      refine tw_aload k145_9 rfl ?_
      refine tw_getr k145_10 f126_22 ?_
      refine tw_iload k145_13 rfl ?_
      refine tw_iald (j := b) (v := (109 : Int)) k145_14 al144 rfl (by omega) (e0.trans hc) ?_
      refine tw_sw k145_15 ?_
      refine tw_pkF (by decide) ?_
      refine tw_pkF (by decide) ?_
      refine tw_pkT (by decide) ?_
      refine tw_aload k145_78 rfl ?_
      refine tw_aload k145_79 rfl ?_
      refine tw_getr k145_80 f126_22 ?_
      refine tw_iload k145_83 rfl ?_
      refine tw_const k145_84 ?_
      refine tw_iadd k145_85 (v := ((b + 3 : Nat) : Int)) rfl (by omega) ?_
      refine tw_iald (j := b + 3) (v := (nV tx L 1 (p + 1) 0)) k145_86 al144 rfl (by omega) (em hc).1 ?_
      refine tw_iload k145_87 rfl ?_
      refine tw_aload k145_88 rfl ?_
      refine tw_getr k145_89 f126_22 ?_
      refine tw_iload k145_92 rfl ?_
      refine tw_const k145_93 ?_
      refine tw_iadd k145_94 (v := ((b + 2 : Nat) : Int)) rfl (by omega) ?_
      refine tw_iald (j := b + 2) (v := (nV tx L 1 (nP tx L 2 (nP tx L 1 (p + 1)) + 1) 0)) k145_95 al144 rfl (by omega) (em hc).2.2 ?_
      refine tw_call (by omega) (S' := []) (as := [.inr (.inr (.inl 126)), .inl (nV tx L 1 (p + 1) 0), .inl (nV tx L 2 (nP tx L 1 (p + 1)) 0), .inl (nV tx L 1 (nP tx L 2 (nP tx L 1 (p + 1)) + 1) 0)]) k145_96 (x_135 (M := M) (N := N) (by omega) hV hM (nV tx L 1 (p + 1) 0) (nV tx L 2 (nP tx L 1 (p + 1)) 0) (nV tx L 1 (nP tx L 2 (nP tx L 1 (p + 1)) + 1) 0)) rfl rfl rfl rfl rfl (fun r96 Z96 hq96 => ?_)
      obtain ⟨rfl, M2, rfl, hb1, hb2, hb3⟩ := hq96
      refine tw_as (S := [.inl (qMeas (M 127) (nV tx L 1 (p + 1) 0) (nV tx L 2 (nP tx L 1 (p + 1)) 0) (nV tx L 1 (nP tx L 2 (nP tx L 1 (p + 1)) + 1) 0))]) (M := M2) (N := N) rfl rfl ?_
      exact tw_ri k145_99 (⟨by unfold apQ; rw [if_neg (by omega), if_pos hc], M2, rfl, by rw [hb1]; unfold apS; rw [if_neg (by omega), if_pos hc], hb2, hb3⟩)
    · by_cases hc : tx p = 102
      · refine tw_aload k145_0 rfl ?_
        refine tw_getr k145_1 f126_22 ?_
        refine tw_iload k145_4 rfl ?_
        refine tw_const k145_5 ?_
        refine tw_iadd k145_6 (v := ((b + 1 : Nat) : Int)) rfl (by omega) ?_
        refine tw_iald (j := b + 1) (v := (nV tx L 2 (p + 1) 0)) k145_7 al144 rfl (by omega) (ef (by omega)) ?_
        refine tw_istore k145_8 rfl (L' := [some (.inr (.inr (.inl 126))), some (.inl ((b : Nat) : Int)), some (.inl (nV tx L 2 (p + 1) 0))]) rfl ?_
        refine tw_aload k145_9 rfl ?_
        refine tw_getr k145_10 f126_22 ?_
        refine tw_iload k145_13 rfl ?_
        refine tw_iald (j := b) (v := (102 : Int)) k145_14 al144 rfl (by omega) (e0.trans hc) ?_
        refine tw_sw k145_15 ?_
        refine tw_pkF (by decide) ?_
        refine tw_pkT (by decide) ?_
        refine tw_aload k145_100 rfl ?_
        refine tw_const k145_101 ?_
        refine tw_iload k145_102 rfl ?_
        refine tw_call (by omega) (S' := []) (as := [.inr (.inr (.inl 126)), .inl (0 : Int), .inl (nV tx L 2 (p + 1) 0)]) k145_103 (x_138 (M := M) (N := N) (by omega) hV hM (0 : Int) (nV tx L 2 (p + 1) 0)) rfl rfl rfl rfl rfl (fun r103 Z103 hq103 => ?_)
        obtain ⟨rfl, M2, rfl, hb1, hb2, hb3⟩ := hq103
        refine tw_as (S := [.inl (qSet (M 127) (0 : Int) (nV tx L 2 (p + 1) 0))]) (M := M2) (N := N) rfl rfl ?_
        exact tw_ri k145_106 (⟨by unfold apQ; rw [if_neg (by omega), if_neg (by omega), if_pos hc], M2, rfl, by rw [hb1]; unfold apS; rw [if_neg (by omega), if_neg (by omega), if_pos hc], hb2, hb3⟩)
      · by_cases hc : tx p = 99
        · refine tw_aload k145_0 rfl ?_
          refine tw_getr k145_1 f126_22 ?_
          refine tw_iload k145_4 rfl ?_
          refine tw_const k145_5 ?_
          refine tw_iadd k145_6 (v := ((b + 1 : Nat) : Int)) rfl (by omega) ?_
          refine tw_iald (j := b + 1) (v := (nV tx L 2 (p + 1) 0)) k145_7 al144 rfl (by omega) (ef (by omega)) ?_
          refine tw_istore k145_8 rfl (L' := [some (.inr (.inr (.inl 126))), some (.inl ((b : Nat) : Int)), some (.inl (nV tx L 2 (p + 1) 0))]) rfl ?_
          refine tw_aload k145_9 rfl ?_
          refine tw_getr k145_10 f126_22 ?_
          refine tw_iload k145_13 rfl ?_
          refine tw_iald (j := b) (v := (99 : Int)) k145_14 al144 rfl (by omega) (e0.trans hc) ?_
          refine tw_sw k145_15 ?_
          refine tw_pkT (by decide) ?_
          refine tw_aload k145_107 rfl ?_
          refine tw_const k145_108 ?_
          refine tw_iload k145_109 rfl ?_
          refine tw_call (by omega) (S' := []) (as := [.inr (.inr (.inl 126)), .inl (1 : Int), .inl (nV tx L 2 (p + 1) 0)]) k145_110 (x_138 (M := M) (N := N) (by omega) hV hM (1 : Int) (nV tx L 2 (p + 1) 0)) rfl rfl rfl rfl rfl (fun r110 Z110 hq110 => ?_)
          obtain ⟨rfl, M2, rfl, hb1, hb2, hb3⟩ := hq110
          refine tw_as (S := [.inl (qSet (M 127) (1 : Int) (nV tx L 2 (p + 1) 0))]) (M := M2) (N := N) rfl rfl ?_
          exact tw_ri k145_113 (⟨by unfold apQ; rw [if_neg (by omega), if_neg (by omega), if_neg (by omega), if_pos hc], M2, rfl, by rw [hb1]; unfold apS; rw [if_neg (by omega), if_neg (by omega), if_neg (by omega), if_pos hc], hb2, hb3⟩)
        · by_cases hc : tx p = 115
          · refine tw_aload k145_0 rfl ?_
            refine tw_getr k145_1 f126_22 ?_
            refine tw_iload k145_4 rfl ?_
            refine tw_const k145_5 ?_
            refine tw_iadd k145_6 (v := ((b + 1 : Nat) : Int)) rfl (by omega) ?_
            refine tw_iald (j := b + 1) (v := (nV tx L 2 (p + 1) 0)) k145_7 al144 rfl (by omega) (ef (by omega)) ?_
            refine tw_istore k145_8 rfl (L' := [some (.inr (.inr (.inl 126))), some (.inl ((b : Nat) : Int)), some (.inl (nV tx L 2 (p + 1) 0))]) rfl ?_
            refine tw_aload k145_9 rfl ?_
            refine tw_getr k145_10 f126_22 ?_
            refine tw_iload k145_13 rfl ?_
            refine tw_iald (j := b) (v := (115 : Int)) k145_14 al144 rfl (by omega) (e0.trans hc) ?_
            refine tw_sw k145_15 ?_
            refine tw_pkF (by decide) ?_
            refine tw_pkF (by decide) ?_
            refine tw_pkF (by decide) ?_
            refine tw_pkT (by decide) ?_
            refine tw_aload k145_114 rfl ?_
            refine tw_const k145_115 ?_
            refine tw_iload k145_116 rfl ?_
            refine tw_call (by omega) (S' := []) (as := [.inr (.inr (.inl 126)), .inl (2 : Int), .inl (nV tx L 2 (p + 1) 0)]) k145_117 (x_138 (M := M) (N := N) (by omega) hV hM (2 : Int) (nV tx L 2 (p + 1) 0)) rfl rfl rfl rfl rfl (fun r117 Z117 hq117 => ?_)
            obtain ⟨rfl, M2, rfl, hb1, hb2, hb3⟩ := hq117
            refine tw_as (S := [.inl (qSet (M 127) (2 : Int) (nV tx L 2 (p + 1) 0))]) (M := M2) (N := N) rfl rfl ?_
            exact tw_ri k145_120 (⟨by unfold apQ; rw [if_neg (by omega), if_neg (by omega), if_neg (by omega), if_neg (by omega), if_pos hc], M2, rfl, by rw [hb1]; unfold apS; rw [if_neg (by omega), if_neg (by omega), if_neg (by omega), if_neg (by omega), if_pos hc], hb2, hb3⟩)
          · have hc : tx p = 108 := by omega
            refine tw_aload k145_0 rfl ?_
            refine tw_getr k145_1 f126_22 ?_
            refine tw_iload k145_4 rfl ?_
            refine tw_const k145_5 ?_
            refine tw_iadd k145_6 (v := ((b + 1 : Nat) : Int)) rfl (by omega) ?_
            refine tw_iald (j := b + 1) (v := (nV tx L 1 (p + 1) 0)) k145_7 al144 rfl (by omega) (el hc) ?_
            refine tw_istore k145_8 rfl (L' := [some (.inr (.inr (.inl 126))), some (.inl ((b : Nat) : Int)), some (.inl (nV tx L 1 (p + 1) 0))]) rfl ?_
            refine tw_aload k145_9 rfl ?_
            refine tw_getr k145_10 f126_22 ?_
            refine tw_iload k145_13 rfl ?_
            refine tw_iald (j := b) (v := (108 : Int)) k145_14 al144 rfl (by omega) (e0.trans hc) ?_
            refine tw_sw k145_15 ?_
            refine tw_pkF (by decide) ?_
            refine tw_pkF (by decide) ?_
            refine tw_pkF (by decide) ?_
            refine tw_pkF (by decide) ?_
            refine tw_pkF (by decide) ?_
            refine tw_pk0 ?_
            refine tw_aload k145_121 rfl ?_
            refine tw_const k145_122 ?_
            refine tw_iload k145_123 rfl ?_
            refine tw_call (by omega) (S' := []) (as := [.inr (.inr (.inl 126)), .inl (3 : Int), .inl (nV tx L 1 (p + 1) 0)]) k145_124 (x_138 (M := M) (N := N) (by omega) hV hM (3 : Int) (nV tx L 1 (p + 1) 0)) rfl rfl rfl rfl rfl (fun r124 Z124 hq124 => ?_)
            obtain ⟨rfl, M2, rfl, hb1, hb2, hb3⟩ := hq124
            refine tw_as (S := [.inl (qSet (M 127) (3 : Int) (nV tx L 1 (p + 1) 0))]) (M := M2) (N := N) rfl rfl ?_
            exact tw_ri k145_127 (⟨by unfold apQ; rw [if_neg (by omega), if_neg (by omega), if_neg (by omega), if_neg (by omega), if_neg (by omega)], M2, rfl, by rw [hb1]; unfold apS; rw [if_neg (by omega), if_neg (by omega), if_neg (by omega), if_neg (by omega), if_neg (by omega)], hb2, hb3⟩)
theorem x_146 {K : mj_C} {d : Nat} {M : Nat → Nat → Int} {N : Nat → Nat → Int64} (hD : 10 ≤ d) (hV : pVI (M 127)) (hM : mW M) (L : Nat) (hL : M 126 23 = (L : Int)) (h100 : L ≤ 100) (htx : ∀ i, i < 100 → 0 ≤ M 143 i ∧ M 143 i ≤ 127) : mj_X K d 146 [.inr (.inr (.inl 126))] (mj_Sh, M, N) (fun r Z => r = some (.inl (qRead (M 143) L (M 127))) ∧ ∃ M1, Z = (mj_Sh, M1, N) ∧ M1 127 = aRead (M 143) L (M 127) ∧ mW M1 ∧ mKr M M1) := by
  show mj_T K d 146 0 [some (.inr (.inr (.inl 126))), none, none, none] [] (mj_Sh, M, N) _
  have keyE : ∀ (n q : Nat) (ft : Int) (f g : Nat → Int) (o2 o3 : Option (Int ⊕ (Nat ⊕ Nat))), aO f (M 126) (q : Int) ft → q ≤ L → n ≤ 14 → ((ft = -1 ∧ ¬ q < L ∧ scT (M 143) L = (true, q, n) ∧ (∀ i, i < n → rdV (M 143) L (stP (M 143) L i) (g (4 * i)) (g (4 * i + 1)) (g (4 * i + 2)) (g (4 * i + 3)))) ∨ ((ft = (q : Int) ∨ ft = -1 ∧ q < L) ∧ (scT (M 143) L).1 = false ∧ (scT (M 143) L).2.1 = q)) → mj_T K d 146 37 [some (.inr (.inr (.inl 126))), some (.inl ((n : Nat) : Int)), sv o2, sv o3] [] (mj_Sh, (st M [(126, f), (144, g)]), N) (fun r Z => r = some (.inl (qRead (M 143) L (M 127))) ∧ ∃ M1, Z = (mj_Sh, M1, N) ∧ M1 127 = aRead (M 143) L (M 127) ∧ mW M1 ∧ mKr M M1) := by
    intro n q ft f g o2 o3 ho hq hn hcase
    rcases hcase with hA | hB
    · have hrd := hA.2.2.2
      have hsc := hA.2.2.1
      have keyL : ∀ i : Nat, i ≤ n → ∀ M1 : Nat → Nat → Int, M1 127 = rdS (M 143) L (M 127) i → mW M1 → M1 144 = g → mKr M M1 → mj_T K d 146 76 [some (.inr (.inr (.inl 126))), some (.inl ((n : Nat) : Int)), some (.inl (rdC (M 143) L (M 127) i)), some (.inl ((i : Nat) : Int))] [] (mj_Sh, M1, N) (fun r Z => r = some (.inl (qRead (M 143) L (M 127))) ∧ ∃ M1, Z = (mj_Sh, M1, N) ∧ M1 127 = aRead (M 143) L (M 127) ∧ mW M1 ∧ mKr M M1) := by
        refine up_to n ?_ ?_
        · show ∀ M1 : Nat → Nat → Int, M1 127 = rdS (M 143) L (M 127) n → mW M1 → M1 144 = g → mKr M M1 → mj_T K d 146 76 [some (.inr (.inr (.inl 126))), some (.inl ((n : Nat) : Int)), some (.inl (rdC (M 143) L (M 127) n)), some (.inl ((n : Nat) : Int))] [] (mj_Sh, M1, N) (fun r Z => r = some (.inl (qRead (M 143) L (M 127))) ∧ ∃ M1, Z = (mj_Sh, M1, N) ∧ M1 127 = aRead (M 143) L (M 127) ∧ mW M1 ∧ mKr M M1)
          intro M1 h1 h2 h3 h4
          refine tw_iload k146_76 rfl ?_
          refine tw_iload k146_77 rfl ?_
          refine tw_cgeT k146_78 (by omega) ?_
          refine tw_iload k146_105 rfl ?_
          exact tw_ri k146_106 (⟨by unfold qRead; rw [hsc, if_pos rfl], M1, rfl, by rw [h1]; unfold aRead; rw [hsc, if_pos rfl], h2, h4⟩)
        · intro i hmi ih
          have ih : ∀ M1 : Nat → Nat → Int, M1 127 = rdS (M 143) L (M 127) (i + 1) → mW M1 → M1 144 = g → mKr M M1 → mj_T K d 146 76 [some (.inr (.inr (.inl 126))), some (.inl ((n : Nat) : Int)), some (.inl (rdC (M 143) L (M 127) (i + 1))), some (.inl (((i + 1) : Nat) : Int))] [] (mj_Sh, M1, N) (fun r Z => r = some (.inl (qRead (M 143) L (M 127))) ∧ ∃ M1, Z = (mj_Sh, M1, N) ∧ M1 127 = aRead (M 143) L (M 127) ∧ mW M1 ∧ mKr M M1) := ih
          show ∀ M1 : Nat → Nat → Int, M1 127 = rdS (M 143) L (M 127) i → mW M1 → M1 144 = g → mKr M M1 → mj_T K d 146 76 [some (.inr (.inr (.inl 126))), some (.inl ((n : Nat) : Int)), some (.inl (rdC (M 143) L (M 127) i)), some (.inl ((i : Nat) : Int))] [] (mj_Sh, M1, N) (fun r Z => r = some (.inl (qRead (M 143) L (M 127))) ∧ ∃ M1, Z = (mj_Sh, M1, N) ∧ M1 127 = aRead (M 143) L (M 127) ∧ mW M1 ∧ mKr M M1)
          intro M1 h1 h2 h3 h4
          have hrc := rdC_rg (tx := M 143) (L := L) (s := M 127) i
          refine tw_iload k146_76 rfl ?_
          refine tw_iload k146_77 rfl ?_
          refine tw_cgeF k146_78 (by omega) ?_
          refine tw_iload k146_81 rfl ?_
          refine tw_aload k146_82 rfl ?_
          refine tw_const k146_83 ?_
          refine tw_iload k146_84 rfl ?_
          refine tw_imul k146_85 (v := ((4 * i : Nat) : Int)) rfl (by omega) ?_
          refine tw_call (by omega) (S' := [.inl (rdC (M 143) L (M 127) i)]) (as := [.inr (.inr (.inl 126)), .inl ((4 * i : Nat) : Int)]) k146_86 (x_145 (M := M1) (N := N) (by omega) (by rw [h1]; exact rdS_VI hV i) h2 (M 143) L (stP (M 143) L i) (4 * i) (by omega) (by rw [h3]; exact hrd i (by omega))) rfl rfl rfl rfl rfl (fun r86 Z86 hq86 => ?_)
          obtain ⟨rfl, M2, rfl, hb1, hb2, hb3⟩ := hq86
          refine tw_as (S := [.inl (apQ (M 143) L (M1 127) (stP (M 143) L i)), .inl (rdC (M 143) L (M 127) i)]) (M := M2) (N := N) rfl rfl ?_
          refine tw_zlt k146_89 (fun h89 => ?_) (fun h89 => ?_)
          · refine tw_const k146_96 ?_
            refine tw_iadd k146_97 (v := ((rdC (M 143) L (M 127) i) + (0 : Int))) rfl (by omega) ?_
            refine tw_istore k146_98 rfl (L' := [some (.inr (.inr (.inl 126))), some (.inl ((n : Nat) : Int)), some (.inl ((rdC (M 143) L (M 127) i) + (0 : Int))), some (.inl ((i : Nat) : Int))]) rfl ?_
            refine tw_iinc k146_99 rfl (v := ((i + 1 : Nat) : Int)) rfl (by omega) rfl (L' := [some (.inr (.inr (.inl 126))), some (.inl ((n : Nat) : Int)), some (.inl ((rdC (M 143) L (M 127) i) + (0 : Int))), some (.inl ((i + 1 : Nat) : Int))]) rfl ?_
            refine tw_goto k146_102 ?_
            refine tw_eqL (L' := [some (.inr (.inr (.inl 126))), some (.inl ((n : Nat) : Int)), some (.inl (rdC (M 143) L (M 127) (i + 1))), some (.inl (((i + 1) : Nat) : Int))]) (e_c rfl (e_c rfl (e_c (e_i (by rw [rdC, if_neg (by rw [← h1]; omega)])) (e_c rfl rfl)))) ?_
            exact ih M2 (by rw [hb1, h1]; rfl) hb2 ((hb3.1 144 (by omega)).trans h3) ⟨fun c hc => (hb3.1 c (by omega)).trans (h4.1 c hc), (hb3.2 3 (by omega)).trans h4.2.1, (hb3.2 23 (by omega)).trans h4.2.2⟩
          · refine tw_const k146_92 ?_
            refine tw_goto k146_93 ?_
            refine tw_iadd k146_97 (v := ((rdC (M 143) L (M 127) i) + (1 : Int))) rfl (by omega) ?_
            refine tw_istore k146_98 rfl (L' := [some (.inr (.inr (.inl 126))), some (.inl ((n : Nat) : Int)), some (.inl ((rdC (M 143) L (M 127) i) + (1 : Int))), some (.inl ((i : Nat) : Int))]) rfl ?_
            refine tw_iinc k146_99 rfl (v := ((i + 1 : Nat) : Int)) rfl (by omega) rfl (L' := [some (.inr (.inr (.inl 126))), some (.inl ((n : Nat) : Int)), some (.inl ((rdC (M 143) L (M 127) i) + (1 : Int))), some (.inl ((i + 1 : Nat) : Int))]) rfl ?_
            refine tw_goto k146_102 ?_
            refine tw_eqL (L' := [some (.inr (.inr (.inl 126))), some (.inl ((n : Nat) : Int)), some (.inl (rdC (M 143) L (M 127) (i + 1))), some (.inl (((i + 1) : Nat) : Int))]) (e_c rfl (e_c rfl (e_c (e_i (by rw [rdC, if_pos (by rw [← h1]; omega)])) (e_c rfl rfl)))) ?_
            exact ih M2 (by rw [hb1, h1]; rfl) hb2 ((hb3.1 144 (by omega)).trans h3) ⟨fun c hc => (hb3.1 c (by omega)).trans (h4.1 c hc), (hb3.2 3 (by omega)).trans h4.2.1, (hb3.2 23 (by omega)).trans h4.2.2⟩
      refine tw_aload k146_37 rfl ?_
      refine tw_geti k146_38 f126_24 rfl (v := ((q : Nat) : Int)) (show f 24 = _ from ho.1) ?_
      refine tw_aload k146_41 rfl ?_
      refine tw_geti k146_42 f126_23 rfl (v := ((L : Nat) : Int)) (show f 23 = _ from (by rw [ho.2.2 23 (by omega) (by omega)]; exact hL)) ?_
      refine tw_cgeT k146_45 (by omega) ?_
      refine tw_aload k146_52 rfl ?_
      refine tw_const k146_53 ?_
      refine tw_puti (M := M) (N := N) (l := [(126, f), (144, g)]) (l' := [(126, (pU f 23 (0 : Int))), (144, g)]) k146_54 f126_23 rfl ?_
      refine tw_aload k146_57 rfl ?_
      refine tw_geti k146_58 f126_25 rfl (v := (-1 : Int)) (show (pU f 23 (0 : Int)) 25 = _ from (by rw [pU_ne (by omega)]; exact ho.2.1.trans hA.1)) ?_
      refine tw_zltT k146_61 (by omega) ?_
      refine tw_const k146_72 ?_
      refine tw_istore k146_73 rfl (L' := [some (.inr (.inr (.inl 126))), some (.inl ((n : Nat) : Int)), some (.inl (0 : Int)), sv o3]) rfl ?_
      refine tw_const k146_74 ?_
      refine tw_istore k146_75 rfl (L' := [some (.inr (.inr (.inl 126))), some (.inl ((n : Nat) : Int)), some (.inl (0 : Int)), some (.inl (0 : Int))]) rfl ?_
      refine tw_eqL (L' := [some (.inr (.inr (.inl 126))), some (.inl ((n : Nat) : Int)), some (.inl (rdC (M 143) L (M 127) 0)), some (.inl ((0 : Nat) : Int))]) (e_c rfl (e_c rfl (e_c (e_i rfl) (e_c (e_i rfl) rfl)))) ?_
      exact keyL 0 (by omega) (st M [(126, (pU f 23 (0 : Int))), (144, g)]) rfl (mW_o hM (fun j h1 h2 => by rw [pU_ne (by omega)]; exact ho.2.2 j (by omega) (by omega))) rfl ⟨fun c hc => by rw [st_c, if_neg (by omega), st_c, if_neg (by omega), st_nil], by show pU f 23 0 3 = _; rw [pU_ne (by omega)]; exact ho.2.2 3 (by omega) (by omega), (show pU f 23 (0 : Int) 23 = 0 from pU_eq)⟩
    · obtain ⟨hB0, hB1, hB2⟩ := hB
      refine tw_aload k146_37 rfl ?_
      refine tw_geti k146_38 f126_24 rfl (v := ((q : Nat) : Int)) (show f 24 = _ from ho.1) ?_
      refine tw_aload k146_41 rfl ?_
      refine tw_geti k146_42 f126_23 rfl (v := ((L : Nat) : Int)) (show f 23 = _ from (by rw [ho.2.2 23 (by omega) (by omega)]; exact hL)) ?_
      refine tw_cge k146_45 (fun h45 => ?_) (fun h45 => ?_)
      · refine tw_aload k146_52 rfl ?_
        refine tw_const k146_53 ?_
        refine tw_puti (M := M) (N := N) (l := [(126, f), (144, g)]) (l' := [(126, (pU f 23 (0 : Int))), (144, g)]) k146_54 f126_23 rfl ?_
        refine tw_aload k146_57 rfl ?_
        refine tw_geti k146_58 f126_25 rfl (v := ((q : Nat) : Int)) (show (pU f 23 (0 : Int)) 25 = _ from (by rw [pU_ne (by omega)]; rw [ho.2.1]; omega)) ?_
        refine tw_zltF k146_61 (by omega) ?_
        refine tw_const k146_64 ?_
        refine tw_aload k146_66 rfl ?_
        refine tw_geti k146_67 f126_25 rfl (v := ((q : Nat) : Int)) (show (pU f 23 (0 : Int)) 25 = _ from (by rw [pU_ne (by omega)]; rw [ho.2.1]; omega)) ?_
        refine tw_isub k146_70 (v := ((-10 : Int) - ((q : Nat) : Int))) rfl (by omega) ?_
        exact tw_ri k146_71 (⟨by unfold qRead; rw [if_neg (by rw [hB1]; simp), hB2], _, rfl, by unfold aRead; rw [if_neg (by rw [hB1]; simp)]; rfl, mW_o hM (fun j h1 h2 => by rw [pU_ne (by omega)]; exact ho.2.2 j (by omega) (by omega)), ⟨fun c hc => by rw [st_c, if_neg (by omega), st_c, if_neg (by omega), st_nil], by show pU f 23 0 3 = _; rw [pU_ne (by omega)]; exact ho.2.2 3 (by omega) (by omega), (show pU f 23 (0 : Int) 23 = 0 from pU_eq)⟩⟩)
      · refine tw_aload k146_48 rfl ?_
        refine tw_call (by omega) (S' := []) (as := [.inr (.inr (.inl 126))]) k146_49 (x_141 (M := (st M [(126, f), (144, g)])) (N := N) q ho.1 ft ho.2.1) rfl rfl rfl rfl rfl (fun r49 Z49 hq49 => ?_)
        obtain ⟨rfl, f2, rfl, ho2⟩ := hq49
        refine tw_as (S := []) (M := (st M [(126, f2), (144, g)])) (N := N) (by rw [st_mg]; rfl) rfl ?_
        refine tw_aload k146_52 rfl ?_
        refine tw_const k146_53 ?_
        refine tw_puti (M := M) (N := N) (l := [(126, f2), (144, g)]) (l' := [(126, (pU f2 23 (0 : Int))), (144, g)]) k146_54 f126_23 rfl ?_
        refine tw_aload k146_57 rfl ?_
        refine tw_geti k146_58 f126_25 rfl (v := ((q : Nat) : Int)) (show (pU f2 23 (0 : Int)) 25 = _ from (by rw [pU_ne (by omega)]; rw [ho2.2.1]; split <;> omega)) ?_
        refine tw_zltF k146_61 (by omega) ?_
        refine tw_const k146_64 ?_
        refine tw_aload k146_66 rfl ?_
        refine tw_geti k146_67 f126_25 rfl (v := ((q : Nat) : Int)) (show (pU f2 23 (0 : Int)) 25 = _ from (by rw [pU_ne (by omega)]; rw [ho2.2.1]; split <;> omega)) ?_
        refine tw_isub k146_70 (v := ((-10 : Int) - ((q : Nat) : Int))) rfl (by omega) ?_
        exact tw_ri k146_71 (⟨by unfold qRead; rw [if_neg (by rw [hB1]; simp), hB2], _, rfl, by unfold aRead; rw [if_neg (by rw [hB1]; simp)]; rfl, mW_o hM (fun j h1 h2 => by rw [pU_ne (by omega)]; exact (ho2.2.2 j (by omega) (by omega)).trans (ho.2.2 j (by omega) (by omega))), ⟨fun c hc => by rw [st_c, if_neg (by omega), st_c, if_neg (by omega), st_nil], by show pU f2 23 0 3 = _; rw [pU_ne (by omega)]; exact (ho2.2.2 3 (by omega) (by omega)).trans (ho.2.2 3 (by omega) (by omega)), (show pU f2 23 (0 : Int) 23 = 0 from pU_eq)⟩⟩)
  have key1 : ∀ n : Nat, n ≤ 13 → ∀ (f g : Nat → Int) (o2 o3 : Option (Int ⊕ (Nat ⊕ Nat))), aO f (M 126) ((stP (M 143) L n) : Int) (-1) → (stP (M 143) L n) ≤ L → (∀ i, i < n → rdV (M 143) L (stP (M 143) L i) (g (4 * i)) (g (4 * i + 1)) (g (4 * i + 2)) (g (4 * i + 3))) → scR (M 143) L (14 - n) n = scT (M 143) L → mj_T K d 146 12 [some (.inr (.inr (.inl 126))), some (.inl ((n : Nat) : Int)), sv o2, sv o3] [] (mj_Sh, (st M [(126, f), (144, g)]), N) (fun r Z => r = some (.inl (qRead (M 143) L (M 127))) ∧ ∃ M1, Z = (mj_Sh, M1, N) ∧ M1 127 = aRead (M 143) L (M 127) ∧ mW M1 ∧ mKr M M1) := by
    have kk : ∀ k n : Nat, n + k = 13 → ∀ (f g : Nat → Int) (o2 o3 : Option (Int ⊕ (Nat ⊕ Nat))), aO f (M 126) ((stP (M 143) L n) : Int) (-1) → (stP (M 143) L n) ≤ L → (∀ i, i < n → rdV (M 143) L (stP (M 143) L i) (g (4 * i)) (g (4 * i + 1)) (g (4 * i + 2)) (g (4 * i + 3))) → scR (M 143) L (14 - n) n = scT (M 143) L → mj_T K d 146 12 [some (.inr (.inr (.inl 126))), some (.inl ((n : Nat) : Int)), sv o2, sv o3] [] (mj_Sh, (st M [(126, f), (144, g)]), N) (fun r Z => r = some (.inl (qRead (M 143) L (M 127))) ∧ ∃ M1, Z = (mj_Sh, M1, N) ∧ M1 127 = aRead (M 143) L (M 127) ∧ mW M1 ∧ mKr M M1) := by
      intro k
      induction k with
      | zero =>
        intro n hn
        have ih : n + 1 < 14 → ∀ (f g : Nat → Int) (o2 o3 : Option (Int ⊕ (Nat ⊕ Nat))), aO f (M 126) ((stP (M 143) L (n + 1)) : Int) (-1) → (stP (M 143) L (n + 1)) ≤ L → (∀ i, i < (n + 1) → rdV (M 143) L (stP (M 143) L i) (g (4 * i)) (g (4 * i + 1)) (g (4 * i + 2)) (g (4 * i + 3))) → scR (M 143) L (14 - (n + 1)) (n + 1) = scT (M 143) L → mj_T K d 146 12 [some (.inr (.inr (.inl 126))), some (.inl (((n + 1) : Nat) : Int)), sv o2, sv o3] [] (mj_Sh, (st M [(126, f), (144, g)]), N) (fun r Z => r = some (.inl (qRead (M 143) L (M 127))) ∧ ∃ M1, Z = (mj_Sh, M1, N) ∧ M1 127 = aRead (M 143) L (M 127) ∧ mW M1 ∧ mKr M M1) := fun h => by omega
        intro f g o2 o3 ho hst hrd hsc
        refine tw_aload k146_12 rfl ?_
        refine tw_const k146_13 ?_
        refine tw_iload k146_14 rfl ?_
        refine tw_imul k146_15 (v := ((4 * n : Nat) : Int)) rfl (by omega) ?_
        refine tw_call (by omega) (S' := []) (as := [.inr (.inr (.inl 126)), .inl ((4 * n : Nat) : Int)]) k146_16 (x_144 (M := (st M [(126, f), (144, g)])) (N := N) (by omega) L (show f 23 = (L : Int) from by rw [ho.2.2 23 (by omega) (by omega)]; exact hL) h100 htx (stP (M 143) L n) hst (show f 24 = _ from ho.1) (show f 25 = _ from ho.2.1) (4 * n) (by omega)) rfl rfl rfl rfl rfl (fun r16 Z16 hq16 => ?_)
        obtain ⟨rfl, f2, g2, rfl, ho2, hv2, hg2⟩ := hq16
        have ho2 : aO f2 (M 126) ((clR (M 143) L (stP (M 143) L n)).2 : Int) (if (clR (M 143) L (stP (M 143) L n)).1 = true then -1 else ((clR (M 143) L (stP (M 143) L n)).2 : Int)) := aO_tr ho2 ho
        have hv2 : (clR (M 143) L (stP (M 143) L n)).1 = true → rdV (M 143) L (stP (M 143) L n) (g2 (4 * n)) (g2 (4 * n + 1)) (g2 (4 * n + 2)) (g2 (4 * n + 3)) := hv2
        have hg2 : ∀ j, ¬ (4 * n ≤ j ∧ j ≤ 4 * n + 3) → g2 j = g j := hg2
        refine tw_as (S := []) (M := (st M [(126, f2), (144, g2)])) (N := N) (by rw [st_mg]; rfl) rfl ?_
        refine tw_iinc k146_19 rfl (v := ((n + 1 : Nat) : Int)) rfl (by omega) rfl (L' := [some (.inr (.inr (.inl 126))), some (.inl ((n + 1 : Nat) : Int)), sv o2, sv o3]) rfl ?_
        have hcr := clR_rg (tx := M 143) hst
        have hrd2 : (clR (M 143) L (stP (M 143) L n)).1 = true → (∀ i, i < (n + 1) → rdV (M 143) L (stP (M 143) L i) (g2 (4 * i)) (g2 (4 * i + 1)) (g2 (4 * i + 2)) (g2 (4 * i + 3))) := fun hk i hi => by
          by_cases e : i = n
          · subst e; exact hv2 hk
          · rw [hg2 _ (by omega), hg2 _ (by omega), hg2 _ (by omega), hg2 _ (by omega)]; exact hrd i (by omega)
        obtain ⟨q, hq⟩ : ∃ q, q = (clR (M 143) L (stP (M 143) L n)).2 := ⟨_, rfl⟩
        rw [show 14 - n = (14 - (n + 1)) + 1 by omega, scR, ← hq] at hsc
        rw [← hq] at ho2 hcr
        by_cases hk : (clR (M 143) L (stP (M 143) L n)).1 = true
        · rw [if_pos hk] at hsc
          rw [if_pos hk] at ho2
          have hrd3 := hrd2 hk
          by_cases hlt : q < L
          · rw [if_pos hlt] at hsc
            by_cases h14 : n + 1 < 14
            · by_cases h59 : M 143 q = 59
              · refine tw_iload k146_22 rfl ?_
                refine tw_const k146_23 ?_
                refine tw_cgeF k146_25 (by omega) ?_
                refine tw_aload k146_28 rfl ?_
                refine tw_const k146_29 ?_
                refine tw_call (by omega) (S' := []) (as := [.inr (.inr (.inl 126)), .inl (59 : Int)]) k146_31 (x_140 (M := st M [(126, f2), (144, g2)]) (N := N) L (show f2 23 = (L : Int) from by rw [ho2.2.2 23 (by omega) (by omega)]; exact hL) h100 htx q hcr.2 (show f2 24 = _ from ho2.1) (-1) (show f2 25 = _ from ho2.2.1) 59) rfl rfl rfl rfl rfl (fun r31 Z31 hq31 => ?_)
                obtain ⟨rfl, f3, rfl, ho3⟩ := hq31
                have ho3 : aO f3 (M 126) (if (-1) < 0 ∧ q < L ∧ M 143 q = 59 then ((q + 1 : Nat) : Int) else (q : Int)) (-1) := aO_tr ho3 ho2
                rw [if_pos ⟨by omega, hlt, h59⟩] at ho3
                refine tw_as (S := [.inl (if (-1) < 0 ∧ q < L ∧ M 143 q = 59 then (1 : Int) else 0)]) (M := (st M [(126, f3), (144, g2)])) (N := N) (by rw [st_mg]; rfl) rfl ?_
                refine tw_zneT k146_34 (fun hz => absurd ((if_pos ⟨by omega, hlt, h59⟩).symm.trans hz) (by decide)) ?_
                refine ih h14 f3 g2 o2 o3 ?_ ?_ hrd3 ?_
                · rw [stP, ← hq]; exact ho3
                · rw [stP, ← hq]; exact hlt
                · rw [← hsc, if_pos ⟨by omega, h59⟩]
              · have hE : (scT (M 143) L).1 = false ∧ (scT (M 143) L).2.1 = q := by rw [← hsc, if_neg (fun h => h59 h.2)]; exact ⟨rfl, rfl⟩
                refine tw_iload k146_22 rfl ?_
                refine tw_const k146_23 ?_
                refine tw_cgeF k146_25 (by omega) ?_
                refine tw_aload k146_28 rfl ?_
                refine tw_const k146_29 ?_
                refine tw_call (by omega) (S' := []) (as := [.inr (.inr (.inl 126)), .inl (59 : Int)]) k146_31 (x_140 (M := st M [(126, f2), (144, g2)]) (N := N) L (show f2 23 = (L : Int) from by rw [ho2.2.2 23 (by omega) (by omega)]; exact hL) h100 htx q hcr.2 (show f2 24 = _ from ho2.1) (-1) (show f2 25 = _ from ho2.2.1) 59) rfl rfl rfl rfl rfl (fun r31 Z31 hq31 => ?_)
                obtain ⟨rfl, f3, rfl, ho3⟩ := hq31
                have ho3 : aO f3 (M 126) (if (-1) < 0 ∧ q < L ∧ M 143 q = 59 then ((q + 1 : Nat) : Int) else (q : Int)) (-1) := aO_tr ho3 ho2
                rw [if_neg (fun h => h59 h.2.2)] at ho3
                refine tw_as (S := [.inl (if (-1) < 0 ∧ q < L ∧ M 143 q = 59 then (1 : Int) else 0)]) (M := (st M [(126, f3), (144, g2)])) (N := N) (by rw [st_mg]; rfl) rfl ?_
                refine tw_zneF k146_34 (if_neg (fun h => h59 h.2.2)) ?_
                exact keyE (n + 1) q (-1) f3 g2 o2 o3 ho3 hcr.2 (by omega) (Or.inr ⟨Or.inr ⟨rfl, hlt⟩, hE.1, hE.2⟩)
            · have hE : (scT (M 143) L).1 = false ∧ (scT (M 143) L).2.1 = q := by rw [← hsc, if_neg (fun h => by have := h.1; omega)]; exact ⟨rfl, rfl⟩
              refine tw_iload k146_22 rfl ?_
              refine tw_const k146_23 ?_
              refine tw_cgeT k146_25 (by omega) ?_
              exact keyE (n + 1) q (-1) f2 g2 o2 o3 ho2 hcr.2 (by omega) (Or.inr ⟨Or.inr ⟨rfl, hlt⟩, hE.1, hE.2⟩)
          · rw [if_neg hlt] at hsc
            have hE : scT (M 143) L = (true, q, n + 1) := hsc.symm
            by_cases h14 : n + 1 < 14
            · refine tw_iload k146_22 rfl ?_
              refine tw_const k146_23 ?_
              refine tw_cgeF k146_25 (by omega) ?_
              refine tw_aload k146_28 rfl ?_
              refine tw_const k146_29 ?_
              refine tw_call (by omega) (S' := []) (as := [.inr (.inr (.inl 126)), .inl (59 : Int)]) k146_31 (x_140 (M := st M [(126, f2), (144, g2)]) (N := N) L (show f2 23 = (L : Int) from by rw [ho2.2.2 23 (by omega) (by omega)]; exact hL) h100 htx q hcr.2 (show f2 24 = _ from ho2.1) (-1) (show f2 25 = _ from ho2.2.1) 59) rfl rfl rfl rfl rfl (fun r31 Z31 hq31 => ?_)
              obtain ⟨rfl, f3, rfl, ho3⟩ := hq31
              have ho3 : aO f3 (M 126) (if (-1) < 0 ∧ q < L ∧ M 143 q = 59 then ((q + 1 : Nat) : Int) else (q : Int)) (-1) := aO_tr ho3 ho2
              rw [if_neg (fun h => hlt h.2.1)] at ho3
              refine tw_as (S := [.inl (if (-1) < 0 ∧ q < L ∧ M 143 q = 59 then (1 : Int) else 0)]) (M := (st M [(126, f3), (144, g2)])) (N := N) (by rw [st_mg]; rfl) rfl ?_
              refine tw_zneF k146_34 (if_neg (fun h => hlt h.2.1)) ?_
              exact keyE (n + 1) q (-1) f3 g2 o2 o3 ho3 hcr.2 (by omega) (Or.inl ⟨rfl, by omega, hE, hrd3⟩)
            · refine tw_iload k146_22 rfl ?_
              refine tw_const k146_23 ?_
              refine tw_cgeT k146_25 (by omega) ?_
              exact keyE (n + 1) q (-1) f2 g2 o2 o3 ho2 hcr.2 (by omega) (Or.inl ⟨rfl, by omega, hE, hrd3⟩)
        · rw [if_neg hk] at hsc
          rw [if_neg hk] at ho2
          have hE : (scT (M 143) L).1 = false ∧ (scT (M 143) L).2.1 = q := by rw [← hsc]; exact ⟨rfl, rfl⟩
          by_cases h14 : n + 1 < 14
          · refine tw_iload k146_22 rfl ?_
            refine tw_const k146_23 ?_
            refine tw_cgeF k146_25 (by omega) ?_
            refine tw_aload k146_28 rfl ?_
            refine tw_const k146_29 ?_
            refine tw_call (by omega) (S' := []) (as := [.inr (.inr (.inl 126)), .inl (59 : Int)]) k146_31 (x_140 (M := st M [(126, f2), (144, g2)]) (N := N) L (show f2 23 = (L : Int) from by rw [ho2.2.2 23 (by omega) (by omega)]; exact hL) h100 htx q hcr.2 (show f2 24 = _ from ho2.1) (q : Int) (show f2 25 = _ from ho2.2.1) 59) rfl rfl rfl rfl rfl (fun r31 Z31 hq31 => ?_)
            obtain ⟨rfl, f3, rfl, ho3⟩ := hq31
            have ho3 : aO f3 (M 126) (if (q : Int) < 0 ∧ q < L ∧ M 143 q = 59 then ((q + 1 : Nat) : Int) else (q : Int)) (q : Int) := aO_tr ho3 ho2
            rw [if_neg (by omega)] at ho3
            refine tw_as (S := [.inl (if (q : Int) < 0 ∧ q < L ∧ M 143 q = 59 then (1 : Int) else 0)]) (M := (st M [(126, f3), (144, g2)])) (N := N) (by rw [st_mg]; rfl) rfl ?_
            refine tw_zneF k146_34 (if_neg (by omega)) ?_
            exact keyE (n + 1) q (q : Int) f3 g2 o2 o3 ho3 hcr.2 (by omega) (Or.inr ⟨Or.inl rfl, hE.1, hE.2⟩)
          · refine tw_iload k146_22 rfl ?_
            refine tw_const k146_23 ?_
            refine tw_cgeT k146_25 (by omega) ?_
            exact keyE (n + 1) q (q : Int) f2 g2 o2 o3 ho2 hcr.2 (by omega) (Or.inr ⟨Or.inl rfl, hE.1, hE.2⟩)
      | succ k ihk =>
        intro n hn
        have ih : n + 1 < 14 → ∀ (f g : Nat → Int) (o2 o3 : Option (Int ⊕ (Nat ⊕ Nat))), aO f (M 126) ((stP (M 143) L (n + 1)) : Int) (-1) → (stP (M 143) L (n + 1)) ≤ L → (∀ i, i < (n + 1) → rdV (M 143) L (stP (M 143) L i) (g (4 * i)) (g (4 * i + 1)) (g (4 * i + 2)) (g (4 * i + 3))) → scR (M 143) L (14 - (n + 1)) (n + 1) = scT (M 143) L → mj_T K d 146 12 [some (.inr (.inr (.inl 126))), some (.inl (((n + 1) : Nat) : Int)), sv o2, sv o3] [] (mj_Sh, (st M [(126, f), (144, g)]), N) (fun r Z => r = some (.inl (qRead (M 143) L (M 127))) ∧ ∃ M1, Z = (mj_Sh, M1, N) ∧ M1 127 = aRead (M 143) L (M 127) ∧ mW M1 ∧ mKr M M1) := fun h => ihk (n + 1) (by omega)
        intro f g o2 o3 ho hst hrd hsc
        refine tw_aload k146_12 rfl ?_
        refine tw_const k146_13 ?_
        refine tw_iload k146_14 rfl ?_
        refine tw_imul k146_15 (v := ((4 * n : Nat) : Int)) rfl (by omega) ?_
        refine tw_call (by omega) (S' := []) (as := [.inr (.inr (.inl 126)), .inl ((4 * n : Nat) : Int)]) k146_16 (x_144 (M := (st M [(126, f), (144, g)])) (N := N) (by omega) L (show f 23 = (L : Int) from by rw [ho.2.2 23 (by omega) (by omega)]; exact hL) h100 htx (stP (M 143) L n) hst (show f 24 = _ from ho.1) (show f 25 = _ from ho.2.1) (4 * n) (by omega)) rfl rfl rfl rfl rfl (fun r16 Z16 hq16 => ?_)
        obtain ⟨rfl, f2, g2, rfl, ho2, hv2, hg2⟩ := hq16
        have ho2 : aO f2 (M 126) ((clR (M 143) L (stP (M 143) L n)).2 : Int) (if (clR (M 143) L (stP (M 143) L n)).1 = true then -1 else ((clR (M 143) L (stP (M 143) L n)).2 : Int)) := aO_tr ho2 ho
        have hv2 : (clR (M 143) L (stP (M 143) L n)).1 = true → rdV (M 143) L (stP (M 143) L n) (g2 (4 * n)) (g2 (4 * n + 1)) (g2 (4 * n + 2)) (g2 (4 * n + 3)) := hv2
        have hg2 : ∀ j, ¬ (4 * n ≤ j ∧ j ≤ 4 * n + 3) → g2 j = g j := hg2
        refine tw_as (S := []) (M := (st M [(126, f2), (144, g2)])) (N := N) (by rw [st_mg]; rfl) rfl ?_
        refine tw_iinc k146_19 rfl (v := ((n + 1 : Nat) : Int)) rfl (by omega) rfl (L' := [some (.inr (.inr (.inl 126))), some (.inl ((n + 1 : Nat) : Int)), sv o2, sv o3]) rfl ?_
        have hcr := clR_rg (tx := M 143) hst
        have hrd2 : (clR (M 143) L (stP (M 143) L n)).1 = true → (∀ i, i < (n + 1) → rdV (M 143) L (stP (M 143) L i) (g2 (4 * i)) (g2 (4 * i + 1)) (g2 (4 * i + 2)) (g2 (4 * i + 3))) := fun hk i hi => by
          by_cases e : i = n
          · subst e; exact hv2 hk
          · rw [hg2 _ (by omega), hg2 _ (by omega), hg2 _ (by omega), hg2 _ (by omega)]; exact hrd i (by omega)
        obtain ⟨q, hq⟩ : ∃ q, q = (clR (M 143) L (stP (M 143) L n)).2 := ⟨_, rfl⟩
        rw [show 14 - n = (14 - (n + 1)) + 1 by omega, scR, ← hq] at hsc
        rw [← hq] at ho2 hcr
        by_cases hk : (clR (M 143) L (stP (M 143) L n)).1 = true
        · rw [if_pos hk] at hsc
          rw [if_pos hk] at ho2
          have hrd3 := hrd2 hk
          by_cases hlt : q < L
          · rw [if_pos hlt] at hsc
            by_cases h14 : n + 1 < 14
            · by_cases h59 : M 143 q = 59
              · refine tw_iload k146_22 rfl ?_
                refine tw_const k146_23 ?_
                refine tw_cgeF k146_25 (by omega) ?_
                refine tw_aload k146_28 rfl ?_
                refine tw_const k146_29 ?_
                refine tw_call (by omega) (S' := []) (as := [.inr (.inr (.inl 126)), .inl (59 : Int)]) k146_31 (x_140 (M := st M [(126, f2), (144, g2)]) (N := N) L (show f2 23 = (L : Int) from by rw [ho2.2.2 23 (by omega) (by omega)]; exact hL) h100 htx q hcr.2 (show f2 24 = _ from ho2.1) (-1) (show f2 25 = _ from ho2.2.1) 59) rfl rfl rfl rfl rfl (fun r31 Z31 hq31 => ?_)
                obtain ⟨rfl, f3, rfl, ho3⟩ := hq31
                have ho3 : aO f3 (M 126) (if (-1) < 0 ∧ q < L ∧ M 143 q = 59 then ((q + 1 : Nat) : Int) else (q : Int)) (-1) := aO_tr ho3 ho2
                rw [if_pos ⟨by omega, hlt, h59⟩] at ho3
                refine tw_as (S := [.inl (if (-1) < 0 ∧ q < L ∧ M 143 q = 59 then (1 : Int) else 0)]) (M := (st M [(126, f3), (144, g2)])) (N := N) (by rw [st_mg]; rfl) rfl ?_
                refine tw_zneT k146_34 (fun hz => absurd ((if_pos ⟨by omega, hlt, h59⟩).symm.trans hz) (by decide)) ?_
                refine ih h14 f3 g2 o2 o3 ?_ ?_ hrd3 ?_
                · rw [stP, ← hq]; exact ho3
                · rw [stP, ← hq]; exact hlt
                · rw [← hsc, if_pos ⟨by omega, h59⟩]
              · have hE : (scT (M 143) L).1 = false ∧ (scT (M 143) L).2.1 = q := by rw [← hsc, if_neg (fun h => h59 h.2)]; exact ⟨rfl, rfl⟩
                refine tw_iload k146_22 rfl ?_
                refine tw_const k146_23 ?_
                refine tw_cgeF k146_25 (by omega) ?_
                refine tw_aload k146_28 rfl ?_
                refine tw_const k146_29 ?_
                refine tw_call (by omega) (S' := []) (as := [.inr (.inr (.inl 126)), .inl (59 : Int)]) k146_31 (x_140 (M := st M [(126, f2), (144, g2)]) (N := N) L (show f2 23 = (L : Int) from by rw [ho2.2.2 23 (by omega) (by omega)]; exact hL) h100 htx q hcr.2 (show f2 24 = _ from ho2.1) (-1) (show f2 25 = _ from ho2.2.1) 59) rfl rfl rfl rfl rfl (fun r31 Z31 hq31 => ?_)
                obtain ⟨rfl, f3, rfl, ho3⟩ := hq31
                have ho3 : aO f3 (M 126) (if (-1) < 0 ∧ q < L ∧ M 143 q = 59 then ((q + 1 : Nat) : Int) else (q : Int)) (-1) := aO_tr ho3 ho2
                rw [if_neg (fun h => h59 h.2.2)] at ho3
                refine tw_as (S := [.inl (if (-1) < 0 ∧ q < L ∧ M 143 q = 59 then (1 : Int) else 0)]) (M := (st M [(126, f3), (144, g2)])) (N := N) (by rw [st_mg]; rfl) rfl ?_
                refine tw_zneF k146_34 (if_neg (fun h => h59 h.2.2)) ?_
                exact keyE (n + 1) q (-1) f3 g2 o2 o3 ho3 hcr.2 (by omega) (Or.inr ⟨Or.inr ⟨rfl, hlt⟩, hE.1, hE.2⟩)
            · have hE : (scT (M 143) L).1 = false ∧ (scT (M 143) L).2.1 = q := by rw [← hsc, if_neg (fun h => by have := h.1; omega)]; exact ⟨rfl, rfl⟩
              refine tw_iload k146_22 rfl ?_
              refine tw_const k146_23 ?_
              refine tw_cgeT k146_25 (by omega) ?_
              exact keyE (n + 1) q (-1) f2 g2 o2 o3 ho2 hcr.2 (by omega) (Or.inr ⟨Or.inr ⟨rfl, hlt⟩, hE.1, hE.2⟩)
          · rw [if_neg hlt] at hsc
            have hE : scT (M 143) L = (true, q, n + 1) := hsc.symm
            by_cases h14 : n + 1 < 14
            · refine tw_iload k146_22 rfl ?_
              refine tw_const k146_23 ?_
              refine tw_cgeF k146_25 (by omega) ?_
              refine tw_aload k146_28 rfl ?_
              refine tw_const k146_29 ?_
              refine tw_call (by omega) (S' := []) (as := [.inr (.inr (.inl 126)), .inl (59 : Int)]) k146_31 (x_140 (M := st M [(126, f2), (144, g2)]) (N := N) L (show f2 23 = (L : Int) from by rw [ho2.2.2 23 (by omega) (by omega)]; exact hL) h100 htx q hcr.2 (show f2 24 = _ from ho2.1) (-1) (show f2 25 = _ from ho2.2.1) 59) rfl rfl rfl rfl rfl (fun r31 Z31 hq31 => ?_)
              obtain ⟨rfl, f3, rfl, ho3⟩ := hq31
              have ho3 : aO f3 (M 126) (if (-1) < 0 ∧ q < L ∧ M 143 q = 59 then ((q + 1 : Nat) : Int) else (q : Int)) (-1) := aO_tr ho3 ho2
              rw [if_neg (fun h => hlt h.2.1)] at ho3
              refine tw_as (S := [.inl (if (-1) < 0 ∧ q < L ∧ M 143 q = 59 then (1 : Int) else 0)]) (M := (st M [(126, f3), (144, g2)])) (N := N) (by rw [st_mg]; rfl) rfl ?_
              refine tw_zneF k146_34 (if_neg (fun h => hlt h.2.1)) ?_
              exact keyE (n + 1) q (-1) f3 g2 o2 o3 ho3 hcr.2 (by omega) (Or.inl ⟨rfl, by omega, hE, hrd3⟩)
            · refine tw_iload k146_22 rfl ?_
              refine tw_const k146_23 ?_
              refine tw_cgeT k146_25 (by omega) ?_
              exact keyE (n + 1) q (-1) f2 g2 o2 o3 ho2 hcr.2 (by omega) (Or.inl ⟨rfl, by omega, hE, hrd3⟩)
        · rw [if_neg hk] at hsc
          rw [if_neg hk] at ho2
          have hE : (scT (M 143) L).1 = false ∧ (scT (M 143) L).2.1 = q := by rw [← hsc]; exact ⟨rfl, rfl⟩
          by_cases h14 : n + 1 < 14
          · refine tw_iload k146_22 rfl ?_
            refine tw_const k146_23 ?_
            refine tw_cgeF k146_25 (by omega) ?_
            refine tw_aload k146_28 rfl ?_
            refine tw_const k146_29 ?_
            refine tw_call (by omega) (S' := []) (as := [.inr (.inr (.inl 126)), .inl (59 : Int)]) k146_31 (x_140 (M := st M [(126, f2), (144, g2)]) (N := N) L (show f2 23 = (L : Int) from by rw [ho2.2.2 23 (by omega) (by omega)]; exact hL) h100 htx q hcr.2 (show f2 24 = _ from ho2.1) (q : Int) (show f2 25 = _ from ho2.2.1) 59) rfl rfl rfl rfl rfl (fun r31 Z31 hq31 => ?_)
            obtain ⟨rfl, f3, rfl, ho3⟩ := hq31
            have ho3 : aO f3 (M 126) (if (q : Int) < 0 ∧ q < L ∧ M 143 q = 59 then ((q + 1 : Nat) : Int) else (q : Int)) (q : Int) := aO_tr ho3 ho2
            rw [if_neg (by omega)] at ho3
            refine tw_as (S := [.inl (if (q : Int) < 0 ∧ q < L ∧ M 143 q = 59 then (1 : Int) else 0)]) (M := (st M [(126, f3), (144, g2)])) (N := N) (by rw [st_mg]; rfl) rfl ?_
            refine tw_zneF k146_34 (if_neg (by omega)) ?_
            exact keyE (n + 1) q (q : Int) f3 g2 o2 o3 ho3 hcr.2 (by omega) (Or.inr ⟨Or.inl rfl, hE.1, hE.2⟩)
          · refine tw_iload k146_22 rfl ?_
            refine tw_const k146_23 ?_
            refine tw_cgeT k146_25 (by omega) ?_
            exact keyE (n + 1) q (q : Int) f2 g2 o2 o3 ho2 hcr.2 (by omega) (Or.inr ⟨Or.inl rfl, hE.1, hE.2⟩)
    exact fun n hn => kk (13 - n) n (by omega)
  refine tw_aload k146_0 rfl ?_
  refine tw_const k146_1 ?_
  refine tw_puti (M := M) (N := N) (l := []) (l' := [(126, (pU (M 126) 24 (0 : Int)))]) k146_2 f126_24 rfl ?_
  refine tw_aload k146_5 rfl ?_
  refine tw_const k146_6 ?_
  refine tw_puti (M := M) (N := N) (l := [(126, (pU (M 126) 24 (0 : Int)))]) (l' := [(126, (pU (pU (M 126) 24 (0 : Int)) 25 (-1 : Int)))]) k146_7 f126_25 rfl ?_
  refine tw_const k146_10 ?_
  refine tw_istore k146_11 rfl (L' := [some (.inr (.inr (.inl 126))), some (.inl (0 : Int)), none, none]) rfl ?_
  refine tw_pad (M := M) (N := N) (l := [(126, (pU (pU (M 126) 24 (0 : Int)) 25 (-1 : Int)))]) (l' := [(126, (pU (pU (M 126) 24 (0 : Int)) 25 (-1 : Int))), (144, M 144)]) [144] rfl ?_
  exact key1 0 (by omega) _ _ none none ⟨by rw [pU_ne (by omega), pU_eq]; rfl, by rw [pU_eq], fun j h1 h2 => by rw [pU_ne h2, pU_ne h1]⟩ (by rw [stP]; omega) (fun i hi => by omega) rfl
