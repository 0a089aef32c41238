-- the model: takes, gives, borrows
theorem x_124 {K : mj_C} {d : Nat} {M : Nat → Nat → Int} {N : Nat → Nat → Int64} (hD : 1 ≤ d) (hs : pRg (M 127)) (G : GS) (hO : gOk (M 127 0).toNat G) (hG : gRel (M 126 17) (M 136) (M 137) (M 138) G) (W : WS) (hP : ∀ y, y < 5 → M 130 y = W.1 y) (hB : ∀ y, y < 5 → 0 ≤ W.1 y ∧ W.1 y ≤ 1000) (hr : M 126 18 = W.2.2.1) (ht : M 126 19 = W.2.2.2.1) (hrr : -1000 ≤ W.2.2.1 ∧ W.2.2.1 ≤ 100000) (htt : -1000 ≤ W.2.2.2.1 ∧ W.2.2.2.1 ≤ 100000) : mj_X K d 124 [.inr (.inr (.inl 126))] (mj_Sh, M, N) (fun r Z => (tkG (M 127) W G < G.1 ∧ r = some (.inl 1) ∧ Z = (mj_Sh, st M [(130, pU (M 130) (pBk W.1 (G.2.2.1 (tkG (M 127) W G))) (W.1 (pBk W.1 (G.2.2.1 (tkG (M 127) W G))) - 1)), (126, pU (pU (M 126) 18 (W.2.2.1 + 1)) 19 (W.2.2.2.1 + 1))], N)) ∨ (tkG (M 127) W G = G.1 ∧ r = some (.inl 0) ∧ Z = (mj_Sh, M, N))) := by
  show mj_T K d 124 0 [some (.inr (.inr (.inl 126))), none, none] [] (mj_Sh, M, N) _
  have h0 := hs.1 0 (by omega)
  have h5 := hs.2.1
  obtain ⟨hO1, hO2, hO3, hO4, hO5⟩ := hO
  have key : ∀ g : Nat, g ≤ G.1 → ∀ o2, (∀ j, j < g → ¬ (((G.2.2.2 j : Nat) : Int) < M 127 42 ∧ ¬ gTot W.1 G j = 0)) → mj_T K d 124 2 [some (.inr (.inr (.inl 126))), some (.inl ((g : Nat) : Int)), sv o2] [] (mj_Sh, M, N) (fun r Z => (tkG (M 127) W G < G.1 ∧ r = some (.inl 1) ∧ Z = (mj_Sh, st M [(130, pU (M 130) (pBk W.1 (G.2.2.1 (tkG (M 127) W G))) (W.1 (pBk W.1 (G.2.2.1 (tkG (M 127) W G))) - 1)), (126, pU (pU (M 126) 18 (W.2.2.1 + 1)) 19 (W.2.2.2.1 + 1))], N)) ∨ (tkG (M 127) W G = G.1 ∧ r = some (.inl 0) ∧ Z = (mj_Sh, M, N))) := by
    refine up_to G.1 ?_ ?_
    · show ∀ o2, (∀ j, j < G.1 → ¬ (((G.2.2.2 j : Nat) : Int) < M 127 42 ∧ ¬ gTot W.1 G j = 0)) → mj_T K d 124 2 [some (.inr (.inr (.inl 126))), some (.inl ((G.1 : Nat) : Int)), sv o2] [] (mj_Sh, M, N) (fun r Z => (tkG (M 127) W G < G.1 ∧ r = some (.inl 1) ∧ Z = (mj_Sh, st M [(130, pU (M 130) (pBk W.1 (G.2.2.1 (tkG (M 127) W G))) (W.1 (pBk W.1 (G.2.2.1 (tkG (M 127) W G))) - 1)), (126, pU (pU (M 126) 18 (W.2.2.1 + 1)) 19 (W.2.2.2.1 + 1))], N)) ∨ (tkG (M 127) W G = G.1 ∧ r = some (.inl 0) ∧ Z = (mj_Sh, M, N)))
      intro o2 hN
      refine tw_iload k124_2 rfl ?_
      refine tw_aload k124_3 rfl ?_
      refine tw_geti k124_4 f126_17 rfl (v := ((G.1 : Nat) : Int)) hG.1 ?_
      refine tw_cgeT k124_7 (by omega) ?_
      refine tw_const k124_97 ?_
      exact tw_rb k124_98 (by decide) (Or.inr ⟨by unfold tkG; rw [pFd_no G.1 0 (fun j _ hj => hN j (by omega))]; omega, rfl, rfl⟩)
    · intro g hmg ih
      have ih : ∀ o2, (∀ j, j < (g + 1) → ¬ (((G.2.2.2 j : Nat) : Int) < M 127 42 ∧ ¬ gTot W.1 G j = 0)) → mj_T K d 124 2 [some (.inr (.inr (.inl 126))), some (.inl (((g + 1) : Nat) : Int)), sv o2] [] (mj_Sh, M, N) (fun r Z => (tkG (M 127) W G < G.1 ∧ r = some (.inl 1) ∧ Z = (mj_Sh, st M [(130, pU (M 130) (pBk W.1 (G.2.2.1 (tkG (M 127) W G))) (W.1 (pBk W.1 (G.2.2.1 (tkG (M 127) W G))) - 1)), (126, pU (pU (M 126) 18 (W.2.2.1 + 1)) 19 (W.2.2.2.1 + 1))], N)) ∨ (tkG (M 127) W G = G.1 ∧ r = some (.inl 0) ∧ Z = (mj_Sh, M, N))) := ih
      show ∀ o2, (∀ j, j < g → ¬ (((G.2.2.2 j : Nat) : Int) < M 127 42 ∧ ¬ gTot W.1 G j = 0)) → mj_T K d 124 2 [some (.inr (.inr (.inl 126))), some (.inl ((g : Nat) : Int)), sv o2] [] (mj_Sh, M, N) (fun r Z => (tkG (M 127) W G < G.1 ∧ r = some (.inl 1) ∧ Z = (mj_Sh, st M [(130, pU (M 130) (pBk W.1 (G.2.2.1 (tkG (M 127) W G))) (W.1 (pBk W.1 (G.2.2.1 (tkG (M 127) W G))) - 1)), (126, pU (pU (M 126) 18 (W.2.2.1 + 1)) 19 (W.2.2.2.1 + 1))], N)) ∨ (tkG (M 127) W G = G.1 ∧ r = some (.inl 0) ∧ Z = (mj_Sh, M, N)))
      intro o2 hN
      have a1 := hO2 g (by omega)
      refine tw_iload k124_2 rfl ?_
      refine tw_aload k124_3 rfl ?_
      refine tw_geti k124_4 f126_17 rfl (v := ((G.1 : Nat) : Int)) hG.1 ?_
      refine tw_cgeF k124_7 (by omega) ?_
      refine tw_aload k124_10 rfl ?_
      refine tw_getr k124_11 f126_12 ?_
      refine tw_iload k124_14 rfl ?_
      refine tw_iald (j := g) (v := (((G.2.2.2 g) : Nat) : Int)) k124_15 al138 rfl (by omega) (hG.2 g (by omega)).2.2 ?_
      refine tw_aload k124_16 rfl ?_
      refine tw_getr k124_17 f126_0 ?_
      refine tw_const k124_20 ?_
      refine tw_iald (j := 42) (v := (M 127 42)) k124_22 al127 rfl (by decide) rfl ?_
      refine tw_cge k124_23 (fun h23 => ?_) (fun h23 => ?_)
      · refine tw_iinc k124_91 rfl (v := ((g + 1 : Nat) : Int)) rfl (by omega) rfl (L' := [some (.inr (.inr (.inl 126))), some (.inl ((g + 1 : Nat) : Int)), sv o2]) rfl ?_
        refine tw_goto k124_94 ?_
        exact ih o2 (fun j hj => by
          by_cases e : j = g
          · subst e; intro hc; omega
          · exact hN j (by omega))
      · refine tw_aload k124_26 rfl ?_
        refine tw_iload k124_27 rfl ?_
        refine tw_callp (v := .inl (pS W.1 (G.2.1 g) ((G.2.2.1 g) + 1 - (G.2.1 g)))) (by omega) (S' := []) (as := [.inr (.inr (.inl 126)), .inl ((g : Nat) : Int)]) k124_28 (x_120 (M := M) (N := N) g (G.2.1 g) (G.2.2.1 g) (by omega) (hG.2 g (by omega)).1 (hG.2 g (by omega)).2.1 (by omega) (by omega) W.1 (fun y _ _ => hP y (by omega)) (fun y _ _ => hB y (by omega))) rfl rfl rfl rfl rfl ?_
        refine tw_zne k124_31 (fun h31 => ?_) (fun h31 => ?_)
        · refine tw_aload k124_37 rfl ?_
          refine tw_getr k124_38 f126_11 ?_
          refine tw_iload k124_41 rfl ?_
          refine tw_iald (j := g) (v := (((G.2.2.1 g) : Nat) : Int)) k124_42 al137 rfl (by omega) (hG.2 g (by omega)).2.1 ?_
          refine tw_istore k124_43 rfl (L' := [some (.inr (.inr (.inl 126))), some (.inl ((g : Nat) : Int)), some (.inl (((G.2.2.1 g) : Nat) : Int))]) rfl ?_
          have htk : tkG (M 127) W G = g := pFd_eq G.1 0 g (by omega) (by omega) ⟨by omega, h31⟩ (fun j _ hj => hN j hj)
          obtain ⟨b1, b2, b3, b4⟩ := pBk_sp (perm := W.1) (G.2.2.1 g) (G.2.1 g) a1.1 h31
          have hw := hB (pBk W.1 (G.2.2.1 g)) (by omega)
          have key2 : ∀ i : Nat, i ≤ (G.2.2.1 g - pBk W.1 (G.2.2.1 g)) → mj_T K d 124 44 [some (.inr (.inr (.inl 126))), some (.inl ((g : Nat) : Int)), some (.inl (((G.2.2.1 g - i) : Nat) : Int))] [] (mj_Sh, M, N) (fun r Z => (tkG (M 127) W G < G.1 ∧ r = some (.inl 1) ∧ Z = (mj_Sh, st M [(130, pU (M 130) (pBk W.1 (G.2.2.1 (tkG (M 127) W G))) (W.1 (pBk W.1 (G.2.2.1 (tkG (M 127) W G))) - 1)), (126, pU (pU (M 126) 18 (W.2.2.1 + 1)) 19 (W.2.2.2.1 + 1))], N)) ∨ (tkG (M 127) W G = G.1 ∧ r = some (.inl 0) ∧ Z = (mj_Sh, M, N))) := by
            refine up_to (G.2.2.1 g - pBk W.1 (G.2.2.1 g)) ?_ ?_
            · show mj_T K d 124 44 [some (.inr (.inr (.inl 126))), some (.inl ((g : Nat) : Int)), some (.inl (((G.2.2.1 g - (G.2.2.1 g - pBk W.1 (G.2.2.1 g))) : Nat) : Int))] [] (mj_Sh, M, N) (fun r Z => (tkG (M 127) W G < G.1 ∧ r = some (.inl 1) ∧ Z = (mj_Sh, st M [(130, pU (M 130) (pBk W.1 (G.2.2.1 (tkG (M 127) W G))) (W.1 (pBk W.1 (G.2.2.1 (tkG (M 127) W G))) - 1)), (126, pU (pU (M 126) 18 (W.2.2.1 + 1)) 19 (W.2.2.2.1 + 1))], N)) ∨ (tkG (M 127) W G = G.1 ∧ r = some (.inl 0) ∧ Z = (mj_Sh, M, N)))
              have e : G.2.2.1 g - (G.2.2.1 g - pBk W.1 (G.2.2.1 g)) = pBk W.1 (G.2.2.1 g) := by omega
              rw [e]
              refine tw_aload k124_44 rfl ?_
              refine tw_getr k124_45 f126_4 ?_
              refine tw_iload k124_48 rfl ?_
              refine tw_iald (j := (pBk W.1 (G.2.2.1 g))) (v := (W.1 (pBk W.1 (G.2.2.1 g)))) k124_49 al130 rfl (by omega) (hP (pBk W.1 (G.2.2.1 g)) (by omega)) ?_
              refine tw_zneT k124_50 (by omega) ?_
              refine tw_aload k124_59 rfl ?_
              refine tw_getr k124_60 f126_4 ?_
              refine tw_iload k124_63 rfl ?_
              refine tw_dup2 k124_64 ?_
              refine tw_iald (j := (pBk W.1 (G.2.2.1 g))) (v := (W.1 (pBk W.1 (G.2.2.1 g)))) k124_65 al130 rfl (by omega) (hP (pBk W.1 (G.2.2.1 g)) (by omega)) ?_
              refine tw_const k124_66 ?_
              refine tw_isub k124_67 (v := ((W.1 (pBk W.1 (G.2.2.1 g))) - (1 : Int))) rfl (by omega) ?_
              refine tw_iast (M := M) (N := N) (l := []) (l' := [(130, (pU (M 130) (pBk W.1 (G.2.2.1 g)) ((W.1 (pBk W.1 (G.2.2.1 g))) - (1 : Int))))]) (j := (pBk W.1 (G.2.2.1 g))) k124_68 al130 rfl (by omega) rfl ?_
              refine tw_aload k124_69 rfl ?_
              refine tw_dupr k124_70 ?_
              refine tw_geti k124_71 f126_18 rfl (v := W.2.2.1) (show M 126 18 = _ from hr) ?_
              refine tw_const k124_74 ?_
              refine tw_iadd k124_75 (v := (W.2.2.1 + (1 : Int))) rfl (by omega) ?_
              refine tw_puti (M := M) (N := N) (l := [(130, (pU (M 130) (pBk W.1 (G.2.2.1 g)) ((W.1 (pBk W.1 (G.2.2.1 g))) - (1 : Int))))]) (l' := [(130, (pU (M 130) (pBk W.1 (G.2.2.1 g)) ((W.1 (pBk W.1 (G.2.2.1 g))) - (1 : Int)))), (126, (pU (M 126) 18 (W.2.2.1 + (1 : Int))))]) k124_76 f126_18 rfl ?_
              refine tw_aload k124_79 rfl ?_
              refine tw_dupr k124_80 ?_
              refine tw_geti k124_81 f126_19 rfl (v := W.2.2.2.1) (show (pU (M 126) 18 (W.2.2.1 + (1 : Int))) 19 = _ from ht) ?_
              refine tw_const k124_84 ?_
              refine tw_iadd k124_85 (v := (W.2.2.2.1 + (1 : Int))) rfl (by omega) ?_
              refine tw_puti (M := M) (N := N) (l := [(130, (pU (M 130) (pBk W.1 (G.2.2.1 g)) ((W.1 (pBk W.1 (G.2.2.1 g))) - (1 : Int)))), (126, (pU (M 126) 18 (W.2.2.1 + (1 : Int))))]) (l' := [(130, (pU (M 130) (pBk W.1 (G.2.2.1 g)) ((W.1 (pBk W.1 (G.2.2.1 g))) - (1 : Int)))), (126, (pU (pU (M 126) 18 (W.2.2.1 + (1 : Int))) 19 (W.2.2.2.1 + (1 : Int))))]) k124_86 f126_19 rfl ?_
              refine tw_const k124_89 ?_
              exact tw_rb k124_90 (by decide) (Or.inl ⟨by omega, rfl, by rw [htk]⟩)
            · intro i hmi ih
              have ih : mj_T K d 124 44 [some (.inr (.inr (.inl 126))), some (.inl ((g : Nat) : Int)), some (.inl (((G.2.2.1 g - (i + 1)) : Nat) : Int))] [] (mj_Sh, M, N) (fun r Z => (tkG (M 127) W G < G.1 ∧ r = some (.inl 1) ∧ Z = (mj_Sh, st M [(130, pU (M 130) (pBk W.1 (G.2.2.1 (tkG (M 127) W G))) (W.1 (pBk W.1 (G.2.2.1 (tkG (M 127) W G))) - 1)), (126, pU (pU (M 126) 18 (W.2.2.1 + 1)) 19 (W.2.2.2.1 + 1))], N)) ∨ (tkG (M 127) W G = G.1 ∧ r = some (.inl 0) ∧ Z = (mj_Sh, M, N))) := ih
              show mj_T K d 124 44 [some (.inr (.inr (.inl 126))), some (.inl ((g : Nat) : Int)), some (.inl (((G.2.2.1 g - i) : Nat) : Int))] [] (mj_Sh, M, N) (fun r Z => (tkG (M 127) W G < G.1 ∧ r = some (.inl 1) ∧ Z = (mj_Sh, st M [(130, pU (M 130) (pBk W.1 (G.2.2.1 (tkG (M 127) W G))) (W.1 (pBk W.1 (G.2.2.1 (tkG (M 127) W G))) - 1)), (126, pU (pU (M 126) 18 (W.2.2.1 + 1)) 19 (W.2.2.2.1 + 1))], N)) ∨ (tkG (M 127) W G = G.1 ∧ r = some (.inl 0) ∧ Z = (mj_Sh, M, N)))
              refine tw_aload k124_44 rfl ?_
              refine tw_getr k124_45 f126_4 ?_
              refine tw_iload k124_48 rfl ?_
              refine tw_iald (j := (G.2.2.1 g - i)) (v := (W.1 (G.2.2.1 g - i))) k124_49 al130 rfl (by omega) (hP (G.2.2.1 g - i) (by omega)) ?_
              refine tw_zneF k124_50 (b4 _ (by omega) (by omega)) ?_
              refine tw_iinc k124_53 rfl (v := ((((G.2.2.1 g - i) : Nat) : Int) + (-1))) rfl (by omega) rfl (L' := [some (.inr (.inr (.inl 126))), some (.inl ((g : Nat) : Int)), some (.inl ((((G.2.2.1 g - i) : Nat) : Int) + (-1)))]) rfl ?_
              refine tw_goto k124_56 ?_
              refine tw_eqL (L' := [some (.inr (.inr (.inl 126))), some (.inl ((g : Nat) : Int)), some (.inl (((G.2.2.1 g - (i + 1)) : Nat) : Int))]) (e_c rfl (e_c rfl (e_c (e_i (by omega)) rfl))) ?_
              exact ih
          refine tw_eqL (L' := [some (.inr (.inr (.inl 126))), some (.inl ((g : Nat) : Int)), some (.inl (((G.2.2.1 g - 0) : Nat) : Int))]) (e_c rfl (e_c rfl (e_c rfl rfl))) ?_
          exact key2 0 (by omega)
        · refine tw_goto k124_34 ?_
          refine tw_iinc k124_91 rfl (v := ((g + 1 : Nat) : Int)) rfl (by omega) rfl (L' := [some (.inr (.inr (.inl 126))), some (.inl ((g + 1 : Nat) : Int)), sv o2]) rfl ?_
          refine tw_goto k124_94 ?_
          exact ih o2 (fun j hj => by
            by_cases e : j = g
            · subst e; intro hc; exact hc.2 h31
            · exact hN j (by omega))
  refine tw_const k124_0 ?_
  refine tw_istore k124_1 rfl (L' := [some (.inr (.inr (.inl 126))), some (.inl (0 : Int)), none]) rfl ?_
  exact key 0 (by omega) none (fun j hj => by omega)
theorem x_125 {K : mj_C} {d : Nat} {M : Nat → Nat → Int} {N : Nat → Nat → Int64} (hs : pRg (M 127)) (G : GS) (hO : gOk (M 127 0).toNat G) (hG : gRel (M 126 17) (M 136) (M 137) (M 138) G) (W : WS) (hP : ∀ y, y < 5 → M 130 y = W.1 y) (hB : ∀ y, y < 5 → 0 ≤ W.1 y ∧ W.1 y ≤ 1000) (hr : M 126 18 = W.2.2.1) (ht : M 126 20 = W.2.2.2.2) (hrr : -1000 ≤ W.2.2.1 ∧ W.2.2.1 ≤ 100000) (htt : -1000 ≤ W.2.2.2.2 ∧ W.2.2.2.2 ≤ 100000) : mj_X K d 125 [.inr (.inr (.inl 126))] (mj_Sh, M, N) (fun r Z => (0 < W.2.2.1 ∧ gvG (M 127) G < G.1 ∧ r = some (.inl 1) ∧ Z = (mj_Sh, st M [(130, pU (M 130) (G.2.1 (gvG (M 127) G)) (W.1 (G.2.1 (gvG (M 127) G)) + 1)), (126, pU (pU (M 126) 18 (W.2.2.1 - 1)) 20 (W.2.2.2.2 + 1))], N)) ∨ (¬ (0 < W.2.2.1 ∧ gvG (M 127) G < G.1) ∧ r = some (.inl 0) ∧ Z = (mj_Sh, M, N))) := by
  show mj_T K d 125 0 [some (.inr (.inr (.inl 126))), none] [] (mj_Sh, M, N) _
  have h0 := hs.1 0 (by omega)
  have h5 := hs.2.1
  obtain ⟨hO1, hO2, hO3, hO4, hO5⟩ := hO
  have key : ∀ g : Nat, g ≤ G.1 → (∀ j, j < g → ¬ (M 127 43 < ((G.2.2.2 j : Nat) : Int))) → mj_T K d 125 2 [some (.inr (.inr (.inl 126))), some (.inl ((g : Nat) : Int))] [] (mj_Sh, M, N) (fun r Z => (0 < W.2.2.1 ∧ gvG (M 127) G < G.1 ∧ r = some (.inl 1) ∧ Z = (mj_Sh, st M [(130, pU (M 130) (G.2.1 (gvG (M 127) G)) (W.1 (G.2.1 (gvG (M 127) G)) + 1)), (126, pU (pU (M 126) 18 (W.2.2.1 - 1)) 20 (W.2.2.2.2 + 1))], N)) ∨ (¬ (0 < W.2.2.1 ∧ gvG (M 127) G < G.1) ∧ r = some (.inl 0) ∧ Z = (mj_Sh, M, N))) := by
    refine up_to G.1 ?_ ?_
    · show (∀ j, j < G.1 → ¬ (M 127 43 < ((G.2.2.2 j : Nat) : Int))) → mj_T K d 125 2 [some (.inr (.inr (.inl 126))), some (.inl ((G.1 : Nat) : Int))] [] (mj_Sh, M, N) (fun r Z => (0 < W.2.2.1 ∧ gvG (M 127) G < G.1 ∧ r = some (.inl 1) ∧ Z = (mj_Sh, st M [(130, pU (M 130) (G.2.1 (gvG (M 127) G)) (W.1 (G.2.1 (gvG (M 127) G)) + 1)), (126, pU (pU (M 126) 18 (W.2.2.1 - 1)) 20 (W.2.2.2.2 + 1))], N)) ∨ (¬ (0 < W.2.2.1 ∧ gvG (M 127) G < G.1) ∧ r = some (.inl 0) ∧ Z = (mj_Sh, M, N)))
      intro hN
      refine tw_iload k125_2 rfl ?_
      refine tw_aload k125_3 rfl ?_
      refine tw_geti k125_4 f126_17 rfl (v := ((G.1 : Nat) : Int)) hG.1 ?_
      refine tw_cgeT k125_7 (by omega) ?_
      refine tw_const k125_79 ?_
      exact tw_rb k125_80 (by decide) (Or.inr ⟨by unfold gvG; rw [pFd_no G.1 0 (fun j _ hj => hN j (by omega))]; omega, rfl, rfl⟩)
    · intro g hmg ih
      have ih : (∀ j, j < (g + 1) → ¬ (M 127 43 < ((G.2.2.2 j : Nat) : Int))) → mj_T K d 125 2 [some (.inr (.inr (.inl 126))), some (.inl (((g + 1) : Nat) : Int))] [] (mj_Sh, M, N) (fun r Z => (0 < W.2.2.1 ∧ gvG (M 127) G < G.1 ∧ r = some (.inl 1) ∧ Z = (mj_Sh, st M [(130, pU (M 130) (G.2.1 (gvG (M 127) G)) (W.1 (G.2.1 (gvG (M 127) G)) + 1)), (126, pU (pU (M 126) 18 (W.2.2.1 - 1)) 20 (W.2.2.2.2 + 1))], N)) ∨ (¬ (0 < W.2.2.1 ∧ gvG (M 127) G < G.1) ∧ r = some (.inl 0) ∧ Z = (mj_Sh, M, N))) := ih
      show (∀ j, j < g → ¬ (M 127 43 < ((G.2.2.2 j : Nat) : Int))) → mj_T K d 125 2 [some (.inr (.inr (.inl 126))), some (.inl ((g : Nat) : Int))] [] (mj_Sh, M, N) (fun r Z => (0 < W.2.2.1 ∧ gvG (M 127) G < G.1 ∧ r = some (.inl 1) ∧ Z = (mj_Sh, st M [(130, pU (M 130) (G.2.1 (gvG (M 127) G)) (W.1 (G.2.1 (gvG (M 127) G)) + 1)), (126, pU (pU (M 126) 18 (W.2.2.1 - 1)) 20 (W.2.2.2.2 + 1))], N)) ∨ (¬ (0 < W.2.2.1 ∧ gvG (M 127) G < G.1) ∧ r = some (.inl 0) ∧ Z = (mj_Sh, M, N)))
      intro hN
      have a1 := hO2 g (by omega)
      have hw := hB (G.2.1 g) (by omega)
      refine tw_iload k125_2 rfl ?_
      refine tw_aload k125_3 rfl ?_
      refine tw_geti k125_4 f126_17 rfl (v := ((G.1 : Nat) : Int)) hG.1 ?_
      refine tw_cgeF k125_7 (by omega) ?_
      refine tw_aload k125_10 rfl ?_
      refine tw_geti k125_11 f126_18 rfl (v := W.2.2.1) hr ?_
      refine tw_zle k125_14 (fun h14 => ?_) (fun h14 => ?_)
      · refine tw_const k125_79 ?_
        exact tw_rb k125_80 (by decide) (Or.inr ⟨by omega, rfl, rfl⟩)
      · refine tw_aload k125_17 rfl ?_
        refine tw_getr k125_18 f126_12 ?_
        refine tw_iload k125_21 rfl ?_
        refine tw_iald (j := g) (v := (((G.2.2.2 g) : Nat) : Int)) k125_22 al138 rfl (by omega) (hG.2 g (by omega)).2.2 ?_
        refine tw_aload k125_23 rfl ?_
        refine tw_getr k125_24 f126_0 ?_
        refine tw_const k125_27 ?_
        refine tw_iald (j := 43) (v := (M 127 43)) k125_29 al127 rfl (by decide) rfl ?_
        refine tw_cgt k125_30 (fun h30 => ?_) (fun h30 => ?_)
        · have htk : gvG (M 127) G = g := pFd_eq G.1 0 g (by omega) (by omega) (by omega) (fun j _ hj => hN j hj)
          refine tw_aload k125_36 rfl ?_
          refine tw_getr k125_37 f126_4 ?_
          refine tw_aload k125_40 rfl ?_
          refine tw_getr k125_41 f126_10 ?_
          refine tw_iload k125_44 rfl ?_
          refine tw_iald (j := g) (v := (((G.2.1 g) : Nat) : Int)) k125_45 al136 rfl (by omega) (hG.2 g (by omega)).1 ?_
          refine tw_dup2 k125_46 ?_
          refine tw_iald (j := (G.2.1 g)) (v := (W.1 (G.2.1 g))) k125_47 al130 rfl (by omega) (hP (G.2.1 g) (by omega)) ?_
          refine tw_const k125_48 ?_
          refine tw_iadd k125_49 (v := ((W.1 (G.2.1 g)) + (1 : Int))) rfl (by omega) ?_
          refine tw_iast (M := M) (N := N) (l := []) (l' := [(130, (pU (M 130) (G.2.1 g) ((W.1 (G.2.1 g)) + (1 : Int))))]) (j := (G.2.1 g)) k125_50 al130 rfl (by omega) rfl ?_
          refine tw_aload k125_51 rfl ?_
          refine tw_dupr k125_52 ?_
          refine tw_geti k125_53 f126_18 rfl (v := W.2.2.1) (show M 126 18 = _ from hr) ?_
          refine tw_const k125_56 ?_
          refine tw_isub k125_57 (v := (W.2.2.1 - (1 : Int))) rfl (by omega) ?_
          refine tw_puti (M := M) (N := N) (l := [(130, (pU (M 130) (G.2.1 g) ((W.1 (G.2.1 g)) + (1 : Int))))]) (l' := [(130, (pU (M 130) (G.2.1 g) ((W.1 (G.2.1 g)) + (1 : Int)))), (126, (pU (M 126) 18 (W.2.2.1 - (1 : Int))))]) k125_58 f126_18 rfl ?_
          refine tw_aload k125_61 rfl ?_
          refine tw_dupr k125_62 ?_
          refine tw_geti k125_63 f126_20 rfl (v := W.2.2.2.2) (show (pU (M 126) 18 (W.2.2.1 - (1 : Int))) 20 = _ from ht) ?_
          refine tw_const k125_66 ?_
          refine tw_iadd k125_67 (v := (W.2.2.2.2 + (1 : Int))) rfl (by omega) ?_
          refine tw_puti (M := M) (N := N) (l := [(130, (pU (M 130) (G.2.1 g) ((W.1 (G.2.1 g)) + (1 : Int)))), (126, (pU (M 126) 18 (W.2.2.1 - (1 : Int))))]) (l' := [(130, (pU (M 130) (G.2.1 g) ((W.1 (G.2.1 g)) + (1 : Int)))), (126, (pU (pU (M 126) 18 (W.2.2.1 - (1 : Int))) 20 (W.2.2.2.2 + (1 : Int))))]) k125_68 f126_20 rfl ?_
          refine tw_const k125_71 ?_
          exact tw_rb k125_72 (by decide) (Or.inl ⟨by omega, by rw [htk]; omega, rfl, by rw [htk]⟩)
        · refine tw_goto k125_33 ?_
          refine tw_iinc k125_73 rfl (v := ((g + 1 : Nat) : Int)) rfl (by omega) rfl (L' := [some (.inr (.inr (.inl 126))), some (.inl ((g + 1 : Nat) : Int))]) rfl ?_
          refine tw_goto k125_76 ?_
          exact ih (fun j hj => by
            by_cases e : j = g
            · subst e; omega
            · exact hN j (by omega))
  refine tw_const k125_0 ?_
  refine tw_istore k125_1 rfl (L' := [some (.inr (.inr (.inl 126))), some (.inl (0 : Int))]) rfl ?_
  exact key 0 (by omega) (fun j hj => by omega)
theorem x_126 {K : mj_C} {d : Nat} {M : Nat → Nat → Int} {N : Nat → Nat → Int64} (hs : pRg (M 127)) (G : GS) (hO : gOk (M 127 0).toNat G) (hG : gRel (M 126 17) (M 136) (M 137) (M 138) G) (W : WS) (hP : ∀ y, y < 5 → M 130 y = W.1 y) (hB : ∀ y, y < 5 → 0 ≤ W.1 y ∧ W.1 y ≤ 1000) (hQ : ∀ y, y < 5 → M 131 y = W.2.1 y ∧ 0 ≤ W.2.1 y ∧ W.2.1 y ≤ 1000) : mj_X K d 126 [.inr (.inr (.inl 126))] (mj_Sh, M, N) (fun r Z => (bwG (M 127) W G + 1 < G.1 ∧ r = some (.inl 1) ∧ Z = (mj_Sh, st M [(130, pU (pU (M 130) (G.2.1 ((bwG (M 127) W G) + 1)) (W.1 (G.2.1 ((bwG (M 127) W G) + 1)) - 1)) (G.2.2.1 (bwG (M 127) W G)) (W.1 (G.2.2.1 (bwG (M 127) W G)) + 1)), (131, pU (M 131) (G.2.2.1 (bwG (M 127) W G)) (W.2.1 (G.2.2.1 (bwG (M 127) W G)) + 1))], N)) ∨ (¬ bwG (M 127) W G + 1 < G.1 ∧ r = some (.inl 0) ∧ Z = (mj_Sh, M, N))) := by
  show mj_T K d 126 0 [some (.inr (.inr (.inl 126))), none, none, none] [] (mj_Sh, M, N) _
  have h0 := hs.1 0 (by omega)
  have h5 := hs.2.1
  obtain ⟨hO1, hO2, hO3, hO4, hO5⟩ := hO
  have e0 : 0 < G.1 ∨ G.1 = 0 := by omega
  have hz : G.1 = 0 → ∀ o2 o3, mj_T K d 126 2 [some (.inr (.inr (.inl 126))), some (.inl ((0 : Nat) : Int)), sv o2, sv o3] [] (mj_Sh, M, N) (fun r Z => (bwG (M 127) W G + 1 < G.1 ∧ r = some (.inl 1) ∧ Z = (mj_Sh, st M [(130, pU (pU (M 130) (G.2.1 ((bwG (M 127) W G) + 1)) (W.1 (G.2.1 ((bwG (M 127) W G) + 1)) - 1)) (G.2.2.1 (bwG (M 127) W G)) (W.1 (G.2.2.1 (bwG (M 127) W G)) + 1)), (131, pU (M 131) (G.2.2.1 (bwG (M 127) W G)) (W.2.1 (G.2.2.1 (bwG (M 127) W G)) + 1))], N)) ∨ (¬ bwG (M 127) W G + 1 < G.1 ∧ r = some (.inl 0) ∧ Z = (mj_Sh, M, N))) := by
    intro hz o2 o3
    refine tw_iload k126_2 rfl ?_
    refine tw_const k126_3 ?_
    refine tw_iadd k126_4 (v := ((0 + 1 : Nat) : Int)) rfl (by omega) ?_
    refine tw_aload k126_5 rfl ?_
    refine tw_geti k126_6 f126_17 rfl (v := ((G.1 : Nat) : Int)) hG.1 ?_
    refine tw_cgeT k126_9 (by omega) ?_
    refine tw_const k126_111 ?_
    exact tw_rb k126_112 (by decide) (Or.inr ⟨by omega, rfl, rfl⟩)
  rcases e0 with e0 | e0
  rotate_left
  · refine tw_const k126_0 ?_
    refine tw_istore k126_1 rfl (L' := [some (.inr (.inr (.inl 126))), some (.inl (0 : Int)), none, none]) rfl ?_
    exact hz e0 none none
  have key : ∀ g : Nat, g ≤ (G.1 - 1) → ∀ o2 o3, (∀ j, j < g → ¬ (G.2.2.2 (j + 1) < G.2.2.2 j ∧ W.2.1 (G.2.2.1 j) < M 127 45 ∧ ¬ W.1 (G.2.1 (j + 1)) = 0)) → mj_T K d 126 2 [some (.inr (.inr (.inl 126))), some (.inl ((g : Nat) : Int)), sv o2, sv o3] [] (mj_Sh, M, N) (fun r Z => (bwG (M 127) W G + 1 < G.1 ∧ r = some (.inl 1) ∧ Z = (mj_Sh, st M [(130, pU (pU (M 130) (G.2.1 ((bwG (M 127) W G) + 1)) (W.1 (G.2.1 ((bwG (M 127) W G) + 1)) - 1)) (G.2.2.1 (bwG (M 127) W G)) (W.1 (G.2.2.1 (bwG (M 127) W G)) + 1)), (131, pU (M 131) (G.2.2.1 (bwG (M 127) W G)) (W.2.1 (G.2.2.1 (bwG (M 127) W G)) + 1))], N)) ∨ (¬ bwG (M 127) W G + 1 < G.1 ∧ r = some (.inl 0) ∧ Z = (mj_Sh, M, N))) := by
    refine up_to (G.1 - 1) ?_ ?_
    · show ∀ o2 o3, (∀ j, j < (G.1 - 1) → ¬ (G.2.2.2 (j + 1) < G.2.2.2 j ∧ W.2.1 (G.2.2.1 j) < M 127 45 ∧ ¬ W.1 (G.2.1 (j + 1)) = 0)) → mj_T K d 126 2 [some (.inr (.inr (.inl 126))), some (.inl (((G.1 - 1) : Nat) : Int)), sv o2, sv o3] [] (mj_Sh, M, N) (fun r Z => (bwG (M 127) W G + 1 < G.1 ∧ r = some (.inl 1) ∧ Z = (mj_Sh, st M [(130, pU (pU (M 130) (G.2.1 ((bwG (M 127) W G) + 1)) (W.1 (G.2.1 ((bwG (M 127) W G) + 1)) - 1)) (G.2.2.1 (bwG (M 127) W G)) (W.1 (G.2.2.1 (bwG (M 127) W G)) + 1)), (131, pU (M 131) (G.2.2.1 (bwG (M 127) W G)) (W.2.1 (G.2.2.1 (bwG (M 127) W G)) + 1))], N)) ∨ (¬ bwG (M 127) W G + 1 < G.1 ∧ r = some (.inl 0) ∧ Z = (mj_Sh, M, N)))
      intro o2 o3 hN
      refine tw_iload k126_2 rfl ?_
      refine tw_const k126_3 ?_
      refine tw_iadd k126_4 (v := (((G.1 - 1) + 1 : Nat) : Int)) rfl (by omega) ?_
      refine tw_aload k126_5 rfl ?_
      refine tw_geti k126_6 f126_17 rfl (v := ((G.1 : Nat) : Int)) hG.1 ?_
      refine tw_cgeT k126_9 (by omega) ?_
      refine tw_const k126_111 ?_
      exact tw_rb k126_112 (by decide) (Or.inr ⟨by unfold bwG; rw [pFd_no (G.1 - 1) 0 (fun j _ hj => hN j (by omega))]; omega, rfl, rfl⟩)
    · intro g hmg ih
      have ih : ∀ o2 o3, (∀ j, j < (g + 1) → ¬ (G.2.2.2 (j + 1) < G.2.2.2 j ∧ W.2.1 (G.2.2.1 j) < M 127 45 ∧ ¬ W.1 (G.2.1 (j + 1)) = 0)) → mj_T K d 126 2 [some (.inr (.inr (.inl 126))), some (.inl (((g + 1) : Nat) : Int)), sv o2, sv o3] [] (mj_Sh, M, N) (fun r Z => (bwG (M 127) W G + 1 < G.1 ∧ r = some (.inl 1) ∧ Z = (mj_Sh, st M [(130, pU (pU (M 130) (G.2.1 ((bwG (M 127) W G) + 1)) (W.1 (G.2.1 ((bwG (M 127) W G) + 1)) - 1)) (G.2.2.1 (bwG (M 127) W G)) (W.1 (G.2.2.1 (bwG (M 127) W G)) + 1)), (131, pU (M 131) (G.2.2.1 (bwG (M 127) W G)) (W.2.1 (G.2.2.1 (bwG (M 127) W G)) + 1))], N)) ∨ (¬ bwG (M 127) W G + 1 < G.1 ∧ r = some (.inl 0) ∧ Z = (mj_Sh, M, N))) := ih
      show ∀ o2 o3, (∀ j, j < g → ¬ (G.2.2.2 (j + 1) < G.2.2.2 j ∧ W.2.1 (G.2.2.1 j) < M 127 45 ∧ ¬ W.1 (G.2.1 (j + 1)) = 0)) → mj_T K d 126 2 [some (.inr (.inr (.inl 126))), some (.inl ((g : Nat) : Int)), sv o2, sv o3] [] (mj_Sh, M, N) (fun r Z => (bwG (M 127) W G + 1 < G.1 ∧ r = some (.inl 1) ∧ Z = (mj_Sh, st M [(130, pU (pU (M 130) (G.2.1 ((bwG (M 127) W G) + 1)) (W.1 (G.2.1 ((bwG (M 127) W G) + 1)) - 1)) (G.2.2.1 (bwG (M 127) W G)) (W.1 (G.2.2.1 (bwG (M 127) W G)) + 1)), (131, pU (M 131) (G.2.2.1 (bwG (M 127) W G)) (W.2.1 (G.2.2.1 (bwG (M 127) W G)) + 1))], N)) ∨ (¬ bwG (M 127) W G + 1 < G.1 ∧ r = some (.inl 0) ∧ Z = (mj_Sh, M, N)))
      intro o2 o3 hN
      have a1 := hO2 g (by omega)
      have a2 := hO2 (g + 1) (by omega)
      have a3 := hO3 g (by omega)
      have hw := hB (G.2.2.1 g) (by omega)
      have hw2 := hB (G.2.1 (g + 1)) (by omega)
      have hq := hQ (G.2.2.1 g) (by omega)
      refine tw_iload k126_2 rfl ?_
      refine tw_const k126_3 ?_
      refine tw_iadd k126_4 (v := ((g + 1 : Nat) : Int)) rfl (by omega) ?_
      refine tw_aload k126_5 rfl ?_
      refine tw_geti k126_6 f126_17 rfl (v := ((G.1 : Nat) : Int)) hG.1 ?_
      refine tw_cgeF k126_9 (by omega) ?_
      refine tw_aload k126_12 rfl ?_
      refine tw_getr k126_13 f126_11 ?_
      refine tw_iload k126_16 rfl ?_
      refine tw_iald (j := g) (v := (((G.2.2.1 g) : Nat) : Int)) k126_17 al137 rfl (by omega) (hG.2 g (by omega)).2.1 ?_
      refine tw_istore k126_18 rfl (L' := [some (.inr (.inr (.inl 126))), some (.inl ((g : Nat) : Int)), some (.inl (((G.2.2.1 g) : Nat) : Int)), sv o3]) rfl ?_
      refine tw_aload k126_19 rfl ?_
      refine tw_getr k126_20 f126_10 ?_
      refine tw_iload k126_23 rfl ?_
      refine tw_const k126_24 ?_
      refine tw_iadd k126_25 (v := ((g + 1 : Nat) : Int)) rfl (by omega) ?_
      refine tw_iald (j := g + 1) (v := (((G.2.1 (g + 1)) : Nat) : Int)) k126_26 al136 rfl (by omega) (hG.2 (g + 1) (by omega)).1 ?_
      refine tw_istore k126_27 rfl (L' := [some (.inr (.inr (.inl 126))), some (.inl ((g : Nat) : Int)), some (.inl (((G.2.2.1 g) : Nat) : Int)), some (.inl (((G.2.1 (g + 1)) : Nat) : Int))]) rfl ?_
      refine tw_aload k126_28 rfl ?_
      refine tw_getr k126_29 f126_12 ?_
      refine tw_iload k126_32 rfl ?_
      refine tw_iald (j := g) (v := (((G.2.2.2 g) : Nat) : Int)) k126_33 al138 rfl (by omega) (hG.2 g (by omega)).2.2 ?_
      refine tw_aload k126_34 rfl ?_
      refine tw_getr k126_35 f126_12 ?_
      refine tw_iload k126_38 rfl ?_
      refine tw_const k126_39 ?_
      refine tw_iadd k126_40 (v := ((g + 1 : Nat) : Int)) rfl (by omega) ?_
      refine tw_iald (j := g + 1) (v := (((G.2.2.2 (g + 1)) : Nat) : Int)) k126_41 al138 rfl (by omega) (hG.2 (g + 1) (by omega)).2.2 ?_
      refine tw_cle k126_42 (fun h42 => ?_) (fun h42 => ?_)
      · refine tw_iinc k126_105 rfl (v := ((g + 1 : Nat) : Int)) rfl (by omega) rfl (L' := [some (.inr (.inr (.inl 126))), some (.inl ((g + 1 : Nat) : Int)), some (.inl (((G.2.2.1 g) : Nat) : Int)), some (.inl (((G.2.1 (g + 1)) : Nat) : Int))]) rfl ?_
        refine tw_goto k126_108 ?_
        exact ih (some (.inl _)) (some (.inl _)) (fun j hj => by
          by_cases e : j = g
          · subst e; intro hc; exact by have := hc.1; omega
          · exact hN j (by omega))
      · refine tw_aload k126_45 rfl ?_
        refine tw_getr k126_46 f126_5 ?_
        refine tw_iload k126_49 rfl ?_
        refine tw_iald (j := (G.2.2.1 g)) (v := (W.2.1 (G.2.2.1 g))) k126_50 al131 rfl (by omega) (hQ (G.2.2.1 g) (by omega)).1 ?_
        refine tw_aload k126_51 rfl ?_
        refine tw_getr k126_52 f126_0 ?_
        refine tw_const k126_55 ?_
        refine tw_iald (j := 45) (v := (M 127 45)) k126_57 al127 rfl (by decide) rfl ?_
        refine tw_cge k126_58 (fun h58 => ?_) (fun h58 => ?_)
        · refine tw_iinc k126_105 rfl (v := ((g + 1 : Nat) : Int)) rfl (by omega) rfl (L' := [some (.inr (.inr (.inl 126))), some (.inl ((g + 1 : Nat) : Int)), some (.inl (((G.2.2.1 g) : Nat) : Int)), some (.inl (((G.2.1 (g + 1)) : Nat) : Int))]) rfl ?_
          refine tw_goto k126_108 ?_
          exact ih (some (.inl _)) (some (.inl _)) (fun j hj => by
            by_cases e : j = g
            · subst e; intro hc; exact by have := hc.2.1; omega
            · exact hN j (by omega))
        · refine tw_aload k126_61 rfl ?_
          refine tw_getr k126_62 f126_4 ?_
          refine tw_iload k126_65 rfl ?_
          refine tw_iald (j := (G.2.1 (g + 1))) (v := (W.1 (G.2.1 (g + 1)))) k126_66 al130 rfl (by omega) (hP (G.2.1 (g + 1)) (by omega)) ?_
          refine tw_zne k126_67 (fun h67 => ?_) (fun h67 => ?_)
          · have htk : bwG (M 127) W G = g := pFd_eq (G.1 - 1) 0 g (by omega) (by omega) ⟨by omega, by omega, h67⟩ (fun j _ hj => hN j hj)
            refine tw_aload k126_73 rfl ?_
            refine tw_getr k126_74 f126_4 ?_
            refine tw_iload k126_77 rfl ?_
            refine tw_dup2 k126_78 ?_
            refine tw_iald (j := (G.2.1 (g + 1))) (v := (W.1 (G.2.1 (g + 1)))) k126_79 al130 rfl (by omega) (hP (G.2.1 (g + 1)) (by omega)) ?_
            refine tw_const k126_80 ?_
            refine tw_isub k126_81 (v := ((W.1 (G.2.1 (g + 1))) - (1 : Int))) rfl (by omega) ?_
            refine tw_iast (M := M) (N := N) (l := []) (l' := [(130, (pU (M 130) (G.2.1 (g + 1)) ((W.1 (G.2.1 (g + 1))) - (1 : Int))))]) (j := (G.2.1 (g + 1))) k126_82 al130 rfl (by omega) rfl ?_
            refine tw_aload k126_83 rfl ?_
            refine tw_getr k126_84 f126_4 ?_
            refine tw_iload k126_87 rfl ?_
            refine tw_dup2 k126_88 ?_
            refine tw_iald (j := (G.2.2.1 g)) (v := (W.1 (G.2.2.1 g))) k126_89 al130 rfl (by omega) (show (pU (M 130) (G.2.1 (g + 1)) ((W.1 (G.2.1 (g + 1))) - (1 : Int))) (G.2.2.1 g) = _ from (by rw [pU_ne (by omega)]; exact hP (G.2.2.1 g) (by omega))) ?_
            refine tw_const k126_90 ?_
            refine tw_iadd k126_91 (v := ((W.1 (G.2.2.1 g)) + (1 : Int))) rfl (by omega) ?_
            refine tw_iast (M := M) (N := N) (l := [(130, (pU (M 130) (G.2.1 (g + 1)) ((W.1 (G.2.1 (g + 1))) - (1 : Int))))]) (l' := [(130, (pU (pU (M 130) (G.2.1 (g + 1)) ((W.1 (G.2.1 (g + 1))) - (1 : Int))) (G.2.2.1 g) ((W.1 (G.2.2.1 g)) + (1 : Int))))]) (j := (G.2.2.1 g)) k126_92 al130 rfl (by omega) rfl ?_
            refine tw_aload k126_93 rfl ?_
            refine tw_getr k126_94 f126_5 ?_
            refine tw_iload k126_97 rfl ?_
            refine tw_dup2 k126_98 ?_
            refine tw_iald (j := (G.2.2.1 g)) (v := (W.2.1 (G.2.2.1 g))) k126_99 al131 rfl (by omega) (show M 131 (G.2.2.1 g) = _ from (hQ (G.2.2.1 g) (by omega)).1) ?_
            refine tw_const k126_100 ?_
            refine tw_iadd k126_101 (v := ((W.2.1 (G.2.2.1 g)) + (1 : Int))) rfl (by omega) ?_
            refine tw_iast (M := M) (N := N) (l := [(130, (pU (pU (M 130) (G.2.1 (g + 1)) ((W.1 (G.2.1 (g + 1))) - (1 : Int))) (G.2.2.1 g) ((W.1 (G.2.2.1 g)) + (1 : Int))))]) (l' := [(130, (pU (pU (M 130) (G.2.1 (g + 1)) ((W.1 (G.2.1 (g + 1))) - (1 : Int))) (G.2.2.1 g) ((W.1 (G.2.2.1 g)) + (1 : Int)))), (131, (pU (M 131) (G.2.2.1 g) ((W.2.1 (G.2.2.1 g)) + (1 : Int))))]) (j := (G.2.2.1 g)) k126_102 al131 rfl (by omega) rfl ?_
            refine tw_const k126_103 ?_
            exact tw_rb k126_104 (by decide) (Or.inl ⟨by rw [htk]; omega, rfl, by rw [htk]⟩)
          · refine tw_goto k126_70 ?_
            refine tw_iinc k126_105 rfl (v := ((g + 1 : Nat) : Int)) rfl (by omega) rfl (L' := [some (.inr (.inr (.inl 126))), some (.inl ((g + 1 : Nat) : Int)), some (.inl (((G.2.2.1 g) : Nat) : Int)), some (.inl (((G.2.1 (g + 1)) : Nat) : Int))]) rfl ?_
            refine tw_goto k126_108 ?_
            exact ih (some (.inl _)) (some (.inl _)) (fun j hj => by
              by_cases e : j = g
              · subst e; intro hc; exact hc.2.2 h67
              · exact hN j (by omega))
  refine tw_const k126_0 ?_
  refine tw_istore k126_1 rfl (L' := [some (.inr (.inr (.inl 126))), some (.inl (0 : Int)), none, none]) rfl ?_
  exact key 0 (by omega) none none (fun j hj => by omega)
