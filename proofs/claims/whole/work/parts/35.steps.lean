-- the class: permits taken, given, borrowed; the start of a plan
def cPl (b : Nat) (M : Nat → Nat → Int) (s : Nat → Int) (W : WS) : Prop := M b 11 = s 0 ∧ M b 12 = W.2.2.1 ∧ M b 13 = W.2.2.2.1 ∧ M b 14 = W.2.2.2.2 ∧ M b 15 = pS W.2.1 0 (s 0).toNat ∧ (∀ y, y < (s 0).toNat → M (b + 13) y = W.1 y ∧ M (b + 14) y = W.2.1 y) ∧ gRel (M (b + 9) 3) (M (b + 10)) (M (b + 11)) (M (b + 12)) (wGr s W) ∧ dM (b + 3) M s
theorem x_23_35 {K : mj_C} {d : Nat} {M : Nat → Nat → Int} {N : Nat → Nat → Int64} (s : Nat → Int) (hs : pRg s) (G : GS) (hO : gOk (s 0).toNat G) (hG : gRel (M 44 3) (M 45) (M 46) (M 47) G) (W : WS) (hP : ∀ y, y < (s 0).toNat → M 48 y = W.1 y) (hB : ∀ y, y < 5 → 0 ≤ W.1 y ∧ W.1 y ≤ 1000) : mj_X K d 23 [.inr (.inr (.inl 35)), .inl (s 42)] (mj_Sh, M, N) (fun r Z => r = some (.inl (if tkG s W G < G.1 then ((pBk W.1 (G.2.2.1 (tkG s W G)) : Nat) : Int) else -1)) ∧ Z = (mj_Sh, M, N)) := by
  show mj_T K d 23 0 [some (.inr (.inr (.inl 35))), some (.inl (s 42)), none, none] [] (mj_Sh, M, N) _
  have h0 := hs.1 0 (by omega)
  have h5 := hs.2.1
  obtain ⟨Y, hYe⟩ : ∃ Y : Nat, Y = (s 0).toNat := ⟨_, rfl⟩
  have hY0 : s 0 = (Y : Int) := by omega
  rw [← hYe] at hO hP
  obtain ⟨hO1, hO2, hO3, hO4, hO5⟩ := hO
  have key : ∀ g : Nat, g ≤ G.1 → ∀ o3, (∀ j, j < g → ¬ (((G.2.2.2 j : Nat) : Int) < s 42 ∧ ¬ gTot W.1 G j = 0)) → mj_T K d 23 2 [some (.inr (.inr (.inl 35))), some (.inl (s 42)), some (.inl ((g : Nat) : Int)), sv o3] [] (mj_Sh, M, N) (fun r Z => r = some (.inl (if tkG s W G < G.1 then ((pBk W.1 (G.2.2.1 (tkG s W G)) : Nat) : Int) else -1)) ∧ Z = (mj_Sh, M, N)) := by
    refine up_to G.1 ?_ ?_
    · show ∀ o3, (∀ j, j < G.1 → ¬ (((G.2.2.2 j : Nat) : Int) < s 42 ∧ ¬ gTot W.1 G j = 0)) → mj_T K d 23 2 [some (.inr (.inr (.inl 35))), some (.inl (s 42)), some (.inl ((G.1 : Nat) : Int)), sv o3] [] (mj_Sh, M, N) (fun r Z => r = some (.inl (if tkG s W G < G.1 then ((pBk W.1 (G.2.2.1 (tkG s W G)) : Nat) : Int) else -1)) ∧ Z = (mj_Sh, M, N))
      intro o3 hN
      refine tw_iload k23_2 rfl ?_
      refine tw_aload k23_3 rfl ?_
      refine tw_getr k23_4 f35_1 ?_
      refine tw_geti k23_7 f44_3 rfl (v := ((G.1 : Nat) : Int)) hG.1 ?_
      refine tw_cgeT k23_10 (by omega) ?_
      refine tw_const k23_72 ?_
      exact tw_ri k23_73 (⟨by unfold tkG; rw [pFd_no G.1 0 (fun j _ hj => hN j (by omega)), if_neg (by omega)], rfl⟩)
    · intro g hmg ih
      have ih : ∀ o3, (∀ j, j < (g + 1) → ¬ (((G.2.2.2 j : Nat) : Int) < s 42 ∧ ¬ gTot W.1 G j = 0)) → mj_T K d 23 2 [some (.inr (.inr (.inl 35))), some (.inl (s 42)), some (.inl (((g + 1) : Nat) : Int)), sv o3] [] (mj_Sh, M, N) (fun r Z => r = some (.inl (if tkG s W G < G.1 then ((pBk W.1 (G.2.2.1 (tkG s W G)) : Nat) : Int) else -1)) ∧ Z = (mj_Sh, M, N)) := ih
      show ∀ o3, (∀ j, j < g → ¬ (((G.2.2.2 j : Nat) : Int) < s 42 ∧ ¬ gTot W.1 G j = 0)) → mj_T K d 23 2 [some (.inr (.inr (.inl 35))), some (.inl (s 42)), some (.inl ((g : Nat) : Int)), sv o3] [] (mj_Sh, M, N) (fun r Z => r = some (.inl (if tkG s W G < G.1 then ((pBk W.1 (G.2.2.1 (tkG s W G)) : Nat) : Int) else -1)) ∧ Z = (mj_Sh, M, N))
      intro o3 hN
      have a1 := hO2 g (by omega)
      refine tw_iload k23_2 rfl ?_
      refine tw_aload k23_3 rfl ?_
      refine tw_getr k23_4 f35_1 ?_
      refine tw_geti k23_7 f44_3 rfl (v := ((G.1 : Nat) : Int)) hG.1 ?_
      refine tw_cgeF k23_10 (by omega) ?_
      refine tw_aload k23_13 rfl ?_
      refine tw_getr k23_14 f35_1 ?_
      refine tw_getr k23_17 f44_1 ?_
      refine tw_iload k23_20 rfl ?_
      refine tw_iald (j := g) (v := (((G.2.2.1 g) : Nat) : Int)) k23_21 al46 rfl (by omega) (hG.2 g (by omega)).2.1 ?_
      refine tw_istore k23_22 rfl (L' := [some (.inr (.inr (.inl 35))), some (.inl (s 42)), some (.inl ((g : Nat) : Int)), some (.inl (((G.2.2.1 g) : Nat) : Int))]) rfl ?_
      have ihg := ih
      by_cases hpf : ((G.2.2.2 g : Nat) : Int) < s 42
      · by_cases hz : gTot W.1 G g = 0
        · have hz0 := pS_z (f := W.1) (a := G.2.1 g) (G.2.2.1 g + 1 - G.2.1 g) (fun i h1 h2 => (hB i (by omega)).1) hz
          have keyz : ∀ i : Nat, i ≤ (G.2.2.1 g + 1 - G.2.1 g) → mj_T K d 23 23 [some (.inr (.inr (.inl 35))), some (.inl (s 42)), some (.inl ((g : Nat) : Int)), some (.inl (((G.2.2.1 g : Nat) : Int) - ((i : Nat) : Int)))] [] (mj_Sh, M, N) (fun r Z => r = some (.inl (if tkG s W G < G.1 then ((pBk W.1 (G.2.2.1 (tkG s W G)) : Nat) : Int) else -1)) ∧ Z = (mj_Sh, M, N)) := by
            refine up_to (G.2.2.1 g + 1 - G.2.1 g) ?_ ?_
            · show mj_T K d 23 23 [some (.inr (.inr (.inl 35))), some (.inl (s 42)), some (.inl ((g : Nat) : Int)), some (.inl (((G.2.2.1 g : Nat) : Int) - (((G.2.2.1 g + 1 - G.2.1 g) : Nat) : Int)))] [] (mj_Sh, M, N) (fun r Z => r = some (.inl (if tkG s W G < G.1 then ((pBk W.1 (G.2.2.1 (tkG s W G)) : Nat) : Int) else -1)) ∧ Z = (mj_Sh, M, N))
              refine tw_iload k23_23 rfl ?_
              refine tw_aload k23_24 rfl ?_
              refine tw_getr k23_25 f35_1 ?_
              refine tw_getr k23_28 f44_0 ?_
              refine tw_iload k23_31 rfl ?_
              refine tw_iald (j := g) (v := (((G.2.1 g) : Nat) : Int)) k23_32 al45 rfl (by omega) (hG.2 g (by omega)).1 ?_
              refine tw_cltT k23_33 (by omega) ?_
              refine tw_iinc k23_66 rfl (v := ((g + 1 : Nat) : Int)) rfl (by omega) rfl (L' := [some (.inr (.inr (.inl 35))), some (.inl (s 42)), some (.inl ((g + 1 : Nat) : Int)), some (.inl (((G.2.2.1 g : Nat) : Int) - (((G.2.2.1 g + 1 - G.2.1 g) : Nat) : Int)))]) rfl ?_
              refine tw_goto k23_69 ?_
              exact ihg (some (.inl (((G.2.2.1 g : Nat) : Int) - (((G.2.2.1 g + 1 - G.2.1 g) : Nat) : Int)))) (fun j hj => by
                by_cases e : j = g
                · subst e; intro hc; exact hc.2 hz
                · exact hN j (by omega))
            · intro i hmi ih
              have ih : mj_T K d 23 23 [some (.inr (.inr (.inl 35))), some (.inl (s 42)), some (.inl ((g : Nat) : Int)), some (.inl (((G.2.2.1 g : Nat) : Int) - (((i + 1) : Nat) : Int)))] [] (mj_Sh, M, N) (fun r Z => r = some (.inl (if tkG s W G < G.1 then ((pBk W.1 (G.2.2.1 (tkG s W G)) : Nat) : Int) else -1)) ∧ Z = (mj_Sh, M, N)) := ih
              show mj_T K d 23 23 [some (.inr (.inr (.inl 35))), some (.inl (s 42)), some (.inl ((g : Nat) : Int)), some (.inl (((G.2.2.1 g : Nat) : Int) - ((i : Nat) : Int)))] [] (mj_Sh, M, N) (fun r Z => r = some (.inl (if tkG s W G < G.1 then ((pBk W.1 (G.2.2.1 (tkG s W G)) : Nat) : Int) else -1)) ∧ Z = (mj_Sh, M, N))
              have hzi := hz0 (G.2.2.1 g - i) (by omega) (by omega)
              refine tw_iload k23_23 rfl ?_
              refine tw_aload k23_24 rfl ?_
              refine tw_getr k23_25 f35_1 ?_
              refine tw_getr k23_28 f44_0 ?_
              refine tw_iload k23_31 rfl ?_
              refine tw_iald (j := g) (v := (((G.2.1 g) : Nat) : Int)) k23_32 al45 rfl (by omega) (hG.2 g (by omega)).1 ?_
              refine tw_cltF k23_33 (by omega) ?_
              refine tw_aload k23_36 rfl ?_
              refine tw_getr k23_37 f35_1 ?_
              refine tw_getr k23_40 f44_2 ?_
              refine tw_iload k23_43 rfl ?_
              refine tw_iald (j := g) (v := (((G.2.2.2 g) : Nat) : Int)) k23_44 al47 rfl (by omega) (hG.2 g (by omega)).2.2 ?_
              refine tw_iload k23_45 rfl ?_
              refine tw_cgeF k23_46 (by omega) ?_
              refine tw_aload k23_49 rfl ?_
              refine tw_getr k23_50 f35_2 ?_
              refine tw_iload k23_53 rfl ?_
              refine tw_iald (j := (G.2.2.1 g - i)) (v := (W.1 (G.2.2.1 g - i))) k23_54 al48 (by omega) (by omega) (hP (G.2.2.1 g - i) (by omega)) ?_
              refine tw_zleT k23_55 (by omega) ?_
              refine tw_iinc k23_60 rfl (v := ((((G.2.2.1 g : Nat) : Int) - ((i : Nat) : Int)) + (-1))) rfl (by omega) rfl (L' := [some (.inr (.inr (.inl 35))), some (.inl (s 42)), some (.inl ((g : Nat) : Int)), some (.inl ((((G.2.2.1 g : Nat) : Int) - ((i : Nat) : Int)) + (-1)))]) rfl ?_
              refine tw_goto k23_63 ?_
              refine tw_eqL (L' := [some (.inr (.inr (.inl 35))), some (.inl (s 42)), some (.inl ((g : Nat) : Int)), some (.inl (((G.2.2.1 g : Nat) : Int) - (((i + 1) : Nat) : Int)))]) (e_c rfl (e_c rfl (e_c rfl (e_c (e_i (by omega)) rfl)))) ?_
              exact ih
          refine tw_eqL (L' := [some (.inr (.inr (.inl 35))), some (.inl (s 42)), some (.inl ((g : Nat) : Int)), some (.inl (((G.2.2.1 g : Nat) : Int) - ((0 : Nat) : Int)))]) (e_c rfl (e_c rfl (e_c rfl (e_c (e_i (by omega)) rfl)))) (keyz 0 (by omega))
        · have htk : tkG s W G = g := pFd_eq G.1 0 g (by omega) (by omega) ⟨by omega, hz⟩ (fun j _ hj => hN j hj)
          obtain ⟨b1, b2, b3, b4⟩ := pBk_sp (perm := W.1) (G.2.2.1 g) (G.2.1 g) a1.1 hz
          have hb := hB (pBk W.1 (G.2.2.1 g)) (by omega)
          have keyy : ∀ i : Nat, i ≤ (G.2.2.1 g - pBk W.1 (G.2.2.1 g)) → mj_T K d 23 23 [some (.inr (.inr (.inl 35))), some (.inl (s 42)), some (.inl ((g : Nat) : Int)), some (.inl (((G.2.2.1 g : Nat) : Int) - ((i : Nat) : Int)))] [] (mj_Sh, M, N) (fun r Z => r = some (.inl (if tkG s W G < G.1 then ((pBk W.1 (G.2.2.1 (tkG s W G)) : Nat) : Int) else -1)) ∧ Z = (mj_Sh, M, N)) := by
            refine up_to (G.2.2.1 g - pBk W.1 (G.2.2.1 g)) ?_ ?_
            · show mj_T K d 23 23 [some (.inr (.inr (.inl 35))), some (.inl (s 42)), some (.inl ((g : Nat) : Int)), some (.inl (((G.2.2.1 g : Nat) : Int) - (((G.2.2.1 g - pBk W.1 (G.2.2.1 g)) : Nat) : Int)))] [] (mj_Sh, M, N) (fun r Z => r = some (.inl (if tkG s W G < G.1 then ((pBk W.1 (G.2.2.1 (tkG s W G)) : Nat) : Int) else -1)) ∧ Z = (mj_Sh, M, N))
              refine tw_iload k23_23 rfl ?_
              refine tw_aload k23_24 rfl ?_
              refine tw_getr k23_25 f35_1 ?_
              refine tw_getr k23_28 f44_0 ?_
              refine tw_iload k23_31 rfl ?_
              refine tw_iald (j := g) (v := (((G.2.1 g) : Nat) : Int)) k23_32 al45 rfl (by omega) (hG.2 g (by omega)).1 ?_
              refine tw_cltF k23_33 (by omega) ?_
              refine tw_aload k23_36 rfl ?_
              refine tw_getr k23_37 f35_1 ?_
              refine tw_getr k23_40 f44_2 ?_
              refine tw_iload k23_43 rfl ?_
              refine tw_iald (j := g) (v := (((G.2.2.2 g) : Nat) : Int)) k23_44 al47 rfl (by omega) (hG.2 g (by omega)).2.2 ?_
              refine tw_iload k23_45 rfl ?_
              refine tw_cgeF k23_46 (by omega) ?_
              refine tw_aload k23_49 rfl ?_
              refine tw_getr k23_50 f35_2 ?_
              refine tw_iload k23_53 rfl ?_
              refine tw_iald (j := (pBk W.1 (G.2.2.1 g))) (v := (W.1 (pBk W.1 (G.2.2.1 g)))) k23_54 al48 (by omega) (by omega) (hP _ (by omega)) ?_
              refine tw_zleF k23_55 (by omega) ?_
              refine tw_iload k23_58 rfl ?_
              exact tw_ri k23_59 (⟨by rw [htk, if_pos (by omega)]; exact congrArg (fun x => some (Sum.inl x)) (by omega), rfl⟩)
            · intro i hmi ih
              have ih : mj_T K d 23 23 [some (.inr (.inr (.inl 35))), some (.inl (s 42)), some (.inl ((g : Nat) : Int)), some (.inl (((G.2.2.1 g : Nat) : Int) - (((i + 1) : Nat) : Int)))] [] (mj_Sh, M, N) (fun r Z => r = some (.inl (if tkG s W G < G.1 then ((pBk W.1 (G.2.2.1 (tkG s W G)) : Nat) : Int) else -1)) ∧ Z = (mj_Sh, M, N)) := ih
              show mj_T K d 23 23 [some (.inr (.inr (.inl 35))), some (.inl (s 42)), some (.inl ((g : Nat) : Int)), some (.inl (((G.2.2.1 g : Nat) : Int) - ((i : Nat) : Int)))] [] (mj_Sh, M, N) (fun r Z => r = some (.inl (if tkG s W G < G.1 then ((pBk W.1 (G.2.2.1 (tkG s W G)) : Nat) : Int) else -1)) ∧ Z = (mj_Sh, M, N))
              have hzi := b4 (G.2.2.1 g - i) (by omega) (by omega)
              refine tw_iload k23_23 rfl ?_
              refine tw_aload k23_24 rfl ?_
              refine tw_getr k23_25 f35_1 ?_
              refine tw_getr k23_28 f44_0 ?_
              refine tw_iload k23_31 rfl ?_
              refine tw_iald (j := g) (v := (((G.2.1 g) : Nat) : Int)) k23_32 al45 rfl (by omega) (hG.2 g (by omega)).1 ?_
              refine tw_cltF k23_33 (by omega) ?_
              refine tw_aload k23_36 rfl ?_
              refine tw_getr k23_37 f35_1 ?_
              refine tw_getr k23_40 f44_2 ?_
              refine tw_iload k23_43 rfl ?_
              refine tw_iald (j := g) (v := (((G.2.2.2 g) : Nat) : Int)) k23_44 al47 rfl (by omega) (hG.2 g (by omega)).2.2 ?_
              refine tw_iload k23_45 rfl ?_
              refine tw_cgeF k23_46 (by omega) ?_
              refine tw_aload k23_49 rfl ?_
              refine tw_getr k23_50 f35_2 ?_
              refine tw_iload k23_53 rfl ?_
              refine tw_iald (j := (G.2.2.1 g - i)) (v := (W.1 (G.2.2.1 g - i))) k23_54 al48 (by omega) (by omega) (hP (G.2.2.1 g - i) (by omega)) ?_
              refine tw_zleT k23_55 (by omega) ?_
              refine tw_iinc k23_60 rfl (v := ((((G.2.2.1 g : Nat) : Int) - ((i : Nat) : Int)) + (-1))) rfl (by omega) rfl (L' := [some (.inr (.inr (.inl 35))), some (.inl (s 42)), some (.inl ((g : Nat) : Int)), some (.inl ((((G.2.2.1 g : Nat) : Int) - ((i : Nat) : Int)) + (-1)))]) rfl ?_
              refine tw_goto k23_63 ?_
              refine tw_eqL (L' := [some (.inr (.inr (.inl 35))), some (.inl (s 42)), some (.inl ((g : Nat) : Int)), some (.inl (((G.2.2.1 g : Nat) : Int) - (((i + 1) : Nat) : Int)))]) (e_c rfl (e_c rfl (e_c rfl (e_c (e_i (by omega)) rfl)))) ?_
              exact ih
          refine tw_eqL (L' := [some (.inr (.inr (.inl 35))), some (.inl (s 42)), some (.inl ((g : Nat) : Int)), some (.inl (((G.2.2.1 g : Nat) : Int) - ((0 : Nat) : Int)))]) (e_c rfl (e_c rfl (e_c rfl (e_c (e_i (by omega)) rfl)))) (keyy 0 (by omega))
      · refine tw_iload k23_23 rfl ?_
        refine tw_aload k23_24 rfl ?_
        refine tw_getr k23_25 f35_1 ?_
        refine tw_getr k23_28 f44_0 ?_
        refine tw_iload k23_31 rfl ?_
        refine tw_iald (j := g) (v := (((G.2.1 g) : Nat) : Int)) k23_32 al45 rfl (by omega) (hG.2 g (by omega)).1 ?_
        refine tw_cltF k23_33 (by omega) ?_
        refine tw_aload k23_36 rfl ?_
        refine tw_getr k23_37 f35_1 ?_
        refine tw_getr k23_40 f44_2 ?_
        refine tw_iload k23_43 rfl ?_
        refine tw_iald (j := g) (v := (((G.2.2.2 g) : Nat) : Int)) k23_44 al47 rfl (by omega) (hG.2 g (by omega)).2.2 ?_
        refine tw_iload k23_45 rfl ?_
        refine tw_cgeT k23_46 (by omega) ?_
        refine tw_iinc k23_66 rfl (v := ((g + 1 : Nat) : Int)) rfl (by omega) rfl (L' := [some (.inr (.inr (.inl 35))), some (.inl (s 42)), some (.inl ((g + 1 : Nat) : Int)), some (.inl (((G.2.2.1 g) : Nat) : Int))]) rfl ?_
        refine tw_goto k23_69 ?_
        exact ih (some (.inl (((G.2.2.1 g) : Nat) : Int))) (fun j hj => by
          by_cases e : j = g
          · subst e; intro hc; omega
          · exact hN j (by omega))
  refine tw_const k23_0 ?_
  refine tw_istore k23_1 rfl (L' := [some (.inr (.inr (.inl 35))), some (.inl (s 42)), some (.inl (0 : Int)), none]) rfl ?_
  exact key 0 (by omega) none (fun j hj => by omega)
theorem x_25_35 {K : mj_C} {d : Nat} {M : Nat → Nat → Int} {N : Nat → Nat → Int64} (s : Nat → Int) (hs : pRg s) (G : GS) (hO : gOk (s 0).toNat G) (hG : gRel (M 44 3) (M 45) (M 46) (M 47) G) (W : WS) (hP : ∀ y, y < (s 0).toNat → M 48 y = W.1 y) (hB : ∀ y, y < 5 → 0 ≤ W.1 y ∧ W.1 y ≤ 1000) : mj_X K d 25 [.inr (.inr (.inl 35)), .inl (s 43)] (mj_Sh, M, N) (fun r Z => r = some (.inl (if gvG s G < G.1 then ((G.2.1 (gvG s G) : Nat) : Int) else -1)) ∧ Z = (mj_Sh, M, N)) := by
  show mj_T K d 25 0 [some (.inr (.inr (.inl 35))), some (.inl (s 43)), none] [] (mj_Sh, M, N) _
  have h0 := hs.1 0 (by omega)
  have h5 := hs.2.1
  obtain ⟨Y, hYe⟩ : ∃ Y : Nat, Y = (s 0).toNat := ⟨_, rfl⟩
  have hY0 : s 0 = (Y : Int) := by omega
  rw [← hYe] at hO hP
  obtain ⟨hO1, hO2, hO3, hO4, hO5⟩ := hO
  have key : ∀ g : Nat, g ≤ G.1 → (∀ j, j < g → ¬ (s 43 < ((G.2.2.2 j : Nat) : Int))) → mj_T K d 25 2 [some (.inr (.inr (.inl 35))), some (.inl (s 43)), some (.inl ((g : Nat) : Int))] [] (mj_Sh, M, N) (fun r Z => r = some (.inl (if gvG s G < G.1 then ((G.2.1 (gvG s G) : Nat) : Int) else -1)) ∧ Z = (mj_Sh, M, N)) := by
    refine up_to G.1 ?_ ?_
    · show (∀ j, j < G.1 → ¬ (s 43 < ((G.2.2.2 j : Nat) : Int))) → mj_T K d 25 2 [some (.inr (.inr (.inl 35))), some (.inl (s 43)), some (.inl ((G.1 : Nat) : Int))] [] (mj_Sh, M, N) (fun r Z => r = some (.inl (if gvG s G < G.1 then ((G.2.1 (gvG s G) : Nat) : Int) else -1)) ∧ Z = (mj_Sh, M, N))
      intro hN
      refine tw_iload k25_2 rfl ?_
      refine tw_aload k25_3 rfl ?_
      refine tw_getr k25_4 f35_1 ?_
      refine tw_geti k25_7 f44_3 rfl (v := ((G.1 : Nat) : Int)) hG.1 ?_
      refine tw_cgeT k25_10 (by omega) ?_
      refine tw_const k25_42 ?_
      exact tw_ri k25_43 (⟨by unfold gvG; rw [pFd_no G.1 0 (fun j _ hj => hN j (by omega)), if_neg (by omega)], rfl⟩)
    · intro g hmg ih
      have ih : (∀ j, j < (g + 1) → ¬ (s 43 < ((G.2.2.2 j : Nat) : Int))) → mj_T K d 25 2 [some (.inr (.inr (.inl 35))), some (.inl (s 43)), some (.inl (((g + 1) : Nat) : Int))] [] (mj_Sh, M, N) (fun r Z => r = some (.inl (if gvG s G < G.1 then ((G.2.1 (gvG s G) : Nat) : Int) else -1)) ∧ Z = (mj_Sh, M, N)) := ih
      show (∀ j, j < g → ¬ (s 43 < ((G.2.2.2 j : Nat) : Int))) → mj_T K d 25 2 [some (.inr (.inr (.inl 35))), some (.inl (s 43)), some (.inl ((g : Nat) : Int))] [] (mj_Sh, M, N) (fun r Z => r = some (.inl (if gvG s G < G.1 then ((G.2.1 (gvG s G) : Nat) : Int) else -1)) ∧ Z = (mj_Sh, M, N))
      intro hN
      have a1 := hO2 g (by omega)
      refine tw_iload k25_2 rfl ?_
      refine tw_aload k25_3 rfl ?_
      refine tw_getr k25_4 f35_1 ?_
      refine tw_geti k25_7 f44_3 rfl (v := ((G.1 : Nat) : Int)) hG.1 ?_
      refine tw_cgeF k25_10 (by omega) ?_
      refine tw_aload k25_13 rfl ?_
      refine tw_getr k25_14 f35_1 ?_
      refine tw_getr k25_17 f44_2 ?_
      refine tw_iload k25_20 rfl ?_
      refine tw_iald (j := g) (v := (((G.2.2.2 g) : Nat) : Int)) k25_21 al47 rfl (by omega) (hG.2 g (by omega)).2.2 ?_
      refine tw_iload k25_22 rfl ?_
      refine tw_cle k25_23 (fun h23 => ?_) (fun h23 => ?_)
      · refine tw_iinc k25_36 rfl (v := ((g + 1 : Nat) : Int)) rfl (by omega) rfl (L' := [some (.inr (.inr (.inl 35))), some (.inl (s 43)), some (.inl ((g + 1 : Nat) : Int))]) rfl ?_
        refine tw_goto k25_39 ?_
        exact ih (fun j hj => by
          by_cases e : j = g
          · subst e; omega
          · exact hN j (by omega))
      · refine tw_aload k25_26 rfl ?_
        refine tw_getr k25_27 f35_1 ?_
        refine tw_getr k25_30 f44_0 ?_
        refine tw_iload k25_33 rfl ?_
        refine tw_iald (j := g) (v := (((G.2.1 g) : Nat) : Int)) k25_34 al45 rfl (by omega) (hG.2 g (by omega)).1 ?_
        exact tw_ri k25_35 (⟨by rw [show gvG s G = g from pFd_eq G.1 0 g (by omega) (by omega) (by omega) (fun j _ hj => hN j hj), if_pos (by omega)], rfl⟩)
  refine tw_const k25_0 ?_
  refine tw_istore k25_1 rfl (L' := [some (.inr (.inr (.inl 35))), some (.inl (s 43)), some (.inl (0 : Int))]) rfl ?_
  exact key 0 (by omega) (fun j hj => by omega)
theorem x_27_35 {K : mj_C} {d : Nat} {M : Nat → Nat → Int} {N : Nat → Nat → Int64} (s : Nat → Int) (hs : pRg s) (G : GS) (hO : gOk (s 0).toNat G) (hG : gRel (M 44 3) (M 45) (M 46) (M 47) G) (W : WS) (hP : ∀ y, y < (s 0).toNat → M 48 y = W.1 y) (hB : ∀ y, y < 5 → 0 ≤ W.1 y ∧ W.1 y ≤ 1000) (hQ : ∀ y, y < (s 0).toNat → M 49 y = W.2.1 y ∧ 0 ≤ W.2.1 y ∧ W.2.1 y ≤ 1000) : mj_X K d 27 [.inr (.inr (.inl 35)), .inl (s 45)] (mj_Sh, M, N) (fun r Z => r = some (.inl (if bwG s W G + 1 < G.1 then ((bwG s W G : Nat) : Int) else -1)) ∧ Z = (mj_Sh, M, N)) := by
  show mj_T K d 27 0 [some (.inr (.inr (.inl 35))), some (.inl (s 45)), none, none] [] (mj_Sh, M, N) _
  have h0 := hs.1 0 (by omega)
  have h5 := hs.2.1
  obtain ⟨Y, hYe⟩ : ∃ Y : Nat, Y = (s 0).toNat := ⟨_, rfl⟩
  have hY0 : s 0 = (Y : Int) := by omega
  rw [← hYe] at hO hP
  obtain ⟨hO1, hO2, hO3, hO4, hO5⟩ := hO
  have hz : G.1 = 0 → ∀ o3, mj_T K d 27 2 [some (.inr (.inr (.inl 35))), some (.inl (s 45)), some (.inl ((0 : Nat) : Int)), sv o3] [] (mj_Sh, M, N) (fun r Z => r = some (.inl (if bwG s W G + 1 < G.1 then ((bwG s W G : Nat) : Int) else -1)) ∧ Z = (mj_Sh, M, N)) := by
    intro hz o3
    refine tw_iload k27_2 rfl ?_
    refine tw_const k27_3 ?_
    refine tw_iadd k27_4 (v := ((0 + 1 : Nat) : Int)) rfl (by omega) ?_
    refine tw_aload k27_5 rfl ?_
    refine tw_getr k27_6 f35_1 ?_
    refine tw_geti k27_9 f44_3 rfl (v := ((G.1 : Nat) : Int)) hG.1 ?_
    refine tw_cgeT k27_12 (by omega) ?_
    refine tw_const k27_93 ?_
    exact tw_ri k27_94 (⟨by rw [if_neg (by omega)], rfl⟩)
  rcases Nat.eq_zero_or_pos G.1 with e0 | e0
  · refine tw_const k27_0 ?_
    refine tw_istore k27_1 rfl (L' := [some (.inr (.inr (.inl 35))), some (.inl (s 45)), some (.inl (0 : Int)), none]) rfl ?_
    exact hz e0 none
  have key : ∀ g : Nat, g ≤ (G.1 - 1) → ∀ o3, (∀ j, j < g → ¬ (G.2.2.2 (j + 1) < G.2.2.2 j ∧ W.2.1 (G.2.2.1 j) < s 45 ∧ ¬ W.1 (G.2.1 (j + 1)) = 0)) → mj_T K d 27 2 [some (.inr (.inr (.inl 35))), some (.inl (s 45)), some (.inl ((g : Nat) : Int)), sv o3] [] (mj_Sh, M, N) (fun r Z => r = some (.inl (if bwG s W G + 1 < G.1 then ((bwG s W G : Nat) : Int) else -1)) ∧ Z = (mj_Sh, M, N)) := by
    refine up_to (G.1 - 1) ?_ ?_
    · show ∀ o3, (∀ j, j < (G.1 - 1) → ¬ (G.2.2.2 (j + 1) < G.2.2.2 j ∧ W.2.1 (G.2.2.1 j) < s 45 ∧ ¬ W.1 (G.2.1 (j + 1)) = 0)) → mj_T K d 27 2 [some (.inr (.inr (.inl 35))), some (.inl (s 45)), some (.inl (((G.1 - 1) : Nat) : Int)), sv o3] [] (mj_Sh, M, N) (fun r Z => r = some (.inl (if bwG s W G + 1 < G.1 then ((bwG s W G : Nat) : Int) else -1)) ∧ Z = (mj_Sh, M, N))
      intro o3 hN
      refine tw_iload k27_2 rfl ?_
      refine tw_const k27_3 ?_
      refine tw_iadd k27_4 (v := (((G.1 - 1) + 1 : Nat) : Int)) rfl (by omega) ?_
      refine tw_aload k27_5 rfl ?_
      refine tw_getr k27_6 f35_1 ?_
      refine tw_geti k27_9 f44_3 rfl (v := ((G.1 : Nat) : Int)) hG.1 ?_
      refine tw_cgeT k27_12 (by omega) ?_
      refine tw_const k27_93 ?_
      exact tw_ri k27_94 (⟨by unfold bwG; rw [pFd_no (G.1 - 1) 0 (fun j _ hj => hN j (by omega)), if_neg (by omega)], rfl⟩)
    · intro g hmg ih
      have ih : ∀ o3, (∀ j, j < (g + 1) → ¬ (G.2.2.2 (j + 1) < G.2.2.2 j ∧ W.2.1 (G.2.2.1 j) < s 45 ∧ ¬ W.1 (G.2.1 (j + 1)) = 0)) → mj_T K d 27 2 [some (.inr (.inr (.inl 35))), some (.inl (s 45)), some (.inl (((g + 1) : Nat) : Int)), sv o3] [] (mj_Sh, M, N) (fun r Z => r = some (.inl (if bwG s W G + 1 < G.1 then ((bwG s W G : Nat) : Int) else -1)) ∧ Z = (mj_Sh, M, N)) := ih
      show ∀ o3, (∀ j, j < g → ¬ (G.2.2.2 (j + 1) < G.2.2.2 j ∧ W.2.1 (G.2.2.1 j) < s 45 ∧ ¬ W.1 (G.2.1 (j + 1)) = 0)) → mj_T K d 27 2 [some (.inr (.inr (.inl 35))), some (.inl (s 45)), some (.inl ((g : Nat) : Int)), sv o3] [] (mj_Sh, M, N) (fun r Z => r = some (.inl (if bwG s W G + 1 < G.1 then ((bwG s W G : Nat) : Int) else -1)) ∧ Z = (mj_Sh, M, N))
      intro o3 hN
      have a1 := hO2 g (by omega)
      have a2 := hO2 (g + 1) (by omega)
      have hb2 := hB (G.2.1 (g + 1)) (by omega)
      refine tw_iload k27_2 rfl ?_
      refine tw_const k27_3 ?_
      refine tw_iadd k27_4 (v := ((g + 1 : Nat) : Int)) rfl (by omega) ?_
      refine tw_aload k27_5 rfl ?_
      refine tw_getr k27_6 f35_1 ?_
      refine tw_geti k27_9 f44_3 rfl (v := ((G.1 : Nat) : Int)) hG.1 ?_
      refine tw_cgeF k27_12 (by omega) ?_
      refine tw_aload k27_15 rfl ?_
      refine tw_getr k27_16 f35_1 ?_
      refine tw_getr k27_19 f44_2 ?_
      refine tw_iload k27_22 rfl ?_
      refine tw_iald (j := g) (v := (((G.2.2.2 g) : Nat) : Int)) k27_23 al47 rfl (by omega) (hG.2 g (by omega)).2.2 ?_
      refine tw_aload k27_24 rfl ?_
      refine tw_getr k27_25 f35_1 ?_
      refine tw_getr k27_28 f44_2 ?_
      refine tw_iload k27_31 rfl ?_
      refine tw_const k27_32 ?_
      refine tw_iadd k27_33 (v := ((g + 1 : Nat) : Int)) rfl (by omega) ?_
      refine tw_iald (j := g + 1) (v := (((G.2.2.2 (g + 1)) : Nat) : Int)) k27_34 al47 rfl (by omega) (hG.2 (g + 1) (by omega)).2.2 ?_
      refine tw_cle k27_35 (fun h35 => ?_) (fun h35 => ?_)
      · refine tw_const k27_42 ?_
        refine tw_istore k27_43 rfl (L' := [some (.inr (.inr (.inl 35))), some (.inl (s 45)), some (.inl ((g : Nat) : Int)), some (.inl (0 : Int))]) rfl ?_
        refine tw_iload k27_44 rfl ?_
        refine tw_zeqT k27_45 (by decide) ?_
        refine tw_iinc k27_87 rfl (v := ((g + 1 : Nat) : Int)) rfl (by omega) rfl (L' := [some (.inr (.inr (.inl 35))), some (.inl (s 45)), some (.inl ((g + 1 : Nat) : Int)), some (.inl (0 : Int))]) rfl ?_
        refine tw_goto k27_90 ?_
        exact ih (some (.inl (0 : Int))) (fun j hj => by
          by_cases e : j = g
          · subst e; intro hc; have := hc.1; omega
          · exact hN j (by omega))
      · refine tw_const k27_38 ?_
        refine tw_goto k27_39 ?_
        refine tw_istore k27_43 rfl (L' := [some (.inr (.inr (.inl 35))), some (.inl (s 45)), some (.inl ((g : Nat) : Int)), some (.inl (1 : Int))]) rfl ?_
        refine tw_iload k27_44 rfl ?_
        refine tw_zeqF k27_45 (by decide) ?_
        refine tw_aload k27_48 rfl ?_
        refine tw_getr k27_49 f35_3 ?_
        refine tw_aload k27_52 rfl ?_
        refine tw_getr k27_53 f35_1 ?_
        refine tw_getr k27_56 f44_1 ?_
        refine tw_iload k27_59 rfl ?_
        refine tw_iald (j := g) (v := (((G.2.2.1 g) : Nat) : Int)) k27_60 al46 rfl (by omega) (hG.2 g (by omega)).2.1 ?_
        refine tw_iald (j := (G.2.2.1 g)) (v := (W.2.1 (G.2.2.1 g))) k27_61 al49 rfl (by omega) (hQ (G.2.2.1 g) (by omega)).1 ?_
        refine tw_iload k27_62 rfl ?_
        refine tw_cge k27_63 (fun h63 => ?_) (fun h63 => ?_)
        · refine tw_iinc k27_87 rfl (v := ((g + 1 : Nat) : Int)) rfl (by omega) rfl (L' := [some (.inr (.inr (.inl 35))), some (.inl (s 45)), some (.inl ((g + 1 : Nat) : Int)), some (.inl (1 : Int))]) rfl ?_
          refine tw_goto k27_90 ?_
          exact ih (some (.inl (1 : Int))) (fun j hj => by
            by_cases e : j = g
            · subst e; intro hc; have := hc.2.1; omega
            · exact hN j (by omega))
        · refine tw_aload k27_66 rfl ?_
          refine tw_getr k27_67 f35_2 ?_
          refine tw_aload k27_70 rfl ?_
          refine tw_getr k27_71 f35_1 ?_
          refine tw_getr k27_74 f44_0 ?_
          refine tw_iload k27_77 rfl ?_
          refine tw_const k27_78 ?_
          refine tw_iadd k27_79 (v := ((g + 1 : Nat) : Int)) rfl (by omega) ?_
          refine tw_iald (j := g + 1) (v := (((G.2.1 (g + 1)) : Nat) : Int)) k27_80 al45 rfl (by omega) (hG.2 (g + 1) (by omega)).1 ?_
          refine tw_iald (j := (G.2.1 (g + 1))) (v := (W.1 (G.2.1 (g + 1)))) k27_81 al48 rfl (by omega) (hP (G.2.1 (g + 1)) (by omega)) ?_
          refine tw_zle k27_82 (fun h82 => ?_) (fun h82 => ?_)
          · refine tw_iinc k27_87 rfl (v := ((g + 1 : Nat) : Int)) rfl (by omega) rfl (L' := [some (.inr (.inr (.inl 35))), some (.inl (s 45)), some (.inl ((g + 1 : Nat) : Int)), some (.inl (1 : Int))]) rfl ?_
            refine tw_goto k27_90 ?_
            exact ih (some (.inl (1 : Int))) (fun j hj => by
              by_cases e : j = g
              · subst e; intro hc; have := hc.2.2; omega
              · exact hN j (by omega))
          · refine tw_iload k27_85 rfl ?_
            exact tw_ri k27_86 (⟨by rw [show bwG s W G = g from pFd_eq (G.1 - 1) 0 g (by omega) (by omega) ⟨by omega, by omega, by omega⟩ (fun j _ hj => hN j hj), if_pos (by omega)], rfl⟩)
  refine tw_const k27_0 ?_
  refine tw_istore k27_1 rfl (L' := [some (.inr (.inr (.inl 35))), some (.inl (s 45)), some (.inl (0 : Int)), none]) rfl ?_
  exact key 0 (by omega) none (fun j hj => by omega)
theorem x_22_35 {K : mj_C} {d : Nat} {M : Nat → Nat → Int} {N : Nat → Nat → Int64} (hD : 3 ≤ d) (s : Nat → Int) (hs : pRg s) (W : WS) (hC : cPl 35 M s W) (hI : wI W) (hV : W.2.2.2.1 + pS W.1 0 5 ≤ 600) : mj_X K d 22 [.inr (.inr (.inl 35)), .inl (s 42)] (mj_Sh, M, N) (fun r Z => r = none ∧ ∃ M1, Z = (mj_Sh, M1, N) ∧ (∀ c, c < 35 ∨ 35 < c ∧ c < 44 ∨ 49 < c → M1 c = M c) ∧ cPl 35 M1 s (itN (tkC s) (fun _ => inferInstance) (tkS s) 10000 W)) := by
  show mj_T K d 22 0 [some (.inr (.inr (.inl 35))), some (.inl (s 42)), none, none] [] (mj_Sh, M, N) _
  have h0 := hs.1 0 (by omega)
  have h5 := hs.2.1
  obtain ⟨Y, hYe⟩ : ∃ Y : Nat, Y = (s 0).toNat := ⟨_, rfl⟩
  have hY0 : s 0 = (Y : Int) := by omega
  have h5' := h5
  have key : ∀ k : Nat, k ≤ 10000 → ∀ o3 (W1 : WS) (M1 : Nat → Nat → Int), (∀ c, c < 35 ∨ 35 < c ∧ c < 44 ∨ 49 < c → M1 c = M c) → cPl 35 M1 s W1 → wI W1 → W1.2.2.2.1 + pS W1.1 0 5 ≤ 600 → itN (tkC s) (fun _ => inferInstance) (tkS s) (10000 - k) W1 = itN (tkC s) (fun _ => inferInstance) (tkS s) 10000 W → mj_T K d 22 2 [some (.inr (.inr (.inl 35))), some (.inl (s 42)), some (.inl ((k : Nat) : Int)), sv o3] [] (mj_Sh, M1, N) (fun r Z => r = none ∧ ∃ M1, Z = (mj_Sh, M1, N) ∧ (∀ c, c < 35 ∨ 35 < c ∧ c < 44 ∨ 49 < c → M1 c = M c) ∧ cPl 35 M1 s (itN (tkC s) (fun _ => inferInstance) (tkS s) 10000 W)) := by
    refine up_to 10000 ?_ ?_
    · show ∀ o3 (W1 : WS) (M1 : Nat → Nat → Int), (∀ c, c < 35 ∨ 35 < c ∧ c < 44 ∨ 49 < c → M1 c = M c) → cPl 35 M1 s W1 → wI W1 → W1.2.2.2.1 + pS W1.1 0 5 ≤ 600 → itN (tkC s) (fun _ => inferInstance) (tkS s) (10000 - 10000) W1 = itN (tkC s) (fun _ => inferInstance) (tkS s) 10000 W → mj_T K d 22 2 [some (.inr (.inr (.inl 35))), some (.inl (s 42)), some (.inl ((10000 : Nat) : Int)), sv o3] [] (mj_Sh, M1, N) (fun r Z => r = none ∧ ∃ M1, Z = (mj_Sh, M1, N) ∧ (∀ c, c < 35 ∨ 35 < c ∧ c < 44 ∨ 49 < c → M1 c = M c) ∧ cPl 35 M1 s (itN (tkC s) (fun _ => inferInstance) (tkS s) 10000 W))
      intro o3 W1 M1 hf hC hI hV hit
      refine tw_iload k22_2 rfl ?_
      refine tw_const k22_3 ?_
      refine tw_cgeT k22_6 (by omega) ?_
      exact tw_rv k22_75 (⟨rfl, M1, rfl, hf, by rw [← hit, Nat.sub_self, itN]; exact hC⟩)
    · intro k hmk ih
      have ih : ∀ o3 (W1 : WS) (M1 : Nat → Nat → Int), (∀ c, c < 35 ∨ 35 < c ∧ c < 44 ∨ 49 < c → M1 c = M c) → cPl 35 M1 s W1 → wI W1 → W1.2.2.2.1 + pS W1.1 0 5 ≤ 600 → itN (tkC s) (fun _ => inferInstance) (tkS s) (10000 - (k + 1)) W1 = itN (tkC s) (fun _ => inferInstance) (tkS s) 10000 W → mj_T K d 22 2 [some (.inr (.inr (.inl 35))), some (.inl (s 42)), some (.inl (((k + 1) : Nat) : Int)), sv o3] [] (mj_Sh, M1, N) (fun r Z => r = none ∧ ∃ M1, Z = (mj_Sh, M1, N) ∧ (∀ c, c < 35 ∨ 35 < c ∧ c < 44 ∨ 49 < c → M1 c = M c) ∧ cPl 35 M1 s (itN (tkC s) (fun _ => inferInstance) (tkS s) 10000 W)) := ih
      show ∀ o3 (W1 : WS) (M1 : Nat → Nat → Int), (∀ c, c < 35 ∨ 35 < c ∧ c < 44 ∨ 49 < c → M1 c = M c) → cPl 35 M1 s W1 → wI W1 → W1.2.2.2.1 + pS W1.1 0 5 ≤ 600 → itN (tkC s) (fun _ => inferInstance) (tkS s) (10000 - k) W1 = itN (tkC s) (fun _ => inferInstance) (tkS s) 10000 W → mj_T K d 22 2 [some (.inr (.inr (.inl 35))), some (.inl (s 42)), some (.inl ((k : Nat) : Int)), sv o3] [] (mj_Sh, M1, N) (fun r Z => r = none ∧ ∃ M1, Z = (mj_Sh, M1, N) ∧ (∀ c, c < 35 ∨ 35 < c ∧ c < 44 ∨ 49 < c → M1 c = M c) ∧ cPl 35 M1 s (itN (tkC s) (fun _ => inferInstance) (tkS s) 10000 W))
      intro o3 W1 M1 hf hC hI hV hit
      obtain ⟨p11, p12, p13, p14, p15, hpp, hpg, hpd⟩ := hC
      by_cases hc : tkC s W1
      · have hI2 := tk_I hs hI hV hc
        have hyy := tk_y hs hI hc
        have hI1 := hI.2
        have hps := (pS_mem 5 (fun i hi => (hI.1 i hi).1) (show 0 < 5 by omega)).2
        have hyY : (pBk W1.1 ((wGr s W1).2.2.1 (tkG s W1 (wGr s W1)))) < Y := by
          have h1 := (wGr_ok s W1).2.1 _ hc
          have ⟨h2, _⟩ := pFd_sp (P := fun g => ((wGr s W1).2.2.2 g : Int) < s 42 ∧ ¬ gTot W1.1 (wGr s W1) g = 0) (dP := fun _ => inferInstance) (wGr s W1).1 0
          have h3 : ¬ gTot W1.1 (wGr s W1) (tkG s W1 (wGr s W1)) = 0 := by
            rcases h2 with ⟨_, b, _⟩ | a
            · exact b.2
            · have hc3 : tkG s W1 (wGr s W1) < (wGr s W1).1 := hc
              unfold tkG at hc3; omega
          obtain ⟨b1, b2, b3, b4⟩ := pBk_sp (perm := W1.1) _ _ h1.1 h3
          omega
        have hpy := wI_p hI (pBk W1.1 ((wGr s W1).2.2.1 (tkG s W1 (wGr s W1)))) (by omega)
        have hit2 := hit
        rw [show 10000 - k = (10000 - (k + 1)) + 1 by omega, itN, if_pos hc] at hit2
        have hrv : (if tkG s W1 (wGr s W1) < (wGr s W1).1 then ((pBk W1.1 ((wGr s W1).2.2.1 (tkG s W1 (wGr s W1))) : Nat) : Int) else -1) = (((pBk W1.1 ((wGr s W1).2.2.1 (tkG s W1 (wGr s W1)))) : Nat) : Int) := if_pos hc
        refine tw_iload k22_2 rfl ?_
        refine tw_const k22_3 ?_
        refine tw_cgeF k22_6 (by omega) ?_
        refine tw_aload k22_9 rfl ?_
        refine tw_iload k22_10 rfl ?_
        refine tw_callp (v := .inl (if tkG s W1 (wGr s W1) < (wGr s W1).1 then ((pBk W1.1 ((wGr s W1).2.2.1 (tkG s W1 (wGr s W1))) : Nat) : Int) else -1)) (by omega) (S' := []) (as := [.inr (.inr (.inl 35)), .inl (s 42)]) k22_11 (x_23_35 (M := M1) (N := N) s hs (wGr s W1) (wGr_ok s W1) hpg W1 (fun y hy => (hpp y hy).1) (wI_p hI)) rfl rfl rfl rfl rfl ?_
        refine tw_eqS (S' := [.inl (((pBk W1.1 ((wGr s W1).2.2.1 (tkG s W1 (wGr s W1)))) : Nat) : Int)]) (e_c (congrArg Sum.inl hrv) rfl) ?_
        refine tw_istore k22_14 rfl (L' := [some (.inr (.inr (.inl 35))), some (.inl (s 42)), some (.inl ((k : Nat) : Int)), some (.inl (((pBk W1.1 ((wGr s W1).2.2.1 (tkG s W1 (wGr s W1)))) : Nat) : Int))]) rfl ?_
        refine tw_iload k22_15 rfl ?_
        refine tw_zgeT k22_16 (by omega) ?_
        refine tw_aload k22_20 rfl ?_
        refine tw_getr k22_21 f35_2 ?_
        refine tw_iload k22_24 rfl ?_
        refine tw_dup2 k22_25 ?_
        refine tw_iald (j := (pBk W1.1 ((wGr s W1).2.2.1 (tkG s W1 (wGr s W1))))) (v := (W1.1 (pBk W1.1 ((wGr s W1).2.2.1 (tkG s W1 (wGr s W1)))))) k22_26 al48 rfl (by omega) (hpp (pBk W1.1 ((wGr s W1).2.2.1 (tkG s W1 (wGr s W1)))) (by omega)).1 ?_
        refine tw_const k22_27 ?_
        refine tw_isub k22_28 (v := ((W1.1 (pBk W1.1 ((wGr s W1).2.2.1 (tkG s W1 (wGr s W1))))) - (1 : Int))) rfl (by omega) ?_
        refine tw_iast (M := M1) (N := N) (l := []) (l' := [(48, (pU (M1 48) (pBk W1.1 ((wGr s W1).2.2.1 (tkG s W1 (wGr s W1)))) ((W1.1 (pBk W1.1 ((wGr s W1).2.2.1 (tkG s W1 (wGr s W1))))) - (1 : Int))))]) (j := (pBk W1.1 ((wGr s W1).2.2.1 (tkG s W1 (wGr s W1))))) k22_29 al48 rfl (by omega) rfl ?_
        refine tw_aload k22_30 rfl ?_
        refine tw_dupr k22_31 ?_
        refine tw_geti k22_32 f35_12 rfl (v := W1.2.2.1) (show M1 35 12 = _ from p12) ?_
        refine tw_const k22_35 ?_
        refine tw_iadd k22_36 (v := (W1.2.2.1 + (1 : Int))) rfl (by omega) ?_
        refine tw_puti (M := M1) (N := N) (l := [(48, (pU (M1 48) (pBk W1.1 ((wGr s W1).2.2.1 (tkG s W1 (wGr s W1)))) ((W1.1 (pBk W1.1 ((wGr s W1).2.2.1 (tkG s W1 (wGr s W1))))) - (1 : Int))))]) (l' := [(48, (pU (M1 48) (pBk W1.1 ((wGr s W1).2.2.1 (tkG s W1 (wGr s W1)))) ((W1.1 (pBk W1.1 ((wGr s W1).2.2.1 (tkG s W1 (wGr s W1))))) - (1 : Int)))), (35, (pU (M1 35) 12 (W1.2.2.1 + (1 : Int))))]) k22_37 f35_12 rfl ?_
        refine tw_aload k22_40 rfl ?_
        refine tw_dupr k22_41 ?_
        refine tw_geti k22_42 f35_13 rfl (v := W1.2.2.2.1) (show (pU (M1 35) 12 (W1.2.2.1 + (1 : Int))) 13 = _ from (by rw [pU_ne (by omega)]; exact p13)) ?_
        refine tw_const k22_45 ?_
        refine tw_iadd k22_46 (v := (W1.2.2.2.1 + (1 : Int))) rfl (by omega) ?_
        refine tw_puti (M := M1) (N := N) (l := [(48, (pU (M1 48) (pBk W1.1 ((wGr s W1).2.2.1 (tkG s W1 (wGr s W1)))) ((W1.1 (pBk W1.1 ((wGr s W1).2.2.1 (tkG s W1 (wGr s W1))))) - (1 : Int)))), (35, (pU (M1 35) 12 (W1.2.2.1 + (1 : Int))))]) (l' := [(48, (pU (M1 48) (pBk W1.1 ((wGr s W1).2.2.1 (tkG s W1 (wGr s W1)))) ((W1.1 (pBk W1.1 ((wGr s W1).2.2.1 (tkG s W1 (wGr s W1))))) - (1 : Int)))), (35, (pU (pU (M1 35) 12 (W1.2.2.1 + (1 : Int))) 13 (W1.2.2.2.1 + (1 : Int))))]) k22_47 f35_13 rfl ?_
        refine tw_aload k22_50 rfl ?_
        refine tw_getr k22_51 f35_1 ?_
        refine tw_aload k22_54 rfl ?_
        refine tw_getr k22_55 f35_0 ?_
        refine tw_aload k22_58 rfl ?_
        refine tw_getr k22_59 f35_2 ?_
        refine tw_aload k22_62 rfl ?_
        refine tw_geti k22_63 f35_11 rfl (v := ((Y : Nat) : Int)) (show (pU (pU (M1 35) 12 (W1.2.2.1 + (1 : Int))) 13 (W1.2.2.2.1 + (1 : Int))) 11 = _ from (by rw [pU_ne (by omega)]; rw [pU_ne (by omega)]; exact p11.trans hY0)) ?_
        refine tw_call (by omega) (S' := []) (as := [.inr (.inr (.inl 44)), .inr (.inr (.inl 36)), .inr (.inr (.inl 48)), .inl ((Y : Nat) : Int)]) k22_66 (x_7_35 (M := (st M1 [(48, (pU (M1 48) (pBk W1.1 ((wGr s W1).2.2.1 (tkG s W1 (wGr s W1)))) ((W1.1 (pBk W1.1 ((wGr s W1).2.2.1 (tkG s W1 (wGr s W1))))) - (1 : Int)))), (35, (pU (pU (M1 35) 12 (W1.2.2.1 + (1 : Int))) 13 (W1.2.2.2.1 + (1 : Int))))])) (N := N) (by omega) s hs (dM_fr hs hpd (fun c _ _ => by rw [st_c, if_neg (by omega), st_c, if_neg (by omega), st_nil])) Y hYe (tkS s W1).1 (fun y hy => by show pU (M1 48) _ _ y = pU W1.1 _ _ y; unfold pU; rw [(hpp y (by omega)).1]) (wI_p hI2.1)) rfl rfl rfl rfl rfl (fun r66 Z66 hq66 => ?_)
        obtain ⟨rfl, f0, f1, f2, f3, rfl, hG2⟩ := hq66
        refine tw_as (S := []) (M := (st M1 [(48, (pU (M1 48) (pBk W1.1 ((wGr s W1).2.2.1 (tkG s W1 (wGr s W1)))) ((W1.1 (pBk W1.1 ((wGr s W1).2.2.1 (tkG s W1 (wGr s W1))))) - (1 : Int)))), (35, (pU (pU (M1 35) 12 (W1.2.2.1 + (1 : Int))) 13 (W1.2.2.2.1 + (1 : Int)))), (47, f3), (46, f2), (45, f1), (44, f0)])) (N := N) (by rw [st_mg]; rfl) rfl ?_
        refine tw_iinc k22_69 rfl (v := ((k + 1 : Nat) : Int)) rfl (by omega) rfl (L' := [some (.inr (.inr (.inl 35))), some (.inl (s 42)), some (.inl ((k + 1 : Nat) : Int)), some (.inl (((pBk W1.1 ((wGr s W1).2.2.1 (tkG s W1 (wGr s W1)))) : Nat) : Int))]) rfl ?_
        refine tw_goto k22_72 ?_
        have hG2' : gRel (f0 3) f1 f2 f3 (wGr s (tkS s W1)) := by unfold wGr; rw [← hYe]; exact hG2
        refine ih (some (.inl (((pBk W1.1 ((wGr s W1).2.2.1 (tkG s W1 (wGr s W1)))) : Nat) : Int))) (tkS s W1) _ (fun c hc => ?_) ?_ hI2.1 hI2.2.1 (by rw [← hit2])
        · rw [st_c, if_neg (by omega), st_c, if_neg (by omega), st_c, if_neg (by omega), st_c, if_neg (by omega), st_c, if_neg (by omega), st_c, if_neg (by omega), st_nil]; exact hf c hc
        · refine ⟨?_, ?_, ?_, ?_, ?_, fun y hy => ⟨?_, ?_⟩, hG2', dM_fr hs hpd (fun c _ _ => by rw [st_c, if_neg (by omega), st_c, if_neg (by omega), st_c, if_neg (by omega), st_c, if_neg (by omega), st_c, if_neg (by omega), st_c, if_neg (by omega), st_nil])⟩
          · show (pU (pU (M1 35) 12 (W1.2.2.1 + (1 : Int))) 13 (W1.2.2.2.1 + (1 : Int))) 11 = _
            rw [pU_ne (by omega)]; rw [pU_ne (by omega)]; exact p11
          · show (pU (pU (M1 35) 12 (W1.2.2.1 + (1 : Int))) 13 (W1.2.2.2.1 + (1 : Int))) 12 = _
            rw [pU_ne (by omega)]; rw [pU_eq]; rfl
          · show (pU (pU (M1 35) 12 (W1.2.2.1 + (1 : Int))) 13 (W1.2.2.2.1 + (1 : Int))) 13 = _
            rw [pU_eq]; rfl
          · show (pU (pU (M1 35) 12 (W1.2.2.1 + (1 : Int))) 13 (W1.2.2.2.1 + (1 : Int))) 14 = _
            rw [pU_ne (by omega)]; rw [pU_ne (by omega)]; exact p14
          · show (pU (pU (M1 35) 12 (W1.2.2.1 + (1 : Int))) 13 (W1.2.2.2.1 + (1 : Int))) 15 = _
            rw [pU_ne (by omega)]; rw [pU_ne (by omega)]; exact p15
          · show pU (M1 48) _ _ y = pU W1.1 _ _ y
            unfold pU; rw [(hpp y hy).1]
          · exact (hpp y hy).2
      · have hrv : (if tkG s W1 (wGr s W1) < (wGr s W1).1 then ((pBk W1.1 ((wGr s W1).2.2.1 (tkG s W1 (wGr s W1))) : Nat) : Int) else -1) = (-1 : Int) := if_neg hc
        refine tw_iload k22_2 rfl ?_
        refine tw_const k22_3 ?_
        refine tw_cgeF k22_6 (by omega) ?_
        refine tw_aload k22_9 rfl ?_
        refine tw_iload k22_10 rfl ?_
        refine tw_callp (v := .inl (if tkG s W1 (wGr s W1) < (wGr s W1).1 then ((pBk W1.1 ((wGr s W1).2.2.1 (tkG s W1 (wGr s W1))) : Nat) : Int) else -1)) (by omega) (S' := []) (as := [.inr (.inr (.inl 35)), .inl (s 42)]) k22_11 (x_23_35 (M := M1) (N := N) s hs (wGr s W1) (wGr_ok s W1) hpg W1 (fun y hy => (hpp y hy).1) (wI_p hI)) rfl rfl rfl rfl rfl ?_
        refine tw_eqS (S' := [.inl (-1 : Int)]) (e_c (congrArg Sum.inl hrv) rfl) ?_
        refine tw_istore k22_14 rfl (L' := [some (.inr (.inr (.inl 35))), some (.inl (s 42)), some (.inl ((k : Nat) : Int)), some (.inl (-1 : Int))]) rfl ?_
        refine tw_iload k22_15 rfl ?_
        refine tw_zgeF k22_16 (by decide) ?_
        exact tw_rv k22_19 (⟨rfl, M1, rfl, hf, by rw [← hit, show 10000 - k = (10000 - (k + 1)) + 1 by omega, itN, if_neg hc]; exact ⟨p11, p12, p13, p14, p15, hpp, hpg, hpd⟩⟩)
  refine tw_const k22_0 ?_
  refine tw_istore k22_1 rfl (L' := [some (.inr (.inr (.inl 35))), some (.inl (s 42)), some (.inl (0 : Int)), none]) rfl ?_
  exact key 0 (by omega) none _ _ (fun c _ => rfl) hC hI hV rfl
theorem x_24_35 {K : mj_C} {d : Nat} {M : Nat → Nat → Int} {N : Nat → Nat → Int64} (hD : 3 ≤ d) (s : Nat → Int) (hs : pRg s) (W : WS) (hC : cPl 35 M s W) (hI : wI W) (hV : W.2.2.2.2 + W.2.2.1 ≤ 600) : mj_X K d 24 [.inr (.inr (.inl 35)), .inl (s 43)] (mj_Sh, M, N) (fun r Z => r = none ∧ ∃ M1, Z = (mj_Sh, M1, N) ∧ (∀ c, c < 35 ∨ 35 < c ∧ c < 44 ∨ 49 < c → M1 c = M c) ∧ cPl 35 M1 s (itN (gvC s) (fun _ => inferInstance) (gvS s) 10000 W)) := by
  show mj_T K d 24 0 [some (.inr (.inr (.inl 35))), some (.inl (s 43)), none, none] [] (mj_Sh, M, N) _
  have h0 := hs.1 0 (by omega)
  have h5 := hs.2.1
  obtain ⟨Y, hYe⟩ : ∃ Y : Nat, Y = (s 0).toNat := ⟨_, rfl⟩
  have hY0 : s 0 = (Y : Int) := by omega
  have h5' := h5
  have key : ∀ k : Nat, k ≤ 10000 → ∀ o3 (W1 : WS) (M1 : Nat → Nat → Int), (∀ c, c < 35 ∨ 35 < c ∧ c < 44 ∨ 49 < c → M1 c = M c) → cPl 35 M1 s W1 → wI W1 → W1.2.2.2.2 + W1.2.2.1 ≤ 600 → itN (gvC s) (fun _ => inferInstance) (gvS s) (10000 - k) W1 = itN (gvC s) (fun _ => inferInstance) (gvS s) 10000 W → mj_T K d 24 2 [some (.inr (.inr (.inl 35))), some (.inl (s 43)), some (.inl ((k : Nat) : Int)), sv o3] [] (mj_Sh, M1, N) (fun r Z => r = none ∧ ∃ M1, Z = (mj_Sh, M1, N) ∧ (∀ c, c < 35 ∨ 35 < c ∧ c < 44 ∨ 49 < c → M1 c = M c) ∧ cPl 35 M1 s (itN (gvC s) (fun _ => inferInstance) (gvS s) 10000 W)) := by
    refine up_to 10000 ?_ ?_
    · show ∀ o3 (W1 : WS) (M1 : Nat → Nat → Int), (∀ c, c < 35 ∨ 35 < c ∧ c < 44 ∨ 49 < c → M1 c = M c) → cPl 35 M1 s W1 → wI W1 → W1.2.2.2.2 + W1.2.2.1 ≤ 600 → itN (gvC s) (fun _ => inferInstance) (gvS s) (10000 - 10000) W1 = itN (gvC s) (fun _ => inferInstance) (gvS s) 10000 W → mj_T K d 24 2 [some (.inr (.inr (.inl 35))), some (.inl (s 43)), some (.inl ((10000 : Nat) : Int)), sv o3] [] (mj_Sh, M1, N) (fun r Z => r = none ∧ ∃ M1, Z = (mj_Sh, M1, N) ∧ (∀ c, c < 35 ∨ 35 < c ∧ c < 44 ∨ 49 < c → M1 c = M c) ∧ cPl 35 M1 s (itN (gvC s) (fun _ => inferInstance) (gvS s) 10000 W))
      intro o3 W1 M1 hf hC hI hV hit
      refine tw_iload k24_2 rfl ?_
      refine tw_const k24_3 ?_
      refine tw_cgeT k24_6 (by omega) ?_
      exact tw_rv k24_82 (⟨rfl, M1, rfl, hf, by rw [← hit, Nat.sub_self, itN]; exact hC⟩)
    · intro k hmk ih
      have ih : ∀ o3 (W1 : WS) (M1 : Nat → Nat → Int), (∀ c, c < 35 ∨ 35 < c ∧ c < 44 ∨ 49 < c → M1 c = M c) → cPl 35 M1 s W1 → wI W1 → W1.2.2.2.2 + W1.2.2.1 ≤ 600 → itN (gvC s) (fun _ => inferInstance) (gvS s) (10000 - (k + 1)) W1 = itN (gvC s) (fun _ => inferInstance) (gvS s) 10000 W → mj_T K d 24 2 [some (.inr (.inr (.inl 35))), some (.inl (s 43)), some (.inl (((k + 1) : Nat) : Int)), sv o3] [] (mj_Sh, M1, N) (fun r Z => r = none ∧ ∃ M1, Z = (mj_Sh, M1, N) ∧ (∀ c, c < 35 ∨ 35 < c ∧ c < 44 ∨ 49 < c → M1 c = M c) ∧ cPl 35 M1 s (itN (gvC s) (fun _ => inferInstance) (gvS s) 10000 W)) := ih
      show ∀ o3 (W1 : WS) (M1 : Nat → Nat → Int), (∀ c, c < 35 ∨ 35 < c ∧ c < 44 ∨ 49 < c → M1 c = M c) → cPl 35 M1 s W1 → wI W1 → W1.2.2.2.2 + W1.2.2.1 ≤ 600 → itN (gvC s) (fun _ => inferInstance) (gvS s) (10000 - k) W1 = itN (gvC s) (fun _ => inferInstance) (gvS s) 10000 W → mj_T K d 24 2 [some (.inr (.inr (.inl 35))), some (.inl (s 43)), some (.inl ((k : Nat) : Int)), sv o3] [] (mj_Sh, M1, N) (fun r Z => r = none ∧ ∃ M1, Z = (mj_Sh, M1, N) ∧ (∀ c, c < 35 ∨ 35 < c ∧ c < 44 ∨ 49 < c → M1 c = M c) ∧ cPl 35 M1 s (itN (gvC s) (fun _ => inferInstance) (gvS s) 10000 W))
      intro o3 W1 M1 hf hC hI hV hit
      obtain ⟨p11, p12, p13, p14, p15, hpp, hpg, hpd⟩ := hC
      by_cases hc : gvC s W1
      · have hI2 := gv_I hs hI hV hc
        have hyy := gv_y hs hc
        have hI1 := hI.2
        have hby := wI_p hI _ hyy
        have hgo := (wGr_ok s W1).2.1 _ hc.2
        have hit2 := hit
        rw [show 10000 - k = (10000 - (k + 1)) + 1 by omega, itN, if_pos hc] at hit2
        have hrv : (if gvG s (wGr s W1) < (wGr s W1).1 then (((wGr s W1).2.1 (gvG s (wGr s W1)) : Nat) : Int) else -1) = ((((wGr s W1).2.1 (gvG s (wGr s W1))) : Nat) : Int) := if_pos hc.2
        refine tw_iload k24_2 rfl ?_
        refine tw_const k24_3 ?_
        refine tw_cgeF k24_6 (by omega) ?_
        refine tw_aload k24_9 rfl ?_
        refine tw_geti k24_10 f35_12 rfl (v := W1.2.2.1) p12 ?_
        refine tw_zleF k24_13 (by have := hc.1; omega) ?_
        refine tw_aload k24_16 rfl ?_
        refine tw_iload k24_17 rfl ?_
        refine tw_callp (v := .inl (if gvG s (wGr s W1) < (wGr s W1).1 then (((wGr s W1).2.1 (gvG s (wGr s W1)) : Nat) : Int) else -1)) (by omega) (S' := []) (as := [.inr (.inr (.inl 35)), .inl (s 43)]) k24_18 (x_25_35 (M := M1) (N := N) s hs (wGr s W1) (wGr_ok s W1) hpg W1 (fun y hy => (hpp y hy).1) (wI_p hI)) rfl rfl rfl rfl rfl ?_
        refine tw_eqS (S' := [.inl ((((wGr s W1).2.1 (gvG s (wGr s W1))) : Nat) : Int)]) (e_c (congrArg Sum.inl hrv) rfl) ?_
        refine tw_istore k24_21 rfl (L' := [some (.inr (.inr (.inl 35))), some (.inl (s 43)), some (.inl ((k : Nat) : Int)), some (.inl ((((wGr s W1).2.1 (gvG s (wGr s W1))) : Nat) : Int))]) rfl ?_
        refine tw_iload k24_22 rfl ?_
        refine tw_zgeT k24_23 (by omega) ?_
        refine tw_aload k24_27 rfl ?_
        refine tw_getr k24_28 f35_2 ?_
        refine tw_iload k24_31 rfl ?_
        refine tw_dup2 k24_32 ?_
        refine tw_iald (j := ((wGr s W1).2.1 (gvG s (wGr s W1)))) (v := (W1.1 ((wGr s W1).2.1 (gvG s (wGr s W1))))) k24_33 al48 rfl (by omega) (hpp ((wGr s W1).2.1 (gvG s (wGr s W1))) (by omega)).1 ?_
        refine tw_const k24_34 ?_
        refine tw_iadd k24_35 (v := ((W1.1 ((wGr s W1).2.1 (gvG s (wGr s W1)))) + (1 : Int))) rfl (by omega) ?_
        refine tw_iast (M := M1) (N := N) (l := []) (l' := [(48, (pU (M1 48) ((wGr s W1).2.1 (gvG s (wGr s W1))) ((W1.1 ((wGr s W1).2.1 (gvG s (wGr s W1)))) + (1 : Int))))]) (j := ((wGr s W1).2.1 (gvG s (wGr s W1)))) k24_36 al48 rfl (by omega) rfl ?_
        refine tw_aload k24_37 rfl ?_
        refine tw_dupr k24_38 ?_
        refine tw_geti k24_39 f35_12 rfl (v := W1.2.2.1) (show M1 35 12 = _ from p12) ?_
        refine tw_const k24_42 ?_
        refine tw_isub k24_43 (v := (W1.2.2.1 - (1 : Int))) rfl (by omega) ?_
        refine tw_puti (M := M1) (N := N) (l := [(48, (pU (M1 48) ((wGr s W1).2.1 (gvG s (wGr s W1))) ((W1.1 ((wGr s W1).2.1 (gvG s (wGr s W1)))) + (1 : Int))))]) (l' := [(48, (pU (M1 48) ((wGr s W1).2.1 (gvG s (wGr s W1))) ((W1.1 ((wGr s W1).2.1 (gvG s (wGr s W1)))) + (1 : Int)))), (35, (pU (M1 35) 12 (W1.2.2.1 - (1 : Int))))]) k24_44 f35_12 rfl ?_
        refine tw_aload k24_47 rfl ?_
        refine tw_dupr k24_48 ?_
        refine tw_geti k24_49 f35_14 rfl (v := W1.2.2.2.2) (show (pU (M1 35) 12 (W1.2.2.1 - (1 : Int))) 14 = _ from (by rw [pU_ne (by omega)]; exact p14)) ?_
        refine tw_const k24_52 ?_
        refine tw_iadd k24_53 (v := (W1.2.2.2.2 + (1 : Int))) rfl (by omega) ?_
        refine tw_puti (M := M1) (N := N) (l := [(48, (pU (M1 48) ((wGr s W1).2.1 (gvG s (wGr s W1))) ((W1.1 ((wGr s W1).2.1 (gvG s (wGr s W1)))) + (1 : Int)))), (35, (pU (M1 35) 12 (W1.2.2.1 - (1 : Int))))]) (l' := [(48, (pU (M1 48) ((wGr s W1).2.1 (gvG s (wGr s W1))) ((W1.1 ((wGr s W1).2.1 (gvG s (wGr s W1)))) + (1 : Int)))), (35, (pU (pU (M1 35) 12 (W1.2.2.1 - (1 : Int))) 14 (W1.2.2.2.2 + (1 : Int))))]) k24_54 f35_14 rfl ?_
        refine tw_aload k24_57 rfl ?_
        refine tw_getr k24_58 f35_1 ?_
        refine tw_aload k24_61 rfl ?_
        refine tw_getr k24_62 f35_0 ?_
        refine tw_aload k24_65 rfl ?_
        refine tw_getr k24_66 f35_2 ?_
        refine tw_aload k24_69 rfl ?_
        refine tw_geti k24_70 f35_11 rfl (v := ((Y : Nat) : Int)) (show (pU (pU (M1 35) 12 (W1.2.2.1 - (1 : Int))) 14 (W1.2.2.2.2 + (1 : Int))) 11 = _ from (by rw [pU_ne (by omega)]; rw [pU_ne (by omega)]; exact p11.trans hY0)) ?_
        refine tw_call (by omega) (S' := []) (as := [.inr (.inr (.inl 44)), .inr (.inr (.inl 36)), .inr (.inr (.inl 48)), .inl ((Y : Nat) : Int)]) k24_73 (x_7_35 (M := (st M1 [(48, (pU (M1 48) ((wGr s W1).2.1 (gvG s (wGr s W1))) ((W1.1 ((wGr s W1).2.1 (gvG s (wGr s W1)))) + (1 : Int)))), (35, (pU (pU (M1 35) 12 (W1.2.2.1 - (1 : Int))) 14 (W1.2.2.2.2 + (1 : Int))))])) (N := N) (by omega) s hs (dM_fr hs hpd (fun c _ _ => by rw [st_c, if_neg (by omega), st_c, if_neg (by omega), st_nil])) Y hYe (gvS s W1).1 (fun y hy => by show pU (M1 48) _ _ y = pU W1.1 _ _ y; unfold pU; rw [(hpp y (by omega)).1]) (wI_p hI2.1)) rfl rfl rfl rfl rfl (fun r73 Z73 hq73 => ?_)
        obtain ⟨rfl, f0, f1, f2, f3, rfl, hG2⟩ := hq73
        refine tw_as (S := []) (M := (st M1 [(48, (pU (M1 48) ((wGr s W1).2.1 (gvG s (wGr s W1))) ((W1.1 ((wGr s W1).2.1 (gvG s (wGr s W1)))) + (1 : Int)))), (35, (pU (pU (M1 35) 12 (W1.2.2.1 - (1 : Int))) 14 (W1.2.2.2.2 + (1 : Int)))), (47, f3), (46, f2), (45, f1), (44, f0)])) (N := N) (by rw [st_mg]; rfl) rfl ?_
        refine tw_iinc k24_76 rfl (v := ((k + 1 : Nat) : Int)) rfl (by omega) rfl (L' := [some (.inr (.inr (.inl 35))), some (.inl (s 43)), some (.inl ((k + 1 : Nat) : Int)), some (.inl ((((wGr s W1).2.1 (gvG s (wGr s W1))) : Nat) : Int))]) rfl ?_
        refine tw_goto k24_79 ?_
        have hG2' : gRel (f0 3) f1 f2 f3 (wGr s (gvS s W1)) := by unfold wGr; rw [← hYe]; exact hG2
        refine ih (some (.inl ((((wGr s W1).2.1 (gvG s (wGr s W1))) : Nat) : Int))) (gvS s W1) _ (fun c hc => ?_) ?_ hI2.1 hI2.2.1 (by rw [← hit2])
        · rw [st_c, if_neg (by omega), st_c, if_neg (by omega), st_c, if_neg (by omega), st_c, if_neg (by omega), st_c, if_neg (by omega), st_c, if_neg (by omega), st_nil]; exact hf c hc
        · refine ⟨?_, ?_, ?_, ?_, ?_, fun y hy => ⟨?_, ?_⟩, hG2', dM_fr hs hpd (fun c _ _ => by rw [st_c, if_neg (by omega), st_c, if_neg (by omega), st_c, if_neg (by omega), st_c, if_neg (by omega), st_c, if_neg (by omega), st_c, if_neg (by omega), st_nil])⟩
          · show (pU (pU (M1 35) 12 (W1.2.2.1 - (1 : Int))) 14 (W1.2.2.2.2 + (1 : Int))) 11 = _
            rw [pU_ne (by omega)]; rw [pU_ne (by omega)]; exact p11
          · show (pU (pU (M1 35) 12 (W1.2.2.1 - (1 : Int))) 14 (W1.2.2.2.2 + (1 : Int))) 12 = _
            rw [pU_ne (by omega)]; rw [pU_eq]; rfl
          · show (pU (pU (M1 35) 12 (W1.2.2.1 - (1 : Int))) 14 (W1.2.2.2.2 + (1 : Int))) 13 = _
            rw [pU_ne (by omega)]; rw [pU_ne (by omega)]; exact p13
          · show (pU (pU (M1 35) 12 (W1.2.2.1 - (1 : Int))) 14 (W1.2.2.2.2 + (1 : Int))) 14 = _
            rw [pU_eq]; rfl
          · show (pU (pU (M1 35) 12 (W1.2.2.1 - (1 : Int))) 14 (W1.2.2.2.2 + (1 : Int))) 15 = _
            rw [pU_ne (by omega)]; rw [pU_ne (by omega)]; exact p15
          · show pU (M1 48) _ _ y = pU W1.1 _ _ y
            unfold pU; rw [(hpp y hy).1]
          · exact (hpp y hy).2
      · by_cases hr0 : 0 < W1.2.2.1
        · have hrv : (if gvG s (wGr s W1) < (wGr s W1).1 then (((wGr s W1).2.1 (gvG s (wGr s W1)) : Nat) : Int) else -1) = (-1 : Int) := if_neg (fun q => hc ⟨hr0, q⟩)
          refine tw_iload k24_2 rfl ?_
          refine tw_const k24_3 ?_
          refine tw_cgeF k24_6 (by omega) ?_
          refine tw_aload k24_9 rfl ?_
          refine tw_geti k24_10 f35_12 rfl (v := W1.2.2.1) p12 ?_
          refine tw_zleF k24_13 (by omega) ?_
          refine tw_aload k24_16 rfl ?_
          refine tw_iload k24_17 rfl ?_
          refine tw_callp (v := .inl (if gvG s (wGr s W1) < (wGr s W1).1 then (((wGr s W1).2.1 (gvG s (wGr s W1)) : Nat) : Int) else -1)) (by omega) (S' := []) (as := [.inr (.inr (.inl 35)), .inl (s 43)]) k24_18 (x_25_35 (M := M1) (N := N) s hs (wGr s W1) (wGr_ok s W1) hpg W1 (fun y hy => (hpp y hy).1) (wI_p hI)) rfl rfl rfl rfl rfl ?_
          refine tw_eqS (S' := [.inl (-1 : Int)]) (e_c (congrArg Sum.inl hrv) rfl) ?_
          refine tw_istore k24_21 rfl (L' := [some (.inr (.inr (.inl 35))), some (.inl (s 43)), some (.inl ((k : Nat) : Int)), some (.inl (-1 : Int))]) rfl ?_
          refine tw_iload k24_22 rfl ?_
          refine tw_zgeF k24_23 (by decide) ?_
          exact tw_rv k24_26 (⟨rfl, M1, rfl, hf, by rw [← hit, show 10000 - k = (10000 - (k + 1)) + 1 by omega, itN, if_neg hc]; exact ⟨p11, p12, p13, p14, p15, hpp, hpg, hpd⟩⟩)
        · refine tw_iload k24_2 rfl ?_
          refine tw_const k24_3 ?_
          refine tw_cgeF k24_6 (by omega) ?_
          refine tw_aload k24_9 rfl ?_
          refine tw_geti k24_10 f35_12 rfl (v := W1.2.2.1) p12 ?_
          refine tw_zleT k24_13 (by omega) ?_
          exact tw_rv k24_82 (⟨rfl, M1, rfl, hf, by rw [← hit, show 10000 - k = (10000 - (k + 1)) + 1 by omega, itN, if_neg hc]; exact ⟨p11, p12, p13, p14, p15, hpp, hpg, hpd⟩⟩)
  refine tw_const k24_0 ?_
  refine tw_istore k24_1 rfl (L' := [some (.inr (.inr (.inl 35))), some (.inl (s 43)), some (.inl (0 : Int)), none]) rfl ?_
  exact key 0 (by omega) none _ _ (fun c _ => rfl) hC hI hV rfl
theorem x_26_35 {K : mj_C} {d : Nat} {M : Nat → Nat → Int} {N : Nat → Nat → Int64} (hD : 3 ≤ d) (s : Nat → Int) (hs : pRg s) (W : WS) (hC : cPl 35 M s W) (hI : wI W) : mj_X K d 26 [.inr (.inr (.inl 35)), .inl (s 45)] (mj_Sh, M, N) (fun r Z => r = none ∧ ∃ M1, Z = (mj_Sh, M1, N) ∧ (∀ c, c < 35 ∨ 35 < c ∧ c < 44 ∨ 49 < c → M1 c = M c) ∧ cPl 35 M1 s (itN (bwC s) (fun _ => inferInstance) (bwS s) 10000 W)) := by
  show mj_T K d 26 0 [some (.inr (.inr (.inl 35))), some (.inl (s 45)), none, none, none] [] (mj_Sh, M, N) _
  have h0 := hs.1 0 (by omega)
  have h5 := hs.2.1
  obtain ⟨Y, hYe⟩ : ∃ Y : Nat, Y = (s 0).toNat := ⟨_, rfl⟩
  have hY0 : s 0 = (Y : Int) := by omega
  have h5' := h5
  have key : ∀ k : Nat, k ≤ 10000 → ∀ o3 o4 (W1 : WS) (M1 : Nat → Nat → Int), (∀ c, c < 35 ∨ 35 < c ∧ c < 44 ∨ 49 < c → M1 c = M c) → cPl 35 M1 s W1 → wI W1 → itN (bwC s) (fun _ => inferInstance) (bwS s) (10000 - k) W1 = itN (bwC s) (fun _ => inferInstance) (bwS s) 10000 W → mj_T K d 26 2 [some (.inr (.inr (.inl 35))), some (.inl (s 45)), some (.inl ((k : Nat) : Int)), sv o3, sv o4] [] (mj_Sh, M1, N) (fun r Z => r = none ∧ ∃ M1, Z = (mj_Sh, M1, N) ∧ (∀ c, c < 35 ∨ 35 < c ∧ c < 44 ∨ 49 < c → M1 c = M c) ∧ cPl 35 M1 s (itN (bwC s) (fun _ => inferInstance) (bwS s) 10000 W)) := by
    refine up_to 10000 ?_ ?_
    · show ∀ o3 o4 (W1 : WS) (M1 : Nat → Nat → Int), (∀ c, c < 35 ∨ 35 < c ∧ c < 44 ∨ 49 < c → M1 c = M c) → cPl 35 M1 s W1 → wI W1 → itN (bwC s) (fun _ => inferInstance) (bwS s) (10000 - 10000) W1 = itN (bwC s) (fun _ => inferInstance) (bwS s) 10000 W → mj_T K d 26 2 [some (.inr (.inr (.inl 35))), some (.inl (s 45)), some (.inl ((10000 : Nat) : Int)), sv o3, sv o4] [] (mj_Sh, M1, N) (fun r Z => r = none ∧ ∃ M1, Z = (mj_Sh, M1, N) ∧ (∀ c, c < 35 ∨ 35 < c ∧ c < 44 ∨ 49 < c → M1 c = M c) ∧ cPl 35 M1 s (itN (bwC s) (fun _ => inferInstance) (bwS s) 10000 W))
      intro o3 o4 W1 M1 hf hC hI hit
      refine tw_iload k26_2 rfl ?_
      refine tw_const k26_3 ?_
      refine tw_cgeT k26_6 (by omega) ?_
      exact tw_rv k26_108 (⟨rfl, M1, rfl, hf, by rw [← hit, Nat.sub_self, itN]; exact hC⟩)
    · intro k hmk ih
      have ih : ∀ o3 o4 (W1 : WS) (M1 : Nat → Nat → Int), (∀ c, c < 35 ∨ 35 < c ∧ c < 44 ∨ 49 < c → M1 c = M c) → cPl 35 M1 s W1 → wI W1 → itN (bwC s) (fun _ => inferInstance) (bwS s) (10000 - (k + 1)) W1 = itN (bwC s) (fun _ => inferInstance) (bwS s) 10000 W → mj_T K d 26 2 [some (.inr (.inr (.inl 35))), some (.inl (s 45)), some (.inl (((k + 1) : Nat) : Int)), sv o3, sv o4] [] (mj_Sh, M1, N) (fun r Z => r = none ∧ ∃ M1, Z = (mj_Sh, M1, N) ∧ (∀ c, c < 35 ∨ 35 < c ∧ c < 44 ∨ 49 < c → M1 c = M c) ∧ cPl 35 M1 s (itN (bwC s) (fun _ => inferInstance) (bwS s) 10000 W)) := ih
      show ∀ o3 o4 (W1 : WS) (M1 : Nat → Nat → Int), (∀ c, c < 35 ∨ 35 < c ∧ c < 44 ∨ 49 < c → M1 c = M c) → cPl 35 M1 s W1 → wI W1 → itN (bwC s) (fun _ => inferInstance) (bwS s) (10000 - k) W1 = itN (bwC s) (fun _ => inferInstance) (bwS s) 10000 W → mj_T K d 26 2 [some (.inr (.inr (.inl 35))), some (.inl (s 45)), some (.inl ((k : Nat) : Int)), sv o3, sv o4] [] (mj_Sh, M1, N) (fun r Z => r = none ∧ ∃ M1, Z = (mj_Sh, M1, N) ∧ (∀ c, c < 35 ∨ 35 < c ∧ c < 44 ∨ 49 < c → M1 c = M c) ∧ cPl 35 M1 s (itN (bwC s) (fun _ => inferInstance) (bwS s) 10000 W))
      intro o3 o4 W1 M1 hf hC hI hit
      obtain ⟨p11, p12, p13, p14, p15, hpp, hpg, hpd⟩ := hC
      by_cases hc : bwC s W1
      · have hI2 := bw_I hs hI hc
        obtain ⟨hy1, hy2, hy3, hy4, hy5⟩ := bw_y hs hI hc
        have hI1 := hI.2
        have hby := wI_p hI _ hy1
        have hby2 := wI_p hI _ hy2
        have hqy := hI.1 _ hy1
        have hgn := (wGr_ok s W1).1
        have hgo := (wGr_ok s W1).2.1 _ hc
        have hgo3 := (wGr_ok s W1).2.1 (bwG s W1 (wGr s W1)) (by have hc2 : bwG s W1 (wGr s W1) + 1 < (wGr s W1).1 := hc; omega)
        have hc2 : bwG s W1 (wGr s W1) + 1 < (wGr s W1).1 := hc
        have hpq := pS_rg (f := W1.2.1) (a := 0) (B := 100) Y (fun i _ hi => (hI.1 i (by omega)).2)
        have hit2 := hit
        rw [show 10000 - k = (10000 - (k + 1)) + 1 by omega, itN, if_pos hc] at hit2
        have hrv : (if bwG s W1 (wGr s W1) + 1 < (wGr s W1).1 then ((bwG s W1 (wGr s W1) : Nat) : Int) else -1) = (((bwG s W1 (wGr s W1)) : Nat) : Int) := if_pos hc
        refine tw_iload k26_2 rfl ?_
        refine tw_const k26_3 ?_
        refine tw_cgeF k26_6 (by omega) ?_
        refine tw_aload k26_9 rfl ?_
        refine tw_iload k26_10 rfl ?_
        refine tw_callp (v := .inl (if bwG s W1 (wGr s W1) + 1 < (wGr s W1).1 then ((bwG s W1 (wGr s W1) : Nat) : Int) else -1)) (by omega) (S' := []) (as := [.inr (.inr (.inl 35)), .inl (s 45)]) k26_11 (x_27_35 (M := M1) (N := N) s hs (wGr s W1) (wGr_ok s W1) hpg W1 (fun y hy => (hpp y hy).1) (wI_p hI) (fun y hy => ⟨(hpp y hy).2, (hI.1 y (by omega)).2.1, by have := (hI.1 y (by omega)).2.2; omega⟩)) rfl rfl rfl rfl rfl ?_
        refine tw_eqS (S' := [.inl (((bwG s W1 (wGr s W1)) : Nat) : Int)]) (e_c (congrArg Sum.inl hrv) rfl) ?_
        refine tw_istore k26_14 rfl (L' := [some (.inr (.inr (.inl 35))), some (.inl (s 45)), some (.inl ((k : Nat) : Int)), some (.inl (((bwG s W1 (wGr s W1)) : Nat) : Int)), sv o4]) rfl ?_
        refine tw_iload k26_15 rfl ?_
        refine tw_zgeT k26_16 (by omega) ?_
        refine tw_aload k26_20 rfl ?_
        refine tw_getr k26_21 f35_1 ?_
        refine tw_getr k26_24 f44_1 ?_
        refine tw_iload k26_27 rfl ?_
        refine tw_iald (j := (bwG s W1 (wGr s W1))) (v := ((((wGr s W1).2.2.1 (bwG s W1 (wGr s W1))) : Nat) : Int)) k26_28 al46 rfl (by omega) (hpg.2 (bwG s W1 (wGr s W1)) (by omega)).2.1 ?_
        refine tw_istore k26_29 rfl (L' := [some (.inr (.inr (.inl 35))), some (.inl (s 45)), some (.inl ((k : Nat) : Int)), some (.inl (((bwG s W1 (wGr s W1)) : Nat) : Int)), some (.inl ((((wGr s W1).2.2.1 (bwG s W1 (wGr s W1))) : Nat) : Int))]) rfl ?_
        refine tw_aload k26_31 rfl ?_
        refine tw_getr k26_32 f35_2 ?_
        refine tw_aload k26_35 rfl ?_
        refine tw_getr k26_36 f35_1 ?_
        refine tw_getr k26_39 f44_0 ?_
        refine tw_iload k26_42 rfl ?_
        refine tw_const k26_43 ?_
        refine tw_iadd k26_44 (v := (((bwG s W1 (wGr s W1)) + 1 : Nat) : Int)) rfl (by omega) ?_
        refine tw_iald (j := (bwG s W1 (wGr s W1)) + 1) (v := ((((wGr s W1).2.1 ((bwG s W1 (wGr s W1)) + 1)) : Nat) : Int)) k26_45 al45 rfl (by omega) (hpg.2 ((bwG s W1 (wGr s W1)) + 1) (by omega)).1 ?_
        refine tw_dup2 k26_46 ?_
        refine tw_iald (j := ((wGr s W1).2.1 ((bwG s W1 (wGr s W1)) + 1))) (v := (W1.1 ((wGr s W1).2.1 ((bwG s W1 (wGr s W1)) + 1)))) k26_47 al48 rfl (by omega) (hpp ((wGr s W1).2.1 ((bwG s W1 (wGr s W1)) + 1)) (by omega)).1 ?_
        refine tw_const k26_48 ?_
        refine tw_isub k26_49 (v := ((W1.1 ((wGr s W1).2.1 ((bwG s W1 (wGr s W1)) + 1))) - (1 : Int))) rfl (by omega) ?_
        refine tw_iast (M := M1) (N := N) (l := []) (l' := [(48, (pU (M1 48) ((wGr s W1).2.1 ((bwG s W1 (wGr s W1)) + 1)) ((W1.1 ((wGr s W1).2.1 ((bwG s W1 (wGr s W1)) + 1))) - (1 : Int))))]) (j := ((wGr s W1).2.1 ((bwG s W1 (wGr s W1)) + 1))) k26_50 al48 rfl (by omega) rfl ?_
        refine tw_aload k26_51 rfl ?_
        refine tw_getr k26_52 f35_2 ?_
        refine tw_iload k26_55 rfl ?_
        refine tw_dup2 k26_57 ?_
        refine tw_iald (j := ((wGr s W1).2.2.1 (bwG s W1 (wGr s W1)))) (v := (W1.1 ((wGr s W1).2.2.1 (bwG s W1 (wGr s W1))))) k26_58 al48 rfl (by omega) (show (pU (M1 48) ((wGr s W1).2.1 ((bwG s W1 (wGr s W1)) + 1)) ((W1.1 ((wGr s W1).2.1 ((bwG s W1 (wGr s W1)) + 1))) - (1 : Int))) ((wGr s W1).2.2.1 (bwG s W1 (wGr s W1))) = _ from (by rw [pU_ne (by omega)]; exact (hpp ((wGr s W1).2.2.1 (bwG s W1 (wGr s W1))) (by omega)).1)) ?_
        refine tw_const k26_59 ?_
        refine tw_iadd k26_60 (v := ((W1.1 ((wGr s W1).2.2.1 (bwG s W1 (wGr s W1)))) + (1 : Int))) rfl (by omega) ?_
        refine tw_iast (M := M1) (N := N) (l := [(48, (pU (M1 48) ((wGr s W1).2.1 ((bwG s W1 (wGr s W1)) + 1)) ((W1.1 ((wGr s W1).2.1 ((bwG s W1 (wGr s W1)) + 1))) - (1 : Int))))]) (l' := [(48, (pU (pU (M1 48) ((wGr s W1).2.1 ((bwG s W1 (wGr s W1)) + 1)) ((W1.1 ((wGr s W1).2.1 ((bwG s W1 (wGr s W1)) + 1))) - (1 : Int))) ((wGr s W1).2.2.1 (bwG s W1 (wGr s W1))) ((W1.1 ((wGr s W1).2.2.1 (bwG s W1 (wGr s W1)))) + (1 : Int))))]) (j := ((wGr s W1).2.2.1 (bwG s W1 (wGr s W1)))) k26_61 al48 rfl (by omega) rfl ?_
        refine tw_aload k26_62 rfl ?_
        refine tw_getr k26_63 f35_3 ?_
        refine tw_iload k26_66 rfl ?_
        refine tw_dup2 k26_68 ?_
        refine tw_iald (j := ((wGr s W1).2.2.1 (bwG s W1 (wGr s W1)))) (v := (W1.2.1 ((wGr s W1).2.2.1 (bwG s W1 (wGr s W1))))) k26_69 al49 rfl (by omega) (show M1 49 ((wGr s W1).2.2.1 (bwG s W1 (wGr s W1))) = _ from (hpp ((wGr s W1).2.2.1 (bwG s W1 (wGr s W1))) (by omega)).2) ?_
        refine tw_const k26_70 ?_
        refine tw_iadd k26_71 (v := ((W1.2.1 ((wGr s W1).2.2.1 (bwG s W1 (wGr s W1)))) + (1 : Int))) rfl (by omega) ?_
        refine tw_iast (M := M1) (N := N) (l := [(48, (pU (pU (M1 48) ((wGr s W1).2.1 ((bwG s W1 (wGr s W1)) + 1)) ((W1.1 ((wGr s W1).2.1 ((bwG s W1 (wGr s W1)) + 1))) - (1 : Int))) ((wGr s W1).2.2.1 (bwG s W1 (wGr s W1))) ((W1.1 ((wGr s W1).2.2.1 (bwG s W1 (wGr s W1)))) + (1 : Int))))]) (l' := [(48, (pU (pU (M1 48) ((wGr s W1).2.1 ((bwG s W1 (wGr s W1)) + 1)) ((W1.1 ((wGr s W1).2.1 ((bwG s W1 (wGr s W1)) + 1))) - (1 : Int))) ((wGr s W1).2.2.1 (bwG s W1 (wGr s W1))) ((W1.1 ((wGr s W1).2.2.1 (bwG s W1 (wGr s W1)))) + (1 : Int)))), (49, (pU (M1 49) ((wGr s W1).2.2.1 (bwG s W1 (wGr s W1))) ((W1.2.1 ((wGr s W1).2.2.1 (bwG s W1 (wGr s W1)))) + (1 : Int))))]) (j := ((wGr s W1).2.2.1 (bwG s W1 (wGr s W1)))) k26_72 al49 rfl (by omega) rfl ?_
        refine tw_aload k26_73 rfl ?_
        refine tw_dupr k26_74 ?_
        refine tw_geti k26_75 f35_15 rfl (v := (pS W1.2.1 0 Y)) (show M1 35 15 = _ from (by rw [hYe]; exact p15)) ?_
        refine tw_const k26_78 ?_
        refine tw_iadd k26_79 (v := ((pS W1.2.1 0 Y) + (1 : Int))) rfl (by omega) ?_
        refine tw_puti (M := M1) (N := N) (l := [(48, (pU (pU (M1 48) ((wGr s W1).2.1 ((bwG s W1 (wGr s W1)) + 1)) ((W1.1 ((wGr s W1).2.1 ((bwG s W1 (wGr s W1)) + 1))) - (1 : Int))) ((wGr s W1).2.2.1 (bwG s W1 (wGr s W1))) ((W1.1 ((wGr s W1).2.2.1 (bwG s W1 (wGr s W1)))) + (1 : Int)))), (49, (pU (M1 49) ((wGr s W1).2.2.1 (bwG s W1 (wGr s W1))) ((W1.2.1 ((wGr s W1).2.2.1 (bwG s W1 (wGr s W1)))) + (1 : Int))))]) (l' := [(48, (pU (pU (M1 48) ((wGr s W1).2.1 ((bwG s W1 (wGr s W1)) + 1)) ((W1.1 ((wGr s W1).2.1 ((bwG s W1 (wGr s W1)) + 1))) - (1 : Int))) ((wGr s W1).2.2.1 (bwG s W1 (wGr s W1))) ((W1.1 ((wGr s W1).2.2.1 (bwG s W1 (wGr s W1)))) + (1 : Int)))), (49, (pU (M1 49) ((wGr s W1).2.2.1 (bwG s W1 (wGr s W1))) ((W1.2.1 ((wGr s W1).2.2.1 (bwG s W1 (wGr s W1)))) + (1 : Int)))), (35, (pU (M1 35) 15 ((pS W1.2.1 0 Y) + (1 : Int))))]) k26_80 f35_15 rfl ?_
        refine tw_aload k26_83 rfl ?_
        refine tw_getr k26_84 f35_1 ?_
        refine tw_aload k26_87 rfl ?_
        refine tw_getr k26_88 f35_0 ?_
        refine tw_aload k26_91 rfl ?_
        refine tw_getr k26_92 f35_2 ?_
        refine tw_aload k26_95 rfl ?_
        refine tw_geti k26_96 f35_11 rfl (v := ((Y : Nat) : Int)) (show (pU (M1 35) 15 ((pS W1.2.1 0 Y) + (1 : Int))) 11 = _ from (by rw [pU_ne (by omega)]; exact p11.trans hY0)) ?_
        refine tw_call (by omega) (S' := []) (as := [.inr (.inr (.inl 44)), .inr (.inr (.inl 36)), .inr (.inr (.inl 48)), .inl ((Y : Nat) : Int)]) k26_99 (x_7_35 (M := (st M1 [(48, (pU (pU (M1 48) ((wGr s W1).2.1 ((bwG s W1 (wGr s W1)) + 1)) ((W1.1 ((wGr s W1).2.1 ((bwG s W1 (wGr s W1)) + 1))) - (1 : Int))) ((wGr s W1).2.2.1 (bwG s W1 (wGr s W1))) ((W1.1 ((wGr s W1).2.2.1 (bwG s W1 (wGr s W1)))) + (1 : Int)))), (49, (pU (M1 49) ((wGr s W1).2.2.1 (bwG s W1 (wGr s W1))) ((W1.2.1 ((wGr s W1).2.2.1 (bwG s W1 (wGr s W1)))) + (1 : Int)))), (35, (pU (M1 35) 15 ((pS W1.2.1 0 Y) + (1 : Int))))])) (N := N) (by omega) s hs (dM_fr hs hpd (fun c _ _ => by rw [st_c, if_neg (by omega), st_c, if_neg (by omega), st_c, if_neg (by omega), st_nil])) Y hYe (bwS s W1).1 (fun y hy => by show pU (pU (M1 48) _ _) _ _ y = pU (pU W1.1 _ _) _ _ y; unfold pU; rw [(hpp y (by omega)).1]) (wI_p hI2.1)) rfl rfl rfl rfl rfl (fun r99 Z99 hq99 => ?_)
        obtain ⟨rfl, f0, f1, f2, f3, rfl, hG2⟩ := hq99
        refine tw_as (S := []) (M := (st M1 [(48, (pU (pU (M1 48) ((wGr s W1).2.1 ((bwG s W1 (wGr s W1)) + 1)) ((W1.1 ((wGr s W1).2.1 ((bwG s W1 (wGr s W1)) + 1))) - (1 : Int))) ((wGr s W1).2.2.1 (bwG s W1 (wGr s W1))) ((W1.1 ((wGr s W1).2.2.1 (bwG s W1 (wGr s W1)))) + (1 : Int)))), (49, (pU (M1 49) ((wGr s W1).2.2.1 (bwG s W1 (wGr s W1))) ((W1.2.1 ((wGr s W1).2.2.1 (bwG s W1 (wGr s W1)))) + (1 : Int)))), (35, (pU (M1 35) 15 ((pS W1.2.1 0 Y) + (1 : Int)))), (47, f3), (46, f2), (45, f1), (44, f0)])) (N := N) (by rw [st_mg]; rfl) rfl ?_
        refine tw_iinc k26_102 rfl (v := ((k + 1 : Nat) : Int)) rfl (by omega) rfl (L' := [some (.inr (.inr (.inl 35))), some (.inl (s 45)), some (.inl ((k + 1 : Nat) : Int)), some (.inl (((bwG s W1 (wGr s W1)) : Nat) : Int)), some (.inl ((((wGr s W1).2.2.1 (bwG s W1 (wGr s W1))) : Nat) : Int))]) rfl ?_
        refine tw_goto k26_105 ?_
        have hG2' : gRel (f0 3) f1 f2 f3 (wGr s (bwS s W1)) := by unfold wGr; rw [← hYe]; exact hG2
        refine ih (some (.inl (((bwG s W1 (wGr s W1)) : Nat) : Int))) (some (.inl ((((wGr s W1).2.2.1 (bwG s W1 (wGr s W1))) : Nat) : Int))) (bwS s W1) _ (fun c hc => ?_) ?_ hI2.1 (by rw [← hit2])
        · rw [st_c, if_neg (by omega), st_c, if_neg (by omega), st_c, if_neg (by omega), st_c, if_neg (by omega), st_c, if_neg (by omega), st_c, if_neg (by omega), st_c, if_neg (by omega), st_nil]; exact hf c hc
        · refine ⟨?_, ?_, ?_, ?_, ?_, fun y hy => ⟨?_, ?_⟩, hG2', dM_fr hs hpd (fun c _ _ => by rw [st_c, if_neg (by omega), st_c, if_neg (by omega), st_c, if_neg (by omega), st_c, if_neg (by omega), st_c, if_neg (by omega), st_c, if_neg (by omega), st_c, if_neg (by omega), st_nil])⟩
          · show (pU (M1 35) 15 ((pS W1.2.1 0 Y) + (1 : Int))) 11 = _
            rw [pU_ne (by omega)]; exact p11
          · show (pU (M1 35) 15 ((pS W1.2.1 0 Y) + (1 : Int))) 12 = _
            rw [pU_ne (by omega)]; exact p12
          · show (pU (M1 35) 15 ((pS W1.2.1 0 Y) + (1 : Int))) 13 = _
            rw [pU_ne (by omega)]; exact p13
          · show (pU (M1 35) 15 ((pS W1.2.1 0 Y) + (1 : Int))) 14 = _
            rw [pU_ne (by omega)]; exact p14
          · show (pU (M1 35) 15 ((pS W1.2.1 0 Y) + (1 : Int))) 15 = _
            rw [pU_eq]; show _ = pS (pU W1.2.1 _ _) 0 _; rw [pS_pU, if_pos (by omega), hYe]; omega
          · show pU (pU (M1 48) _ _) _ _ y = pU (pU W1.1 _ _) _ _ y
            unfold pU; rw [(hpp y hy).1]
          · show pU (M1 49) _ _ y = pU W1.2.1 _ _ y
            unfold pU; rw [(hpp y hy).2]
      · have hrv : (if bwG s W1 (wGr s W1) + 1 < (wGr s W1).1 then ((bwG s W1 (wGr s W1) : Nat) : Int) else -1) = (-1 : Int) := if_neg hc
        refine tw_iload k26_2 rfl ?_
        refine tw_const k26_3 ?_
        refine tw_cgeF k26_6 (by omega) ?_
        refine tw_aload k26_9 rfl ?_
        refine tw_iload k26_10 rfl ?_
        refine tw_callp (v := .inl (if bwG s W1 (wGr s W1) + 1 < (wGr s W1).1 then ((bwG s W1 (wGr s W1) : Nat) : Int) else -1)) (by omega) (S' := []) (as := [.inr (.inr (.inl 35)), .inl (s 45)]) k26_11 (x_27_35 (M := M1) (N := N) s hs (wGr s W1) (wGr_ok s W1) hpg W1 (fun y hy => (hpp y hy).1) (wI_p hI) (fun y hy => ⟨(hpp y hy).2, (hI.1 y (by omega)).2.1, by have := (hI.1 y (by omega)).2.2; omega⟩)) rfl rfl rfl rfl rfl ?_
        refine tw_eqS (S' := [.inl (-1 : Int)]) (e_c (congrArg Sum.inl hrv) rfl) ?_
        refine tw_istore k26_14 rfl (L' := [some (.inr (.inr (.inl 35))), some (.inl (s 45)), some (.inl ((k : Nat) : Int)), some (.inl (-1 : Int)), sv o4]) rfl ?_
        refine tw_iload k26_15 rfl ?_
        refine tw_zgeF k26_16 (by decide) ?_
        exact tw_rv k26_19 (⟨rfl, M1, rfl, hf, by rw [← hit, show 10000 - k = (10000 - (k + 1)) + 1 by omega, itN, if_neg hc]; exact ⟨p11, p12, p13, p14, p15, hpp, hpg, hpd⟩⟩)
  refine tw_const k26_0 ?_
  refine tw_istore k26_1 rfl (L' := [some (.inr (.inr (.inl 35))), some (.inl (s 45)), some (.inl (0 : Int)), none, none]) rfl ?_
  exact key 0 (by omega) none none _ _ (fun c _ => rfl) hC hI rfl
theorem x_23_69 {K : mj_C} {d : Nat} {M : Nat → Nat → Int} {N : Nat → Nat → Int64} (s : Nat → Int) (hs : pRg s) (G : GS) (hO : gOk (s 0).toNat G) (hG : gRel (M 78 3) (M 79) (M 80) (M 81) G) (W : WS) (hP : ∀ y, y < (s 0).toNat → M 82 y = W.1 y) (hB : ∀ y, y < 5 → 0 ≤ W.1 y ∧ W.1 y ≤ 1000) : mj_X K d 23 [.inr (.inr (.inl 69)), .inl (s 42)] (mj_Sh, M, N) (fun r Z => r = some (.inl (if tkG s W G < G.1 then ((pBk W.1 (G.2.2.1 (tkG s W G)) : Nat) : Int) else -1)) ∧ Z = (mj_Sh, M, N)) := by
  show mj_T K d 23 0 [some (.inr (.inr (.inl 69))), some (.inl (s 42)), none, none] [] (mj_Sh, M, N) _
  have h0 := hs.1 0 (by omega)
  have h5 := hs.2.1
  obtain ⟨Y, hYe⟩ : ∃ Y : Nat, Y = (s 0).toNat := ⟨_, rfl⟩
  have hY0 : s 0 = (Y : Int) := by omega
  rw [← hYe] at hO hP
  obtain ⟨hO1, hO2, hO3, hO4, hO5⟩ := hO
  have key : ∀ g : Nat, g ≤ G.1 → ∀ o3, (∀ j, j < g → ¬ (((G.2.2.2 j : Nat) : Int) < s 42 ∧ ¬ gTot W.1 G j = 0)) → mj_T K d 23 2 [some (.inr (.inr (.inl 69))), some (.inl (s 42)), some (.inl ((g : Nat) : Int)), sv o3] [] (mj_Sh, M, N) (fun r Z => r = some (.inl (if tkG s W G < G.1 then ((pBk W.1 (G.2.2.1 (tkG s W G)) : Nat) : Int) else -1)) ∧ Z = (mj_Sh, M, N)) := by
    refine up_to G.1 ?_ ?_
    · show ∀ o3, (∀ j, j < G.1 → ¬ (((G.2.2.2 j : Nat) : Int) < s 42 ∧ ¬ gTot W.1 G j = 0)) → mj_T K d 23 2 [some (.inr (.inr (.inl 69))), some (.inl (s 42)), some (.inl ((G.1 : Nat) : Int)), sv o3] [] (mj_Sh, M, N) (fun r Z => r = some (.inl (if tkG s W G < G.1 then ((pBk W.1 (G.2.2.1 (tkG s W G)) : Nat) : Int) else -1)) ∧ Z = (mj_Sh, M, N))
      intro o3 hN
      refine tw_iload k23_2 rfl ?_
      refine tw_aload k23_3 rfl ?_
      refine tw_getr k23_4 f69_1 ?_
      refine tw_geti k23_7 f78_3 rfl (v := ((G.1 : Nat) : Int)) hG.1 ?_
      refine tw_cgeT k23_10 (by omega) ?_
      refine tw_const k23_72 ?_
      exact tw_ri k23_73 (⟨by unfold tkG; rw [pFd_no G.1 0 (fun j _ hj => hN j (by omega)), if_neg (by omega)], rfl⟩)
    · intro g hmg ih
      have ih : ∀ o3, (∀ j, j < (g + 1) → ¬ (((G.2.2.2 j : Nat) : Int) < s 42 ∧ ¬ gTot W.1 G j = 0)) → mj_T K d 23 2 [some (.inr (.inr (.inl 69))), some (.inl (s 42)), some (.inl (((g + 1) : Nat) : Int)), sv o3] [] (mj_Sh, M, N) (fun r Z => r = some (.inl (if tkG s W G < G.1 then ((pBk W.1 (G.2.2.1 (tkG s W G)) : Nat) : Int) else -1)) ∧ Z = (mj_Sh, M, N)) := ih
      show ∀ o3, (∀ j, j < g → ¬ (((G.2.2.2 j : Nat) : Int) < s 42 ∧ ¬ gTot W.1 G j = 0)) → mj_T K d 23 2 [some (.inr (.inr (.inl 69))), some (.inl (s 42)), some (.inl ((g : Nat) : Int)), sv o3] [] (mj_Sh, M, N) (fun r Z => r = some (.inl (if tkG s W G < G.1 then ((pBk W.1 (G.2.2.1 (tkG s W G)) : Nat) : Int) else -1)) ∧ Z = (mj_Sh, M, N))
      intro o3 hN
      have a1 := hO2 g (by omega)
      refine tw_iload k23_2 rfl ?_
      refine tw_aload k23_3 rfl ?_
      refine tw_getr k23_4 f69_1 ?_
      refine tw_geti k23_7 f78_3 rfl (v := ((G.1 : Nat) : Int)) hG.1 ?_
      refine tw_cgeF k23_10 (by omega) ?_
      refine tw_aload k23_13 rfl ?_
      refine tw_getr k23_14 f69_1 ?_
      refine tw_getr k23_17 f78_1 ?_
      refine tw_iload k23_20 rfl ?_
      refine tw_iald (j := g) (v := (((G.2.2.1 g) : Nat) : Int)) k23_21 al80 rfl (by omega) (hG.2 g (by omega)).2.1 ?_
      refine tw_istore k23_22 rfl (L' := [some (.inr (.inr (.inl 69))), some (.inl (s 42)), some (.inl ((g : Nat) : Int)), some (.inl (((G.2.2.1 g) : Nat) : Int))]) rfl ?_
      have ihg := ih
      by_cases hpf : ((G.2.2.2 g : Nat) : Int) < s 42
      · by_cases hz : gTot W.1 G g = 0
        · have hz0 := pS_z (f := W.1) (a := G.2.1 g) (G.2.2.1 g + 1 - G.2.1 g) (fun i h1 h2 => (hB i (by omega)).1) hz
          have keyz : ∀ i : Nat, i ≤ (G.2.2.1 g + 1 - G.2.1 g) → mj_T K d 23 23 [some (.inr (.inr (.inl 69))), some (.inl (s 42)), some (.inl ((g : Nat) : Int)), some (.inl (((G.2.2.1 g : Nat) : Int) - ((i : Nat) : Int)))] [] (mj_Sh, M, N) (fun r Z => r = some (.inl (if tkG s W G < G.1 then ((pBk W.1 (G.2.2.1 (tkG s W G)) : Nat) : Int) else -1)) ∧ Z = (mj_Sh, M, N)) := by
            refine up_to (G.2.2.1 g + 1 - G.2.1 g) ?_ ?_
            · show mj_T K d 23 23 [some (.inr (.inr (.inl 69))), some (.inl (s 42)), some (.inl ((g : Nat) : Int)), some (.inl (((G.2.2.1 g : Nat) : Int) - (((G.2.2.1 g + 1 - G.2.1 g) : Nat) : Int)))] [] (mj_Sh, M, N) (fun r Z => r = some (.inl (if tkG s W G < G.1 then ((pBk W.1 (G.2.2.1 (tkG s W G)) : Nat) : Int) else -1)) ∧ Z = (mj_Sh, M, N))
              refine tw_iload k23_23 rfl ?_
              refine tw_aload k23_24 rfl ?_
              refine tw_getr k23_25 f69_1 ?_
              refine tw_getr k23_28 f78_0 ?_
              refine tw_iload k23_31 rfl ?_
              refine tw_iald (j := g) (v := (((G.2.1 g) : Nat) : Int)) k23_32 al79 rfl (by omega) (hG.2 g (by omega)).1 ?_
              refine tw_cltT k23_33 (by omega) ?_
              refine tw_iinc k23_66 rfl (v := ((g + 1 : Nat) : Int)) rfl (by omega) rfl (L' := [some (.inr (.inr (.inl 69))), some (.inl (s 42)), some (.inl ((g + 1 : Nat) : Int)), some (.inl (((G.2.2.1 g : Nat) : Int) - (((G.2.2.1 g + 1 - G.2.1 g) : Nat) : Int)))]) rfl ?_
              refine tw_goto k23_69 ?_
              exact ihg (some (.inl (((G.2.2.1 g : Nat) : Int) - (((G.2.2.1 g + 1 - G.2.1 g) : Nat) : Int)))) (fun j hj => by
                by_cases e : j = g
                · subst e; intro hc; exact hc.2 hz
                · exact hN j (by omega))
            · intro i hmi ih
              have ih : mj_T K d 23 23 [some (.inr (.inr (.inl 69))), some (.inl (s 42)), some (.inl ((g : Nat) : Int)), some (.inl (((G.2.2.1 g : Nat) : Int) - (((i + 1) : Nat) : Int)))] [] (mj_Sh, M, N) (fun r Z => r = some (.inl (if tkG s W G < G.1 then ((pBk W.1 (G.2.2.1 (tkG s W G)) : Nat) : Int) else -1)) ∧ Z = (mj_Sh, M, N)) := ih
              show mj_T K d 23 23 [some (.inr (.inr (.inl 69))), some (.inl (s 42)), some (.inl ((g : Nat) : Int)), some (.inl (((G.2.2.1 g : Nat) : Int) - ((i : Nat) : Int)))] [] (mj_Sh, M, N) (fun r Z => r = some (.inl (if tkG s W G < G.1 then ((pBk W.1 (G.2.2.1 (tkG s W G)) : Nat) : Int) else -1)) ∧ Z = (mj_Sh, M, N))
              have hzi := hz0 (G.2.2.1 g - i) (by omega) (by omega)
              refine tw_iload k23_23 rfl ?_
              refine tw_aload k23_24 rfl ?_
              refine tw_getr k23_25 f69_1 ?_
              refine tw_getr k23_28 f78_0 ?_
              refine tw_iload k23_31 rfl ?_
              refine tw_iald (j := g) (v := (((G.2.1 g) : Nat) : Int)) k23_32 al79 rfl (by omega) (hG.2 g (by omega)).1 ?_
              refine tw_cltF k23_33 (by omega) ?_
              refine tw_aload k23_36 rfl ?_
              refine tw_getr k23_37 f69_1 ?_
              refine tw_getr k23_40 f78_2 ?_
              refine tw_iload k23_43 rfl ?_
              refine tw_iald (j := g) (v := (((G.2.2.2 g) : Nat) : Int)) k23_44 al81 rfl (by omega) (hG.2 g (by omega)).2.2 ?_
              refine tw_iload k23_45 rfl ?_
              refine tw_cgeF k23_46 (by omega) ?_
              refine tw_aload k23_49 rfl ?_
              refine tw_getr k23_50 f69_2 ?_
              refine tw_iload k23_53 rfl ?_
              refine tw_iald (j := (G.2.2.1 g - i)) (v := (W.1 (G.2.2.1 g - i))) k23_54 al82 (by omega) (by omega) (hP (G.2.2.1 g - i) (by omega)) ?_
              refine tw_zleT k23_55 (by omega) ?_
              refine tw_iinc k23_60 rfl (v := ((((G.2.2.1 g : Nat) : Int) - ((i : Nat) : Int)) + (-1))) rfl (by omega) rfl (L' := [some (.inr (.inr (.inl 69))), some (.inl (s 42)), some (.inl ((g : Nat) : Int)), some (.inl ((((G.2.2.1 g : Nat) : Int) - ((i : Nat) : Int)) + (-1)))]) rfl ?_
              refine tw_goto k23_63 ?_
              refine tw_eqL (L' := [some (.inr (.inr (.inl 69))), some (.inl (s 42)), some (.inl ((g : Nat) : Int)), some (.inl (((G.2.2.1 g : Nat) : Int) - (((i + 1) : Nat) : Int)))]) (e_c rfl (e_c rfl (e_c rfl (e_c (e_i (by omega)) rfl)))) ?_
              exact ih
          refine tw_eqL (L' := [some (.inr (.inr (.inl 69))), some (.inl (s 42)), some (.inl ((g : Nat) : Int)), some (.inl (((G.2.2.1 g : Nat) : Int) - ((0 : Nat) : Int)))]) (e_c rfl (e_c rfl (e_c rfl (e_c (e_i (by omega)) rfl)))) (keyz 0 (by omega))
        · have htk : tkG s W G = g := pFd_eq G.1 0 g (by omega) (by omega) ⟨by omega, hz⟩ (fun j _ hj => hN j hj)
          obtain ⟨b1, b2, b3, b4⟩ := pBk_sp (perm := W.1) (G.2.2.1 g) (G.2.1 g) a1.1 hz
          have hb := hB (pBk W.1 (G.2.2.1 g)) (by omega)
          have keyy : ∀ i : Nat, i ≤ (G.2.2.1 g - pBk W.1 (G.2.2.1 g)) → mj_T K d 23 23 [some (.inr (.inr (.inl 69))), some (.inl (s 42)), some (.inl ((g : Nat) : Int)), some (.inl (((G.2.2.1 g : Nat) : Int) - ((i : Nat) : Int)))] [] (mj_Sh, M, N) (fun r Z => r = some (.inl (if tkG s W G < G.1 then ((pBk W.1 (G.2.2.1 (tkG s W G)) : Nat) : Int) else -1)) ∧ Z = (mj_Sh, M, N)) := by
            refine up_to (G.2.2.1 g - pBk W.1 (G.2.2.1 g)) ?_ ?_
            · show mj_T K d 23 23 [some (.inr (.inr (.inl 69))), some (.inl (s 42)), some (.inl ((g : Nat) : Int)), some (.inl (((G.2.2.1 g : Nat) : Int) - (((G.2.2.1 g - pBk W.1 (G.2.2.1 g)) : Nat) : Int)))] [] (mj_Sh, M, N) (fun r Z => r = some (.inl (if tkG s W G < G.1 then ((pBk W.1 (G.2.2.1 (tkG s W G)) : Nat) : Int) else -1)) ∧ Z = (mj_Sh, M, N))
              refine tw_iload k23_23 rfl ?_
              refine tw_aload k23_24 rfl ?_
              refine tw_getr k23_25 f69_1 ?_
              refine tw_getr k23_28 f78_0 ?_
              refine tw_iload k23_31 rfl ?_
              refine tw_iald (j := g) (v := (((G.2.1 g) : Nat) : Int)) k23_32 al79 rfl (by omega) (hG.2 g (by omega)).1 ?_
              refine tw_cltF k23_33 (by omega) ?_
              refine tw_aload k23_36 rfl ?_
              refine tw_getr k23_37 f69_1 ?_
              refine tw_getr k23_40 f78_2 ?_
              refine tw_iload k23_43 rfl ?_
              refine tw_iald (j := g) (v := (((G.2.2.2 g) : Nat) : Int)) k23_44 al81 rfl (by omega) (hG.2 g (by omega)).2.2 ?_
              refine tw_iload k23_45 rfl ?_
              refine tw_cgeF k23_46 (by omega) ?_
              refine tw_aload k23_49 rfl ?_
              refine tw_getr k23_50 f69_2 ?_
              refine tw_iload k23_53 rfl ?_
              refine tw_iald (j := (pBk W.1 (G.2.2.1 g))) (v := (W.1 (pBk W.1 (G.2.2.1 g)))) k23_54 al82 (by omega) (by omega) (hP _ (by omega)) ?_
              refine tw_zleF k23_55 (by omega) ?_
              refine tw_iload k23_58 rfl ?_
              exact tw_ri k23_59 (⟨by rw [htk, if_pos (by omega)]; exact congrArg (fun x => some (Sum.inl x)) (by omega), rfl⟩)
            · intro i hmi ih
              have ih : mj_T K d 23 23 [some (.inr (.inr (.inl 69))), some (.inl (s 42)), some (.inl ((g : Nat) : Int)), some (.inl (((G.2.2.1 g : Nat) : Int) - (((i + 1) : Nat) : Int)))] [] (mj_Sh, M, N) (fun r Z => r = some (.inl (if tkG s W G < G.1 then ((pBk W.1 (G.2.2.1 (tkG s W G)) : Nat) : Int) else -1)) ∧ Z = (mj_Sh, M, N)) := ih
              show mj_T K d 23 23 [some (.inr (.inr (.inl 69))), some (.inl (s 42)), some (.inl ((g : Nat) : Int)), some (.inl (((G.2.2.1 g : Nat) : Int) - ((i : Nat) : Int)))] [] (mj_Sh, M, N) (fun r Z => r = some (.inl (if tkG s W G < G.1 then ((pBk W.1 (G.2.2.1 (tkG s W G)) : Nat) : Int) else -1)) ∧ Z = (mj_Sh, M, N))
              have hzi := b4 (G.2.2.1 g - i) (by omega) (by omega)
              refine tw_iload k23_23 rfl ?_
              refine tw_aload k23_24 rfl ?_
              refine tw_getr k23_25 f69_1 ?_
              refine tw_getr k23_28 f78_0 ?_
              refine tw_iload k23_31 rfl ?_
              refine tw_iald (j := g) (v := (((G.2.1 g) : Nat) : Int)) k23_32 al79 rfl (by omega) (hG.2 g (by omega)).1 ?_
              refine tw_cltF k23_33 (by omega) ?_
              refine tw_aload k23_36 rfl ?_
              refine tw_getr k23_37 f69_1 ?_
              refine tw_getr k23_40 f78_2 ?_
              refine tw_iload k23_43 rfl ?_
              refine tw_iald (j := g) (v := (((G.2.2.2 g) : Nat) : Int)) k23_44 al81 rfl (by omega) (hG.2 g (by omega)).2.2 ?_
              refine tw_iload k23_45 rfl ?_
              refine tw_cgeF k23_46 (by omega) ?_
              refine tw_aload k23_49 rfl ?_
              refine tw_getr k23_50 f69_2 ?_
              refine tw_iload k23_53 rfl ?_
              refine tw_iald (j := (G.2.2.1 g - i)) (v := (W.1 (G.2.2.1 g - i))) k23_54 al82 (by omega) (by omega) (hP (G.2.2.1 g - i) (by omega)) ?_
              refine tw_zleT k23_55 (by omega) ?_
              refine tw_iinc k23_60 rfl (v := ((((G.2.2.1 g : Nat) : Int) - ((i : Nat) : Int)) + (-1))) rfl (by omega) rfl (L' := [some (.inr (.inr (.inl 69))), some (.inl (s 42)), some (.inl ((g : Nat) : Int)), some (.inl ((((G.2.2.1 g : Nat) : Int) - ((i : Nat) : Int)) + (-1)))]) rfl ?_
              refine tw_goto k23_63 ?_
              refine tw_eqL (L' := [some (.inr (.inr (.inl 69))), some (.inl (s 42)), some (.inl ((g : Nat) : Int)), some (.inl (((G.2.2.1 g : Nat) : Int) - (((i + 1) : Nat) : Int)))]) (e_c rfl (e_c rfl (e_c rfl (e_c (e_i (by omega)) rfl)))) ?_
              exact ih
          refine tw_eqL (L' := [some (.inr (.inr (.inl 69))), some (.inl (s 42)), some (.inl ((g : Nat) : Int)), some (.inl (((G.2.2.1 g : Nat) : Int) - ((0 : Nat) : Int)))]) (e_c rfl (e_c rfl (e_c rfl (e_c (e_i (by omega)) rfl)))) (keyy 0 (by omega))
      · refine tw_iload k23_23 rfl ?_
        refine tw_aload k23_24 rfl ?_
        refine tw_getr k23_25 f69_1 ?_
        refine tw_getr k23_28 f78_0 ?_
        refine tw_iload k23_31 rfl ?_
        refine tw_iald (j := g) (v := (((G.2.1 g) : Nat) : Int)) k23_32 al79 rfl (by omega) (hG.2 g (by omega)).1 ?_
        refine tw_cltF k23_33 (by omega) ?_
        refine tw_aload k23_36 rfl ?_
        refine tw_getr k23_37 f69_1 ?_
        refine tw_getr k23_40 f78_2 ?_
        refine tw_iload k23_43 rfl ?_
        refine tw_iald (j := g) (v := (((G.2.2.2 g) : Nat) : Int)) k23_44 al81 rfl (by omega) (hG.2 g (by omega)).2.2 ?_
        refine tw_iload k23_45 rfl ?_
        refine tw_cgeT k23_46 (by omega) ?_
        refine tw_iinc k23_66 rfl (v := ((g + 1 : Nat) : Int)) rfl (by omega) rfl (L' := [some (.inr (.inr (.inl 69))), some (.inl (s 42)), some (.inl ((g + 1 : Nat) : Int)), some (.inl (((G.2.2.1 g) : Nat) : Int))]) rfl ?_
        refine tw_goto k23_69 ?_
        exact ih (some (.inl (((G.2.2.1 g) : Nat) : Int))) (fun j hj => by
          by_cases e : j = g
          · subst e; intro hc; omega
          · exact hN j (by omega))
  refine tw_const k23_0 ?_
  refine tw_istore k23_1 rfl (L' := [some (.inr (.inr (.inl 69))), some (.inl (s 42)), some (.inl (0 : Int)), none]) rfl ?_
  exact key 0 (by omega) none (fun j hj => by omega)
theorem x_25_69 {K : mj_C} {d : Nat} {M : Nat → Nat → Int} {N : Nat → Nat → Int64} (s : Nat → Int) (hs : pRg s) (G : GS) (hO : gOk (s 0).toNat G) (hG : gRel (M 78 3) (M 79) (M 80) (M 81) G) (W : WS) (hP : ∀ y, y < (s 0).toNat → M 82 y = W.1 y) (hB : ∀ y, y < 5 → 0 ≤ W.1 y ∧ W.1 y ≤ 1000) : mj_X K d 25 [.inr (.inr (.inl 69)), .inl (s 43)] (mj_Sh, M, N) (fun r Z => r = some (.inl (if gvG s G < G.1 then ((G.2.1 (gvG s G) : Nat) : Int) else -1)) ∧ Z = (mj_Sh, M, N)) := by
  show mj_T K d 25 0 [some (.inr (.inr (.inl 69))), some (.inl (s 43)), none] [] (mj_Sh, M, N) _
  have h0 := hs.1 0 (by omega)
  have h5 := hs.2.1
  obtain ⟨Y, hYe⟩ : ∃ Y : Nat, Y = (s 0).toNat := ⟨_, rfl⟩
  have hY0 : s 0 = (Y : Int) := by omega
  rw [← hYe] at hO hP
  obtain ⟨hO1, hO2, hO3, hO4, hO5⟩ := hO
  have key : ∀ g : Nat, g ≤ G.1 → (∀ j, j < g → ¬ (s 43 < ((G.2.2.2 j : Nat) : Int))) → mj_T K d 25 2 [some (.inr (.inr (.inl 69))), some (.inl (s 43)), some (.inl ((g : Nat) : Int))] [] (mj_Sh, M, N) (fun r Z => r = some (.inl (if gvG s G < G.1 then ((G.2.1 (gvG s G) : Nat) : Int) else -1)) ∧ Z = (mj_Sh, M, N)) := by
    refine up_to G.1 ?_ ?_
    · show (∀ j, j < G.1 → ¬ (s 43 < ((G.2.2.2 j : Nat) : Int))) → mj_T K d 25 2 [some (.inr (.inr (.inl 69))), some (.inl (s 43)), some (.inl ((G.1 : Nat) : Int))] [] (mj_Sh, M, N) (fun r Z => r = some (.inl (if gvG s G < G.1 then ((G.2.1 (gvG s G) : Nat) : Int) else -1)) ∧ Z = (mj_Sh, M, N))
      intro hN
      refine tw_iload k25_2 rfl ?_
      refine tw_aload k25_3 rfl ?_
      refine tw_getr k25_4 f69_1 ?_
      refine tw_geti k25_7 f78_3 rfl (v := ((G.1 : Nat) : Int)) hG.1 ?_
      refine tw_cgeT k25_10 (by omega) ?_
      refine tw_const k25_42 ?_
      exact tw_ri k25_43 (⟨by unfold gvG; rw [pFd_no G.1 0 (fun j _ hj => hN j (by omega)), if_neg (by omega)], rfl⟩)
    · intro g hmg ih
      have ih : (∀ j, j < (g + 1) → ¬ (s 43 < ((G.2.2.2 j : Nat) : Int))) → mj_T K d 25 2 [some (.inr (.inr (.inl 69))), some (.inl (s 43)), some (.inl (((g + 1) : Nat) : Int))] [] (mj_Sh, M, N) (fun r Z => r = some (.inl (if gvG s G < G.1 then ((G.2.1 (gvG s G) : Nat) : Int) else -1)) ∧ Z = (mj_Sh, M, N)) := ih
      show (∀ j, j < g → ¬ (s 43 < ((G.2.2.2 j : Nat) : Int))) → mj_T K d 25 2 [some (.inr (.inr (.inl 69))), some (.inl (s 43)), some (.inl ((g : Nat) : Int))] [] (mj_Sh, M, N) (fun r Z => r = some (.inl (if gvG s G < G.1 then ((G.2.1 (gvG s G) : Nat) : Int) else -1)) ∧ Z = (mj_Sh, M, N))
      intro hN
      have a1 := hO2 g (by omega)
      refine tw_iload k25_2 rfl ?_
      refine tw_aload k25_3 rfl ?_
      refine tw_getr k25_4 f69_1 ?_
      refine tw_geti k25_7 f78_3 rfl (v := ((G.1 : Nat) : Int)) hG.1 ?_
      refine tw_cgeF k25_10 (by omega) ?_
      refine tw_aload k25_13 rfl ?_
      refine tw_getr k25_14 f69_1 ?_
      refine tw_getr k25_17 f78_2 ?_
      refine tw_iload k25_20 rfl ?_
      refine tw_iald (j := g) (v := (((G.2.2.2 g) : Nat) : Int)) k25_21 al81 rfl (by omega) (hG.2 g (by omega)).2.2 ?_
      refine tw_iload k25_22 rfl ?_
      refine tw_cle k25_23 (fun h23 => ?_) (fun h23 => ?_)
      · refine tw_iinc k25_36 rfl (v := ((g + 1 : Nat) : Int)) rfl (by omega) rfl (L' := [some (.inr (.inr (.inl 69))), some (.inl (s 43)), some (.inl ((g + 1 : Nat) : Int))]) rfl ?_
        refine tw_goto k25_39 ?_
        exact ih (fun j hj => by
          by_cases e : j = g
          · subst e; omega
          · exact hN j (by omega))
      · refine tw_aload k25_26 rfl ?_
        refine tw_getr k25_27 f69_1 ?_
        refine tw_getr k25_30 f78_0 ?_
        refine tw_iload k25_33 rfl ?_
        refine tw_iald (j := g) (v := (((G.2.1 g) : Nat) : Int)) k25_34 al79 rfl (by omega) (hG.2 g (by omega)).1 ?_
        exact tw_ri k25_35 (⟨by rw [show gvG s G = g from pFd_eq G.1 0 g (by omega) (by omega) (by omega) (fun j _ hj => hN j hj), if_pos (by omega)], rfl⟩)
  refine tw_const k25_0 ?_
  refine tw_istore k25_1 rfl (L' := [some (.inr (.inr (.inl 69))), some (.inl (s 43)), some (.inl (0 : Int))]) rfl ?_
  exact key 0 (by omega) (fun j hj => by omega)
theorem x_27_69 {K : mj_C} {d : Nat} {M : Nat → Nat → Int} {N : Nat → Nat → Int64} (s : Nat → Int) (hs : pRg s) (G : GS) (hO : gOk (s 0).toNat G) (hG : gRel (M 78 3) (M 79) (M 80) (M 81) G) (W : WS) (hP : ∀ y, y < (s 0).toNat → M 82 y = W.1 y) (hB : ∀ y, y < 5 → 0 ≤ W.1 y ∧ W.1 y ≤ 1000) (hQ : ∀ y, y < (s 0).toNat → M 83 y = W.2.1 y ∧ 0 ≤ W.2.1 y ∧ W.2.1 y ≤ 1000) : mj_X K d 27 [.inr (.inr (.inl 69)), .inl (s 45)] (mj_Sh, M, N) (fun r Z => r = some (.inl (if bwG s W G + 1 < G.1 then ((bwG s W G : Nat) : Int) else -1)) ∧ Z = (mj_Sh, M, N)) := by
  show mj_T K d 27 0 [some (.inr (.inr (.inl 69))), some (.inl (s 45)), none, none] [] (mj_Sh, M, N) _
  have h0 := hs.1 0 (by omega)
  have h5 := hs.2.1
  obtain ⟨Y, hYe⟩ : ∃ Y : Nat, Y = (s 0).toNat := ⟨_, rfl⟩
  have hY0 : s 0 = (Y : Int) := by omega
  rw [← hYe] at hO hP
  obtain ⟨hO1, hO2, hO3, hO4, hO5⟩ := hO
  have hz : G.1 = 0 → ∀ o3, mj_T K d 27 2 [some (.inr (.inr (.inl 69))), some (.inl (s 45)), some (.inl ((0 : Nat) : Int)), sv o3] [] (mj_Sh, M, N) (fun r Z => r = some (.inl (if bwG s W G + 1 < G.1 then ((bwG s W G : Nat) : Int) else -1)) ∧ Z = (mj_Sh, M, N)) := by
    intro hz o3
    refine tw_iload k27_2 rfl ?_
    refine tw_const k27_3 ?_
    refine tw_iadd k27_4 (v := ((0 + 1 : Nat) : Int)) rfl (by omega) ?_
    refine tw_aload k27_5 rfl ?_
    refine tw_getr k27_6 f69_1 ?_
    refine tw_geti k27_9 f78_3 rfl (v := ((G.1 : Nat) : Int)) hG.1 ?_
    refine tw_cgeT k27_12 (by omega) ?_
    refine tw_const k27_93 ?_
    exact tw_ri k27_94 (⟨by rw [if_neg (by omega)], rfl⟩)
  rcases Nat.eq_zero_or_pos G.1 with e0 | e0
  · refine tw_const k27_0 ?_
    refine tw_istore k27_1 rfl (L' := [some (.inr (.inr (.inl 69))), some (.inl (s 45)), some (.inl (0 : Int)), none]) rfl ?_
    exact hz e0 none
  have key : ∀ g : Nat, g ≤ (G.1 - 1) → ∀ o3, (∀ j, j < g → ¬ (G.2.2.2 (j + 1) < G.2.2.2 j ∧ W.2.1 (G.2.2.1 j) < s 45 ∧ ¬ W.1 (G.2.1 (j + 1)) = 0)) → mj_T K d 27 2 [some (.inr (.inr (.inl 69))), some (.inl (s 45)), some (.inl ((g : Nat) : Int)), sv o3] [] (mj_Sh, M, N) (fun r Z => r = some (.inl (if bwG s W G + 1 < G.1 then ((bwG s W G : Nat) : Int) else -1)) ∧ Z = (mj_Sh, M, N)) := by
    refine up_to (G.1 - 1) ?_ ?_
    · show ∀ o3, (∀ j, j < (G.1 - 1) → ¬ (G.2.2.2 (j + 1) < G.2.2.2 j ∧ W.2.1 (G.2.2.1 j) < s 45 ∧ ¬ W.1 (G.2.1 (j + 1)) = 0)) → mj_T K d 27 2 [some (.inr (.inr (.inl 69))), some (.inl (s 45)), some (.inl (((G.1 - 1) : Nat) : Int)), sv o3] [] (mj_Sh, M, N) (fun r Z => r = some (.inl (if bwG s W G + 1 < G.1 then ((bwG s W G : Nat) : Int) else -1)) ∧ Z = (mj_Sh, M, N))
      intro o3 hN
      refine tw_iload k27_2 rfl ?_
      refine tw_const k27_3 ?_
      refine tw_iadd k27_4 (v := (((G.1 - 1) + 1 : Nat) : Int)) rfl (by omega) ?_
      refine tw_aload k27_5 rfl ?_
      refine tw_getr k27_6 f69_1 ?_
      refine tw_geti k27_9 f78_3 rfl (v := ((G.1 : Nat) : Int)) hG.1 ?_
      refine tw_cgeT k27_12 (by omega) ?_
      refine tw_const k27_93 ?_
      exact tw_ri k27_94 (⟨by unfold bwG; rw [pFd_no (G.1 - 1) 0 (fun j _ hj => hN j (by omega)), if_neg (by omega)], rfl⟩)
    · intro g hmg ih
      have ih : ∀ o3, (∀ j, j < (g + 1) → ¬ (G.2.2.2 (j + 1) < G.2.2.2 j ∧ W.2.1 (G.2.2.1 j) < s 45 ∧ ¬ W.1 (G.2.1 (j + 1)) = 0)) → mj_T K d 27 2 [some (.inr (.inr (.inl 69))), some (.inl (s 45)), some (.inl (((g + 1) : Nat) : Int)), sv o3] [] (mj_Sh, M, N) (fun r Z => r = some (.inl (if bwG s W G + 1 < G.1 then ((bwG s W G : Nat) : Int) else -1)) ∧ Z = (mj_Sh, M, N)) := ih
      show ∀ o3, (∀ j, j < g → ¬ (G.2.2.2 (j + 1) < G.2.2.2 j ∧ W.2.1 (G.2.2.1 j) < s 45 ∧ ¬ W.1 (G.2.1 (j + 1)) = 0)) → mj_T K d 27 2 [some (.inr (.inr (.inl 69))), some (.inl (s 45)), some (.inl ((g : Nat) : Int)), sv o3] [] (mj_Sh, M, N) (fun r Z => r = some (.inl (if bwG s W G + 1 < G.1 then ((bwG s W G : Nat) : Int) else -1)) ∧ Z = (mj_Sh, M, N))
      intro o3 hN
      have a1 := hO2 g (by omega)
      have a2 := hO2 (g + 1) (by omega)
      have hb2 := hB (G.2.1 (g + 1)) (by omega)
      refine tw_iload k27_2 rfl ?_
      refine tw_const k27_3 ?_
      refine tw_iadd k27_4 (v := ((g + 1 : Nat) : Int)) rfl (by omega) ?_
      refine tw_aload k27_5 rfl ?_
      refine tw_getr k27_6 f69_1 ?_
      refine tw_geti k27_9 f78_3 rfl (v := ((G.1 : Nat) : Int)) hG.1 ?_
      refine tw_cgeF k27_12 (by omega) ?_
      refine tw_aload k27_15 rfl ?_
      refine tw_getr k27_16 f69_1 ?_
      refine tw_getr k27_19 f78_2 ?_
      refine tw_iload k27_22 rfl ?_
      refine tw_iald (j := g) (v := (((G.2.2.2 g) : Nat) : Int)) k27_23 al81 rfl (by omega) (hG.2 g (by omega)).2.2 ?_
      refine tw_aload k27_24 rfl ?_
      refine tw_getr k27_25 f69_1 ?_
      refine tw_getr k27_28 f78_2 ?_
      refine tw_iload k27_31 rfl ?_
      refine tw_const k27_32 ?_
      refine tw_iadd k27_33 (v := ((g + 1 : Nat) : Int)) rfl (by omega) ?_
      refine tw_iald (j := g + 1) (v := (((G.2.2.2 (g + 1)) : Nat) : Int)) k27_34 al81 rfl (by omega) (hG.2 (g + 1) (by omega)).2.2 ?_
      refine tw_cle k27_35 (fun h35 => ?_) (fun h35 => ?_)
      · refine tw_const k27_42 ?_
        refine tw_istore k27_43 rfl (L' := [some (.inr (.inr (.inl 69))), some (.inl (s 45)), some (.inl ((g : Nat) : Int)), some (.inl (0 : Int))]) rfl ?_
        refine tw_iload k27_44 rfl ?_
        refine tw_zeqT k27_45 (by decide) ?_
        refine tw_iinc k27_87 rfl (v := ((g + 1 : Nat) : Int)) rfl (by omega) rfl (L' := [some (.inr (.inr (.inl 69))), some (.inl (s 45)), some (.inl ((g + 1 : Nat) : Int)), some (.inl (0 : Int))]) rfl ?_
        refine tw_goto k27_90 ?_
        exact ih (some (.inl (0 : Int))) (fun j hj => by
          by_cases e : j = g
          · subst e; intro hc; have := hc.1; omega
          · exact hN j (by omega))
      · refine tw_const k27_38 ?_
        refine tw_goto k27_39 ?_
        refine tw_istore k27_43 rfl (L' := [some (.inr (.inr (.inl 69))), some (.inl (s 45)), some (.inl ((g : Nat) : Int)), some (.inl (1 : Int))]) rfl ?_
        refine tw_iload k27_44 rfl ?_
        refine tw_zeqF k27_45 (by decide) ?_
        refine tw_aload k27_48 rfl ?_
        refine tw_getr k27_49 f69_3 ?_
        refine tw_aload k27_52 rfl ?_
        refine tw_getr k27_53 f69_1 ?_
        refine tw_getr k27_56 f78_1 ?_
        refine tw_iload k27_59 rfl ?_
        refine tw_iald (j := g) (v := (((G.2.2.1 g) : Nat) : Int)) k27_60 al80 rfl (by omega) (hG.2 g (by omega)).2.1 ?_
        refine tw_iald (j := (G.2.2.1 g)) (v := (W.2.1 (G.2.2.1 g))) k27_61 al83 rfl (by omega) (hQ (G.2.2.1 g) (by omega)).1 ?_
        refine tw_iload k27_62 rfl ?_
        refine tw_cge k27_63 (fun h63 => ?_) (fun h63 => ?_)
        · refine tw_iinc k27_87 rfl (v := ((g + 1 : Nat) : Int)) rfl (by omega) rfl (L' := [some (.inr (.inr (.inl 69))), some (.inl (s 45)), some (.inl ((g + 1 : Nat) : Int)), some (.inl (1 : Int))]) rfl ?_
          refine tw_goto k27_90 ?_
          exact ih (some (.inl (1 : Int))) (fun j hj => by
            by_cases e : j = g
            · subst e; intro hc; have := hc.2.1; omega
            · exact hN j (by omega))
        · refine tw_aload k27_66 rfl ?_
          refine tw_getr k27_67 f69_2 ?_
          refine tw_aload k27_70 rfl ?_
          refine tw_getr k27_71 f69_1 ?_
          refine tw_getr k27_74 f78_0 ?_
          refine tw_iload k27_77 rfl ?_
          refine tw_const k27_78 ?_
          refine tw_iadd k27_79 (v := ((g + 1 : Nat) : Int)) rfl (by omega) ?_
          refine tw_iald (j := g + 1) (v := (((G.2.1 (g + 1)) : Nat) : Int)) k27_80 al79 rfl (by omega) (hG.2 (g + 1) (by omega)).1 ?_
          refine tw_iald (j := (G.2.1 (g + 1))) (v := (W.1 (G.2.1 (g + 1)))) k27_81 al82 rfl (by omega) (hP (G.2.1 (g + 1)) (by omega)) ?_
          refine tw_zle k27_82 (fun h82 => ?_) (fun h82 => ?_)
          · refine tw_iinc k27_87 rfl (v := ((g + 1 : Nat) : Int)) rfl (by omega) rfl (L' := [some (.inr (.inr (.inl 69))), some (.inl (s 45)), some (.inl ((g + 1 : Nat) : Int)), some (.inl (1 : Int))]) rfl ?_
            refine tw_goto k27_90 ?_
            exact ih (some (.inl (1 : Int))) (fun j hj => by
              by_cases e : j = g
              · subst e; intro hc; have := hc.2.2; omega
              · exact hN j (by omega))
          · refine tw_iload k27_85 rfl ?_
            exact tw_ri k27_86 (⟨by rw [show bwG s W G = g from pFd_eq (G.1 - 1) 0 g (by omega) (by omega) ⟨by omega, by omega, by omega⟩ (fun j _ hj => hN j hj), if_pos (by omega)], rfl⟩)
  refine tw_const k27_0 ?_
  refine tw_istore k27_1 rfl (L' := [some (.inr (.inr (.inl 69))), some (.inl (s 45)), some (.inl (0 : Int)), none]) rfl ?_
  exact key 0 (by omega) none (fun j hj => by omega)
theorem x_22_69 {K : mj_C} {d : Nat} {M : Nat → Nat → Int} {N : Nat → Nat → Int64} (hD : 3 ≤ d) (s : Nat → Int) (hs : pRg s) (W : WS) (hC : cPl 69 M s W) (hI : wI W) (hV : W.2.2.2.1 + pS W.1 0 5 ≤ 600) : mj_X K d 22 [.inr (.inr (.inl 69)), .inl (s 42)] (mj_Sh, M, N) (fun r Z => r = none ∧ ∃ M1, Z = (mj_Sh, M1, N) ∧ (∀ c, c < 69 ∨ 69 < c ∧ c < 78 ∨ 83 < c → M1 c = M c) ∧ cPl 69 M1 s (itN (tkC s) (fun _ => inferInstance) (tkS s) 10000 W)) := by
  show mj_T K d 22 0 [some (.inr (.inr (.inl 69))), some (.inl (s 42)), none, none] [] (mj_Sh, M, N) _
  have h0 := hs.1 0 (by omega)
  have h5 := hs.2.1
  obtain ⟨Y, hYe⟩ : ∃ Y : Nat, Y = (s 0).toNat := ⟨_, rfl⟩
  have hY0 : s 0 = (Y : Int) := by omega
  have h5' := h5
  have key : ∀ k : Nat, k ≤ 10000 → ∀ o3 (W1 : WS) (M1 : Nat → Nat → Int), (∀ c, c < 69 ∨ 69 < c ∧ c < 78 ∨ 83 < c → M1 c = M c) → cPl 69 M1 s W1 → wI W1 → W1.2.2.2.1 + pS W1.1 0 5 ≤ 600 → itN (tkC s) (fun _ => inferInstance) (tkS s) (10000 - k) W1 = itN (tkC s) (fun _ => inferInstance) (tkS s) 10000 W → mj_T K d 22 2 [some (.inr (.inr (.inl 69))), some (.inl (s 42)), some (.inl ((k : Nat) : Int)), sv o3] [] (mj_Sh, M1, N) (fun r Z => r = none ∧ ∃ M1, Z = (mj_Sh, M1, N) ∧ (∀ c, c < 69 ∨ 69 < c ∧ c < 78 ∨ 83 < c → M1 c = M c) ∧ cPl 69 M1 s (itN (tkC s) (fun _ => inferInstance) (tkS s) 10000 W)) := by
    refine up_to 10000 ?_ ?_
    · show ∀ o3 (W1 : WS) (M1 : Nat → Nat → Int), (∀ c, c < 69 ∨ 69 < c ∧ c < 78 ∨ 83 < c → M1 c = M c) → cPl 69 M1 s W1 → wI W1 → W1.2.2.2.1 + pS W1.1 0 5 ≤ 600 → itN (tkC s) (fun _ => inferInstance) (tkS s) (10000 - 10000) W1 = itN (tkC s) (fun _ => inferInstance) (tkS s) 10000 W → mj_T K d 22 2 [some (.inr (.inr (.inl 69))), some (.inl (s 42)), some (.inl ((10000 : Nat) : Int)), sv o3] [] (mj_Sh, M1, N) (fun r Z => r = none ∧ ∃ M1, Z = (mj_Sh, M1, N) ∧ (∀ c, c < 69 ∨ 69 < c ∧ c < 78 ∨ 83 < c → M1 c = M c) ∧ cPl 69 M1 s (itN (tkC s) (fun _ => inferInstance) (tkS s) 10000 W))
      intro o3 W1 M1 hf hC hI hV hit
      refine tw_iload k22_2 rfl ?_
      refine tw_const k22_3 ?_
      refine tw_cgeT k22_6 (by omega) ?_
      exact tw_rv k22_75 (⟨rfl, M1, rfl, hf, by rw [← hit, Nat.sub_self, itN]; exact hC⟩)
    · intro k hmk ih
      have ih : ∀ o3 (W1 : WS) (M1 : Nat → Nat → Int), (∀ c, c < 69 ∨ 69 < c ∧ c < 78 ∨ 83 < c → M1 c = M c) → cPl 69 M1 s W1 → wI W1 → W1.2.2.2.1 + pS W1.1 0 5 ≤ 600 → itN (tkC s) (fun _ => inferInstance) (tkS s) (10000 - (k + 1)) W1 = itN (tkC s) (fun _ => inferInstance) (tkS s) 10000 W → mj_T K d 22 2 [some (.inr (.inr (.inl 69))), some (.inl (s 42)), some (.inl (((k + 1) : Nat) : Int)), sv o3] [] (mj_Sh, M1, N) (fun r Z => r = none ∧ ∃ M1, Z = (mj_Sh, M1, N) ∧ (∀ c, c < 69 ∨ 69 < c ∧ c < 78 ∨ 83 < c → M1 c = M c) ∧ cPl 69 M1 s (itN (tkC s) (fun _ => inferInstance) (tkS s) 10000 W)) := ih
      show ∀ o3 (W1 : WS) (M1 : Nat → Nat → Int), (∀ c, c < 69 ∨ 69 < c ∧ c < 78 ∨ 83 < c → M1 c = M c) → cPl 69 M1 s W1 → wI W1 → W1.2.2.2.1 + pS W1.1 0 5 ≤ 600 → itN (tkC s) (fun _ => inferInstance) (tkS s) (10000 - k) W1 = itN (tkC s) (fun _ => inferInstance) (tkS s) 10000 W → mj_T K d 22 2 [some (.inr (.inr (.inl 69))), some (.inl (s 42)), some (.inl ((k : Nat) : Int)), sv o3] [] (mj_Sh, M1, N) (fun r Z => r = none ∧ ∃ M1, Z = (mj_Sh, M1, N) ∧ (∀ c, c < 69 ∨ 69 < c ∧ c < 78 ∨ 83 < c → M1 c = M c) ∧ cPl 69 M1 s (itN (tkC s) (fun _ => inferInstance) (tkS s) 10000 W))
      intro o3 W1 M1 hf hC hI hV hit
      obtain ⟨p11, p12, p13, p14, p15, hpp, hpg, hpd⟩ := hC
      by_cases hc : tkC s W1
      · have hI2 := tk_I hs hI hV hc
        have hyy := tk_y hs hI hc
        have hI1 := hI.2
        have hps := (pS_mem 5 (fun i hi => (hI.1 i hi).1) (show 0 < 5 by omega)).2
        have hyY : (pBk W1.1 ((wGr s W1).2.2.1 (tkG s W1 (wGr s W1)))) < Y := by
          have h1 := (wGr_ok s W1).2.1 _ hc
          have ⟨h2, _⟩ := pFd_sp (P := fun g => ((wGr s W1).2.2.2 g : Int) < s 42 ∧ ¬ gTot W1.1 (wGr s W1) g = 0) (dP := fun _ => inferInstance) (wGr s W1).1 0
          have h3 : ¬ gTot W1.1 (wGr s W1) (tkG s W1 (wGr s W1)) = 0 := by
            rcases h2 with ⟨_, b, _⟩ | a
            · exact b.2
            · have hc3 : tkG s W1 (wGr s W1) < (wGr s W1).1 := hc
              unfold tkG at hc3; omega
          obtain ⟨b1, b2, b3, b4⟩ := pBk_sp (perm := W1.1) _ _ h1.1 h3
          omega
        have hpy := wI_p hI (pBk W1.1 ((wGr s W1).2.2.1 (tkG s W1 (wGr s W1)))) (by omega)
        have hit2 := hit
        rw [show 10000 - k = (10000 - (k + 1)) + 1 by omega, itN, if_pos hc] at hit2
        have hrv : (if tkG s W1 (wGr s W1) < (wGr s W1).1 then ((pBk W1.1 ((wGr s W1).2.2.1 (tkG s W1 (wGr s W1))) : Nat) : Int) else -1) = (((pBk W1.1 ((wGr s W1).2.2.1 (tkG s W1 (wGr s W1)))) : Nat) : Int) := if_pos hc
        refine tw_iload k22_2 rfl ?_
        refine tw_const k22_3 ?_
        refine tw_cgeF k22_6 (by omega) ?_
        refine tw_aload k22_9 rfl ?_
        refine tw_iload k22_10 rfl ?_
        refine tw_callp (v := .inl (if tkG s W1 (wGr s W1) < (wGr s W1).1 then ((pBk W1.1 ((wGr s W1).2.2.1 (tkG s W1 (wGr s W1))) : Nat) : Int) else -1)) (by omega) (S' := []) (as := [.inr (.inr (.inl 69)), .inl (s 42)]) k22_11 (x_23_69 (M := M1) (N := N) s hs (wGr s W1) (wGr_ok s W1) hpg W1 (fun y hy => (hpp y hy).1) (wI_p hI)) rfl rfl rfl rfl rfl ?_
        refine tw_eqS (S' := [.inl (((pBk W1.1 ((wGr s W1).2.2.1 (tkG s W1 (wGr s W1)))) : Nat) : Int)]) (e_c (congrArg Sum.inl hrv) rfl) ?_
        refine tw_istore k22_14 rfl (L' := [some (.inr (.inr (.inl 69))), some (.inl (s 42)), some (.inl ((k : Nat) : Int)), some (.inl (((pBk W1.1 ((wGr s W1).2.2.1 (tkG s W1 (wGr s W1)))) : Nat) : Int))]) rfl ?_
        refine tw_iload k22_15 rfl ?_
        refine tw_zgeT k22_16 (by omega) ?_
        refine tw_aload k22_20 rfl ?_
        refine tw_getr k22_21 f69_2 ?_
        refine tw_iload k22_24 rfl ?_
        refine tw_dup2 k22_25 ?_
        refine tw_iald (j := (pBk W1.1 ((wGr s W1).2.2.1 (tkG s W1 (wGr s W1))))) (v := (W1.1 (pBk W1.1 ((wGr s W1).2.2.1 (tkG s W1 (wGr s W1)))))) k22_26 al82 rfl (by omega) (hpp (pBk W1.1 ((wGr s W1).2.2.1 (tkG s W1 (wGr s W1)))) (by omega)).1 ?_
        refine tw_const k22_27 ?_
        refine tw_isub k22_28 (v := ((W1.1 (pBk W1.1 ((wGr s W1).2.2.1 (tkG s W1 (wGr s W1))))) - (1 : Int))) rfl (by omega) ?_
        refine tw_iast (M := M1) (N := N) (l := []) (l' := [(82, (pU (M1 82) (pBk W1.1 ((wGr s W1).2.2.1 (tkG s W1 (wGr s W1)))) ((W1.1 (pBk W1.1 ((wGr s W1).2.2.1 (tkG s W1 (wGr s W1))))) - (1 : Int))))]) (j := (pBk W1.1 ((wGr s W1).2.2.1 (tkG s W1 (wGr s W1))))) k22_29 al82 rfl (by omega) rfl ?_
        refine tw_aload k22_30 rfl ?_
        refine tw_dupr k22_31 ?_
        refine tw_geti k22_32 f69_12 rfl (v := W1.2.2.1) (show M1 69 12 = _ from p12) ?_
        refine tw_const k22_35 ?_
        refine tw_iadd k22_36 (v := (W1.2.2.1 + (1 : Int))) rfl (by omega) ?_
        refine tw_puti (M := M1) (N := N) (l := [(82, (pU (M1 82) (pBk W1.1 ((wGr s W1).2.2.1 (tkG s W1 (wGr s W1)))) ((W1.1 (pBk W1.1 ((wGr s W1).2.2.1 (tkG s W1 (wGr s W1))))) - (1 : Int))))]) (l' := [(82, (pU (M1 82) (pBk W1.1 ((wGr s W1).2.2.1 (tkG s W1 (wGr s W1)))) ((W1.1 (pBk W1.1 ((wGr s W1).2.2.1 (tkG s W1 (wGr s W1))))) - (1 : Int)))), (69, (pU (M1 69) 12 (W1.2.2.1 + (1 : Int))))]) k22_37 f69_12 rfl ?_
        refine tw_aload k22_40 rfl ?_
        refine tw_dupr k22_41 ?_
        refine tw_geti k22_42 f69_13 rfl (v := W1.2.2.2.1) (show (pU (M1 69) 12 (W1.2.2.1 + (1 : Int))) 13 = _ from (by rw [pU_ne (by omega)]; exact p13)) ?_
        refine tw_const k22_45 ?_
        refine tw_iadd k22_46 (v := (W1.2.2.2.1 + (1 : Int))) rfl (by omega) ?_
        refine tw_puti (M := M1) (N := N) (l := [(82, (pU (M1 82) (pBk W1.1 ((wGr s W1).2.2.1 (tkG s W1 (wGr s W1)))) ((W1.1 (pBk W1.1 ((wGr s W1).2.2.1 (tkG s W1 (wGr s W1))))) - (1 : Int)))), (69, (pU (M1 69) 12 (W1.2.2.1 + (1 : Int))))]) (l' := [(82, (pU (M1 82) (pBk W1.1 ((wGr s W1).2.2.1 (tkG s W1 (wGr s W1)))) ((W1.1 (pBk W1.1 ((wGr s W1).2.2.1 (tkG s W1 (wGr s W1))))) - (1 : Int)))), (69, (pU (pU (M1 69) 12 (W1.2.2.1 + (1 : Int))) 13 (W1.2.2.2.1 + (1 : Int))))]) k22_47 f69_13 rfl ?_
        refine tw_aload k22_50 rfl ?_
        refine tw_getr k22_51 f69_1 ?_
        refine tw_aload k22_54 rfl ?_
        refine tw_getr k22_55 f69_0 ?_
        refine tw_aload k22_58 rfl ?_
        refine tw_getr k22_59 f69_2 ?_
        refine tw_aload k22_62 rfl ?_
        refine tw_geti k22_63 f69_11 rfl (v := ((Y : Nat) : Int)) (show (pU (pU (M1 69) 12 (W1.2.2.1 + (1 : Int))) 13 (W1.2.2.2.1 + (1 : Int))) 11 = _ from (by rw [pU_ne (by omega)]; rw [pU_ne (by omega)]; exact p11.trans hY0)) ?_
        refine tw_call (by omega) (S' := []) (as := [.inr (.inr (.inl 78)), .inr (.inr (.inl 70)), .inr (.inr (.inl 82)), .inl ((Y : Nat) : Int)]) k22_66 (x_7_69 (M := (st M1 [(82, (pU (M1 82) (pBk W1.1 ((wGr s W1).2.2.1 (tkG s W1 (wGr s W1)))) ((W1.1 (pBk W1.1 ((wGr s W1).2.2.1 (tkG s W1 (wGr s W1))))) - (1 : Int)))), (69, (pU (pU (M1 69) 12 (W1.2.2.1 + (1 : Int))) 13 (W1.2.2.2.1 + (1 : Int))))])) (N := N) (by omega) s hs (dM_fr hs hpd (fun c _ _ => by rw [st_c, if_neg (by omega), st_c, if_neg (by omega), st_nil])) Y hYe (tkS s W1).1 (fun y hy => by show pU (M1 82) _ _ y = pU W1.1 _ _ y; unfold pU; rw [(hpp y (by omega)).1]) (wI_p hI2.1)) rfl rfl rfl rfl rfl (fun r66 Z66 hq66 => ?_)
        obtain ⟨rfl, f0, f1, f2, f3, rfl, hG2⟩ := hq66
        refine tw_as (S := []) (M := (st M1 [(82, (pU (M1 82) (pBk W1.1 ((wGr s W1).2.2.1 (tkG s W1 (wGr s W1)))) ((W1.1 (pBk W1.1 ((wGr s W1).2.2.1 (tkG s W1 (wGr s W1))))) - (1 : Int)))), (69, (pU (pU (M1 69) 12 (W1.2.2.1 + (1 : Int))) 13 (W1.2.2.2.1 + (1 : Int)))), (81, f3), (80, f2), (79, f1), (78, f0)])) (N := N) (by rw [st_mg]; rfl) rfl ?_
        refine tw_iinc k22_69 rfl (v := ((k + 1 : Nat) : Int)) rfl (by omega) rfl (L' := [some (.inr (.inr (.inl 69))), some (.inl (s 42)), some (.inl ((k + 1 : Nat) : Int)), some (.inl (((pBk W1.1 ((wGr s W1).2.2.1 (tkG s W1 (wGr s W1)))) : Nat) : Int))]) rfl ?_
        refine tw_goto k22_72 ?_
        have hG2' : gRel (f0 3) f1 f2 f3 (wGr s (tkS s W1)) := by unfold wGr; rw [← hYe]; exact hG2
        refine ih (some (.inl (((pBk W1.1 ((wGr s W1).2.2.1 (tkG s W1 (wGr s W1)))) : Nat) : Int))) (tkS s W1) _ (fun c hc => ?_) ?_ hI2.1 hI2.2.1 (by rw [← hit2])
        · rw [st_c, if_neg (by omega), st_c, if_neg (by omega), st_c, if_neg (by omega), st_c, if_neg (by omega), st_c, if_neg (by omega), st_c, if_neg (by omega), st_nil]; exact hf c hc
        · refine ⟨?_, ?_, ?_, ?_, ?_, fun y hy => ⟨?_, ?_⟩, hG2', dM_fr hs hpd (fun c _ _ => by rw [st_c, if_neg (by omega), st_c, if_neg (by omega), st_c, if_neg (by omega), st_c, if_neg (by omega), st_c, if_neg (by omega), st_c, if_neg (by omega), st_nil])⟩
          · show (pU (pU (M1 69) 12 (W1.2.2.1 + (1 : Int))) 13 (W1.2.2.2.1 + (1 : Int))) 11 = _
            rw [pU_ne (by omega)]; rw [pU_ne (by omega)]; exact p11
          · show (pU (pU (M1 69) 12 (W1.2.2.1 + (1 : Int))) 13 (W1.2.2.2.1 + (1 : Int))) 12 = _
            rw [pU_ne (by omega)]; rw [pU_eq]; rfl
          · show (pU (pU (M1 69) 12 (W1.2.2.1 + (1 : Int))) 13 (W1.2.2.2.1 + (1 : Int))) 13 = _
            rw [pU_eq]; rfl
          · show (pU (pU (M1 69) 12 (W1.2.2.1 + (1 : Int))) 13 (W1.2.2.2.1 + (1 : Int))) 14 = _
            rw [pU_ne (by omega)]; rw [pU_ne (by omega)]; exact p14
          · show (pU (pU (M1 69) 12 (W1.2.2.1 + (1 : Int))) 13 (W1.2.2.2.1 + (1 : Int))) 15 = _
            rw [pU_ne (by omega)]; rw [pU_ne (by omega)]; exact p15
          · show pU (M1 82) _ _ y = pU W1.1 _ _ y
            unfold pU; rw [(hpp y hy).1]
          · exact (hpp y hy).2
      · have hrv : (if tkG s W1 (wGr s W1) < (wGr s W1).1 then ((pBk W1.1 ((wGr s W1).2.2.1 (tkG s W1 (wGr s W1))) : Nat) : Int) else -1) = (-1 : Int) := if_neg hc
        refine tw_iload k22_2 rfl ?_
        refine tw_const k22_3 ?_
        refine tw_cgeF k22_6 (by omega) ?_
        refine tw_aload k22_9 rfl ?_
        refine tw_iload k22_10 rfl ?_
        refine tw_callp (v := .inl (if tkG s W1 (wGr s W1) < (wGr s W1).1 then ((pBk W1.1 ((wGr s W1).2.2.1 (tkG s W1 (wGr s W1))) : Nat) : Int) else -1)) (by omega) (S' := []) (as := [.inr (.inr (.inl 69)), .inl (s 42)]) k22_11 (x_23_69 (M := M1) (N := N) s hs (wGr s W1) (wGr_ok s W1) hpg W1 (fun y hy => (hpp y hy).1) (wI_p hI)) rfl rfl rfl rfl rfl ?_
        refine tw_eqS (S' := [.inl (-1 : Int)]) (e_c (congrArg Sum.inl hrv) rfl) ?_
        refine tw_istore k22_14 rfl (L' := [some (.inr (.inr (.inl 69))), some (.inl (s 42)), some (.inl ((k : Nat) : Int)), some (.inl (-1 : Int))]) rfl ?_
        refine tw_iload k22_15 rfl ?_
        refine tw_zgeF k22_16 (by decide) ?_
        exact tw_rv k22_19 (⟨rfl, M1, rfl, hf, by rw [← hit, show 10000 - k = (10000 - (k + 1)) + 1 by omega, itN, if_neg hc]; exact ⟨p11, p12, p13, p14, p15, hpp, hpg, hpd⟩⟩)
  refine tw_const k22_0 ?_
  refine tw_istore k22_1 rfl (L' := [some (.inr (.inr (.inl 69))), some (.inl (s 42)), some (.inl (0 : Int)), none]) rfl ?_
  exact key 0 (by omega) none _ _ (fun c _ => rfl) hC hI hV rfl
theorem x_24_69 {K : mj_C} {d : Nat} {M : Nat → Nat → Int} {N : Nat → Nat → Int64} (hD : 3 ≤ d) (s : Nat → Int) (hs : pRg s) (W : WS) (hC : cPl 69 M s W) (hI : wI W) (hV : W.2.2.2.2 + W.2.2.1 ≤ 600) : mj_X K d 24 [.inr (.inr (.inl 69)), .inl (s 43)] (mj_Sh, M, N) (fun r Z => r = none ∧ ∃ M1, Z = (mj_Sh, M1, N) ∧ (∀ c, c < 69 ∨ 69 < c ∧ c < 78 ∨ 83 < c → M1 c = M c) ∧ cPl 69 M1 s (itN (gvC s) (fun _ => inferInstance) (gvS s) 10000 W)) := by
  show mj_T K d 24 0 [some (.inr (.inr (.inl 69))), some (.inl (s 43)), none, none] [] (mj_Sh, M, N) _
  have h0 := hs.1 0 (by omega)
  have h5 := hs.2.1
  obtain ⟨Y, hYe⟩ : ∃ Y : Nat, Y = (s 0).toNat := ⟨_, rfl⟩
  have hY0 : s 0 = (Y : Int) := by omega
  have h5' := h5
  have key : ∀ k : Nat, k ≤ 10000 → ∀ o3 (W1 : WS) (M1 : Nat → Nat → Int), (∀ c, c < 69 ∨ 69 < c ∧ c < 78 ∨ 83 < c → M1 c = M c) → cPl 69 M1 s W1 → wI W1 → W1.2.2.2.2 + W1.2.2.1 ≤ 600 → itN (gvC s) (fun _ => inferInstance) (gvS s) (10000 - k) W1 = itN (gvC s) (fun _ => inferInstance) (gvS s) 10000 W → mj_T K d 24 2 [some (.inr (.inr (.inl 69))), some (.inl (s 43)), some (.inl ((k : Nat) : Int)), sv o3] [] (mj_Sh, M1, N) (fun r Z => r = none ∧ ∃ M1, Z = (mj_Sh, M1, N) ∧ (∀ c, c < 69 ∨ 69 < c ∧ c < 78 ∨ 83 < c → M1 c = M c) ∧ cPl 69 M1 s (itN (gvC s) (fun _ => inferInstance) (gvS s) 10000 W)) := by
    refine up_to 10000 ?_ ?_
    · show ∀ o3 (W1 : WS) (M1 : Nat → Nat → Int), (∀ c, c < 69 ∨ 69 < c ∧ c < 78 ∨ 83 < c → M1 c = M c) → cPl 69 M1 s W1 → wI W1 → W1.2.2.2.2 + W1.2.2.1 ≤ 600 → itN (gvC s) (fun _ => inferInstance) (gvS s) (10000 - 10000) W1 = itN (gvC s) (fun _ => inferInstance) (gvS s) 10000 W → mj_T K d 24 2 [some (.inr (.inr (.inl 69))), some (.inl (s 43)), some (.inl ((10000 : Nat) : Int)), sv o3] [] (mj_Sh, M1, N) (fun r Z => r = none ∧ ∃ M1, Z = (mj_Sh, M1, N) ∧ (∀ c, c < 69 ∨ 69 < c ∧ c < 78 ∨ 83 < c → M1 c = M c) ∧ cPl 69 M1 s (itN (gvC s) (fun _ => inferInstance) (gvS s) 10000 W))
      intro o3 W1 M1 hf hC hI hV hit
      refine tw_iload k24_2 rfl ?_
      refine tw_const k24_3 ?_
      refine tw_cgeT k24_6 (by omega) ?_
      exact tw_rv k24_82 (⟨rfl, M1, rfl, hf, by rw [← hit, Nat.sub_self, itN]; exact hC⟩)
    · intro k hmk ih
      have ih : ∀ o3 (W1 : WS) (M1 : Nat → Nat → Int), (∀ c, c < 69 ∨ 69 < c ∧ c < 78 ∨ 83 < c → M1 c = M c) → cPl 69 M1 s W1 → wI W1 → W1.2.2.2.2 + W1.2.2.1 ≤ 600 → itN (gvC s) (fun _ => inferInstance) (gvS s) (10000 - (k + 1)) W1 = itN (gvC s) (fun _ => inferInstance) (gvS s) 10000 W → mj_T K d 24 2 [some (.inr (.inr (.inl 69))), some (.inl (s 43)), some (.inl (((k + 1) : Nat) : Int)), sv o3] [] (mj_Sh, M1, N) (fun r Z => r = none ∧ ∃ M1, Z = (mj_Sh, M1, N) ∧ (∀ c, c < 69 ∨ 69 < c ∧ c < 78 ∨ 83 < c → M1 c = M c) ∧ cPl 69 M1 s (itN (gvC s) (fun _ => inferInstance) (gvS s) 10000 W)) := ih
      show ∀ o3 (W1 : WS) (M1 : Nat → Nat → Int), (∀ c, c < 69 ∨ 69 < c ∧ c < 78 ∨ 83 < c → M1 c = M c) → cPl 69 M1 s W1 → wI W1 → W1.2.2.2.2 + W1.2.2.1 ≤ 600 → itN (gvC s) (fun _ => inferInstance) (gvS s) (10000 - k) W1 = itN (gvC s) (fun _ => inferInstance) (gvS s) 10000 W → mj_T K d 24 2 [some (.inr (.inr (.inl 69))), some (.inl (s 43)), some (.inl ((k : Nat) : Int)), sv o3] [] (mj_Sh, M1, N) (fun r Z => r = none ∧ ∃ M1, Z = (mj_Sh, M1, N) ∧ (∀ c, c < 69 ∨ 69 < c ∧ c < 78 ∨ 83 < c → M1 c = M c) ∧ cPl 69 M1 s (itN (gvC s) (fun _ => inferInstance) (gvS s) 10000 W))
      intro o3 W1 M1 hf hC hI hV hit
      obtain ⟨p11, p12, p13, p14, p15, hpp, hpg, hpd⟩ := hC
      by_cases hc : gvC s W1
      · have hI2 := gv_I hs hI hV hc
        have hyy := gv_y hs hc
        have hI1 := hI.2
        have hby := wI_p hI _ hyy
        have hgo := (wGr_ok s W1).2.1 _ hc.2
        have hit2 := hit
        rw [show 10000 - k = (10000 - (k + 1)) + 1 by omega, itN, if_pos hc] at hit2
        have hrv : (if gvG s (wGr s W1) < (wGr s W1).1 then (((wGr s W1).2.1 (gvG s (wGr s W1)) : Nat) : Int) else -1) = ((((wGr s W1).2.1 (gvG s (wGr s W1))) : Nat) : Int) := if_pos hc.2
        refine tw_iload k24_2 rfl ?_
        refine tw_const k24_3 ?_
        refine tw_cgeF k24_6 (by omega) ?_
        refine tw_aload k24_9 rfl ?_
        refine tw_geti k24_10 f69_12 rfl (v := W1.2.2.1) p12 ?_
        refine tw_zleF k24_13 (by have := hc.1; omega) ?_
        refine tw_aload k24_16 rfl ?_
        refine tw_iload k24_17 rfl ?_
        refine tw_callp (v := .inl (if gvG s (wGr s W1) < (wGr s W1).1 then (((wGr s W1).2.1 (gvG s (wGr s W1)) : Nat) : Int) else -1)) (by omega) (S' := []) (as := [.inr (.inr (.inl 69)), .inl (s 43)]) k24_18 (x_25_69 (M := M1) (N := N) s hs (wGr s W1) (wGr_ok s W1) hpg W1 (fun y hy => (hpp y hy).1) (wI_p hI)) rfl rfl rfl rfl rfl ?_
        refine tw_eqS (S' := [.inl ((((wGr s W1).2.1 (gvG s (wGr s W1))) : Nat) : Int)]) (e_c (congrArg Sum.inl hrv) rfl) ?_
        refine tw_istore k24_21 rfl (L' := [some (.inr (.inr (.inl 69))), some (.inl (s 43)), some (.inl ((k : Nat) : Int)), some (.inl ((((wGr s W1).2.1 (gvG s (wGr s W1))) : Nat) : Int))]) rfl ?_
        refine tw_iload k24_22 rfl ?_
        refine tw_zgeT k24_23 (by omega) ?_
        refine tw_aload k24_27 rfl ?_
        refine tw_getr k24_28 f69_2 ?_
        refine tw_iload k24_31 rfl ?_
        refine tw_dup2 k24_32 ?_
        refine tw_iald (j := ((wGr s W1).2.1 (gvG s (wGr s W1)))) (v := (W1.1 ((wGr s W1).2.1 (gvG s (wGr s W1))))) k24_33 al82 rfl (by omega) (hpp ((wGr s W1).2.1 (gvG s (wGr s W1))) (by omega)).1 ?_
        refine tw_const k24_34 ?_
        refine tw_iadd k24_35 (v := ((W1.1 ((wGr s W1).2.1 (gvG s (wGr s W1)))) + (1 : Int))) rfl (by omega) ?_
        refine tw_iast (M := M1) (N := N) (l := []) (l' := [(82, (pU (M1 82) ((wGr s W1).2.1 (gvG s (wGr s W1))) ((W1.1 ((wGr s W1).2.1 (gvG s (wGr s W1)))) + (1 : Int))))]) (j := ((wGr s W1).2.1 (gvG s (wGr s W1)))) k24_36 al82 rfl (by omega) rfl ?_
        refine tw_aload k24_37 rfl ?_
        refine tw_dupr k24_38 ?_
        refine tw_geti k24_39 f69_12 rfl (v := W1.2.2.1) (show M1 69 12 = _ from p12) ?_
        refine tw_const k24_42 ?_
        refine tw_isub k24_43 (v := (W1.2.2.1 - (1 : Int))) rfl (by omega) ?_
        refine tw_puti (M := M1) (N := N) (l := [(82, (pU (M1 82) ((wGr s W1).2.1 (gvG s (wGr s W1))) ((W1.1 ((wGr s W1).2.1 (gvG s (wGr s W1)))) + (1 : Int))))]) (l' := [(82, (pU (M1 82) ((wGr s W1).2.1 (gvG s (wGr s W1))) ((W1.1 ((wGr s W1).2.1 (gvG s (wGr s W1)))) + (1 : Int)))), (69, (pU (M1 69) 12 (W1.2.2.1 - (1 : Int))))]) k24_44 f69_12 rfl ?_
        refine tw_aload k24_47 rfl ?_
        refine tw_dupr k24_48 ?_
        refine tw_geti k24_49 f69_14 rfl (v := W1.2.2.2.2) (show (pU (M1 69) 12 (W1.2.2.1 - (1 : Int))) 14 = _ from (by rw [pU_ne (by omega)]; exact p14)) ?_
        refine tw_const k24_52 ?_
        refine tw_iadd k24_53 (v := (W1.2.2.2.2 + (1 : Int))) rfl (by omega) ?_
        refine tw_puti (M := M1) (N := N) (l := [(82, (pU (M1 82) ((wGr s W1).2.1 (gvG s (wGr s W1))) ((W1.1 ((wGr s W1).2.1 (gvG s (wGr s W1)))) + (1 : Int)))), (69, (pU (M1 69) 12 (W1.2.2.1 - (1 : Int))))]) (l' := [(82, (pU (M1 82) ((wGr s W1).2.1 (gvG s (wGr s W1))) ((W1.1 ((wGr s W1).2.1 (gvG s (wGr s W1)))) + (1 : Int)))), (69, (pU (pU (M1 69) 12 (W1.2.2.1 - (1 : Int))) 14 (W1.2.2.2.2 + (1 : Int))))]) k24_54 f69_14 rfl ?_
        refine tw_aload k24_57 rfl ?_
        refine tw_getr k24_58 f69_1 ?_
        refine tw_aload k24_61 rfl ?_
        refine tw_getr k24_62 f69_0 ?_
        refine tw_aload k24_65 rfl ?_
        refine tw_getr k24_66 f69_2 ?_
        refine tw_aload k24_69 rfl ?_
        refine tw_geti k24_70 f69_11 rfl (v := ((Y : Nat) : Int)) (show (pU (pU (M1 69) 12 (W1.2.2.1 - (1 : Int))) 14 (W1.2.2.2.2 + (1 : Int))) 11 = _ from (by rw [pU_ne (by omega)]; rw [pU_ne (by omega)]; exact p11.trans hY0)) ?_
        refine tw_call (by omega) (S' := []) (as := [.inr (.inr (.inl 78)), .inr (.inr (.inl 70)), .inr (.inr (.inl 82)), .inl ((Y : Nat) : Int)]) k24_73 (x_7_69 (M := (st M1 [(82, (pU (M1 82) ((wGr s W1).2.1 (gvG s (wGr s W1))) ((W1.1 ((wGr s W1).2.1 (gvG s (wGr s W1)))) + (1 : Int)))), (69, (pU (pU (M1 69) 12 (W1.2.2.1 - (1 : Int))) 14 (W1.2.2.2.2 + (1 : Int))))])) (N := N) (by omega) s hs (dM_fr hs hpd (fun c _ _ => by rw [st_c, if_neg (by omega), st_c, if_neg (by omega), st_nil])) Y hYe (gvS s W1).1 (fun y hy => by show pU (M1 82) _ _ y = pU W1.1 _ _ y; unfold pU; rw [(hpp y (by omega)).1]) (wI_p hI2.1)) rfl rfl rfl rfl rfl (fun r73 Z73 hq73 => ?_)
        obtain ⟨rfl, f0, f1, f2, f3, rfl, hG2⟩ := hq73
        refine tw_as (S := []) (M := (st M1 [(82, (pU (M1 82) ((wGr s W1).2.1 (gvG s (wGr s W1))) ((W1.1 ((wGr s W1).2.1 (gvG s (wGr s W1)))) + (1 : Int)))), (69, (pU (pU (M1 69) 12 (W1.2.2.1 - (1 : Int))) 14 (W1.2.2.2.2 + (1 : Int)))), (81, f3), (80, f2), (79, f1), (78, f0)])) (N := N) (by rw [st_mg]; rfl) rfl ?_
        refine tw_iinc k24_76 rfl (v := ((k + 1 : Nat) : Int)) rfl (by omega) rfl (L' := [some (.inr (.inr (.inl 69))), some (.inl (s 43)), some (.inl ((k + 1 : Nat) : Int)), some (.inl ((((wGr s W1).2.1 (gvG s (wGr s W1))) : Nat) : Int))]) rfl ?_
        refine tw_goto k24_79 ?_
        have hG2' : gRel (f0 3) f1 f2 f3 (wGr s (gvS s W1)) := by unfold wGr; rw [← hYe]; exact hG2
        refine ih (some (.inl ((((wGr s W1).2.1 (gvG s (wGr s W1))) : Nat) : Int))) (gvS s W1) _ (fun c hc => ?_) ?_ hI2.1 hI2.2.1 (by rw [← hit2])
        · rw [st_c, if_neg (by omega), st_c, if_neg (by omega), st_c, if_neg (by omega), st_c, if_neg (by omega), st_c, if_neg (by omega), st_c, if_neg (by omega), st_nil]; exact hf c hc
        · refine ⟨?_, ?_, ?_, ?_, ?_, fun y hy => ⟨?_, ?_⟩, hG2', dM_fr hs hpd (fun c _ _ => by rw [st_c, if_neg (by omega), st_c, if_neg (by omega), st_c, if_neg (by omega), st_c, if_neg (by omega), st_c, if_neg (by omega), st_c, if_neg (by omega), st_nil])⟩
          · show (pU (pU (M1 69) 12 (W1.2.2.1 - (1 : Int))) 14 (W1.2.2.2.2 + (1 : Int))) 11 = _
            rw [pU_ne (by omega)]; rw [pU_ne (by omega)]; exact p11
          · show (pU (pU (M1 69) 12 (W1.2.2.1 - (1 : Int))) 14 (W1.2.2.2.2 + (1 : Int))) 12 = _
            rw [pU_ne (by omega)]; rw [pU_eq]; rfl
          · show (pU (pU (M1 69) 12 (W1.2.2.1 - (1 : Int))) 14 (W1.2.2.2.2 + (1 : Int))) 13 = _
            rw [pU_ne (by omega)]; rw [pU_ne (by omega)]; exact p13
          · show (pU (pU (M1 69) 12 (W1.2.2.1 - (1 : Int))) 14 (W1.2.2.2.2 + (1 : Int))) 14 = _
            rw [pU_eq]; rfl
          · show (pU (pU (M1 69) 12 (W1.2.2.1 - (1 : Int))) 14 (W1.2.2.2.2 + (1 : Int))) 15 = _
            rw [pU_ne (by omega)]; rw [pU_ne (by omega)]; exact p15
          · show pU (M1 82) _ _ y = pU W1.1 _ _ y
            unfold pU; rw [(hpp y hy).1]
          · exact (hpp y hy).2
      · by_cases hr0 : 0 < W1.2.2.1
        · have hrv : (if gvG s (wGr s W1) < (wGr s W1).1 then (((wGr s W1).2.1 (gvG s (wGr s W1)) : Nat) : Int) else -1) = (-1 : Int) := if_neg (fun q => hc ⟨hr0, q⟩)
          refine tw_iload k24_2 rfl ?_
          refine tw_const k24_3 ?_
          refine tw_cgeF k24_6 (by omega) ?_
          refine tw_aload k24_9 rfl ?_
          refine tw_geti k24_10 f69_12 rfl (v := W1.2.2.1) p12 ?_
          refine tw_zleF k24_13 (by omega) ?_
          refine tw_aload k24_16 rfl ?_
          refine tw_iload k24_17 rfl ?_
          refine tw_callp (v := .inl (if gvG s (wGr s W1) < (wGr s W1).1 then (((wGr s W1).2.1 (gvG s (wGr s W1)) : Nat) : Int) else -1)) (by omega) (S' := []) (as := [.inr (.inr (.inl 69)), .inl (s 43)]) k24_18 (x_25_69 (M := M1) (N := N) s hs (wGr s W1) (wGr_ok s W1) hpg W1 (fun y hy => (hpp y hy).1) (wI_p hI)) rfl rfl rfl rfl rfl ?_
          refine tw_eqS (S' := [.inl (-1 : Int)]) (e_c (congrArg Sum.inl hrv) rfl) ?_
          refine tw_istore k24_21 rfl (L' := [some (.inr (.inr (.inl 69))), some (.inl (s 43)), some (.inl ((k : Nat) : Int)), some (.inl (-1 : Int))]) rfl ?_
          refine tw_iload k24_22 rfl ?_
          refine tw_zgeF k24_23 (by decide) ?_
          exact tw_rv k24_26 (⟨rfl, M1, rfl, hf, by rw [← hit, show 10000 - k = (10000 - (k + 1)) + 1 by omega, itN, if_neg hc]; exact ⟨p11, p12, p13, p14, p15, hpp, hpg, hpd⟩⟩)
        · refine tw_iload k24_2 rfl ?_
          refine tw_const k24_3 ?_
          refine tw_cgeF k24_6 (by omega) ?_
          refine tw_aload k24_9 rfl ?_
          refine tw_geti k24_10 f69_12 rfl (v := W1.2.2.1) p12 ?_
          refine tw_zleT k24_13 (by omega) ?_
          exact tw_rv k24_82 (⟨rfl, M1, rfl, hf, by rw [← hit, show 10000 - k = (10000 - (k + 1)) + 1 by omega, itN, if_neg hc]; exact ⟨p11, p12, p13, p14, p15, hpp, hpg, hpd⟩⟩)
  refine tw_const k24_0 ?_
  refine tw_istore k24_1 rfl (L' := [some (.inr (.inr (.inl 69))), some (.inl (s 43)), some (.inl (0 : Int)), none]) rfl ?_
  exact key 0 (by omega) none _ _ (fun c _ => rfl) hC hI hV rfl
theorem x_26_69 {K : mj_C} {d : Nat} {M : Nat → Nat → Int} {N : Nat → Nat → Int64} (hD : 3 ≤ d) (s : Nat → Int) (hs : pRg s) (W : WS) (hC : cPl 69 M s W) (hI : wI W) : mj_X K d 26 [.inr (.inr (.inl 69)), .inl (s 45)] (mj_Sh, M, N) (fun r Z => r = none ∧ ∃ M1, Z = (mj_Sh, M1, N) ∧ (∀ c, c < 69 ∨ 69 < c ∧ c < 78 ∨ 83 < c → M1 c = M c) ∧ cPl 69 M1 s (itN (bwC s) (fun _ => inferInstance) (bwS s) 10000 W)) := by
  show mj_T K d 26 0 [some (.inr (.inr (.inl 69))), some (.inl (s 45)), none, none, none] [] (mj_Sh, M, N) _
  have h0 := hs.1 0 (by omega)
  have h5 := hs.2.1
  obtain ⟨Y, hYe⟩ : ∃ Y : Nat, Y = (s 0).toNat := ⟨_, rfl⟩
  have hY0 : s 0 = (Y : Int) := by omega
  have h5' := h5
  have key : ∀ k : Nat, k ≤ 10000 → ∀ o3 o4 (W1 : WS) (M1 : Nat → Nat → Int), (∀ c, c < 69 ∨ 69 < c ∧ c < 78 ∨ 83 < c → M1 c = M c) → cPl 69 M1 s W1 → wI W1 → itN (bwC s) (fun _ => inferInstance) (bwS s) (10000 - k) W1 = itN (bwC s) (fun _ => inferInstance) (bwS s) 10000 W → mj_T K d 26 2 [some (.inr (.inr (.inl 69))), some (.inl (s 45)), some (.inl ((k : Nat) : Int)), sv o3, sv o4] [] (mj_Sh, M1, N) (fun r Z => r = none ∧ ∃ M1, Z = (mj_Sh, M1, N) ∧ (∀ c, c < 69 ∨ 69 < c ∧ c < 78 ∨ 83 < c → M1 c = M c) ∧ cPl 69 M1 s (itN (bwC s) (fun _ => inferInstance) (bwS s) 10000 W)) := by
    refine up_to 10000 ?_ ?_
    · show ∀ o3 o4 (W1 : WS) (M1 : Nat → Nat → Int), (∀ c, c < 69 ∨ 69 < c ∧ c < 78 ∨ 83 < c → M1 c = M c) → cPl 69 M1 s W1 → wI W1 → itN (bwC s) (fun _ => inferInstance) (bwS s) (10000 - 10000) W1 = itN (bwC s) (fun _ => inferInstance) (bwS s) 10000 W → mj_T K d 26 2 [some (.inr (.inr (.inl 69))), some (.inl (s 45)), some (.inl ((10000 : Nat) : Int)), sv o3, sv o4] [] (mj_Sh, M1, N) (fun r Z => r = none ∧ ∃ M1, Z = (mj_Sh, M1, N) ∧ (∀ c, c < 69 ∨ 69 < c ∧ c < 78 ∨ 83 < c → M1 c = M c) ∧ cPl 69 M1 s (itN (bwC s) (fun _ => inferInstance) (bwS s) 10000 W))
      intro o3 o4 W1 M1 hf hC hI hit
      refine tw_iload k26_2 rfl ?_
      refine tw_const k26_3 ?_
      refine tw_cgeT k26_6 (by omega) ?_
      exact tw_rv k26_108 (⟨rfl, M1, rfl, hf, by rw [← hit, Nat.sub_self, itN]; exact hC⟩)
    · intro k hmk ih
      have ih : ∀ o3 o4 (W1 : WS) (M1 : Nat → Nat → Int), (∀ c, c < 69 ∨ 69 < c ∧ c < 78 ∨ 83 < c → M1 c = M c) → cPl 69 M1 s W1 → wI W1 → itN (bwC s) (fun _ => inferInstance) (bwS s) (10000 - (k + 1)) W1 = itN (bwC s) (fun _ => inferInstance) (bwS s) 10000 W → mj_T K d 26 2 [some (.inr (.inr (.inl 69))), some (.inl (s 45)), some (.inl (((k + 1) : Nat) : Int)), sv o3, sv o4] [] (mj_Sh, M1, N) (fun r Z => r = none ∧ ∃ M1, Z = (mj_Sh, M1, N) ∧ (∀ c, c < 69 ∨ 69 < c ∧ c < 78 ∨ 83 < c → M1 c = M c) ∧ cPl 69 M1 s (itN (bwC s) (fun _ => inferInstance) (bwS s) 10000 W)) := ih
      show ∀ o3 o4 (W1 : WS) (M1 : Nat → Nat → Int), (∀ c, c < 69 ∨ 69 < c ∧ c < 78 ∨ 83 < c → M1 c = M c) → cPl 69 M1 s W1 → wI W1 → itN (bwC s) (fun _ => inferInstance) (bwS s) (10000 - k) W1 = itN (bwC s) (fun _ => inferInstance) (bwS s) 10000 W → mj_T K d 26 2 [some (.inr (.inr (.inl 69))), some (.inl (s 45)), some (.inl ((k : Nat) : Int)), sv o3, sv o4] [] (mj_Sh, M1, N) (fun r Z => r = none ∧ ∃ M1, Z = (mj_Sh, M1, N) ∧ (∀ c, c < 69 ∨ 69 < c ∧ c < 78 ∨ 83 < c → M1 c = M c) ∧ cPl 69 M1 s (itN (bwC s) (fun _ => inferInstance) (bwS s) 10000 W))
      intro o3 o4 W1 M1 hf hC hI hit
      obtain ⟨p11, p12, p13, p14, p15, hpp, hpg, hpd⟩ := hC
      by_cases hc : bwC s W1
      · have hI2 := bw_I hs hI hc
        obtain ⟨hy1, hy2, hy3, hy4, hy5⟩ := bw_y hs hI hc
        have hI1 := hI.2
        have hby := wI_p hI _ hy1
        have hby2 := wI_p hI _ hy2
        have hqy := hI.1 _ hy1
        have hgn := (wGr_ok s W1).1
        have hgo := (wGr_ok s W1).2.1 _ hc
        have hgo3 := (wGr_ok s W1).2.1 (bwG s W1 (wGr s W1)) (by have hc2 : bwG s W1 (wGr s W1) + 1 < (wGr s W1).1 := hc; omega)
        have hc2 : bwG s W1 (wGr s W1) + 1 < (wGr s W1).1 := hc
        have hpq := pS_rg (f := W1.2.1) (a := 0) (B := 100) Y (fun i _ hi => (hI.1 i (by omega)).2)
        have hit2 := hit
        rw [show 10000 - k = (10000 - (k + 1)) + 1 by omega, itN, if_pos hc] at hit2
        have hrv : (if bwG s W1 (wGr s W1) + 1 < (wGr s W1).1 then ((bwG s W1 (wGr s W1) : Nat) : Int) else -1) = (((bwG s W1 (wGr s W1)) : Nat) : Int) := if_pos hc
        refine tw_iload k26_2 rfl ?_
        refine tw_const k26_3 ?_
        refine tw_cgeF k26_6 (by omega) ?_
        refine tw_aload k26_9 rfl ?_
        refine tw_iload k26_10 rfl ?_
        refine tw_callp (v := .inl (if bwG s W1 (wGr s W1) + 1 < (wGr s W1).1 then ((bwG s W1 (wGr s W1) : Nat) : Int) else -1)) (by omega) (S' := []) (as := [.inr (.inr (.inl 69)), .inl (s 45)]) k26_11 (x_27_69 (M := M1) (N := N) s hs (wGr s W1) (wGr_ok s W1) hpg W1 (fun y hy => (hpp y hy).1) (wI_p hI) (fun y hy => ⟨(hpp y hy).2, (hI.1 y (by omega)).2.1, by have := (hI.1 y (by omega)).2.2; omega⟩)) rfl rfl rfl rfl rfl ?_
        refine tw_eqS (S' := [.inl (((bwG s W1 (wGr s W1)) : Nat) : Int)]) (e_c (congrArg Sum.inl hrv) rfl) ?_
        refine tw_istore k26_14 rfl (L' := [some (.inr (.inr (.inl 69))), some (.inl (s 45)), some (.inl ((k : Nat) : Int)), some (.inl (((bwG s W1 (wGr s W1)) : Nat) : Int)), sv o4]) rfl ?_
        refine tw_iload k26_15 rfl ?_
        refine tw_zgeT k26_16 (by omega) ?_
        refine tw_aload k26_20 rfl ?_
        refine tw_getr k26_21 f69_1 ?_
        refine tw_getr k26_24 f78_1 ?_
        refine tw_iload k26_27 rfl ?_
        refine tw_iald (j := (bwG s W1 (wGr s W1))) (v := ((((wGr s W1).2.2.1 (bwG s W1 (wGr s W1))) : Nat) : Int)) k26_28 al80 rfl (by omega) (hpg.2 (bwG s W1 (wGr s W1)) (by omega)).2.1 ?_
        refine tw_istore k26_29 rfl (L' := [some (.inr (.inr (.inl 69))), some (.inl (s 45)), some (.inl ((k : Nat) : Int)), some (.inl (((bwG s W1 (wGr s W1)) : Nat) : Int)), some (.inl ((((wGr s W1).2.2.1 (bwG s W1 (wGr s W1))) : Nat) : Int))]) rfl ?_
        refine tw_aload k26_31 rfl ?_
        refine tw_getr k26_32 f69_2 ?_
        refine tw_aload k26_35 rfl ?_
        refine tw_getr k26_36 f69_1 ?_
        refine tw_getr k26_39 f78_0 ?_
        refine tw_iload k26_42 rfl ?_
        refine tw_const k26_43 ?_
        refine tw_iadd k26_44 (v := (((bwG s W1 (wGr s W1)) + 1 : Nat) : Int)) rfl (by omega) ?_
        refine tw_iald (j := (bwG s W1 (wGr s W1)) + 1) (v := ((((wGr s W1).2.1 ((bwG s W1 (wGr s W1)) + 1)) : Nat) : Int)) k26_45 al79 rfl (by omega) (hpg.2 ((bwG s W1 (wGr s W1)) + 1) (by omega)).1 ?_
        refine tw_dup2 k26_46 ?_
        refine tw_iald (j := ((wGr s W1).2.1 ((bwG s W1 (wGr s W1)) + 1))) (v := (W1.1 ((wGr s W1).2.1 ((bwG s W1 (wGr s W1)) + 1)))) k26_47 al82 rfl (by omega) (hpp ((wGr s W1).2.1 ((bwG s W1 (wGr s W1)) + 1)) (by omega)).1 ?_
        refine tw_const k26_48 ?_
        refine tw_isub k26_49 (v := ((W1.1 ((wGr s W1).2.1 ((bwG s W1 (wGr s W1)) + 1))) - (1 : Int))) rfl (by omega) ?_
        refine tw_iast (M := M1) (N := N) (l := []) (l' := [(82, (pU (M1 82) ((wGr s W1).2.1 ((bwG s W1 (wGr s W1)) + 1)) ((W1.1 ((wGr s W1).2.1 ((bwG s W1 (wGr s W1)) + 1))) - (1 : Int))))]) (j := ((wGr s W1).2.1 ((bwG s W1 (wGr s W1)) + 1))) k26_50 al82 rfl (by omega) rfl ?_
        refine tw_aload k26_51 rfl ?_
        refine tw_getr k26_52 f69_2 ?_
        refine tw_iload k26_55 rfl ?_
        refine tw_dup2 k26_57 ?_
        refine tw_iald (j := ((wGr s W1).2.2.1 (bwG s W1 (wGr s W1)))) (v := (W1.1 ((wGr s W1).2.2.1 (bwG s W1 (wGr s W1))))) k26_58 al82 rfl (by omega) (show (pU (M1 82) ((wGr s W1).2.1 ((bwG s W1 (wGr s W1)) + 1)) ((W1.1 ((wGr s W1).2.1 ((bwG s W1 (wGr s W1)) + 1))) - (1 : Int))) ((wGr s W1).2.2.1 (bwG s W1 (wGr s W1))) = _ from (by rw [pU_ne (by omega)]; exact (hpp ((wGr s W1).2.2.1 (bwG s W1 (wGr s W1))) (by omega)).1)) ?_
        refine tw_const k26_59 ?_
        refine tw_iadd k26_60 (v := ((W1.1 ((wGr s W1).2.2.1 (bwG s W1 (wGr s W1)))) + (1 : Int))) rfl (by omega) ?_
        refine tw_iast (M := M1) (N := N) (l := [(82, (pU (M1 82) ((wGr s W1).2.1 ((bwG s W1 (wGr s W1)) + 1)) ((W1.1 ((wGr s W1).2.1 ((bwG s W1 (wGr s W1)) + 1))) - (1 : Int))))]) (l' := [(82, (pU (pU (M1 82) ((wGr s W1).2.1 ((bwG s W1 (wGr s W1)) + 1)) ((W1.1 ((wGr s W1).2.1 ((bwG s W1 (wGr s W1)) + 1))) - (1 : Int))) ((wGr s W1).2.2.1 (bwG s W1 (wGr s W1))) ((W1.1 ((wGr s W1).2.2.1 (bwG s W1 (wGr s W1)))) + (1 : Int))))]) (j := ((wGr s W1).2.2.1 (bwG s W1 (wGr s W1)))) k26_61 al82 rfl (by omega) rfl ?_
        refine tw_aload k26_62 rfl ?_
        refine tw_getr k26_63 f69_3 ?_
        refine tw_iload k26_66 rfl ?_
        refine tw_dup2 k26_68 ?_
        refine tw_iald (j := ((wGr s W1).2.2.1 (bwG s W1 (wGr s W1)))) (v := (W1.2.1 ((wGr s W1).2.2.1 (bwG s W1 (wGr s W1))))) k26_69 al83 rfl (by omega) (show M1 83 ((wGr s W1).2.2.1 (bwG s W1 (wGr s W1))) = _ from (hpp ((wGr s W1).2.2.1 (bwG s W1 (wGr s W1))) (by omega)).2) ?_
        refine tw_const k26_70 ?_
        refine tw_iadd k26_71 (v := ((W1.2.1 ((wGr s W1).2.2.1 (bwG s W1 (wGr s W1)))) + (1 : Int))) rfl (by omega) ?_
        refine tw_iast (M := M1) (N := N) (l := [(82, (pU (pU (M1 82) ((wGr s W1).2.1 ((bwG s W1 (wGr s W1)) + 1)) ((W1.1 ((wGr s W1).2.1 ((bwG s W1 (wGr s W1)) + 1))) - (1 : Int))) ((wGr s W1).2.2.1 (bwG s W1 (wGr s W1))) ((W1.1 ((wGr s W1).2.2.1 (bwG s W1 (wGr s W1)))) + (1 : Int))))]) (l' := [(82, (pU (pU (M1 82) ((wGr s W1).2.1 ((bwG s W1 (wGr s W1)) + 1)) ((W1.1 ((wGr s W1).2.1 ((bwG s W1 (wGr s W1)) + 1))) - (1 : Int))) ((wGr s W1).2.2.1 (bwG s W1 (wGr s W1))) ((W1.1 ((wGr s W1).2.2.1 (bwG s W1 (wGr s W1)))) + (1 : Int)))), (83, (pU (M1 83) ((wGr s W1).2.2.1 (bwG s W1 (wGr s W1))) ((W1.2.1 ((wGr s W1).2.2.1 (bwG s W1 (wGr s W1)))) + (1 : Int))))]) (j := ((wGr s W1).2.2.1 (bwG s W1 (wGr s W1)))) k26_72 al83 rfl (by omega) rfl ?_
        refine tw_aload k26_73 rfl ?_
        refine tw_dupr k26_74 ?_
        refine tw_geti k26_75 f69_15 rfl (v := (pS W1.2.1 0 Y)) (show M1 69 15 = _ from (by rw [hYe]; exact p15)) ?_
        refine tw_const k26_78 ?_
        refine tw_iadd k26_79 (v := ((pS W1.2.1 0 Y) + (1 : Int))) rfl (by omega) ?_
        refine tw_puti (M := M1) (N := N) (l := [(82, (pU (pU (M1 82) ((wGr s W1).2.1 ((bwG s W1 (wGr s W1)) + 1)) ((W1.1 ((wGr s W1).2.1 ((bwG s W1 (wGr s W1)) + 1))) - (1 : Int))) ((wGr s W1).2.2.1 (bwG s W1 (wGr s W1))) ((W1.1 ((wGr s W1).2.2.1 (bwG s W1 (wGr s W1)))) + (1 : Int)))), (83, (pU (M1 83) ((wGr s W1).2.2.1 (bwG s W1 (wGr s W1))) ((W1.2.1 ((wGr s W1).2.2.1 (bwG s W1 (wGr s W1)))) + (1 : Int))))]) (l' := [(82, (pU (pU (M1 82) ((wGr s W1).2.1 ((bwG s W1 (wGr s W1)) + 1)) ((W1.1 ((wGr s W1).2.1 ((bwG s W1 (wGr s W1)) + 1))) - (1 : Int))) ((wGr s W1).2.2.1 (bwG s W1 (wGr s W1))) ((W1.1 ((wGr s W1).2.2.1 (bwG s W1 (wGr s W1)))) + (1 : Int)))), (83, (pU (M1 83) ((wGr s W1).2.2.1 (bwG s W1 (wGr s W1))) ((W1.2.1 ((wGr s W1).2.2.1 (bwG s W1 (wGr s W1)))) + (1 : Int)))), (69, (pU (M1 69) 15 ((pS W1.2.1 0 Y) + (1 : Int))))]) k26_80 f69_15 rfl ?_
        refine tw_aload k26_83 rfl ?_
        refine tw_getr k26_84 f69_1 ?_
        refine tw_aload k26_87 rfl ?_
        refine tw_getr k26_88 f69_0 ?_
        refine tw_aload k26_91 rfl ?_
        refine tw_getr k26_92 f69_2 ?_
        refine tw_aload k26_95 rfl ?_
        refine tw_geti k26_96 f69_11 rfl (v := ((Y : Nat) : Int)) (show (pU (M1 69) 15 ((pS W1.2.1 0 Y) + (1 : Int))) 11 = _ from (by rw [pU_ne (by omega)]; exact p11.trans hY0)) ?_
        refine tw_call (by omega) (S' := []) (as := [.inr (.inr (.inl 78)), .inr (.inr (.inl 70)), .inr (.inr (.inl 82)), .inl ((Y : Nat) : Int)]) k26_99 (x_7_69 (M := (st M1 [(82, (pU (pU (M1 82) ((wGr s W1).2.1 ((bwG s W1 (wGr s W1)) + 1)) ((W1.1 ((wGr s W1).2.1 ((bwG s W1 (wGr s W1)) + 1))) - (1 : Int))) ((wGr s W1).2.2.1 (bwG s W1 (wGr s W1))) ((W1.1 ((wGr s W1).2.2.1 (bwG s W1 (wGr s W1)))) + (1 : Int)))), (83, (pU (M1 83) ((wGr s W1).2.2.1 (bwG s W1 (wGr s W1))) ((W1.2.1 ((wGr s W1).2.2.1 (bwG s W1 (wGr s W1)))) + (1 : Int)))), (69, (pU (M1 69) 15 ((pS W1.2.1 0 Y) + (1 : Int))))])) (N := N) (by omega) s hs (dM_fr hs hpd (fun c _ _ => by rw [st_c, if_neg (by omega), st_c, if_neg (by omega), st_c, if_neg (by omega), st_nil])) Y hYe (bwS s W1).1 (fun y hy => by show pU (pU (M1 82) _ _) _ _ y = pU (pU W1.1 _ _) _ _ y; unfold pU; rw [(hpp y (by omega)).1]) (wI_p hI2.1)) rfl rfl rfl rfl rfl (fun r99 Z99 hq99 => ?_)
        obtain ⟨rfl, f0, f1, f2, f3, rfl, hG2⟩ := hq99
        refine tw_as (S := []) (M := (st M1 [(82, (pU (pU (M1 82) ((wGr s W1).2.1 ((bwG s W1 (wGr s W1)) + 1)) ((W1.1 ((wGr s W1).2.1 ((bwG s W1 (wGr s W1)) + 1))) - (1 : Int))) ((wGr s W1).2.2.1 (bwG s W1 (wGr s W1))) ((W1.1 ((wGr s W1).2.2.1 (bwG s W1 (wGr s W1)))) + (1 : Int)))), (83, (pU (M1 83) ((wGr s W1).2.2.1 (bwG s W1 (wGr s W1))) ((W1.2.1 ((wGr s W1).2.2.1 (bwG s W1 (wGr s W1)))) + (1 : Int)))), (69, (pU (M1 69) 15 ((pS W1.2.1 0 Y) + (1 : Int)))), (81, f3), (80, f2), (79, f1), (78, f0)])) (N := N) (by rw [st_mg]; rfl) rfl ?_
        refine tw_iinc k26_102 rfl (v := ((k + 1 : Nat) : Int)) rfl (by omega) rfl (L' := [some (.inr (.inr (.inl 69))), some (.inl (s 45)), some (.inl ((k + 1 : Nat) : Int)), some (.inl (((bwG s W1 (wGr s W1)) : Nat) : Int)), some (.inl ((((wGr s W1).2.2.1 (bwG s W1 (wGr s W1))) : Nat) : Int))]) rfl ?_
        refine tw_goto k26_105 ?_
        have hG2' : gRel (f0 3) f1 f2 f3 (wGr s (bwS s W1)) := by unfold wGr; rw [← hYe]; exact hG2
        refine ih (some (.inl (((bwG s W1 (wGr s W1)) : Nat) : Int))) (some (.inl ((((wGr s W1).2.2.1 (bwG s W1 (wGr s W1))) : Nat) : Int))) (bwS s W1) _ (fun c hc => ?_) ?_ hI2.1 (by rw [← hit2])
        · rw [st_c, if_neg (by omega), st_c, if_neg (by omega), st_c, if_neg (by omega), st_c, if_neg (by omega), st_c, if_neg (by omega), st_c, if_neg (by omega), st_c, if_neg (by omega), st_nil]; exact hf c hc
        · refine ⟨?_, ?_, ?_, ?_, ?_, fun y hy => ⟨?_, ?_⟩, hG2', dM_fr hs hpd (fun c _ _ => by rw [st_c, if_neg (by omega), st_c, if_neg (by omega), st_c, if_neg (by omega), st_c, if_neg (by omega), st_c, if_neg (by omega), st_c, if_neg (by omega), st_c, if_neg (by omega), st_nil])⟩
          · show (pU (M1 69) 15 ((pS W1.2.1 0 Y) + (1 : Int))) 11 = _
            rw [pU_ne (by omega)]; exact p11
          · show (pU (M1 69) 15 ((pS W1.2.1 0 Y) + (1 : Int))) 12 = _
            rw [pU_ne (by omega)]; exact p12
          · show (pU (M1 69) 15 ((pS W1.2.1 0 Y) + (1 : Int))) 13 = _
            rw [pU_ne (by omega)]; exact p13
          · show (pU (M1 69) 15 ((pS W1.2.1 0 Y) + (1 : Int))) 14 = _
            rw [pU_ne (by omega)]; exact p14
          · show (pU (M1 69) 15 ((pS W1.2.1 0 Y) + (1 : Int))) 15 = _
            rw [pU_eq]; show _ = pS (pU W1.2.1 _ _) 0 _; rw [pS_pU, if_pos (by omega), hYe]; omega
          · show pU (pU (M1 82) _ _) _ _ y = pU (pU W1.1 _ _) _ _ y
            unfold pU; rw [(hpp y hy).1]
          · show pU (M1 83) _ _ y = pU W1.2.1 _ _ y
            unfold pU; rw [(hpp y hy).2]
      · have hrv : (if bwG s W1 (wGr s W1) + 1 < (wGr s W1).1 then ((bwG s W1 (wGr s W1) : Nat) : Int) else -1) = (-1 : Int) := if_neg hc
        refine tw_iload k26_2 rfl ?_
        refine tw_const k26_3 ?_
        refine tw_cgeF k26_6 (by omega) ?_
        refine tw_aload k26_9 rfl ?_
        refine tw_iload k26_10 rfl ?_
        refine tw_callp (v := .inl (if bwG s W1 (wGr s W1) + 1 < (wGr s W1).1 then ((bwG s W1 (wGr s W1) : Nat) : Int) else -1)) (by omega) (S' := []) (as := [.inr (.inr (.inl 69)), .inl (s 45)]) k26_11 (x_27_69 (M := M1) (N := N) s hs (wGr s W1) (wGr_ok s W1) hpg W1 (fun y hy => (hpp y hy).1) (wI_p hI) (fun y hy => ⟨(hpp y hy).2, (hI.1 y (by omega)).2.1, by have := (hI.1 y (by omega)).2.2; omega⟩)) rfl rfl rfl rfl rfl ?_
        refine tw_eqS (S' := [.inl (-1 : Int)]) (e_c (congrArg Sum.inl hrv) rfl) ?_
        refine tw_istore k26_14 rfl (L' := [some (.inr (.inr (.inl 69))), some (.inl (s 45)), some (.inl ((k : Nat) : Int)), some (.inl (-1 : Int)), sv o4]) rfl ?_
        refine tw_iload k26_15 rfl ?_
        refine tw_zgeF k26_16 (by decide) ?_
        exact tw_rv k26_19 (⟨rfl, M1, rfl, hf, by rw [← hit, show 10000 - k = (10000 - (k + 1)) + 1 by omega, itN, if_neg hc]; exact ⟨p11, p12, p13, p14, p15, hpp, hpg, hpd⟩⟩)
  refine tw_const k26_0 ?_
  refine tw_istore k26_1 rfl (L' := [some (.inr (.inr (.inl 69))), some (.inl (s 45)), some (.inl (0 : Int)), none, none]) rfl ?_
  exact key 0 (by omega) none none _ _ (fun c _ => rfl) hC hI rfl
