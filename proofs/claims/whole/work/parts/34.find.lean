-- the class: groups found
theorem pS_z {f : Nat → Int} {a : Nat} : ∀ n, (∀ i, a ≤ i → i < a + n → 0 ≤ f i) → pS f a n = 0 → ∀ i, a ≤ i → i < a + n → f i = 0
  | 0, _, _, i, h1, h2 => by omega
  | n + 1, h, h0, i, h1, h2 => by
    have hn := h (a + n) (by omega) (by omega)
    have hp : 0 ≤ pS f a n := by
      clear h0 h1 h2 hn
      have key : ∀ k, k ≤ n → 0 ≤ pS f a k := by
        intro k
        induction k with
        | zero => intro _; exact Int.le_refl _
        | succ k ih => intro hk; rw [pS]; have := ih (by omega); have := h (a + k) (by omega) (by omega); omega
      exact key n (Nat.le_refl _)
    rw [pS] at h0
    by_cases e : i = a + n
    · subst e; omega
    · exact pS_z n (fun i h1 h2 => h i h1 (by omega)) (by omega) i h1 (by omega)
theorem x_8_35 {K : mj_C} {d : Nat} {M : Nat → Nat → Int} {N : Nat → Nat → Int64} (g a l : Nat) (hg : g < 5) (h1 : M 45 g = (a : Int)) (h2 : M 46 g = (l : Int)) (ha : a ≤ l) (hl : l < 5) (perm : Nat → Int) (hP : ∀ y, a ≤ y → y ≤ l → M 48 y = perm y) (hB : ∀ y, a ≤ y → y ≤ l → 0 ≤ perm y ∧ perm y ≤ 1000) : mj_X K d 8 [.inr (.inr (.inl 44)), .inr (.inr (.inl 48)), .inl ((g : Nat) : Int)] (mj_Sh, M, N) (fun r Z => r = some (.inl (pS perm a (l + 1 - a))) ∧ Z = (mj_Sh, M, N)) := by
  show mj_T K d 8 0 [some (.inr (.inr (.inl 44))), some (.inr (.inr (.inl 48))), some (.inl ((g : Nat) : Int)), none, none] [] (mj_Sh, M, N) _
  have key : ∀ i : Nat, i ≤ (l + 1 - a) → mj_T K d 8 10 [some (.inr (.inr (.inl 44))), some (.inr (.inr (.inl 48))), some (.inl ((g : Nat) : Int)), some (.inl (pS perm a i)), some (.inl (((a + i) : Nat) : Int))] [] (mj_Sh, M, N) (fun r Z => r = some (.inl (pS perm a (l + 1 - a))) ∧ Z = (mj_Sh, M, N)) := by
    refine up_to (l + 1 - a) ?_ ?_
    · show mj_T K d 8 10 [some (.inr (.inr (.inl 44))), some (.inr (.inr (.inl 48))), some (.inl ((g : Nat) : Int)), some (.inl (pS perm a (l + 1 - a))), some (.inl (((a + (l + 1 - a)) : Nat) : Int))] [] (mj_Sh, M, N) (fun r Z => r = some (.inl (pS perm a (l + 1 - a))) ∧ Z = (mj_Sh, M, N))
      refine tw_iload k8_10 rfl ?_
      refine tw_aload k8_12 rfl ?_
      refine tw_getr k8_13 f44_1 ?_
      refine tw_iload k8_16 rfl ?_
      refine tw_iald (j := g) (v := ((l : Nat) : Int)) k8_17 al46 rfl (by omega) h2 ?_
      refine tw_cgtT k8_18 (by omega) ?_
      refine tw_iload k8_34 rfl ?_
      exact tw_ri k8_35 (⟨rfl, rfl⟩)
    · intro i hmi ih
      have ih : mj_T K d 8 10 [some (.inr (.inr (.inl 44))), some (.inr (.inr (.inl 48))), some (.inl ((g : Nat) : Int)), some (.inl (pS perm a (i + 1))), some (.inl (((a + (i + 1)) : Nat) : Int))] [] (mj_Sh, M, N) (fun r Z => r = some (.inl (pS perm a (l + 1 - a))) ∧ Z = (mj_Sh, M, N)) := ih
      show mj_T K d 8 10 [some (.inr (.inr (.inl 44))), some (.inr (.inr (.inl 48))), some (.inl ((g : Nat) : Int)), some (.inl (pS perm a i)), some (.inl (((a + i) : Nat) : Int))] [] (mj_Sh, M, N) (fun r Z => r = some (.inl (pS perm a (l + 1 - a))) ∧ Z = (mj_Sh, M, N))
      have h5 := pS_rg (f := perm) (a := a) (B := 1000) i (fun y h1 h2 => hB y (by omega) (by omega))
      have h6 := hB (a + i) (by omega) (by omega)
      refine tw_iload k8_10 rfl ?_
      refine tw_aload k8_12 rfl ?_
      refine tw_getr k8_13 f44_1 ?_
      refine tw_iload k8_16 rfl ?_
      refine tw_iald (j := g) (v := ((l : Nat) : Int)) k8_17 al46 rfl (by omega) h2 ?_
      refine tw_cgtF k8_18 (by omega) ?_
      refine tw_iload k8_21 rfl ?_
      refine tw_aload k8_22 rfl ?_
      refine tw_iload k8_23 rfl ?_
      refine tw_iald (j := (a + i)) (v := (perm (a + i))) k8_25 al48 rfl (by omega) (hP (a + i) (by omega) (by omega)) ?_
      refine tw_iadd k8_26 (v := ((pS perm a i) + (perm (a + i)))) rfl (by omega) ?_
      refine tw_istore k8_27 rfl (L' := [some (.inr (.inr (.inl 44))), some (.inr (.inr (.inl 48))), some (.inl ((g : Nat) : Int)), some (.inl ((pS perm a i) + (perm (a + i)))), some (.inl (((a + i) : Nat) : Int))]) rfl ?_
      refine tw_iinc k8_28 rfl (v := (((a + i) + 1 : Nat) : Int)) rfl (by omega) rfl (L' := [some (.inr (.inr (.inl 44))), some (.inr (.inr (.inl 48))), some (.inl ((g : Nat) : Int)), some (.inl ((pS perm a i) + (perm (a + i)))), some (.inl (((a + i) + 1 : Nat) : Int))]) rfl ?_
      refine tw_goto k8_31 ?_
      refine tw_eqL (L' := [some (.inr (.inr (.inl 44))), some (.inr (.inr (.inl 48))), some (.inl ((g : Nat) : Int)), some (.inl (pS perm a (i + 1))), some (.inl (((a + (i + 1)) : Nat) : Int))]) (e_c rfl (e_c rfl (e_c rfl (e_c rfl (e_c rfl rfl))))) ?_
      exact ih
  refine tw_const k8_0 ?_
  refine tw_istore k8_1 rfl (L' := [some (.inr (.inr (.inl 44))), some (.inr (.inr (.inl 48))), some (.inl ((g : Nat) : Int)), some (.inl (0 : Int)), none]) rfl ?_
  refine tw_aload k8_2 rfl ?_
  refine tw_getr k8_3 f44_0 ?_
  refine tw_iload k8_6 rfl ?_
  refine tw_iald (j := g) (v := ((a : Nat) : Int)) k8_7 al45 rfl (by omega) h1 ?_
  refine tw_istore k8_8 rfl (L' := [some (.inr (.inr (.inl 44))), some (.inr (.inr (.inl 48))), some (.inl ((g : Nat) : Int)), some (.inl (0 : Int)), some (.inl ((a : Nat) : Int))]) rfl ?_
  refine tw_eqL (L' := [some (.inr (.inr (.inl 44))), some (.inr (.inr (.inl 48))), some (.inl ((g : Nat) : Int)), some (.inl (pS perm a 0)), some (.inl (((a + 0) : Nat) : Int))]) (e_c rfl (e_c rfl (e_c rfl (e_c rfl (e_c rfl rfl))))) ?_
  exact key 0 (by omega)
theorem x_8_35u {K : mj_C} {d : Nat} {M : Nat → Nat → Int} {N : Nat → Nat → Int64} (g a l : Nat) (hg : g < 5) (h1 : M 45 g = (a : Int)) (h2 : M 46 g = (l : Int)) (ha : a ≤ l) (hl : l < 5) (perm : Nat → Int) (hP : ∀ y, a ≤ y → y ≤ l → M 51 y = perm y) (hB : ∀ y, a ≤ y → y ≤ l → 0 ≤ perm y ∧ perm y ≤ 1000) : mj_X K d 8 [.inr (.inr (.inl 44)), .inr (.inr (.inl 51)), .inl ((g : Nat) : Int)] (mj_Sh, M, N) (fun r Z => r = some (.inl (pS perm a (l + 1 - a))) ∧ Z = (mj_Sh, M, N)) := by
  show mj_T K d 8 0 [some (.inr (.inr (.inl 44))), some (.inr (.inr (.inl 51))), some (.inl ((g : Nat) : Int)), none, none] [] (mj_Sh, M, N) _
  have key : ∀ i : Nat, i ≤ (l + 1 - a) → mj_T K d 8 10 [some (.inr (.inr (.inl 44))), some (.inr (.inr (.inl 51))), some (.inl ((g : Nat) : Int)), some (.inl (pS perm a i)), some (.inl (((a + i) : Nat) : Int))] [] (mj_Sh, M, N) (fun r Z => r = some (.inl (pS perm a (l + 1 - a))) ∧ Z = (mj_Sh, M, N)) := by
    refine up_to (l + 1 - a) ?_ ?_
    · show mj_T K d 8 10 [some (.inr (.inr (.inl 44))), some (.inr (.inr (.inl 51))), some (.inl ((g : Nat) : Int)), some (.inl (pS perm a (l + 1 - a))), some (.inl (((a + (l + 1 - a)) : Nat) : Int))] [] (mj_Sh, M, N) (fun r Z => r = some (.inl (pS perm a (l + 1 - a))) ∧ Z = (mj_Sh, M, N))
      refine tw_iload k8_10 rfl ?_
      refine tw_aload k8_12 rfl ?_
      refine tw_getr k8_13 f44_1 ?_
      refine tw_iload k8_16 rfl ?_
      refine tw_iald (j := g) (v := ((l : Nat) : Int)) k8_17 al46 rfl (by omega) h2 ?_
      refine tw_cgtT k8_18 (by omega) ?_
      refine tw_iload k8_34 rfl ?_
      exact tw_ri k8_35 (⟨rfl, rfl⟩)
    · intro i hmi ih
      have ih : mj_T K d 8 10 [some (.inr (.inr (.inl 44))), some (.inr (.inr (.inl 51))), some (.inl ((g : Nat) : Int)), some (.inl (pS perm a (i + 1))), some (.inl (((a + (i + 1)) : Nat) : Int))] [] (mj_Sh, M, N) (fun r Z => r = some (.inl (pS perm a (l + 1 - a))) ∧ Z = (mj_Sh, M, N)) := ih
      show mj_T K d 8 10 [some (.inr (.inr (.inl 44))), some (.inr (.inr (.inl 51))), some (.inl ((g : Nat) : Int)), some (.inl (pS perm a i)), some (.inl (((a + i) : Nat) : Int))] [] (mj_Sh, M, N) (fun r Z => r = some (.inl (pS perm a (l + 1 - a))) ∧ Z = (mj_Sh, M, N))
      have h5 := pS_rg (f := perm) (a := a) (B := 1000) i (fun y h1 h2 => hB y (by omega) (by omega))
      have h6 := hB (a + i) (by omega) (by omega)
      refine tw_iload k8_10 rfl ?_
      refine tw_aload k8_12 rfl ?_
      refine tw_getr k8_13 f44_1 ?_
      refine tw_iload k8_16 rfl ?_
      refine tw_iald (j := g) (v := ((l : Nat) : Int)) k8_17 al46 rfl (by omega) h2 ?_
      refine tw_cgtF k8_18 (by omega) ?_
      refine tw_iload k8_21 rfl ?_
      refine tw_aload k8_22 rfl ?_
      refine tw_iload k8_23 rfl ?_
      refine tw_iald (j := (a + i)) (v := (perm (a + i))) k8_25 al51 rfl (by omega) (hP (a + i) (by omega) (by omega)) ?_
      refine tw_iadd k8_26 (v := ((pS perm a i) + (perm (a + i)))) rfl (by omega) ?_
      refine tw_istore k8_27 rfl (L' := [some (.inr (.inr (.inl 44))), some (.inr (.inr (.inl 51))), some (.inl ((g : Nat) : Int)), some (.inl ((pS perm a i) + (perm (a + i)))), some (.inl (((a + i) : Nat) : Int))]) rfl ?_
      refine tw_iinc k8_28 rfl (v := (((a + i) + 1 : Nat) : Int)) rfl (by omega) rfl (L' := [some (.inr (.inr (.inl 44))), some (.inr (.inr (.inl 51))), some (.inl ((g : Nat) : Int)), some (.inl ((pS perm a i) + (perm (a + i)))), some (.inl (((a + i) + 1 : Nat) : Int))]) rfl ?_
      refine tw_goto k8_31 ?_
      refine tw_eqL (L' := [some (.inr (.inr (.inl 44))), some (.inr (.inr (.inl 51))), some (.inl ((g : Nat) : Int)), some (.inl (pS perm a (i + 1))), some (.inl (((a + (i + 1)) : Nat) : Int))]) (e_c rfl (e_c rfl (e_c rfl (e_c rfl (e_c rfl rfl))))) ?_
      exact ih
  refine tw_const k8_0 ?_
  refine tw_istore k8_1 rfl (L' := [some (.inr (.inr (.inl 44))), some (.inr (.inr (.inl 51))), some (.inl ((g : Nat) : Int)), some (.inl (0 : Int)), none]) rfl ?_
  refine tw_aload k8_2 rfl ?_
  refine tw_getr k8_3 f44_0 ?_
  refine tw_iload k8_6 rfl ?_
  refine tw_iald (j := g) (v := ((a : Nat) : Int)) k8_7 al45 rfl (by omega) h1 ?_
  refine tw_istore k8_8 rfl (L' := [some (.inr (.inr (.inl 44))), some (.inr (.inr (.inl 51))), some (.inl ((g : Nat) : Int)), some (.inl (0 : Int)), some (.inl ((a : Nat) : Int))]) rfl ?_
  refine tw_eqL (L' := [some (.inr (.inr (.inl 44))), some (.inr (.inr (.inl 51))), some (.inl ((g : Nat) : Int)), some (.inl (pS perm a 0)), some (.inl (((a + 0) : Nat) : Int))]) (e_c rfl (e_c rfl (e_c rfl (e_c rfl (e_c rfl rfl))))) ?_
  exact key 0 (by omega)
theorem x_9_35 {K : mj_C} {d : Nat} {M : Nat → Nat → Int} {N : Nat → Nat → Int64} (G : GS) (h15 : G.1 ≤ 5) (hG : gRel (M 44 3) (M 45) (M 46) (M 47) G) : mj_X K d 9 [.inr (.inr (.inl 44))] (mj_Sh, M, N) (fun r Z => r = some (.inl (if gR G + 1 < G.1 then ((gR G : Nat) : Int) else -1)) ∧ Z = (mj_Sh, M, N)) := by
  show mj_T K d 9 0 [some (.inr (.inr (.inl 44))), none] [] (mj_Sh, M, N) _
  have key : ∀ g : Nat, g ≤ (G.1 - 1) → (∀ j, j < g → ¬ G.2.2.2 j < G.2.2.2 (j + 1)) → mj_T K d 9 2 [some (.inr (.inr (.inl 44))), some (.inl ((g : Nat) : Int))] [] (mj_Sh, M, N) (fun r Z => r = some (.inl (if gR G + 1 < G.1 then ((gR G : Nat) : Int) else -1)) ∧ Z = (mj_Sh, M, N)) := by
    refine up_to (G.1 - 1) ?_ ?_
    · show (∀ j, j < (G.1 - 1) → ¬ G.2.2.2 j < G.2.2.2 (j + 1)) → mj_T K d 9 2 [some (.inr (.inr (.inl 44))), some (.inl (((G.1 - 1) : Nat) : Int))] [] (mj_Sh, M, N) (fun r Z => r = some (.inl (if gR G + 1 < G.1 then ((gR G : Nat) : Int) else -1)) ∧ Z = (mj_Sh, M, N))
      intro hN
      refine tw_iload k9_2 rfl ?_
      refine tw_const k9_3 ?_
      refine tw_iadd k9_4 (v := (((G.1 - 1) + 1 : Nat) : Int)) rfl (by omega) ?_
      refine tw_aload k9_5 rfl ?_
      refine tw_geti k9_6 f44_3 rfl (v := ((G.1 : Nat) : Int)) hG.1 ?_
      refine tw_cgeT k9_9 (by omega) ?_
      refine tw_const k9_37 ?_
      exact tw_ri k9_38 (⟨by rw [gR_no (fun j hj => hN j (by omega)), if_neg (by omega)], rfl⟩)
    · intro g hmg ih
      have ih : (∀ j, j < (g + 1) → ¬ G.2.2.2 j < G.2.2.2 (j + 1)) → mj_T K d 9 2 [some (.inr (.inr (.inl 44))), some (.inl (((g + 1) : Nat) : Int))] [] (mj_Sh, M, N) (fun r Z => r = some (.inl (if gR G + 1 < G.1 then ((gR G : Nat) : Int) else -1)) ∧ Z = (mj_Sh, M, N)) := ih
      show (∀ j, j < g → ¬ G.2.2.2 j < G.2.2.2 (j + 1)) → mj_T K d 9 2 [some (.inr (.inr (.inl 44))), some (.inl ((g : Nat) : Int))] [] (mj_Sh, M, N) (fun r Z => r = some (.inl (if gR G + 1 < G.1 then ((gR G : Nat) : Int) else -1)) ∧ Z = (mj_Sh, M, N))
      intro hN
      refine tw_iload k9_2 rfl ?_
      refine tw_const k9_3 ?_
      refine tw_iadd k9_4 (v := ((g + 1 : Nat) : Int)) rfl (by omega) ?_
      refine tw_aload k9_5 rfl ?_
      refine tw_geti k9_6 f44_3 rfl (v := ((G.1 : Nat) : Int)) hG.1 ?_
      refine tw_cgeF k9_9 (by omega) ?_
      refine tw_aload k9_12 rfl ?_
      refine tw_getr k9_13 f44_2 ?_
      refine tw_iload k9_16 rfl ?_
      refine tw_iald (j := g) (v := (((G.2.2.2 g) : Nat) : Int)) k9_17 al47 rfl (by omega) (hG.2 g (by omega)).2.2 ?_
      refine tw_aload k9_18 rfl ?_
      refine tw_getr k9_19 f44_2 ?_
      refine tw_iload k9_22 rfl ?_
      refine tw_const k9_23 ?_
      refine tw_iadd k9_24 (v := ((g + 1 : Nat) : Int)) rfl (by omega) ?_
      refine tw_iald (j := g + 1) (v := (((G.2.2.2 (g + 1)) : Nat) : Int)) k9_25 al47 rfl (by omega) (hG.2 (g + 1) (by omega)).2.2 ?_
      refine tw_cge k9_26 (fun h26 => ?_) (fun h26 => ?_)
      · refine tw_iinc k9_31 rfl (v := ((g + 1 : Nat) : Int)) rfl (by omega) rfl (L' := [some (.inr (.inr (.inl 44))), some (.inl ((g + 1 : Nat) : Int))]) rfl ?_
        refine tw_goto k9_34 ?_
        exact ih (fun j hj => by
          by_cases e : j = g
          · subst e; omega
          · exact hN j (by omega))
      · refine tw_iload k9_29 rfl ?_
        exact tw_ri k9_30 (⟨by rw [gR_eq (g := g) (by omega) (by omega) hN, if_pos (by omega)], rfl⟩)
  refine tw_const k9_0 ?_
  refine tw_istore k9_1 rfl (L' := [some (.inr (.inr (.inl 44))), some (.inl (0 : Int))]) rfl ?_
  exact key 0 (by omega) (fun j hj => by omega)
theorem x_10_35 {K : mj_C} {d : Nat} {M : Nat → Nat → Int} {N : Nat → Nat → Int64} (G : GS) (Y : Nat) (hY : Y ≤ 5) (hO : gOk Y G) (hG : gRel (M 44 3) (M 45) (M 46) (M 47) G) (g : Nat) (hg : g + 1 < G.1) : mj_X K d 10 [.inr (.inr (.inl 44)), .inl ((g : Nat) : Int)] (mj_Sh, M, N) (fun r Z => r = none ∧ ∃ f1 f2 f3, Z = (mj_Sh, st M [(46, f2), (44, pU (M 44) 3 ((G.1 - 1 : Nat) : Int)), (45, f1), (47, f3)], N) ∧ ∀ j, j < G.1 - 1 → f1 j = ((if j ≤ g then G.2.1 j else G.2.1 (j + 1) : Nat) : Int) ∧ f2 j = ((if j < g then G.2.2.1 j else G.2.2.1 (j + 1) : Nat) : Int) ∧ (j ≠ g → f3 j = ((if j < g then G.2.2.2 j else G.2.2.2 (j + 1) : Nat) : Int))) := by
  show mj_T K d 10 0 [some (.inr (.inr (.inl 44))), some (.inl ((g : Nat) : Int)), none] [] (mj_Sh, M, N) _
  obtain ⟨hO1, hO2, hO3, hO4, hO5⟩ := hO
  have key : ∀ i : Nat, i ≤ (G.1 - 2 - g) → ∀ f1 f2 f3 : Nat → Int, (∀ j, j < G.1 → f1 j = if g < j ∧ j < g + 1 + i then ((G.2.1 (j + 1)) : Int) else (G.2.1 j)) → (∀ j, j < G.1 → f2 j = if j = g then ((G.2.2.1 (g + 1)) : Int) else if g < j ∧ j < g + 1 + i then (G.2.2.1 (j + 1)) else (G.2.2.1 j)) → (∀ j, j < G.1 → f3 j = if g < j ∧ j < g + 1 + i then ((G.2.2.2 (j + 1)) : Int) else (G.2.2.2 j)) → mj_T K d 10 28 [some (.inr (.inr (.inl 44))), some (.inl ((g : Nat) : Int)), some (.inl (((g + 1 + i) : Nat) : Int))] [] (mj_Sh, (st M [(46, f2), (44, (pU (M 44) 3 ((G.1 - 1 : Nat) : Int))), (45, f1), (47, f3)]), N) (fun r Z => r = none ∧ ∃ f1 f2 f3, Z = (mj_Sh, st M [(46, f2), (44, pU (M 44) 3 ((G.1 - 1 : Nat) : Int)), (45, f1), (47, f3)], N) ∧ ∀ j, j < G.1 - 1 → f1 j = ((if j ≤ g then G.2.1 j else G.2.1 (j + 1) : Nat) : Int) ∧ f2 j = ((if j < g then G.2.2.1 j else G.2.2.1 (j + 1) : Nat) : Int) ∧ (j ≠ g → f3 j = ((if j < g then G.2.2.2 j else G.2.2.2 (j + 1) : Nat) : Int))) := by
    refine up_to (G.1 - 2 - g) ?_ ?_
    · show ∀ f1 f2 f3 : Nat → Int, (∀ j, j < G.1 → f1 j = if g < j ∧ j < g + 1 + (G.1 - 2 - g) then ((G.2.1 (j + 1)) : Int) else (G.2.1 j)) → (∀ j, j < G.1 → f2 j = if j = g then ((G.2.2.1 (g + 1)) : Int) else if g < j ∧ j < g + 1 + (G.1 - 2 - g) then (G.2.2.1 (j + 1)) else (G.2.2.1 j)) → (∀ j, j < G.1 → f3 j = if g < j ∧ j < g + 1 + (G.1 - 2 - g) then ((G.2.2.2 (j + 1)) : Int) else (G.2.2.2 j)) → mj_T K d 10 28 [some (.inr (.inr (.inl 44))), some (.inl ((g : Nat) : Int)), some (.inl (((g + 1 + (G.1 - 2 - g)) : Nat) : Int))] [] (mj_Sh, (st M [(46, f2), (44, (pU (M 44) 3 ((G.1 - 1 : Nat) : Int))), (45, f1), (47, f3)]), N) (fun r Z => r = none ∧ ∃ f1 f2 f3, Z = (mj_Sh, st M [(46, f2), (44, pU (M 44) 3 ((G.1 - 1 : Nat) : Int)), (45, f1), (47, f3)], N) ∧ ∀ j, j < G.1 - 1 → f1 j = ((if j ≤ g then G.2.1 j else G.2.1 (j + 1) : Nat) : Int) ∧ f2 j = ((if j < g then G.2.2.1 j else G.2.2.1 (j + 1) : Nat) : Int) ∧ (j ≠ g → f3 j = ((if j < g then G.2.2.2 j else G.2.2.2 (j + 1) : Nat) : Int)))
      intro f1 f2 f3 c1 c2 c3
      refine tw_iload k10_28 rfl ?_
      refine tw_aload k10_29 rfl ?_
      refine tw_geti k10_30 f44_3 rfl (v := (((G.1 - 1) : Nat) : Int)) (show (pU (M 44) 3 ((G.1 - 1 : Nat) : Int)) 3 = _ from pU_eq) ?_
      refine tw_cgeT k10_33 (by omega) ?_
      exact tw_rv k10_84 (⟨rfl, f1, f2, f3, rfl, fun j hj => by
        have d1 := c1 j (by omega)
        have d2 := c2 j (by omega)
        have d3 := c3 j (by omega)
        refine ⟨?_, ?_, fun hne => ?_⟩
        · rw [d1]
          by_cases e : j ≤ g
          · rw [if_neg (by omega), if_pos e]
          · rw [if_pos (by omega), if_neg e]
        · rw [d2]
          by_cases e : j = g
          · subst e; rw [if_pos rfl, if_neg (by omega)]
          · rw [if_neg e]
            by_cases e2 : j < g
            · rw [if_neg (by omega), if_pos e2]
            · rw [if_pos (by omega), if_neg e2]
        · rw [d3]
          by_cases e2 : j < g
          · rw [if_neg (by omega), if_pos e2]
          · rw [if_pos (by omega), if_neg e2]⟩)
    · intro i hmi ih
      have ih : ∀ f1 f2 f3 : Nat → Int, (∀ j, j < G.1 → f1 j = if g < j ∧ j < g + 1 + (i + 1) then ((G.2.1 (j + 1)) : Int) else (G.2.1 j)) → (∀ j, j < G.1 → f2 j = if j = g then ((G.2.2.1 (g + 1)) : Int) else if g < j ∧ j < g + 1 + (i + 1) then (G.2.2.1 (j + 1)) else (G.2.2.1 j)) → (∀ j, j < G.1 → f3 j = if g < j ∧ j < g + 1 + (i + 1) then ((G.2.2.2 (j + 1)) : Int) else (G.2.2.2 j)) → mj_T K d 10 28 [some (.inr (.inr (.inl 44))), some (.inl ((g : Nat) : Int)), some (.inl (((g + 1 + (i + 1)) : Nat) : Int))] [] (mj_Sh, (st M [(46, f2), (44, (pU (M 44) 3 ((G.1 - 1 : Nat) : Int))), (45, f1), (47, f3)]), N) (fun r Z => r = none ∧ ∃ f1 f2 f3, Z = (mj_Sh, st M [(46, f2), (44, pU (M 44) 3 ((G.1 - 1 : Nat) : Int)), (45, f1), (47, f3)], N) ∧ ∀ j, j < G.1 - 1 → f1 j = ((if j ≤ g then G.2.1 j else G.2.1 (j + 1) : Nat) : Int) ∧ f2 j = ((if j < g then G.2.2.1 j else G.2.2.1 (j + 1) : Nat) : Int) ∧ (j ≠ g → f3 j = ((if j < g then G.2.2.2 j else G.2.2.2 (j + 1) : Nat) : Int))) := ih
      show ∀ f1 f2 f3 : Nat → Int, (∀ j, j < G.1 → f1 j = if g < j ∧ j < g + 1 + i then ((G.2.1 (j + 1)) : Int) else (G.2.1 j)) → (∀ j, j < G.1 → f2 j = if j = g then ((G.2.2.1 (g + 1)) : Int) else if g < j ∧ j < g + 1 + i then (G.2.2.1 (j + 1)) else (G.2.2.1 j)) → (∀ j, j < G.1 → f3 j = if g < j ∧ j < g + 1 + i then ((G.2.2.2 (j + 1)) : Int) else (G.2.2.2 j)) → mj_T K d 10 28 [some (.inr (.inr (.inl 44))), some (.inl ((g : Nat) : Int)), some (.inl (((g + 1 + i) : Nat) : Int))] [] (mj_Sh, (st M [(46, f2), (44, (pU (M 44) 3 ((G.1 - 1 : Nat) : Int))), (45, f1), (47, f3)]), N) (fun r Z => r = none ∧ ∃ f1 f2 f3, Z = (mj_Sh, st M [(46, f2), (44, pU (M 44) 3 ((G.1 - 1 : Nat) : Int)), (45, f1), (47, f3)], N) ∧ ∀ j, j < G.1 - 1 → f1 j = ((if j ≤ g then G.2.1 j else G.2.1 (j + 1) : Nat) : Int) ∧ f2 j = ((if j < g then G.2.2.1 j else G.2.2.1 (j + 1) : Nat) : Int) ∧ (j ≠ g → f3 j = ((if j < g then G.2.2.2 j else G.2.2.2 (j + 1) : Nat) : Int)))
      intro f1 f2 f3 c1 c2 c3
      refine tw_iload k10_28 rfl ?_
      refine tw_aload k10_29 rfl ?_
      refine tw_geti k10_30 f44_3 rfl (v := (((G.1 - 1) : Nat) : Int)) (show (pU (M 44) 3 ((G.1 - 1 : Nat) : Int)) 3 = _ from pU_eq) ?_
      refine tw_cgeF k10_33 (by omega) ?_
      refine tw_aload k10_36 rfl ?_
      refine tw_getr k10_37 f44_0 ?_
      refine tw_iload k10_40 rfl ?_
      refine tw_aload k10_41 rfl ?_
      refine tw_getr k10_42 f44_0 ?_
      refine tw_iload k10_45 rfl ?_
      refine tw_const k10_46 ?_
      refine tw_iadd k10_47 (v := (((g + 1 + i) + 1 : Nat) : Int)) rfl (by omega) ?_
      refine tw_iald (j := (g + 1 + i) + 1) (v := (((G.2.1 ((g + 1 + i) + 1)) : Nat) : Int)) k10_48 al45 rfl (by omega) (show f1 ((g + 1 + i) + 1) = _ from (by rw [c1 _ (by omega), if_neg (by omega)])) ?_
      refine tw_iast (M := M) (N := N) (l := [(46, f2), (44, (pU (M 44) 3 ((G.1 - 1 : Nat) : Int))), (45, f1), (47, f3)]) (l' := [(46, f2), (44, (pU (M 44) 3 ((G.1 - 1 : Nat) : Int))), (45, (pU f1 (g + 1 + i) (((G.2.1 ((g + 1 + i) + 1)) : Nat) : Int))), (47, f3)]) (j := (g + 1 + i)) k10_49 al45 rfl (by omega) rfl ?_
      refine tw_aload k10_50 rfl ?_
      refine tw_getr k10_51 f44_1 ?_
      refine tw_iload k10_54 rfl ?_
      refine tw_aload k10_55 rfl ?_
      refine tw_getr k10_56 f44_1 ?_
      refine tw_iload k10_59 rfl ?_
      refine tw_const k10_60 ?_
      refine tw_iadd k10_61 (v := (((g + 1 + i) + 1 : Nat) : Int)) rfl (by omega) ?_
      refine tw_iald (j := (g + 1 + i) + 1) (v := (((G.2.2.1 ((g + 1 + i) + 1)) : Nat) : Int)) k10_62 al46 rfl (by omega) (show f2 ((g + 1 + i) + 1) = _ from (by rw [c2 _ (by omega), if_neg (by omega), if_neg (by omega)])) ?_
      refine tw_iast (M := M) (N := N) (l := [(46, f2), (44, (pU (M 44) 3 ((G.1 - 1 : Nat) : Int))), (45, (pU f1 (g + 1 + i) (((G.2.1 ((g + 1 + i) + 1)) : Nat) : Int))), (47, f3)]) (l' := [(46, (pU f2 (g + 1 + i) (((G.2.2.1 ((g + 1 + i) + 1)) : Nat) : Int))), (44, (pU (M 44) 3 ((G.1 - 1 : Nat) : Int))), (45, (pU f1 (g + 1 + i) (((G.2.1 ((g + 1 + i) + 1)) : Nat) : Int))), (47, f3)]) (j := (g + 1 + i)) k10_63 al46 rfl (by omega) rfl ?_
      refine tw_aload k10_64 rfl ?_
      refine tw_getr k10_65 f44_2 ?_
      refine tw_iload k10_68 rfl ?_
      refine tw_aload k10_69 rfl ?_
      refine tw_getr k10_70 f44_2 ?_
      refine tw_iload k10_73 rfl ?_
      refine tw_const k10_74 ?_
      refine tw_iadd k10_75 (v := (((g + 1 + i) + 1 : Nat) : Int)) rfl (by omega) ?_
      refine tw_iald (j := (g + 1 + i) + 1) (v := (((G.2.2.2 ((g + 1 + i) + 1)) : Nat) : Int)) k10_76 al47 rfl (by omega) (show f3 ((g + 1 + i) + 1) = _ from (by rw [c3 _ (by omega), if_neg (by omega)])) ?_
      refine tw_iast (M := M) (N := N) (l := [(46, (pU f2 (g + 1 + i) (((G.2.2.1 ((g + 1 + i) + 1)) : Nat) : Int))), (44, (pU (M 44) 3 ((G.1 - 1 : Nat) : Int))), (45, (pU f1 (g + 1 + i) (((G.2.1 ((g + 1 + i) + 1)) : Nat) : Int))), (47, f3)]) (l' := [(46, (pU f2 (g + 1 + i) (((G.2.2.1 ((g + 1 + i) + 1)) : Nat) : Int))), (44, (pU (M 44) 3 ((G.1 - 1 : Nat) : Int))), (45, (pU f1 (g + 1 + i) (((G.2.1 ((g + 1 + i) + 1)) : Nat) : Int))), (47, (pU f3 (g + 1 + i) (((G.2.2.2 ((g + 1 + i) + 1)) : Nat) : Int)))]) (j := (g + 1 + i)) k10_77 al47 rfl (by omega) rfl ?_
      refine tw_iinc k10_78 rfl (v := (((g + 1 + i) + 1 : Nat) : Int)) rfl (by omega) rfl (L' := [some (.inr (.inr (.inl 44))), some (.inl ((g : Nat) : Int)), some (.inl (((g + 1 + i) + 1 : Nat) : Int))]) rfl ?_
      refine tw_goto k10_81 ?_
      refine ih _ _ _ ?_ ?_ ?_
      · intro j hj
        by_cases e : j = g + 1 + i
        · subst e; rw [pU_eq, if_pos (by omega)]
        · rw [pU_ne e, c1 j hj]
          by_cases e2 : g < j ∧ j < g + 1 + i
          · rw [if_pos e2, if_pos (by omega)]
          · rw [if_neg e2, if_neg (by omega)]
      · intro j hj
        by_cases e : j = g + 1 + i
        · subst e; rw [pU_eq, if_neg (by omega), if_pos (by omega)]
        · rw [pU_ne e, c2 j hj]
          by_cases e1 : j = g
          · rw [if_pos e1, if_pos e1]
          · rw [if_neg e1, if_neg e1]
            by_cases e2 : g < j ∧ j < g + 1 + i
            · rw [if_pos e2, if_pos (by omega)]
            · rw [if_neg e2, if_neg (by omega)]
      · intro j hj
        by_cases e : j = g + 1 + i
        · subst e; rw [pU_eq, if_pos (by omega)]
        · rw [pU_ne e, c3 j hj]
          by_cases e2 : g < j ∧ j < g + 1 + i
          · rw [if_pos e2, if_pos (by omega)]
          · rw [if_neg e2, if_neg (by omega)]
  refine tw_aload k10_0 rfl ?_
  refine tw_getr k10_1 f44_1 ?_
  refine tw_iload k10_4 rfl ?_
  refine tw_aload k10_5 rfl ?_
  refine tw_getr k10_6 f44_1 ?_
  refine tw_iload k10_9 rfl ?_
  refine tw_const k10_10 ?_
  refine tw_iadd k10_11 (v := ((g + 1 : Nat) : Int)) rfl (by omega) ?_
  refine tw_iald (j := g + 1) (v := (((G.2.2.1 (g + 1)) : Nat) : Int)) k10_12 al46 rfl (by omega) (hG.2 (g + 1) (by omega)).2.1 ?_
  refine tw_iast (M := M) (N := N) (l := []) (l' := [(46, (pU (M 46) g (((G.2.2.1 (g + 1)) : Nat) : Int)))]) (j := g) k10_13 al46 rfl (by omega) rfl ?_
  refine tw_aload k10_14 rfl ?_
  refine tw_dupr k10_15 ?_
  refine tw_geti k10_16 f44_3 rfl (v := ((G.1 : Nat) : Int)) (show M 44 3 = _ from hG.1) ?_
  refine tw_const k10_19 ?_
  refine tw_isub k10_20 (v := (((G.1 - 1) : Nat) : Int)) (by omega) (by omega) ?_
  refine tw_puti (M := M) (N := N) (l := [(46, (pU (M 46) g (((G.2.2.1 (g + 1)) : Nat) : Int)))]) (l' := [(46, (pU (M 46) g (((G.2.2.1 (g + 1)) : Nat) : Int))), (44, (pU (M 44) 3 (((G.1 - 1) : Nat) : Int)))]) k10_21 f44_3 rfl ?_
  refine tw_iload k10_24 rfl ?_
  refine tw_const k10_25 ?_
  refine tw_iadd k10_26 (v := ((g + 1 : Nat) : Int)) rfl (by omega) ?_
  refine tw_istore k10_27 rfl (L' := [some (.inr (.inr (.inl 44))), some (.inl ((g : Nat) : Int)), some (.inl ((g + 1 : Nat) : Int))]) rfl ?_
  refine tw_pad (M := M) (N := N) (l := [(46, (pU (M 46) g (((G.2.2.1 (g + 1)) : Nat) : Int))), (44, (pU (M 44) 3 (((G.1 - 1) : Nat) : Int)))]) (l' := [(46, (pU (M 46) g (((G.2.2.1 (g + 1)) : Nat) : Int))), (44, (pU (M 44) 3 (((G.1 - 1) : Nat) : Int))), (45, M 45), (47, M 47)]) [45, 47] rfl ?_
  refine key 0 (by omega) _ _ _ ?_ ?_ ?_
  · intro j hj; rw [if_neg (by omega)]; exact (hG.2 j hj).1
  · intro j hj
    by_cases e : j = g
    · subst e; rw [pU_eq, if_pos rfl]
    · rw [pU_ne e, if_neg e, if_neg (by omega)]; exact (hG.2 j hj).2.1
  · intro j hj; rw [if_neg (by omega)]; exact (hG.2 j hj).2.2
theorem x_7_35 {K : mj_C} {d : Nat} {M : Nat → Nat → Int} {N : Nat → Nat → Int64} (hD : 2 ≤ d) (s : Nat → Int) (hs : pRg s) (hD : dM 38 M s) (Y : Nat) (hYe : Y = (s 0).toNat) (perm : Nat → Int) (hP : ∀ y, y < Y → M 48 y = perm y) (hB : ∀ y, y < 5 → 0 ≤ perm y ∧ perm y ≤ 1000) : mj_X K d 7 [.inr (.inr (.inl 44)), .inr (.inr (.inl 36)), .inr (.inr (.inl 48)), .inl ((Y : Nat) : Int)] (mj_Sh, M, N) (fun r Z => r = none ∧ ∃ f0 f1 f2 f3, Z = (mj_Sh, st M [(44, f0), (45, f1), (46, f2), (47, f3)], N) ∧ gRel (f0 3) f1 f2 f3 (gF s perm Y)) := by
  show mj_T K d 7 0 [some (.inr (.inr (.inl 44))), some (.inr (.inr (.inl 36))), some (.inr (.inr (.inl 48))), some (.inl ((Y : Nat) : Int)), none, none] [] (mj_Sh, M, N) _
  have h5 := hs.2.1
  have hY : Y ≤ 5 := by omega
  have key2 : ∀ j : Nat, j ≤ Y → ∀ (G : GS) (o5 : Option (Int ⊕ (Nat ⊕ Nat))) (f0 f1 f2 f3 : Nat → Int), gOk Y G → gRel (f0 3) f1 f2 f3 G → gDn s perm (Y - j) G = (gF s perm Y) → mj_T K d 7 60 [some (.inr (.inr (.inl 44))), some (.inr (.inr (.inl 36))), some (.inr (.inr (.inl 48))), some (.inl ((Y : Nat) : Int)), some (.inl ((j : Nat) : Int)), sv o5] [] (mj_Sh, (st M [(44, f0), (45, f1), (46, f2), (47, f3)]), N) (fun r Z => r = none ∧ ∃ f0 f1 f2 f3, Z = (mj_Sh, st M [(44, f0), (45, f1), (46, f2), (47, f3)], N) ∧ gRel (f0 3) f1 f2 f3 (gF s perm Y)) := by
    refine up_to Y ?_ ?_
    · show ∀ (G : GS) (o5 : Option (Int ⊕ (Nat ⊕ Nat))) (f0 f1 f2 f3 : Nat → Int), gOk Y G → gRel (f0 3) f1 f2 f3 G → gDn s perm (Y - Y) G = (gF s perm Y) → mj_T K d 7 60 [some (.inr (.inr (.inl 44))), some (.inr (.inr (.inl 36))), some (.inr (.inr (.inl 48))), some (.inl ((Y : Nat) : Int)), some (.inl ((Y : Nat) : Int)), sv o5] [] (mj_Sh, (st M [(44, f0), (45, f1), (46, f2), (47, f3)]), N) (fun r Z => r = none ∧ ∃ f0 f1 f2 f3, Z = (mj_Sh, st M [(44, f0), (45, f1), (46, f2), (47, f3)], N) ∧ gRel (f0 3) f1 f2 f3 (gF s perm Y))
      intro G o5 f0 f1 f2 f3 hO hG hD2
      refine tw_iload k7_60 rfl ?_
      refine tw_iload k7_62 rfl ?_
      refine tw_cgeT k7_63 (by omega) ?_
      exact tw_rv k7_122 (⟨rfl, f0, f1, f2, f3, rfl, by rw [← hD2, Nat.sub_self, gDn]; exact hG⟩)
    · intro j hmj ih
      have ih : ∀ (G : GS) (o5 : Option (Int ⊕ (Nat ⊕ Nat))) (f0 f1 f2 f3 : Nat → Int), gOk Y G → gRel (f0 3) f1 f2 f3 G → gDn s perm (Y - (j + 1)) G = (gF s perm Y) → mj_T K d 7 60 [some (.inr (.inr (.inl 44))), some (.inr (.inr (.inl 36))), some (.inr (.inr (.inl 48))), some (.inl ((Y : Nat) : Int)), some (.inl (((j + 1) : Nat) : Int)), sv o5] [] (mj_Sh, (st M [(44, f0), (45, f1), (46, f2), (47, f3)]), N) (fun r Z => r = none ∧ ∃ f0 f1 f2 f3, Z = (mj_Sh, st M [(44, f0), (45, f1), (46, f2), (47, f3)], N) ∧ gRel (f0 3) f1 f2 f3 (gF s perm Y)) := ih
      show ∀ (G : GS) (o5 : Option (Int ⊕ (Nat ⊕ Nat))) (f0 f1 f2 f3 : Nat → Int), gOk Y G → gRel (f0 3) f1 f2 f3 G → gDn s perm (Y - j) G = (gF s perm Y) → mj_T K d 7 60 [some (.inr (.inr (.inl 44))), some (.inr (.inr (.inl 36))), some (.inr (.inr (.inl 48))), some (.inl ((Y : Nat) : Int)), some (.inl ((j : Nat) : Int)), sv o5] [] (mj_Sh, (st M [(44, f0), (45, f1), (46, f2), (47, f3)]), N) (fun r Z => r = none ∧ ∃ f0 f1 f2 f3, Z = (mj_Sh, st M [(44, f0), (45, f1), (46, f2), (47, f3)], N) ∧ gRel (f0 3) f1 f2 f3 (gF s perm Y))
      intro G o5 f0 f1 f2 f3 hO hG hD2
      have hO1 := hO.1
      by_cases hgr : gR G + 1 < G.1
      · have a1 := hO.2.1 (gR G) (by omega)
        have a2 := hO.2.1 (gR G + 1) hgr
        have a3 := hO.2.2.1 (gR G) hgr
        have hrv : (if gR G + 1 < G.1 then ((gR G : Nat) : Int) else -1) = ((gR G : Nat) : Int) := if_pos hgr
        refine tw_iload k7_60 rfl ?_
        refine tw_iload k7_62 rfl ?_
        refine tw_cgeF k7_63 (by omega) ?_
        refine tw_aload k7_66 rfl ?_
        refine tw_callp (v := .inl (if gR G + 1 < G.1 then ((gR G : Nat) : Int) else -1)) (by omega) (S' := []) (as := [.inr (.inr (.inl 44))]) k7_67 (x_9_35 (M := (st M [(44, f0), (45, f1), (46, f2), (47, f3)])) (N := N) G (by omega) hG) rfl rfl rfl rfl rfl ?_
        refine tw_eqS (S' := [.inl (((gR G) : Nat) : Int)]) (e_c (congrArg Sum.inl hrv) rfl) ?_
        refine tw_istore k7_70 rfl (L' := [some (.inr (.inr (.inl 44))), some (.inr (.inr (.inl 36))), some (.inr (.inr (.inl 48))), some (.inl ((Y : Nat) : Int)), some (.inl ((j : Nat) : Int)), some (.inl (((gR G) : Nat) : Int))]) rfl ?_
        refine tw_iload k7_72 rfl ?_
        refine tw_zgeT k7_74 (by omega) ?_
        refine tw_aload k7_78 rfl ?_
        refine tw_iload k7_79 rfl ?_
        refine tw_call (by omega) (S' := []) (as := [.inr (.inr (.inl 44)), .inl (((gR G) : Nat) : Int)]) k7_81 (x_10_35 (M := (st M [(44, f0), (45, f1), (46, f2), (47, f3)])) (N := N) G Y hY hO hG (gR G) hgr) rfl rfl rfl rfl rfl (fun r81 Z81 hq81 => ?_)
        obtain ⟨rfl, k1, k2, k3, rfl, hk⟩ := hq81
        have hk1 : k1 (gR G) = ((G.2.1 (gR G) : Nat) : Int) := by rw [(hk (gR G) (by omega)).1, if_pos (Nat.le_refl _)]
        have hk2 : k2 (gR G) = ((G.2.2.1 (gR G + 1) : Nat) : Int) := by rw [(hk (gR G) (by omega)).2.1, if_neg (Nat.lt_irrefl _)]
        refine tw_as (S := []) (M := (st M [(44, (pU f0 3 ((G.1 - 1 : Nat) : Int))), (45, k1), (46, k2), (47, k3)])) (N := N) (by rw [st_mg]; rfl) rfl ?_
        refine tw_aload k7_84 rfl ?_
        refine tw_getr k7_85 f44_2 ?_
        refine tw_iload k7_88 rfl ?_
        refine tw_aload k7_90 rfl ?_
        refine tw_aload k7_91 rfl ?_
        refine tw_getr k7_92 f44_0 ?_
        refine tw_iload k7_95 rfl ?_
        refine tw_iald (j := (gR G)) (v := (((G.2.1 (gR G)) : Nat) : Int)) k7_97 al45 rfl (by omega) (show k1 (gR G) = _ from hk1) ?_
        refine tw_aload k7_98 rfl ?_
        refine tw_getr k7_99 f44_1 ?_
        refine tw_iload k7_102 rfl ?_
        refine tw_iald (j := (gR G)) (v := (((G.2.2.1 (gR G + 1)) : Nat) : Int)) k7_104 al46 rfl (by omega) (show k2 (gR G) = _ from hk2) ?_
        refine tw_aload k7_105 rfl ?_
        refine tw_aload k7_106 rfl ?_
        refine tw_iload k7_107 rfl ?_
        refine tw_callp (v := .inl (pS perm (G.2.1 (gR G)) (G.2.2.1 (gR G + 1) + 1 - G.2.1 (gR G)))) (by omega) (S' := [.inl (((G.2.2.1 (gR G + 1)) : Nat) : Int), .inl (((G.2.1 (gR G)) : Nat) : Int), .inr (.inr (.inl 36)), .inl (((gR G) : Nat) : Int), .inr (.inr (.inl 47))]) (as := [.inr (.inr (.inl 44)), .inr (.inr (.inl 48)), .inl (((gR G) : Nat) : Int)]) k7_109 (x_8_35 (M := (st M [(44, (pU f0 3 ((G.1 - 1 : Nat) : Int))), (45, k1), (46, k2), (47, k3)])) (N := N) (gR G) (G.2.1 (gR G)) (G.2.2.1 (gR G + 1)) (by omega) hk1 hk2 (by omega) (by omega) perm (fun y _ hy => hP y (by omega)) (fun y _ hy => hB y (by omega))) rfl rfl rfl rfl rfl ?_
        refine tw_callp (v := .inl (((gPv s perm (G.2.1 (gR G)) (G.2.2.1 (gR G + 1))) : Nat) : Int)) (by omega) (S' := [.inl (((gR G) : Nat) : Int), .inr (.inr (.inl 47))]) (as := [.inr (.inr (.inl 36)), .inl (((G.2.1 (gR G)) : Nat) : Int), .inl (((G.2.2.1 (gR G + 1)) : Nat) : Int), .inl (pS perm (G.2.1 (gR G)) (G.2.2.1 (gR G + 1) + 1 - G.2.1 (gR G)))]) k7_112 (x_4_35 (M := (st M [(44, (pU f0 3 ((G.1 - 1 : Nat) : Int))), (45, k1), (46, k2), (47, k3)])) (N := N) (by omega) s hs (dM_fr hs hD (fun c _ _ => by rw [st_c, if_neg (by omega), st_c, if_neg (by omega), st_c, if_neg (by omega), st_c, if_neg (by omega), st_nil])) (G.2.1 (gR G)) (G.2.2.1 (gR G + 1)) (by omega) (by omega) _) rfl rfl rfl rfl rfl ?_
        refine tw_iast (M := M) (N := N) (l := [(44, (pU f0 3 ((G.1 - 1 : Nat) : Int))), (45, k1), (46, k2), (47, k3)]) (l' := [(44, (pU f0 3 ((G.1 - 1 : Nat) : Int))), (45, k1), (46, k2), (47, (pU k3 (gR G) (((gPv s perm (G.2.1 (gR G)) (G.2.2.1 (gR G + 1))) : Nat) : Int)))]) (j := (gR G)) k7_115 al47 rfl (by omega) rfl ?_
        refine tw_iinc k7_116 rfl (v := ((j + 1 : Nat) : Int)) rfl (by omega) rfl (L' := [some (.inr (.inr (.inl 44))), some (.inr (.inr (.inl 36))), some (.inr (.inr (.inl 48))), some (.inl ((Y : Nat) : Int)), some (.inl ((j + 1 : Nat) : Int)), some (.inl (((gR G) : Nat) : Int))]) rfl ?_
        refine tw_goto k7_119 ?_
        exact ih (gJ s perm (gR G) G) (some (.inl (((gR G) : Nat) : Int))) _ _ _ _ (gJ_ok hO hgr) ⟨rfl, fun j hj => by
          have hj : j < G.1 - 1 := hj
          have hkj := hk j hj
          refine ⟨hkj.1, hkj.2.1, ?_⟩
          show pU k3 _ _ j = (((if j < gR G then G.2.2.2 j else if j = gR G then gPv s perm (G.2.1 (gR G)) (G.2.2.1 (gR G + 1)) else G.2.2.2 (j + 1)) : Nat) : Int)
          by_cases e : j = gR G
          · rw [e, pU_eq, if_neg (by omega), if_pos rfl]
          · rw [pU_ne e, hkj.2.2 e, if_neg e]⟩ (by rw [← hD2, show Y - j = (Y - (j + 1)) + 1 by omega, gDn, if_pos hgr])
      · have hrv : (if gR G + 1 < G.1 then ((gR G : Nat) : Int) else -1) = (-1 : Int) := if_neg hgr
        refine tw_iload k7_60 rfl ?_
        refine tw_iload k7_62 rfl ?_
        refine tw_cgeF k7_63 (by omega) ?_
        refine tw_aload k7_66 rfl ?_
        refine tw_callp (v := .inl (if gR G + 1 < G.1 then ((gR G : Nat) : Int) else -1)) (by omega) (S' := []) (as := [.inr (.inr (.inl 44))]) k7_67 (x_9_35 (M := (st M [(44, f0), (45, f1), (46, f2), (47, f3)])) (N := N) G (by omega) hG) rfl rfl rfl rfl rfl ?_
        refine tw_eqS (S' := [.inl (-1 : Int)]) (e_c (congrArg Sum.inl hrv) rfl) ?_
        refine tw_istore k7_70 rfl (L' := [some (.inr (.inr (.inl 44))), some (.inr (.inr (.inl 36))), some (.inr (.inr (.inl 48))), some (.inl ((Y : Nat) : Int)), some (.inl ((j : Nat) : Int)), some (.inl (-1 : Int))]) rfl ?_
        refine tw_iload k7_72 rfl ?_
        refine tw_zgeF k7_74 (by decide) ?_
        exact tw_rv k7_77 (⟨rfl, f0, f1, f2, f3, rfl, by rw [← hD2, show Y - j = (Y - (j + 1)) + 1 by omega, gDn, if_neg hgr]; exact hG⟩)
  have key1 : ∀ y : Nat, y ≤ Y → ∀ f1 f2 f3 : Nat → Int, (∀ j, j < y → f1 j = (j : Int) ∧ f2 j = (j : Int) ∧ f3 j = ((gPv s perm j j : Nat) : Int)) → mj_T K d 7 8 [some (.inr (.inr (.inl 44))), some (.inr (.inr (.inl 36))), some (.inr (.inr (.inl 48))), some (.inl ((Y : Nat) : Int)), some (.inl ((y : Nat) : Int)), none] [] (mj_Sh, (st M [(44, pU (M 44) 3 ((Y : Nat) : Int)), (45, f1), (46, f2), (47, f3)]), N) (fun r Z => r = none ∧ ∃ f0 f1 f2 f3, Z = (mj_Sh, st M [(44, f0), (45, f1), (46, f2), (47, f3)], N) ∧ gRel (f0 3) f1 f2 f3 (gF s perm Y)) := by
    refine up_to Y ?_ ?_
    · show ∀ f1 f2 f3 : Nat → Int, (∀ j, j < Y → f1 j = (j : Int) ∧ f2 j = (j : Int) ∧ f3 j = ((gPv s perm j j : Nat) : Int)) → mj_T K d 7 8 [some (.inr (.inr (.inl 44))), some (.inr (.inr (.inl 36))), some (.inr (.inr (.inl 48))), some (.inl ((Y : Nat) : Int)), some (.inl ((Y : Nat) : Int)), none] [] (mj_Sh, (st M [(44, pU (M 44) 3 ((Y : Nat) : Int)), (45, f1), (46, f2), (47, f3)]), N) (fun r Z => r = none ∧ ∃ f0 f1 f2 f3, Z = (mj_Sh, st M [(44, f0), (45, f1), (46, f2), (47, f3)], N) ∧ gRel (f0 3) f1 f2 f3 (gF s perm Y))
      intro f1 f2 f3 hf
      refine tw_iload k7_8 rfl ?_
      refine tw_iload k7_10 rfl ?_
      refine tw_cgeT k7_11 (by omega) ?_
      refine tw_const k7_57 ?_
      refine tw_istore k7_58 rfl (L' := [some (.inr (.inr (.inl 44))), some (.inr (.inr (.inl 36))), some (.inr (.inr (.inl 48))), some (.inl ((Y : Nat) : Int)), some (.inl (0 : Int)), none]) rfl ?_
      exact key2 0 (by omega) (g0 s perm Y) none _ _ _ _ (g0_ok _ _ _) ⟨pU_eq, hf⟩ rfl
    · intro y hmy ih
      have ih : ∀ f1 f2 f3 : Nat → Int, (∀ j, j < (y + 1) → f1 j = (j : Int) ∧ f2 j = (j : Int) ∧ f3 j = ((gPv s perm j j : Nat) : Int)) → mj_T K d 7 8 [some (.inr (.inr (.inl 44))), some (.inr (.inr (.inl 36))), some (.inr (.inr (.inl 48))), some (.inl ((Y : Nat) : Int)), some (.inl (((y + 1) : Nat) : Int)), none] [] (mj_Sh, (st M [(44, pU (M 44) 3 ((Y : Nat) : Int)), (45, f1), (46, f2), (47, f3)]), N) (fun r Z => r = none ∧ ∃ f0 f1 f2 f3, Z = (mj_Sh, st M [(44, f0), (45, f1), (46, f2), (47, f3)], N) ∧ gRel (f0 3) f1 f2 f3 (gF s perm Y)) := ih
      show ∀ f1 f2 f3 : Nat → Int, (∀ j, j < y → f1 j = (j : Int) ∧ f2 j = (j : Int) ∧ f3 j = ((gPv s perm j j : Nat) : Int)) → mj_T K d 7 8 [some (.inr (.inr (.inl 44))), some (.inr (.inr (.inl 36))), some (.inr (.inr (.inl 48))), some (.inl ((Y : Nat) : Int)), some (.inl ((y : Nat) : Int)), none] [] (mj_Sh, (st M [(44, pU (M 44) 3 ((Y : Nat) : Int)), (45, f1), (46, f2), (47, f3)]), N) (fun r Z => r = none ∧ ∃ f0 f1 f2 f3, Z = (mj_Sh, st M [(44, f0), (45, f1), (46, f2), (47, f3)], N) ∧ gRel (f0 3) f1 f2 f3 (gF s perm Y))
      intro f1 f2 f3 hf
      have e1 : y + 1 - y = 0 + 1 := by omega
      have hpy : pS perm y (y + 1 - y) = perm y := by rw [e1, pS, pS]; rw [Nat.add_zero, Int.zero_add]
      have hgp : pPr s y (y + 1 - y) (perm y) = gPv s perm y y := by unfold gPv; rw [hpy]
      refine tw_iload k7_8 rfl ?_
      refine tw_iload k7_10 rfl ?_
      refine tw_cgeF k7_11 (by omega) ?_
      refine tw_aload k7_14 rfl ?_
      refine tw_getr k7_15 f44_0 ?_
      refine tw_iload k7_18 rfl ?_
      refine tw_iload k7_20 rfl ?_
      refine tw_iast (M := M) (N := N) (l := [(44, (pU (M 44) 3 ((Y : Nat) : Int))), (45, f1), (46, f2), (47, f3)]) (l' := [(44, (pU (M 44) 3 ((Y : Nat) : Int))), (45, (pU f1 y ((y : Nat) : Int))), (46, f2), (47, f3)]) (j := y) k7_22 al45 rfl (by omega) rfl ?_
      refine tw_aload k7_23 rfl ?_
      refine tw_getr k7_24 f44_1 ?_
      refine tw_iload k7_27 rfl ?_
      refine tw_iload k7_29 rfl ?_
      refine tw_iast (M := M) (N := N) (l := [(44, (pU (M 44) 3 ((Y : Nat) : Int))), (45, (pU f1 y ((y : Nat) : Int))), (46, f2), (47, f3)]) (l' := [(44, (pU (M 44) 3 ((Y : Nat) : Int))), (45, (pU f1 y ((y : Nat) : Int))), (46, (pU f2 y ((y : Nat) : Int))), (47, f3)]) (j := y) k7_31 al46 rfl (by omega) rfl ?_
      refine tw_aload k7_32 rfl ?_
      refine tw_getr k7_33 f44_2 ?_
      refine tw_iload k7_36 rfl ?_
      refine tw_aload k7_38 rfl ?_
      refine tw_iload k7_39 rfl ?_
      refine tw_iload k7_41 rfl ?_
      refine tw_aload k7_43 rfl ?_
      refine tw_iload k7_44 rfl ?_
      refine tw_iald (j := y) (v := (perm y)) k7_46 al48 rfl (by omega) (show M 48 y = _ from (hP y (by omega))) ?_
      refine tw_callp (v := .inl (((pPr s y (y + 1 - y) (perm y)) : Nat) : Int)) (by omega) (S' := [.inl ((y : Nat) : Int), .inr (.inr (.inl 47))]) (as := [.inr (.inr (.inl 36)), .inl ((y : Nat) : Int), .inl ((y : Nat) : Int), .inl (perm y)]) k7_47 (x_4_35 (M := (st M [(44, (pU (M 44) 3 ((Y : Nat) : Int))), (45, (pU f1 y ((y : Nat) : Int))), (46, (pU f2 y ((y : Nat) : Int))), (47, f3)])) (N := N) (by omega) s hs (dM_fr hs hD (fun c _ _ => by rw [st_c, if_neg (by omega), st_c, if_neg (by omega), st_c, if_neg (by omega), st_c, if_neg (by omega), st_nil])) y y (by omega) (by omega) (perm y)) rfl rfl rfl rfl rfl ?_
      refine tw_eqS (S' := [.inl (((gPv s perm y y) : Nat) : Int), .inl ((y : Nat) : Int), .inr (.inr (.inl 47))]) (e_c (congrArg Sum.inl (by rw [hgp])) rfl) ?_
      refine tw_iast (M := M) (N := N) (l := [(44, (pU (M 44) 3 ((Y : Nat) : Int))), (45, (pU f1 y ((y : Nat) : Int))), (46, (pU f2 y ((y : Nat) : Int))), (47, f3)]) (l' := [(44, (pU (M 44) 3 ((Y : Nat) : Int))), (45, (pU f1 y ((y : Nat) : Int))), (46, (pU f2 y ((y : Nat) : Int))), (47, (pU f3 y (((gPv s perm y y) : Nat) : Int)))]) (j := y) k7_50 al47 rfl (by omega) rfl ?_
      refine tw_iinc k7_51 rfl (v := ((y + 1 : Nat) : Int)) rfl (by omega) rfl (L' := [some (.inr (.inr (.inl 44))), some (.inr (.inr (.inl 36))), some (.inr (.inr (.inl 48))), some (.inl ((Y : Nat) : Int)), some (.inl ((y + 1 : Nat) : Int)), none]) rfl ?_
      refine tw_goto k7_54 ?_
      refine ih _ _ _ (fun j hj => ?_)
      by_cases e : j = y
      · subst e; exact ⟨pU_eq, pU_eq, pU_eq⟩
      · rw [pU_ne e, pU_ne e, pU_ne e]; exact hf j (by omega)
  refine tw_aload k7_0 rfl ?_
  refine tw_iload k7_1 rfl ?_
  refine tw_puti (M := M) (N := N) (l := []) (l' := [(44, (pU (M 44) 3 ((Y : Nat) : Int)))]) k7_2 f44_3 rfl ?_
  refine tw_const k7_5 ?_
  refine tw_istore k7_6 rfl (L' := [some (.inr (.inr (.inl 44))), some (.inr (.inr (.inl 36))), some (.inr (.inr (.inl 48))), some (.inl ((Y : Nat) : Int)), some (.inl (0 : Int)), none]) rfl ?_
  refine tw_pad (M := M) (N := N) (l := [(44, (pU (M 44) 3 ((Y : Nat) : Int)))]) (l' := [(44, (pU (M 44) 3 ((Y : Nat) : Int))), (45, M 45), (46, M 46), (47, M 47)]) [45, 46, 47] rfl ?_
  exact key1 0 (by omega) _ _ _ (fun j hj => by omega)
theorem x_8_69 {K : mj_C} {d : Nat} {M : Nat → Nat → Int} {N : Nat → Nat → Int64} (g a l : Nat) (hg : g < 5) (h1 : M 79 g = (a : Int)) (h2 : M 80 g = (l : Int)) (ha : a ≤ l) (hl : l < 5) (perm : Nat → Int) (hP : ∀ y, a ≤ y → y ≤ l → M 82 y = perm y) (hB : ∀ y, a ≤ y → y ≤ l → 0 ≤ perm y ∧ perm y ≤ 1000) : mj_X K d 8 [.inr (.inr (.inl 78)), .inr (.inr (.inl 82)), .inl ((g : Nat) : Int)] (mj_Sh, M, N) (fun r Z => r = some (.inl (pS perm a (l + 1 - a))) ∧ Z = (mj_Sh, M, N)) := by
  show mj_T K d 8 0 [some (.inr (.inr (.inl 78))), some (.inr (.inr (.inl 82))), some (.inl ((g : Nat) : Int)), none, none] [] (mj_Sh, M, N) _
  have key : ∀ i : Nat, i ≤ (l + 1 - a) → mj_T K d 8 10 [some (.inr (.inr (.inl 78))), some (.inr (.inr (.inl 82))), some (.inl ((g : Nat) : Int)), some (.inl (pS perm a i)), some (.inl (((a + i) : Nat) : Int))] [] (mj_Sh, M, N) (fun r Z => r = some (.inl (pS perm a (l + 1 - a))) ∧ Z = (mj_Sh, M, N)) := by
    refine up_to (l + 1 - a) ?_ ?_
    · show mj_T K d 8 10 [some (.inr (.inr (.inl 78))), some (.inr (.inr (.inl 82))), some (.inl ((g : Nat) : Int)), some (.inl (pS perm a (l + 1 - a))), some (.inl (((a + (l + 1 - a)) : Nat) : Int))] [] (mj_Sh, M, N) (fun r Z => r = some (.inl (pS perm a (l + 1 - a))) ∧ Z = (mj_Sh, M, N))
      refine tw_iload k8_10 rfl ?_
      refine tw_aload k8_12 rfl ?_
      refine tw_getr k8_13 f78_1 ?_
      refine tw_iload k8_16 rfl ?_
      refine tw_iald (j := g) (v := ((l : Nat) : Int)) k8_17 al80 rfl (by omega) h2 ?_
      refine tw_cgtT k8_18 (by omega) ?_
      refine tw_iload k8_34 rfl ?_
      exact tw_ri k8_35 (⟨rfl, rfl⟩)
    · intro i hmi ih
      have ih : mj_T K d 8 10 [some (.inr (.inr (.inl 78))), some (.inr (.inr (.inl 82))), some (.inl ((g : Nat) : Int)), some (.inl (pS perm a (i + 1))), some (.inl (((a + (i + 1)) : Nat) : Int))] [] (mj_Sh, M, N) (fun r Z => r = some (.inl (pS perm a (l + 1 - a))) ∧ Z = (mj_Sh, M, N)) := ih
      show mj_T K d 8 10 [some (.inr (.inr (.inl 78))), some (.inr (.inr (.inl 82))), some (.inl ((g : Nat) : Int)), some (.inl (pS perm a i)), some (.inl (((a + i) : Nat) : Int))] [] (mj_Sh, M, N) (fun r Z => r = some (.inl (pS perm a (l + 1 - a))) ∧ Z = (mj_Sh, M, N))
      have h5 := pS_rg (f := perm) (a := a) (B := 1000) i (fun y h1 h2 => hB y (by omega) (by omega))
      have h6 := hB (a + i) (by omega) (by omega)
      refine tw_iload k8_10 rfl ?_
      refine tw_aload k8_12 rfl ?_
      refine tw_getr k8_13 f78_1 ?_
      refine tw_iload k8_16 rfl ?_
      refine tw_iald (j := g) (v := ((l : Nat) : Int)) k8_17 al80 rfl (by omega) h2 ?_
      refine tw_cgtF k8_18 (by omega) ?_
      refine tw_iload k8_21 rfl ?_
      refine tw_aload k8_22 rfl ?_
      refine tw_iload k8_23 rfl ?_
      refine tw_iald (j := (a + i)) (v := (perm (a + i))) k8_25 al82 rfl (by omega) (hP (a + i) (by omega) (by omega)) ?_
      refine tw_iadd k8_26 (v := ((pS perm a i) + (perm (a + i)))) rfl (by omega) ?_
      refine tw_istore k8_27 rfl (L' := [some (.inr (.inr (.inl 78))), some (.inr (.inr (.inl 82))), some (.inl ((g : Nat) : Int)), some (.inl ((pS perm a i) + (perm (a + i)))), some (.inl (((a + i) : Nat) : Int))]) rfl ?_
      refine tw_iinc k8_28 rfl (v := (((a + i) + 1 : Nat) : Int)) rfl (by omega) rfl (L' := [some (.inr (.inr (.inl 78))), some (.inr (.inr (.inl 82))), some (.inl ((g : Nat) : Int)), some (.inl ((pS perm a i) + (perm (a + i)))), some (.inl (((a + i) + 1 : Nat) : Int))]) rfl ?_
      refine tw_goto k8_31 ?_
      refine tw_eqL (L' := [some (.inr (.inr (.inl 78))), some (.inr (.inr (.inl 82))), some (.inl ((g : Nat) : Int)), some (.inl (pS perm a (i + 1))), some (.inl (((a + (i + 1)) : Nat) : Int))]) (e_c rfl (e_c rfl (e_c rfl (e_c rfl (e_c rfl rfl))))) ?_
      exact ih
  refine tw_const k8_0 ?_
  refine tw_istore k8_1 rfl (L' := [some (.inr (.inr (.inl 78))), some (.inr (.inr (.inl 82))), some (.inl ((g : Nat) : Int)), some (.inl (0 : Int)), none]) rfl ?_
  refine tw_aload k8_2 rfl ?_
  refine tw_getr k8_3 f78_0 ?_
  refine tw_iload k8_6 rfl ?_
  refine tw_iald (j := g) (v := ((a : Nat) : Int)) k8_7 al79 rfl (by omega) h1 ?_
  refine tw_istore k8_8 rfl (L' := [some (.inr (.inr (.inl 78))), some (.inr (.inr (.inl 82))), some (.inl ((g : Nat) : Int)), some (.inl (0 : Int)), some (.inl ((a : Nat) : Int))]) rfl ?_
  refine tw_eqL (L' := [some (.inr (.inr (.inl 78))), some (.inr (.inr (.inl 82))), some (.inl ((g : Nat) : Int)), some (.inl (pS perm a 0)), some (.inl (((a + 0) : Nat) : Int))]) (e_c rfl (e_c rfl (e_c rfl (e_c rfl (e_c rfl rfl))))) ?_
  exact key 0 (by omega)
theorem x_8_69u {K : mj_C} {d : Nat} {M : Nat → Nat → Int} {N : Nat → Nat → Int64} (g a l : Nat) (hg : g < 5) (h1 : M 79 g = (a : Int)) (h2 : M 80 g = (l : Int)) (ha : a ≤ l) (hl : l < 5) (perm : Nat → Int) (hP : ∀ y, a ≤ y → y ≤ l → M 85 y = perm y) (hB : ∀ y, a ≤ y → y ≤ l → 0 ≤ perm y ∧ perm y ≤ 1000) : mj_X K d 8 [.inr (.inr (.inl 78)), .inr (.inr (.inl 85)), .inl ((g : Nat) : Int)] (mj_Sh, M, N) (fun r Z => r = some (.inl (pS perm a (l + 1 - a))) ∧ Z = (mj_Sh, M, N)) := by
  show mj_T K d 8 0 [some (.inr (.inr (.inl 78))), some (.inr (.inr (.inl 85))), some (.inl ((g : Nat) : Int)), none, none] [] (mj_Sh, M, N) _
  have key : ∀ i : Nat, i ≤ (l + 1 - a) → mj_T K d 8 10 [some (.inr (.inr (.inl 78))), some (.inr (.inr (.inl 85))), some (.inl ((g : Nat) : Int)), some (.inl (pS perm a i)), some (.inl (((a + i) : Nat) : Int))] [] (mj_Sh, M, N) (fun r Z => r = some (.inl (pS perm a (l + 1 - a))) ∧ Z = (mj_Sh, M, N)) := by
    refine up_to (l + 1 - a) ?_ ?_
    · show mj_T K d 8 10 [some (.inr (.inr (.inl 78))), some (.inr (.inr (.inl 85))), some (.inl ((g : Nat) : Int)), some (.inl (pS perm a (l + 1 - a))), some (.inl (((a + (l + 1 - a)) : Nat) : Int))] [] (mj_Sh, M, N) (fun r Z => r = some (.inl (pS perm a (l + 1 - a))) ∧ Z = (mj_Sh, M, N))
      refine tw_iload k8_10 rfl ?_
      refine tw_aload k8_12 rfl ?_
      refine tw_getr k8_13 f78_1 ?_
      refine tw_iload k8_16 rfl ?_
      refine tw_iald (j := g) (v := ((l : Nat) : Int)) k8_17 al80 rfl (by omega) h2 ?_
      refine tw_cgtT k8_18 (by omega) ?_
      refine tw_iload k8_34 rfl ?_
      exact tw_ri k8_35 (⟨rfl, rfl⟩)
    · intro i hmi ih
      have ih : mj_T K d 8 10 [some (.inr (.inr (.inl 78))), some (.inr (.inr (.inl 85))), some (.inl ((g : Nat) : Int)), some (.inl (pS perm a (i + 1))), some (.inl (((a + (i + 1)) : Nat) : Int))] [] (mj_Sh, M, N) (fun r Z => r = some (.inl (pS perm a (l + 1 - a))) ∧ Z = (mj_Sh, M, N)) := ih
      show mj_T K d 8 10 [some (.inr (.inr (.inl 78))), some (.inr (.inr (.inl 85))), some (.inl ((g : Nat) : Int)), some (.inl (pS perm a i)), some (.inl (((a + i) : Nat) : Int))] [] (mj_Sh, M, N) (fun r Z => r = some (.inl (pS perm a (l + 1 - a))) ∧ Z = (mj_Sh, M, N))
      have h5 := pS_rg (f := perm) (a := a) (B := 1000) i (fun y h1 h2 => hB y (by omega) (by omega))
      have h6 := hB (a + i) (by omega) (by omega)
      refine tw_iload k8_10 rfl ?_
      refine tw_aload k8_12 rfl ?_
      refine tw_getr k8_13 f78_1 ?_
      refine tw_iload k8_16 rfl ?_
      refine tw_iald (j := g) (v := ((l : Nat) : Int)) k8_17 al80 rfl (by omega) h2 ?_
      refine tw_cgtF k8_18 (by omega) ?_
      refine tw_iload k8_21 rfl ?_
      refine tw_aload k8_22 rfl ?_
      refine tw_iload k8_23 rfl ?_
      refine tw_iald (j := (a + i)) (v := (perm (a + i))) k8_25 al85 rfl (by omega) (hP (a + i) (by omega) (by omega)) ?_
      refine tw_iadd k8_26 (v := ((pS perm a i) + (perm (a + i)))) rfl (by omega) ?_
      refine tw_istore k8_27 rfl (L' := [some (.inr (.inr (.inl 78))), some (.inr (.inr (.inl 85))), some (.inl ((g : Nat) : Int)), some (.inl ((pS perm a i) + (perm (a + i)))), some (.inl (((a + i) : Nat) : Int))]) rfl ?_
      refine tw_iinc k8_28 rfl (v := (((a + i) + 1 : Nat) : Int)) rfl (by omega) rfl (L' := [some (.inr (.inr (.inl 78))), some (.inr (.inr (.inl 85))), some (.inl ((g : Nat) : Int)), some (.inl ((pS perm a i) + (perm (a + i)))), some (.inl (((a + i) + 1 : Nat) : Int))]) rfl ?_
      refine tw_goto k8_31 ?_
      refine tw_eqL (L' := [some (.inr (.inr (.inl 78))), some (.inr (.inr (.inl 85))), some (.inl ((g : Nat) : Int)), some (.inl (pS perm a (i + 1))), some (.inl (((a + (i + 1)) : Nat) : Int))]) (e_c rfl (e_c rfl (e_c rfl (e_c rfl (e_c rfl rfl))))) ?_
      exact ih
  refine tw_const k8_0 ?_
  refine tw_istore k8_1 rfl (L' := [some (.inr (.inr (.inl 78))), some (.inr (.inr (.inl 85))), some (.inl ((g : Nat) : Int)), some (.inl (0 : Int)), none]) rfl ?_
  refine tw_aload k8_2 rfl ?_
  refine tw_getr k8_3 f78_0 ?_
  refine tw_iload k8_6 rfl ?_
  refine tw_iald (j := g) (v := ((a : Nat) : Int)) k8_7 al79 rfl (by omega) h1 ?_
  refine tw_istore k8_8 rfl (L' := [some (.inr (.inr (.inl 78))), some (.inr (.inr (.inl 85))), some (.inl ((g : Nat) : Int)), some (.inl (0 : Int)), some (.inl ((a : Nat) : Int))]) rfl ?_
  refine tw_eqL (L' := [some (.inr (.inr (.inl 78))), some (.inr (.inr (.inl 85))), some (.inl ((g : Nat) : Int)), some (.inl (pS perm a 0)), some (.inl (((a + 0) : Nat) : Int))]) (e_c rfl (e_c rfl (e_c rfl (e_c rfl (e_c rfl rfl))))) ?_
  exact key 0 (by omega)
theorem x_9_69 {K : mj_C} {d : Nat} {M : Nat → Nat → Int} {N : Nat → Nat → Int64} (G : GS) (h15 : G.1 ≤ 5) (hG : gRel (M 78 3) (M 79) (M 80) (M 81) G) : mj_X K d 9 [.inr (.inr (.inl 78))] (mj_Sh, M, N) (fun r Z => r = some (.inl (if gR G + 1 < G.1 then ((gR G : Nat) : Int) else -1)) ∧ Z = (mj_Sh, M, N)) := by
  show mj_T K d 9 0 [some (.inr (.inr (.inl 78))), none] [] (mj_Sh, M, N) _
  have key : ∀ g : Nat, g ≤ (G.1 - 1) → (∀ j, j < g → ¬ G.2.2.2 j < G.2.2.2 (j + 1)) → mj_T K d 9 2 [some (.inr (.inr (.inl 78))), some (.inl ((g : Nat) : Int))] [] (mj_Sh, M, N) (fun r Z => r = some (.inl (if gR G + 1 < G.1 then ((gR G : Nat) : Int) else -1)) ∧ Z = (mj_Sh, M, N)) := by
    refine up_to (G.1 - 1) ?_ ?_
    · show (∀ j, j < (G.1 - 1) → ¬ G.2.2.2 j < G.2.2.2 (j + 1)) → mj_T K d 9 2 [some (.inr (.inr (.inl 78))), some (.inl (((G.1 - 1) : Nat) : Int))] [] (mj_Sh, M, N) (fun r Z => r = some (.inl (if gR G + 1 < G.1 then ((gR G : Nat) : Int) else -1)) ∧ Z = (mj_Sh, M, N))
      intro hN
      refine tw_iload k9_2 rfl ?_
      refine tw_const k9_3 ?_
      refine tw_iadd k9_4 (v := (((G.1 - 1) + 1 : Nat) : Int)) rfl (by omega) ?_
      refine tw_aload k9_5 rfl ?_
      refine tw_geti k9_6 f78_3 rfl (v := ((G.1 : Nat) : Int)) hG.1 ?_
      refine tw_cgeT k9_9 (by omega) ?_
      refine tw_const k9_37 ?_
      exact tw_ri k9_38 (⟨by rw [gR_no (fun j hj => hN j (by omega)), if_neg (by omega)], rfl⟩)
    · intro g hmg ih
      have ih : (∀ j, j < (g + 1) → ¬ G.2.2.2 j < G.2.2.2 (j + 1)) → mj_T K d 9 2 [some (.inr (.inr (.inl 78))), some (.inl (((g + 1) : Nat) : Int))] [] (mj_Sh, M, N) (fun r Z => r = some (.inl (if gR G + 1 < G.1 then ((gR G : Nat) : Int) else -1)) ∧ Z = (mj_Sh, M, N)) := ih
      show (∀ j, j < g → ¬ G.2.2.2 j < G.2.2.2 (j + 1)) → mj_T K d 9 2 [some (.inr (.inr (.inl 78))), some (.inl ((g : Nat) : Int))] [] (mj_Sh, M, N) (fun r Z => r = some (.inl (if gR G + 1 < G.1 then ((gR G : Nat) : Int) else -1)) ∧ Z = (mj_Sh, M, N))
      intro hN
      refine tw_iload k9_2 rfl ?_
      refine tw_const k9_3 ?_
      refine tw_iadd k9_4 (v := ((g + 1 : Nat) : Int)) rfl (by omega) ?_
      refine tw_aload k9_5 rfl ?_
      refine tw_geti k9_6 f78_3 rfl (v := ((G.1 : Nat) : Int)) hG.1 ?_
      refine tw_cgeF k9_9 (by omega) ?_
      refine tw_aload k9_12 rfl ?_
      refine tw_getr k9_13 f78_2 ?_
      refine tw_iload k9_16 rfl ?_
      refine tw_iald (j := g) (v := (((G.2.2.2 g) : Nat) : Int)) k9_17 al81 rfl (by omega) (hG.2 g (by omega)).2.2 ?_
      refine tw_aload k9_18 rfl ?_
      refine tw_getr k9_19 f78_2 ?_
      refine tw_iload k9_22 rfl ?_
      refine tw_const k9_23 ?_
      refine tw_iadd k9_24 (v := ((g + 1 : Nat) : Int)) rfl (by omega) ?_
      refine tw_iald (j := g + 1) (v := (((G.2.2.2 (g + 1)) : Nat) : Int)) k9_25 al81 rfl (by omega) (hG.2 (g + 1) (by omega)).2.2 ?_
      refine tw_cge k9_26 (fun h26 => ?_) (fun h26 => ?_)
      · refine tw_iinc k9_31 rfl (v := ((g + 1 : Nat) : Int)) rfl (by omega) rfl (L' := [some (.inr (.inr (.inl 78))), some (.inl ((g + 1 : Nat) : Int))]) rfl ?_
        refine tw_goto k9_34 ?_
        exact ih (fun j hj => by
          by_cases e : j = g
          · subst e; omega
          · exact hN j (by omega))
      · refine tw_iload k9_29 rfl ?_
        exact tw_ri k9_30 (⟨by rw [gR_eq (g := g) (by omega) (by omega) hN, if_pos (by omega)], rfl⟩)
  refine tw_const k9_0 ?_
  refine tw_istore k9_1 rfl (L' := [some (.inr (.inr (.inl 78))), some (.inl (0 : Int))]) rfl ?_
  exact key 0 (by omega) (fun j hj => by omega)
theorem x_10_69 {K : mj_C} {d : Nat} {M : Nat → Nat → Int} {N : Nat → Nat → Int64} (G : GS) (Y : Nat) (hY : Y ≤ 5) (hO : gOk Y G) (hG : gRel (M 78 3) (M 79) (M 80) (M 81) G) (g : Nat) (hg : g + 1 < G.1) : mj_X K d 10 [.inr (.inr (.inl 78)), .inl ((g : Nat) : Int)] (mj_Sh, M, N) (fun r Z => r = none ∧ ∃ f1 f2 f3, Z = (mj_Sh, st M [(80, f2), (78, pU (M 78) 3 ((G.1 - 1 : Nat) : Int)), (79, f1), (81, f3)], N) ∧ ∀ j, j < G.1 - 1 → f1 j = ((if j ≤ g then G.2.1 j else G.2.1 (j + 1) : Nat) : Int) ∧ f2 j = ((if j < g then G.2.2.1 j else G.2.2.1 (j + 1) : Nat) : Int) ∧ (j ≠ g → f3 j = ((if j < g then G.2.2.2 j else G.2.2.2 (j + 1) : Nat) : Int))) := by
  show mj_T K d 10 0 [some (.inr (.inr (.inl 78))), some (.inl ((g : Nat) : Int)), none] [] (mj_Sh, M, N) _
  obtain ⟨hO1, hO2, hO3, hO4, hO5⟩ := hO
  have key : ∀ i : Nat, i ≤ (G.1 - 2 - g) → ∀ f1 f2 f3 : Nat → Int, (∀ j, j < G.1 → f1 j = if g < j ∧ j < g + 1 + i then ((G.2.1 (j + 1)) : Int) else (G.2.1 j)) → (∀ j, j < G.1 → f2 j = if j = g then ((G.2.2.1 (g + 1)) : Int) else if g < j ∧ j < g + 1 + i then (G.2.2.1 (j + 1)) else (G.2.2.1 j)) → (∀ j, j < G.1 → f3 j = if g < j ∧ j < g + 1 + i then ((G.2.2.2 (j + 1)) : Int) else (G.2.2.2 j)) → mj_T K d 10 28 [some (.inr (.inr (.inl 78))), some (.inl ((g : Nat) : Int)), some (.inl (((g + 1 + i) : Nat) : Int))] [] (mj_Sh, (st M [(80, f2), (78, (pU (M 78) 3 ((G.1 - 1 : Nat) : Int))), (79, f1), (81, f3)]), N) (fun r Z => r = none ∧ ∃ f1 f2 f3, Z = (mj_Sh, st M [(80, f2), (78, pU (M 78) 3 ((G.1 - 1 : Nat) : Int)), (79, f1), (81, f3)], N) ∧ ∀ j, j < G.1 - 1 → f1 j = ((if j ≤ g then G.2.1 j else G.2.1 (j + 1) : Nat) : Int) ∧ f2 j = ((if j < g then G.2.2.1 j else G.2.2.1 (j + 1) : Nat) : Int) ∧ (j ≠ g → f3 j = ((if j < g then G.2.2.2 j else G.2.2.2 (j + 1) : Nat) : Int))) := by
    refine up_to (G.1 - 2 - g) ?_ ?_
    · show ∀ f1 f2 f3 : Nat → Int, (∀ j, j < G.1 → f1 j = if g < j ∧ j < g + 1 + (G.1 - 2 - g) then ((G.2.1 (j + 1)) : Int) else (G.2.1 j)) → (∀ j, j < G.1 → f2 j = if j = g then ((G.2.2.1 (g + 1)) : Int) else if g < j ∧ j < g + 1 + (G.1 - 2 - g) then (G.2.2.1 (j + 1)) else (G.2.2.1 j)) → (∀ j, j < G.1 → f3 j = if g < j ∧ j < g + 1 + (G.1 - 2 - g) then ((G.2.2.2 (j + 1)) : Int) else (G.2.2.2 j)) → mj_T K d 10 28 [some (.inr (.inr (.inl 78))), some (.inl ((g : Nat) : Int)), some (.inl (((g + 1 + (G.1 - 2 - g)) : Nat) : Int))] [] (mj_Sh, (st M [(80, f2), (78, (pU (M 78) 3 ((G.1 - 1 : Nat) : Int))), (79, f1), (81, f3)]), N) (fun r Z => r = none ∧ ∃ f1 f2 f3, Z = (mj_Sh, st M [(80, f2), (78, pU (M 78) 3 ((G.1 - 1 : Nat) : Int)), (79, f1), (81, f3)], N) ∧ ∀ j, j < G.1 - 1 → f1 j = ((if j ≤ g then G.2.1 j else G.2.1 (j + 1) : Nat) : Int) ∧ f2 j = ((if j < g then G.2.2.1 j else G.2.2.1 (j + 1) : Nat) : Int) ∧ (j ≠ g → f3 j = ((if j < g then G.2.2.2 j else G.2.2.2 (j + 1) : Nat) : Int)))
      intro f1 f2 f3 c1 c2 c3
      refine tw_iload k10_28 rfl ?_
      refine tw_aload k10_29 rfl ?_
      refine tw_geti k10_30 f78_3 rfl (v := (((G.1 - 1) : Nat) : Int)) (show (pU (M 78) 3 ((G.1 - 1 : Nat) : Int)) 3 = _ from pU_eq) ?_
      refine tw_cgeT k10_33 (by omega) ?_
      exact tw_rv k10_84 (⟨rfl, f1, f2, f3, rfl, fun j hj => by
        have d1 := c1 j (by omega)
        have d2 := c2 j (by omega)
        have d3 := c3 j (by omega)
        refine ⟨?_, ?_, fun hne => ?_⟩
        · rw [d1]
          by_cases e : j ≤ g
          · rw [if_neg (by omega), if_pos e]
          · rw [if_pos (by omega), if_neg e]
        · rw [d2]
          by_cases e : j = g
          · subst e; rw [if_pos rfl, if_neg (by omega)]
          · rw [if_neg e]
            by_cases e2 : j < g
            · rw [if_neg (by omega), if_pos e2]
            · rw [if_pos (by omega), if_neg e2]
        · rw [d3]
          by_cases e2 : j < g
          · rw [if_neg (by omega), if_pos e2]
          · rw [if_pos (by omega), if_neg e2]⟩)
    · intro i hmi ih
      have ih : ∀ f1 f2 f3 : Nat → Int, (∀ j, j < G.1 → f1 j = if g < j ∧ j < g + 1 + (i + 1) then ((G.2.1 (j + 1)) : Int) else (G.2.1 j)) → (∀ j, j < G.1 → f2 j = if j = g then ((G.2.2.1 (g + 1)) : Int) else if g < j ∧ j < g + 1 + (i + 1) then (G.2.2.1 (j + 1)) else (G.2.2.1 j)) → (∀ j, j < G.1 → f3 j = if g < j ∧ j < g + 1 + (i + 1) then ((G.2.2.2 (j + 1)) : Int) else (G.2.2.2 j)) → mj_T K d 10 28 [some (.inr (.inr (.inl 78))), some (.inl ((g : Nat) : Int)), some (.inl (((g + 1 + (i + 1)) : Nat) : Int))] [] (mj_Sh, (st M [(80, f2), (78, (pU (M 78) 3 ((G.1 - 1 : Nat) : Int))), (79, f1), (81, f3)]), N) (fun r Z => r = none ∧ ∃ f1 f2 f3, Z = (mj_Sh, st M [(80, f2), (78, pU (M 78) 3 ((G.1 - 1 : Nat) : Int)), (79, f1), (81, f3)], N) ∧ ∀ j, j < G.1 - 1 → f1 j = ((if j ≤ g then G.2.1 j else G.2.1 (j + 1) : Nat) : Int) ∧ f2 j = ((if j < g then G.2.2.1 j else G.2.2.1 (j + 1) : Nat) : Int) ∧ (j ≠ g → f3 j = ((if j < g then G.2.2.2 j else G.2.2.2 (j + 1) : Nat) : Int))) := ih
      show ∀ f1 f2 f3 : Nat → Int, (∀ j, j < G.1 → f1 j = if g < j ∧ j < g + 1 + i then ((G.2.1 (j + 1)) : Int) else (G.2.1 j)) → (∀ j, j < G.1 → f2 j = if j = g then ((G.2.2.1 (g + 1)) : Int) else if g < j ∧ j < g + 1 + i then (G.2.2.1 (j + 1)) else (G.2.2.1 j)) → (∀ j, j < G.1 → f3 j = if g < j ∧ j < g + 1 + i then ((G.2.2.2 (j + 1)) : Int) else (G.2.2.2 j)) → mj_T K d 10 28 [some (.inr (.inr (.inl 78))), some (.inl ((g : Nat) : Int)), some (.inl (((g + 1 + i) : Nat) : Int))] [] (mj_Sh, (st M [(80, f2), (78, (pU (M 78) 3 ((G.1 - 1 : Nat) : Int))), (79, f1), (81, f3)]), N) (fun r Z => r = none ∧ ∃ f1 f2 f3, Z = (mj_Sh, st M [(80, f2), (78, pU (M 78) 3 ((G.1 - 1 : Nat) : Int)), (79, f1), (81, f3)], N) ∧ ∀ j, j < G.1 - 1 → f1 j = ((if j ≤ g then G.2.1 j else G.2.1 (j + 1) : Nat) : Int) ∧ f2 j = ((if j < g then G.2.2.1 j else G.2.2.1 (j + 1) : Nat) : Int) ∧ (j ≠ g → f3 j = ((if j < g then G.2.2.2 j else G.2.2.2 (j + 1) : Nat) : Int)))
      intro f1 f2 f3 c1 c2 c3
      refine tw_iload k10_28 rfl ?_
      refine tw_aload k10_29 rfl ?_
      refine tw_geti k10_30 f78_3 rfl (v := (((G.1 - 1) : Nat) : Int)) (show (pU (M 78) 3 ((G.1 - 1 : Nat) : Int)) 3 = _ from pU_eq) ?_
      refine tw_cgeF k10_33 (by omega) ?_
      refine tw_aload k10_36 rfl ?_
      refine tw_getr k10_37 f78_0 ?_
      refine tw_iload k10_40 rfl ?_
      refine tw_aload k10_41 rfl ?_
      refine tw_getr k10_42 f78_0 ?_
      refine tw_iload k10_45 rfl ?_
      refine tw_const k10_46 ?_
      refine tw_iadd k10_47 (v := (((g + 1 + i) + 1 : Nat) : Int)) rfl (by omega) ?_
      refine tw_iald (j := (g + 1 + i) + 1) (v := (((G.2.1 ((g + 1 + i) + 1)) : Nat) : Int)) k10_48 al79 rfl (by omega) (show f1 ((g + 1 + i) + 1) = _ from (by rw [c1 _ (by omega), if_neg (by omega)])) ?_
      refine tw_iast (M := M) (N := N) (l := [(80, f2), (78, (pU (M 78) 3 ((G.1 - 1 : Nat) : Int))), (79, f1), (81, f3)]) (l' := [(80, f2), (78, (pU (M 78) 3 ((G.1 - 1 : Nat) : Int))), (79, (pU f1 (g + 1 + i) (((G.2.1 ((g + 1 + i) + 1)) : Nat) : Int))), (81, f3)]) (j := (g + 1 + i)) k10_49 al79 rfl (by omega) rfl ?_
      refine tw_aload k10_50 rfl ?_
      refine tw_getr k10_51 f78_1 ?_
      refine tw_iload k10_54 rfl ?_
      refine tw_aload k10_55 rfl ?_
      refine tw_getr k10_56 f78_1 ?_
      refine tw_iload k10_59 rfl ?_
      refine tw_const k10_60 ?_
      refine tw_iadd k10_61 (v := (((g + 1 + i) + 1 : Nat) : Int)) rfl (by omega) ?_
      refine tw_iald (j := (g + 1 + i) + 1) (v := (((G.2.2.1 ((g + 1 + i) + 1)) : Nat) : Int)) k10_62 al80 rfl (by omega) (show f2 ((g + 1 + i) + 1) = _ from (by rw [c2 _ (by omega), if_neg (by omega), if_neg (by omega)])) ?_
      refine tw_iast (M := M) (N := N) (l := [(80, f2), (78, (pU (M 78) 3 ((G.1 - 1 : Nat) : Int))), (79, (pU f1 (g + 1 + i) (((G.2.1 ((g + 1 + i) + 1)) : Nat) : Int))), (81, f3)]) (l' := [(80, (pU f2 (g + 1 + i) (((G.2.2.1 ((g + 1 + i) + 1)) : Nat) : Int))), (78, (pU (M 78) 3 ((G.1 - 1 : Nat) : Int))), (79, (pU f1 (g + 1 + i) (((G.2.1 ((g + 1 + i) + 1)) : Nat) : Int))), (81, f3)]) (j := (g + 1 + i)) k10_63 al80 rfl (by omega) rfl ?_
      refine tw_aload k10_64 rfl ?_
      refine tw_getr k10_65 f78_2 ?_
      refine tw_iload k10_68 rfl ?_
      refine tw_aload k10_69 rfl ?_
      refine tw_getr k10_70 f78_2 ?_
      refine tw_iload k10_73 rfl ?_
      refine tw_const k10_74 ?_
      refine tw_iadd k10_75 (v := (((g + 1 + i) + 1 : Nat) : Int)) rfl (by omega) ?_
      refine tw_iald (j := (g + 1 + i) + 1) (v := (((G.2.2.2 ((g + 1 + i) + 1)) : Nat) : Int)) k10_76 al81 rfl (by omega) (show f3 ((g + 1 + i) + 1) = _ from (by rw [c3 _ (by omega), if_neg (by omega)])) ?_
      refine tw_iast (M := M) (N := N) (l := [(80, (pU f2 (g + 1 + i) (((G.2.2.1 ((g + 1 + i) + 1)) : Nat) : Int))), (78, (pU (M 78) 3 ((G.1 - 1 : Nat) : Int))), (79, (pU f1 (g + 1 + i) (((G.2.1 ((g + 1 + i) + 1)) : Nat) : Int))), (81, f3)]) (l' := [(80, (pU f2 (g + 1 + i) (((G.2.2.1 ((g + 1 + i) + 1)) : Nat) : Int))), (78, (pU (M 78) 3 ((G.1 - 1 : Nat) : Int))), (79, (pU f1 (g + 1 + i) (((G.2.1 ((g + 1 + i) + 1)) : Nat) : Int))), (81, (pU f3 (g + 1 + i) (((G.2.2.2 ((g + 1 + i) + 1)) : Nat) : Int)))]) (j := (g + 1 + i)) k10_77 al81 rfl (by omega) rfl ?_
      refine tw_iinc k10_78 rfl (v := (((g + 1 + i) + 1 : Nat) : Int)) rfl (by omega) rfl (L' := [some (.inr (.inr (.inl 78))), some (.inl ((g : Nat) : Int)), some (.inl (((g + 1 + i) + 1 : Nat) : Int))]) rfl ?_
      refine tw_goto k10_81 ?_
      refine ih _ _ _ ?_ ?_ ?_
      · intro j hj
        by_cases e : j = g + 1 + i
        · subst e; rw [pU_eq, if_pos (by omega)]
        · rw [pU_ne e, c1 j hj]
          by_cases e2 : g < j ∧ j < g + 1 + i
          · rw [if_pos e2, if_pos (by omega)]
          · rw [if_neg e2, if_neg (by omega)]
      · intro j hj
        by_cases e : j = g + 1 + i
        · subst e; rw [pU_eq, if_neg (by omega), if_pos (by omega)]
        · rw [pU_ne e, c2 j hj]
          by_cases e1 : j = g
          · rw [if_pos e1, if_pos e1]
          · rw [if_neg e1, if_neg e1]
            by_cases e2 : g < j ∧ j < g + 1 + i
            · rw [if_pos e2, if_pos (by omega)]
            · rw [if_neg e2, if_neg (by omega)]
      · intro j hj
        by_cases e : j = g + 1 + i
        · subst e; rw [pU_eq, if_pos (by omega)]
        · rw [pU_ne e, c3 j hj]
          by_cases e2 : g < j ∧ j < g + 1 + i
          · rw [if_pos e2, if_pos (by omega)]
          · rw [if_neg e2, if_neg (by omega)]
  refine tw_aload k10_0 rfl ?_
  refine tw_getr k10_1 f78_1 ?_
  refine tw_iload k10_4 rfl ?_
  refine tw_aload k10_5 rfl ?_
  refine tw_getr k10_6 f78_1 ?_
  refine tw_iload k10_9 rfl ?_
  refine tw_const k10_10 ?_
  refine tw_iadd k10_11 (v := ((g + 1 : Nat) : Int)) rfl (by omega) ?_
  refine tw_iald (j := g + 1) (v := (((G.2.2.1 (g + 1)) : Nat) : Int)) k10_12 al80 rfl (by omega) (hG.2 (g + 1) (by omega)).2.1 ?_
  refine tw_iast (M := M) (N := N) (l := []) (l' := [(80, (pU (M 80) g (((G.2.2.1 (g + 1)) : Nat) : Int)))]) (j := g) k10_13 al80 rfl (by omega) rfl ?_
  refine tw_aload k10_14 rfl ?_
  refine tw_dupr k10_15 ?_
  refine tw_geti k10_16 f78_3 rfl (v := ((G.1 : Nat) : Int)) (show M 78 3 = _ from hG.1) ?_
  refine tw_const k10_19 ?_
  refine tw_isub k10_20 (v := (((G.1 - 1) : Nat) : Int)) (by omega) (by omega) ?_
  refine tw_puti (M := M) (N := N) (l := [(80, (pU (M 80) g (((G.2.2.1 (g + 1)) : Nat) : Int)))]) (l' := [(80, (pU (M 80) g (((G.2.2.1 (g + 1)) : Nat) : Int))), (78, (pU (M 78) 3 (((G.1 - 1) : Nat) : Int)))]) k10_21 f78_3 rfl ?_
  refine tw_iload k10_24 rfl ?_
  refine tw_const k10_25 ?_
  refine tw_iadd k10_26 (v := ((g + 1 : Nat) : Int)) rfl (by omega) ?_
  refine tw_istore k10_27 rfl (L' := [some (.inr (.inr (.inl 78))), some (.inl ((g : Nat) : Int)), some (.inl ((g + 1 : Nat) : Int))]) rfl ?_
  refine tw_pad (M := M) (N := N) (l := [(80, (pU (M 80) g (((G.2.2.1 (g + 1)) : Nat) : Int))), (78, (pU (M 78) 3 (((G.1 - 1) : Nat) : Int)))]) (l' := [(80, (pU (M 80) g (((G.2.2.1 (g + 1)) : Nat) : Int))), (78, (pU (M 78) 3 (((G.1 - 1) : Nat) : Int))), (79, M 79), (81, M 81)]) [79, 81] rfl ?_
  refine key 0 (by omega) _ _ _ ?_ ?_ ?_
  · intro j hj; rw [if_neg (by omega)]; exact (hG.2 j hj).1
  · intro j hj
    by_cases e : j = g
    · subst e; rw [pU_eq, if_pos rfl]
    · rw [pU_ne e, if_neg e, if_neg (by omega)]; exact (hG.2 j hj).2.1
  · intro j hj; rw [if_neg (by omega)]; exact (hG.2 j hj).2.2
theorem x_7_69 {K : mj_C} {d : Nat} {M : Nat → Nat → Int} {N : Nat → Nat → Int64} (hD : 2 ≤ d) (s : Nat → Int) (hs : pRg s) (hD : dM 72 M s) (Y : Nat) (hYe : Y = (s 0).toNat) (perm : Nat → Int) (hP : ∀ y, y < Y → M 82 y = perm y) (hB : ∀ y, y < 5 → 0 ≤ perm y ∧ perm y ≤ 1000) : mj_X K d 7 [.inr (.inr (.inl 78)), .inr (.inr (.inl 70)), .inr (.inr (.inl 82)), .inl ((Y : Nat) : Int)] (mj_Sh, M, N) (fun r Z => r = none ∧ ∃ f0 f1 f2 f3, Z = (mj_Sh, st M [(78, f0), (79, f1), (80, f2), (81, f3)], N) ∧ gRel (f0 3) f1 f2 f3 (gF s perm Y)) := by
  show mj_T K d 7 0 [some (.inr (.inr (.inl 78))), some (.inr (.inr (.inl 70))), some (.inr (.inr (.inl 82))), some (.inl ((Y : Nat) : Int)), none, none] [] (mj_Sh, M, N) _
  have h5 := hs.2.1
  have hY : Y ≤ 5 := by omega
  have key2 : ∀ j : Nat, j ≤ Y → ∀ (G : GS) (o5 : Option (Int ⊕ (Nat ⊕ Nat))) (f0 f1 f2 f3 : Nat → Int), gOk Y G → gRel (f0 3) f1 f2 f3 G → gDn s perm (Y - j) G = (gF s perm Y) → mj_T K d 7 60 [some (.inr (.inr (.inl 78))), some (.inr (.inr (.inl 70))), some (.inr (.inr (.inl 82))), some (.inl ((Y : Nat) : Int)), some (.inl ((j : Nat) : Int)), sv o5] [] (mj_Sh, (st M [(78, f0), (79, f1), (80, f2), (81, f3)]), N) (fun r Z => r = none ∧ ∃ f0 f1 f2 f3, Z = (mj_Sh, st M [(78, f0), (79, f1), (80, f2), (81, f3)], N) ∧ gRel (f0 3) f1 f2 f3 (gF s perm Y)) := by
    refine up_to Y ?_ ?_
    · show ∀ (G : GS) (o5 : Option (Int ⊕ (Nat ⊕ Nat))) (f0 f1 f2 f3 : Nat → Int), gOk Y G → gRel (f0 3) f1 f2 f3 G → gDn s perm (Y - Y) G = (gF s perm Y) → mj_T K d 7 60 [some (.inr (.inr (.inl 78))), some (.inr (.inr (.inl 70))), some (.inr (.inr (.inl 82))), some (.inl ((Y : Nat) : Int)), some (.inl ((Y : Nat) : Int)), sv o5] [] (mj_Sh, (st M [(78, f0), (79, f1), (80, f2), (81, f3)]), N) (fun r Z => r = none ∧ ∃ f0 f1 f2 f3, Z = (mj_Sh, st M [(78, f0), (79, f1), (80, f2), (81, f3)], N) ∧ gRel (f0 3) f1 f2 f3 (gF s perm Y))
      intro G o5 f0 f1 f2 f3 hO hG hD2
      refine tw_iload k7_60 rfl ?_
      refine tw_iload k7_62 rfl ?_
      refine tw_cgeT k7_63 (by omega) ?_
      exact tw_rv k7_122 (⟨rfl, f0, f1, f2, f3, rfl, by rw [← hD2, Nat.sub_self, gDn]; exact hG⟩)
    · intro j hmj ih
      have ih : ∀ (G : GS) (o5 : Option (Int ⊕ (Nat ⊕ Nat))) (f0 f1 f2 f3 : Nat → Int), gOk Y G → gRel (f0 3) f1 f2 f3 G → gDn s perm (Y - (j + 1)) G = (gF s perm Y) → mj_T K d 7 60 [some (.inr (.inr (.inl 78))), some (.inr (.inr (.inl 70))), some (.inr (.inr (.inl 82))), some (.inl ((Y : Nat) : Int)), some (.inl (((j + 1) : Nat) : Int)), sv o5] [] (mj_Sh, (st M [(78, f0), (79, f1), (80, f2), (81, f3)]), N) (fun r Z => r = none ∧ ∃ f0 f1 f2 f3, Z = (mj_Sh, st M [(78, f0), (79, f1), (80, f2), (81, f3)], N) ∧ gRel (f0 3) f1 f2 f3 (gF s perm Y)) := ih
      show ∀ (G : GS) (o5 : Option (Int ⊕ (Nat ⊕ Nat))) (f0 f1 f2 f3 : Nat → Int), gOk Y G → gRel (f0 3) f1 f2 f3 G → gDn s perm (Y - j) G = (gF s perm Y) → mj_T K d 7 60 [some (.inr (.inr (.inl 78))), some (.inr (.inr (.inl 70))), some (.inr (.inr (.inl 82))), some (.inl ((Y : Nat) : Int)), some (.inl ((j : Nat) : Int)), sv o5] [] (mj_Sh, (st M [(78, f0), (79, f1), (80, f2), (81, f3)]), N) (fun r Z => r = none ∧ ∃ f0 f1 f2 f3, Z = (mj_Sh, st M [(78, f0), (79, f1), (80, f2), (81, f3)], N) ∧ gRel (f0 3) f1 f2 f3 (gF s perm Y))
      intro G o5 f0 f1 f2 f3 hO hG hD2
      have hO1 := hO.1
      by_cases hgr : gR G + 1 < G.1
      · have a1 := hO.2.1 (gR G) (by omega)
        have a2 := hO.2.1 (gR G + 1) hgr
        have a3 := hO.2.2.1 (gR G) hgr
        have hrv : (if gR G + 1 < G.1 then ((gR G : Nat) : Int) else -1) = ((gR G : Nat) : Int) := if_pos hgr
        refine tw_iload k7_60 rfl ?_
        refine tw_iload k7_62 rfl ?_
        refine tw_cgeF k7_63 (by omega) ?_
        refine tw_aload k7_66 rfl ?_
        refine tw_callp (v := .inl (if gR G + 1 < G.1 then ((gR G : Nat) : Int) else -1)) (by omega) (S' := []) (as := [.inr (.inr (.inl 78))]) k7_67 (x_9_69 (M := (st M [(78, f0), (79, f1), (80, f2), (81, f3)])) (N := N) G (by omega) hG) rfl rfl rfl rfl rfl ?_
        refine tw_eqS (S' := [.inl (((gR G) : Nat) : Int)]) (e_c (congrArg Sum.inl hrv) rfl) ?_
        refine tw_istore k7_70 rfl (L' := [some (.inr (.inr (.inl 78))), some (.inr (.inr (.inl 70))), some (.inr (.inr (.inl 82))), some (.inl ((Y : Nat) : Int)), some (.inl ((j : Nat) : Int)), some (.inl (((gR G) : Nat) : Int))]) rfl ?_
        refine tw_iload k7_72 rfl ?_
        refine tw_zgeT k7_74 (by omega) ?_
        refine tw_aload k7_78 rfl ?_
        refine tw_iload k7_79 rfl ?_
        refine tw_call (by omega) (S' := []) (as := [.inr (.inr (.inl 78)), .inl (((gR G) : Nat) : Int)]) k7_81 (x_10_69 (M := (st M [(78, f0), (79, f1), (80, f2), (81, f3)])) (N := N) G Y hY hO hG (gR G) hgr) rfl rfl rfl rfl rfl (fun r81 Z81 hq81 => ?_)
        obtain ⟨rfl, k1, k2, k3, rfl, hk⟩ := hq81
        have hk1 : k1 (gR G) = ((G.2.1 (gR G) : Nat) : Int) := by rw [(hk (gR G) (by omega)).1, if_pos (Nat.le_refl _)]
        have hk2 : k2 (gR G) = ((G.2.2.1 (gR G + 1) : Nat) : Int) := by rw [(hk (gR G) (by omega)).2.1, if_neg (Nat.lt_irrefl _)]
        refine tw_as (S := []) (M := (st M [(78, (pU f0 3 ((G.1 - 1 : Nat) : Int))), (79, k1), (80, k2), (81, k3)])) (N := N) (by rw [st_mg]; rfl) rfl ?_
        refine tw_aload k7_84 rfl ?_
        refine tw_getr k7_85 f78_2 ?_
        refine tw_iload k7_88 rfl ?_
        refine tw_aload k7_90 rfl ?_
        refine tw_aload k7_91 rfl ?_
        refine tw_getr k7_92 f78_0 ?_
        refine tw_iload k7_95 rfl ?_
        refine tw_iald (j := (gR G)) (v := (((G.2.1 (gR G)) : Nat) : Int)) k7_97 al79 rfl (by omega) (show k1 (gR G) = _ from hk1) ?_
        refine tw_aload k7_98 rfl ?_
        refine tw_getr k7_99 f78_1 ?_
        refine tw_iload k7_102 rfl ?_
        refine tw_iald (j := (gR G)) (v := (((G.2.2.1 (gR G + 1)) : Nat) : Int)) k7_104 al80 rfl (by omega) (show k2 (gR G) = _ from hk2) ?_
        refine tw_aload k7_105 rfl ?_
        refine tw_aload k7_106 rfl ?_
        refine tw_iload k7_107 rfl ?_
        refine tw_callp (v := .inl (pS perm (G.2.1 (gR G)) (G.2.2.1 (gR G + 1) + 1 - G.2.1 (gR G)))) (by omega) (S' := [.inl (((G.2.2.1 (gR G + 1)) : Nat) : Int), .inl (((G.2.1 (gR G)) : Nat) : Int), .inr (.inr (.inl 70)), .inl (((gR G) : Nat) : Int), .inr (.inr (.inl 81))]) (as := [.inr (.inr (.inl 78)), .inr (.inr (.inl 82)), .inl (((gR G) : Nat) : Int)]) k7_109 (x_8_69 (M := (st M [(78, (pU f0 3 ((G.1 - 1 : Nat) : Int))), (79, k1), (80, k2), (81, k3)])) (N := N) (gR G) (G.2.1 (gR G)) (G.2.2.1 (gR G + 1)) (by omega) hk1 hk2 (by omega) (by omega) perm (fun y _ hy => hP y (by omega)) (fun y _ hy => hB y (by omega))) rfl rfl rfl rfl rfl ?_
        refine tw_callp (v := .inl (((gPv s perm (G.2.1 (gR G)) (G.2.2.1 (gR G + 1))) : Nat) : Int)) (by omega) (S' := [.inl (((gR G) : Nat) : Int), .inr (.inr (.inl 81))]) (as := [.inr (.inr (.inl 70)), .inl (((G.2.1 (gR G)) : Nat) : Int), .inl (((G.2.2.1 (gR G + 1)) : Nat) : Int), .inl (pS perm (G.2.1 (gR G)) (G.2.2.1 (gR G + 1) + 1 - G.2.1 (gR G)))]) k7_112 (x_4_69 (M := (st M [(78, (pU f0 3 ((G.1 - 1 : Nat) : Int))), (79, k1), (80, k2), (81, k3)])) (N := N) (by omega) s hs (dM_fr hs hD (fun c _ _ => by rw [st_c, if_neg (by omega), st_c, if_neg (by omega), st_c, if_neg (by omega), st_c, if_neg (by omega), st_nil])) (G.2.1 (gR G)) (G.2.2.1 (gR G + 1)) (by omega) (by omega) _) rfl rfl rfl rfl rfl ?_
        refine tw_iast (M := M) (N := N) (l := [(78, (pU f0 3 ((G.1 - 1 : Nat) : Int))), (79, k1), (80, k2), (81, k3)]) (l' := [(78, (pU f0 3 ((G.1 - 1 : Nat) : Int))), (79, k1), (80, k2), (81, (pU k3 (gR G) (((gPv s perm (G.2.1 (gR G)) (G.2.2.1 (gR G + 1))) : Nat) : Int)))]) (j := (gR G)) k7_115 al81 rfl (by omega) rfl ?_
        refine tw_iinc k7_116 rfl (v := ((j + 1 : Nat) : Int)) rfl (by omega) rfl (L' := [some (.inr (.inr (.inl 78))), some (.inr (.inr (.inl 70))), some (.inr (.inr (.inl 82))), some (.inl ((Y : Nat) : Int)), some (.inl ((j + 1 : Nat) : Int)), some (.inl (((gR G) : Nat) : Int))]) rfl ?_
        refine tw_goto k7_119 ?_
        exact ih (gJ s perm (gR G) G) (some (.inl (((gR G) : Nat) : Int))) _ _ _ _ (gJ_ok hO hgr) ⟨rfl, fun j hj => by
          have hj : j < G.1 - 1 := hj
          have hkj := hk j hj
          refine ⟨hkj.1, hkj.2.1, ?_⟩
          show pU k3 _ _ j = (((if j < gR G then G.2.2.2 j else if j = gR G then gPv s perm (G.2.1 (gR G)) (G.2.2.1 (gR G + 1)) else G.2.2.2 (j + 1)) : Nat) : Int)
          by_cases e : j = gR G
          · rw [e, pU_eq, if_neg (by omega), if_pos rfl]
          · rw [pU_ne e, hkj.2.2 e, if_neg e]⟩ (by rw [← hD2, show Y - j = (Y - (j + 1)) + 1 by omega, gDn, if_pos hgr])
      · have hrv : (if gR G + 1 < G.1 then ((gR G : Nat) : Int) else -1) = (-1 : Int) := if_neg hgr
        refine tw_iload k7_60 rfl ?_
        refine tw_iload k7_62 rfl ?_
        refine tw_cgeF k7_63 (by omega) ?_
        refine tw_aload k7_66 rfl ?_
        refine tw_callp (v := .inl (if gR G + 1 < G.1 then ((gR G : Nat) : Int) else -1)) (by omega) (S' := []) (as := [.inr (.inr (.inl 78))]) k7_67 (x_9_69 (M := (st M [(78, f0), (79, f1), (80, f2), (81, f3)])) (N := N) G (by omega) hG) rfl rfl rfl rfl rfl ?_
        refine tw_eqS (S' := [.inl (-1 : Int)]) (e_c (congrArg Sum.inl hrv) rfl) ?_
        refine tw_istore k7_70 rfl (L' := [some (.inr (.inr (.inl 78))), some (.inr (.inr (.inl 70))), some (.inr (.inr (.inl 82))), some (.inl ((Y : Nat) : Int)), some (.inl ((j : Nat) : Int)), some (.inl (-1 : Int))]) rfl ?_
        refine tw_iload k7_72 rfl ?_
        refine tw_zgeF k7_74 (by decide) ?_
        exact tw_rv k7_77 (⟨rfl, f0, f1, f2, f3, rfl, by rw [← hD2, show Y - j = (Y - (j + 1)) + 1 by omega, gDn, if_neg hgr]; exact hG⟩)
  have key1 : ∀ y : Nat, y ≤ Y → ∀ f1 f2 f3 : Nat → Int, (∀ j, j < y → f1 j = (j : Int) ∧ f2 j = (j : Int) ∧ f3 j = ((gPv s perm j j : Nat) : Int)) → mj_T K d 7 8 [some (.inr (.inr (.inl 78))), some (.inr (.inr (.inl 70))), some (.inr (.inr (.inl 82))), some (.inl ((Y : Nat) : Int)), some (.inl ((y : Nat) : Int)), none] [] (mj_Sh, (st M [(78, pU (M 78) 3 ((Y : Nat) : Int)), (79, f1), (80, f2), (81, f3)]), N) (fun r Z => r = none ∧ ∃ f0 f1 f2 f3, Z = (mj_Sh, st M [(78, f0), (79, f1), (80, f2), (81, f3)], N) ∧ gRel (f0 3) f1 f2 f3 (gF s perm Y)) := by
    refine up_to Y ?_ ?_
    · show ∀ f1 f2 f3 : Nat → Int, (∀ j, j < Y → f1 j = (j : Int) ∧ f2 j = (j : Int) ∧ f3 j = ((gPv s perm j j : Nat) : Int)) → mj_T K d 7 8 [some (.inr (.inr (.inl 78))), some (.inr (.inr (.inl 70))), some (.inr (.inr (.inl 82))), some (.inl ((Y : Nat) : Int)), some (.inl ((Y : Nat) : Int)), none] [] (mj_Sh, (st M [(78, pU (M 78) 3 ((Y : Nat) : Int)), (79, f1), (80, f2), (81, f3)]), N) (fun r Z => r = none ∧ ∃ f0 f1 f2 f3, Z = (mj_Sh, st M [(78, f0), (79, f1), (80, f2), (81, f3)], N) ∧ gRel (f0 3) f1 f2 f3 (gF s perm Y))
      intro f1 f2 f3 hf
      refine tw_iload k7_8 rfl ?_
      refine tw_iload k7_10 rfl ?_
      refine tw_cgeT k7_11 (by omega) ?_
      refine tw_const k7_57 ?_
      refine tw_istore k7_58 rfl (L' := [some (.inr (.inr (.inl 78))), some (.inr (.inr (.inl 70))), some (.inr (.inr (.inl 82))), some (.inl ((Y : Nat) : Int)), some (.inl (0 : Int)), none]) rfl ?_
      exact key2 0 (by omega) (g0 s perm Y) none _ _ _ _ (g0_ok _ _ _) ⟨pU_eq, hf⟩ rfl
    · intro y hmy ih
      have ih : ∀ f1 f2 f3 : Nat → Int, (∀ j, j < (y + 1) → f1 j = (j : Int) ∧ f2 j = (j : Int) ∧ f3 j = ((gPv s perm j j : Nat) : Int)) → mj_T K d 7 8 [some (.inr (.inr (.inl 78))), some (.inr (.inr (.inl 70))), some (.inr (.inr (.inl 82))), some (.inl ((Y : Nat) : Int)), some (.inl (((y + 1) : Nat) : Int)), none] [] (mj_Sh, (st M [(78, pU (M 78) 3 ((Y : Nat) : Int)), (79, f1), (80, f2), (81, f3)]), N) (fun r Z => r = none ∧ ∃ f0 f1 f2 f3, Z = (mj_Sh, st M [(78, f0), (79, f1), (80, f2), (81, f3)], N) ∧ gRel (f0 3) f1 f2 f3 (gF s perm Y)) := ih
      show ∀ f1 f2 f3 : Nat → Int, (∀ j, j < y → f1 j = (j : Int) ∧ f2 j = (j : Int) ∧ f3 j = ((gPv s perm j j : Nat) : Int)) → mj_T K d 7 8 [some (.inr (.inr (.inl 78))), some (.inr (.inr (.inl 70))), some (.inr (.inr (.inl 82))), some (.inl ((Y : Nat) : Int)), some (.inl ((y : Nat) : Int)), none] [] (mj_Sh, (st M [(78, pU (M 78) 3 ((Y : Nat) : Int)), (79, f1), (80, f2), (81, f3)]), N) (fun r Z => r = none ∧ ∃ f0 f1 f2 f3, Z = (mj_Sh, st M [(78, f0), (79, f1), (80, f2), (81, f3)], N) ∧ gRel (f0 3) f1 f2 f3 (gF s perm Y))
      intro f1 f2 f3 hf
      have e1 : y + 1 - y = 0 + 1 := by omega
      have hpy : pS perm y (y + 1 - y) = perm y := by rw [e1, pS, pS]; rw [Nat.add_zero, Int.zero_add]
      have hgp : pPr s y (y + 1 - y) (perm y) = gPv s perm y y := by unfold gPv; rw [hpy]
      refine tw_iload k7_8 rfl ?_
      refine tw_iload k7_10 rfl ?_
      refine tw_cgeF k7_11 (by omega) ?_
      refine tw_aload k7_14 rfl ?_
      refine tw_getr k7_15 f78_0 ?_
      refine tw_iload k7_18 rfl ?_
      refine tw_iload k7_20 rfl ?_
      refine tw_iast (M := M) (N := N) (l := [(78, (pU (M 78) 3 ((Y : Nat) : Int))), (79, f1), (80, f2), (81, f3)]) (l' := [(78, (pU (M 78) 3 ((Y : Nat) : Int))), (79, (pU f1 y ((y : Nat) : Int))), (80, f2), (81, f3)]) (j := y) k7_22 al79 rfl (by omega) rfl ?_
      refine tw_aload k7_23 rfl ?_
      refine tw_getr k7_24 f78_1 ?_
      refine tw_iload k7_27 rfl ?_
      refine tw_iload k7_29 rfl ?_
      refine tw_iast (M := M) (N := N) (l := [(78, (pU (M 78) 3 ((Y : Nat) : Int))), (79, (pU f1 y ((y : Nat) : Int))), (80, f2), (81, f3)]) (l' := [(78, (pU (M 78) 3 ((Y : Nat) : Int))), (79, (pU f1 y ((y : Nat) : Int))), (80, (pU f2 y ((y : Nat) : Int))), (81, f3)]) (j := y) k7_31 al80 rfl (by omega) rfl ?_
      refine tw_aload k7_32 rfl ?_
      refine tw_getr k7_33 f78_2 ?_
      refine tw_iload k7_36 rfl ?_
      refine tw_aload k7_38 rfl ?_
      refine tw_iload k7_39 rfl ?_
      refine tw_iload k7_41 rfl ?_
      refine tw_aload k7_43 rfl ?_
      refine tw_iload k7_44 rfl ?_
      refine tw_iald (j := y) (v := (perm y)) k7_46 al82 rfl (by omega) (show M 82 y = _ from (hP y (by omega))) ?_
      refine tw_callp (v := .inl (((pPr s y (y + 1 - y) (perm y)) : Nat) : Int)) (by omega) (S' := [.inl ((y : Nat) : Int), .inr (.inr (.inl 81))]) (as := [.inr (.inr (.inl 70)), .inl ((y : Nat) : Int), .inl ((y : Nat) : Int), .inl (perm y)]) k7_47 (x_4_69 (M := (st M [(78, (pU (M 78) 3 ((Y : Nat) : Int))), (79, (pU f1 y ((y : Nat) : Int))), (80, (pU f2 y ((y : Nat) : Int))), (81, f3)])) (N := N) (by omega) s hs (dM_fr hs hD (fun c _ _ => by rw [st_c, if_neg (by omega), st_c, if_neg (by omega), st_c, if_neg (by omega), st_c, if_neg (by omega), st_nil])) y y (by omega) (by omega) (perm y)) rfl rfl rfl rfl rfl ?_
      refine tw_eqS (S' := [.inl (((gPv s perm y y) : Nat) : Int), .inl ((y : Nat) : Int), .inr (.inr (.inl 81))]) (e_c (congrArg Sum.inl (by rw [hgp])) rfl) ?_
      refine tw_iast (M := M) (N := N) (l := [(78, (pU (M 78) 3 ((Y : Nat) : Int))), (79, (pU f1 y ((y : Nat) : Int))), (80, (pU f2 y ((y : Nat) : Int))), (81, f3)]) (l' := [(78, (pU (M 78) 3 ((Y : Nat) : Int))), (79, (pU f1 y ((y : Nat) : Int))), (80, (pU f2 y ((y : Nat) : Int))), (81, (pU f3 y (((gPv s perm y y) : Nat) : Int)))]) (j := y) k7_50 al81 rfl (by omega) rfl ?_
      refine tw_iinc k7_51 rfl (v := ((y + 1 : Nat) : Int)) rfl (by omega) rfl (L' := [some (.inr (.inr (.inl 78))), some (.inr (.inr (.inl 70))), some (.inr (.inr (.inl 82))), some (.inl ((Y : Nat) : Int)), some (.inl ((y + 1 : Nat) : Int)), none]) rfl ?_
      refine tw_goto k7_54 ?_
      refine ih _ _ _ (fun j hj => ?_)
      by_cases e : j = y
      · subst e; exact ⟨pU_eq, pU_eq, pU_eq⟩
      · rw [pU_ne e, pU_ne e, pU_ne e]; exact hf j (by omega)
  refine tw_aload k7_0 rfl ?_
  refine tw_iload k7_1 rfl ?_
  refine tw_puti (M := M) (N := N) (l := []) (l' := [(78, (pU (M 78) 3 ((Y : Nat) : Int)))]) k7_2 f78_3 rfl ?_
  refine tw_const k7_5 ?_
  refine tw_istore k7_6 rfl (L' := [some (.inr (.inr (.inl 78))), some (.inr (.inr (.inl 70))), some (.inr (.inr (.inl 82))), some (.inl ((Y : Nat) : Int)), some (.inl (0 : Int)), none]) rfl ?_
  refine tw_pad (M := M) (N := N) (l := [(78, (pU (M 78) 3 ((Y : Nat) : Int)))]) (l' := [(78, (pU (M 78) 3 ((Y : Nat) : Int))), (79, M 79), (80, M 80), (81, M 81)]) [79, 80, 81] rfl ?_
  exact key1 0 (by omega) _ _ _ (fun j hj => by omega)
