-- the class: a plan asked; the cells of a state
def rV (o : Nat) (M : Nat → Nat → Int) (s : Nat → Int) (c : Nat) : Prop := M o 2 = s c ∧ ∀ i : Nat, (i : Int) < s c → M (o + 1) i = s (c + 1 + 2 * i) ∧ M (o + 2) i = s (c + 2 + 2 * i)
theorem x_13_35 {K : mj_C} {d : Nat} {M : Nat → Nat → Int} {N : Nat → Nat → Int64} (s : Nat → Int) (hs : pRg s) (hP : cPV 35 M N s) (y : Nat) (hy : (y : Int) < s 0) : mj_X K d 13 [.inr (.inr (.inl 35)), .inl ((y : Nat) : Int)] (mj_Sh, M, N) (fun r Z => r = some (.inl (wPr s y)) ∧ Z = (mj_Sh, M, N)) := by
  show mj_T K d 13 0 [some (.inr (.inr (.inl 35))), some (.inl ((y : Nat) : Int))] [] (mj_Sh, M, N) _
  obtain ⟨⟨p11, p12, p13, p14, p15, hpp, hpg, hpd⟩, hu, hl, hd, hv, hn⟩ := hP
  have hpg : gRel (M 44 3) (M 45) (M 46) (M 47) (wG s) := hpg
  have h0 := hs.1 0 (by omega)
  have h5 := hs.2.1
  have h11 := hs.1 11 (by omega)
  have hc11 := hs.2.2.1
  have hGk : gOk (s 0).toNat (wG s) := wGr_ok s (wB s)
  have hG1 : (wG s).1 ≤ (s 0).toNat := hGk.1
  obtain ⟨g1, g2, g3⟩ := gOf_in hGk (show y < (s 0).toNat by omega)
  refine tw_aload k13_0 rfl ?_
  refine tw_getr k13_1 f35_1 ?_
  refine tw_getr k13_4 f44_2 ?_
  refine tw_aload k13_7 rfl ?_
  refine tw_getr k13_8 f35_4 ?_
  refine tw_iload k13_11 rfl ?_
  refine tw_iald (j := y) (v := (((gOf (wG s) y) : Nat) : Int)) k13_12 al50 rfl (by omega) (hu y (by omega)).1 ?_
  refine tw_iald (j := (gOf (wG s) y)) (v := ((((wG s).2.2.2 (gOf (wG s) y)) : Nat) : Int)) k13_13 al47 rfl (by omega) (hpg.2 (gOf (wG s) y) (by omega)).2.2 ?_
  exact tw_ri k13_14 (⟨rfl, rfl⟩)
theorem x_20_35 {K : mj_C} {d : Nat} {M : Nat → Nat → Int} {N : Nat → Nat → Int64} (hD : 1 ≤ d) (s : Nat → Int) (hs : pRg s) (hP : cPV 35 M N s) (hr : rV 15 M s 74) (hl_ : pLs s 74 8) : mj_X K d 20 [.inr (.inr (.inl 35)), .inr (.inr (.inl 15))] (mj_Sh, M, N) (fun r Z => r = some (.inl (qFirst s 74)) ∧ Z = (mj_Sh, M, N)) := by
  show mj_T K d 20 0 [some (.inr (.inr (.inl 35))), some (.inr (.inr (.inl 15))), none, none] [] (mj_Sh, M, N) _
  have hP0 := hP
  obtain ⟨⟨p11, p12, p13, p14, p15, hpp, hpg, hpd⟩, hu, hl, hd, hv, hn⟩ := hP
  have hpg : gRel (M 44 3) (M 45) (M 46) (M 47) (wG s) := hpg
  have h0 := hs.1 0 (by omega)
  have h5 := hs.2.1
  have h11 := hs.1 11 (by omega)
  have hc11 := hs.2.2.1
  have hGk : gOk (s 0).toNat (wG s) := wGr_ok s (wB s)
  have hG1 : (wG s).1 ≤ (s 0).toNat := hGk.1
  have hl1 := hl_.1
  have hl2 := hl_.2.1
  have key : ∀ i : Nat, i ≤ (s 74).toNat → ∀ o3, (∀ j, j < i → wPr s (s (74 + 1 + 2 * j)).toNat = s (74 + 2 + 2 * j)) → mj_T K d 20 2 [some (.inr (.inr (.inl 35))), some (.inr (.inr (.inl 15))), some (.inl ((i : Nat) : Int)), sv o3] [] (mj_Sh, M, N) (fun r Z => r = some (.inl (qFirst s 74)) ∧ Z = (mj_Sh, M, N)) := by
    refine up_to (s 74).toNat ?_ ?_
    · show ∀ o3, (∀ j, j < (s 74).toNat → wPr s (s (74 + 1 + 2 * j)).toNat = s (74 + 2 + 2 * j)) → mj_T K d 20 2 [some (.inr (.inr (.inl 35))), some (.inr (.inr (.inl 15))), some (.inl (((s 74).toNat : Nat) : Int)), sv o3] [] (mj_Sh, M, N) (fun r Z => r = some (.inl (qFirst s 74)) ∧ Z = (mj_Sh, M, N))
      intro o3 hN
      refine tw_iload k20_2 rfl ?_
      refine tw_aload k20_3 rfl ?_
      refine tw_geti k20_4 f15_2 rfl (v := (s 74)) hr.1 ?_
      refine tw_cgeT k20_7 (by omega) ?_
      refine tw_const k20_47 ?_
      exact tw_ri k20_49 (⟨by unfold qFirst; rw [pFd_no _ 0 (fun j _ hj => fun q => q (hN j (by omega))), if_neg (by omega)], rfl⟩)
    · intro i hmi ih
      have ih : ∀ o3, (∀ j, j < (i + 1) → wPr s (s (74 + 1 + 2 * j)).toNat = s (74 + 2 + 2 * j)) → mj_T K d 20 2 [some (.inr (.inr (.inl 35))), some (.inr (.inr (.inl 15))), some (.inl (((i + 1) : Nat) : Int)), sv o3] [] (mj_Sh, M, N) (fun r Z => r = some (.inl (qFirst s 74)) ∧ Z = (mj_Sh, M, N)) := ih
      show ∀ o3, (∀ j, j < i → wPr s (s (74 + 1 + 2 * j)).toNat = s (74 + 2 + 2 * j)) → mj_T K d 20 2 [some (.inr (.inr (.inl 35))), some (.inr (.inr (.inl 15))), some (.inl ((i : Nat) : Int)), sv o3] [] (mj_Sh, M, N) (fun r Z => r = some (.inl (qFirst s 74)) ∧ Z = (mj_Sh, M, N))
      intro o3 hN
      have hx := hl_.2.2 i (by omega)
      obtain ⟨k, hke⟩ : ∃ k : Nat, s (74 + 1 + 2 * i) = (k : Int) := ⟨(s (74 + 1 + 2 * i)).toNat, by omega⟩
      have hkt : (s (74 + 1 + 2 * i)).toNat = k := by omega
      refine tw_iload k20_2 rfl ?_
      refine tw_aload k20_3 rfl ?_
      refine tw_geti k20_4 f15_2 rfl (v := (s 74)) hr.1 ?_
      refine tw_cgeF k20_7 (by omega) ?_
      refine tw_aload k20_10 rfl ?_
      refine tw_getr k20_11 f15_0 ?_
      refine tw_iload k20_14 rfl ?_
      refine tw_iald (j := i) (v := ((k : Nat) : Int)) k20_15 al16 rfl (by omega) ((hr.2 i (by omega)).1.trans hke) ?_
      refine tw_istore k20_16 rfl (L' := [some (.inr (.inr (.inl 35))), some (.inr (.inr (.inl 15))), some (.inl ((i : Nat) : Int)), some (.inl ((k : Nat) : Int))]) rfl ?_
      refine tw_iload k20_17 rfl ?_
      refine tw_aload k20_18 rfl ?_
      refine tw_geti k20_19 f35_11 rfl (v := (s 0)) p11 ?_
      refine tw_cgeF k20_22 (by omega) ?_
      refine tw_aload k20_25 rfl ?_
      refine tw_iload k20_26 rfl ?_
      refine tw_callp (v := .inl (wPr s k)) (by omega) (S' := []) (as := [.inr (.inr (.inl 35)), .inl ((k : Nat) : Int)]) k20_27 (x_13_35 (M := M) (N := N) s hs hP0 k (by omega)) rfl rfl rfl rfl rfl ?_
      refine tw_aload k20_30 rfl ?_
      refine tw_getr k20_31 f15_1 ?_
      refine tw_iload k20_34 rfl ?_
      refine tw_iald (j := i) (v := (s (74 + 2 + 2 * i))) k20_35 al17 rfl (by omega) (hr.2 i (by omega)).2 ?_
      refine tw_ceq k20_36 (fun h36 => ?_) (fun h36 => ?_)
      · refine tw_iinc k20_41 rfl (v := ((i + 1 : Nat) : Int)) rfl (by omega) rfl (L' := [some (.inr (.inr (.inl 35))), some (.inr (.inr (.inl 15))), some (.inl ((i + 1 : Nat) : Int)), some (.inl ((k : Nat) : Int))]) rfl ?_
        refine tw_goto k20_44 ?_
        exact ih (some (.inl ((k : Nat) : Int))) (fun j hj => by
          by_cases e : j = i
          · subst e; rw [hkt]; exact h36
          · exact hN j (by omega))
      · refine tw_iload k20_39 rfl ?_
        exact tw_ri k20_40 (⟨by unfold qFirst; rw [pFd_eq (P := (fun i => ¬ wPr s (s (74 + 1 + 2 * i)).toNat = s (74 + 2 + 2 * i))) _ 0 i (by omega) (by omega) (show ¬ wPr s (s (74 + 1 + 2 * i)).toNat = s (74 + 2 + 2 * i) by rw [hkt]; exact h36) (fun j _ hj => fun q => q (hN j hj)), if_pos (by omega)], rfl⟩)
  refine tw_const k20_0 ?_
  refine tw_istore k20_1 rfl (L' := [some (.inr (.inr (.inl 35))), some (.inr (.inr (.inl 15))), some (.inl (0 : Int)), none]) rfl ?_
  exact key 0 (by omega) none (fun j hj => by omega)
theorem x_13_69 {K : mj_C} {d : Nat} {M : Nat → Nat → Int} {N : Nat → Nat → Int64} (s : Nat → Int) (hs : pRg s) (hP : cPV 69 M N s) (y : Nat) (hy : (y : Int) < s 0) : mj_X K d 13 [.inr (.inr (.inl 69)), .inl ((y : Nat) : Int)] (mj_Sh, M, N) (fun r Z => r = some (.inl (wPr s y)) ∧ Z = (mj_Sh, M, N)) := by
  show mj_T K d 13 0 [some (.inr (.inr (.inl 69))), some (.inl ((y : Nat) : Int))] [] (mj_Sh, M, N) _
  obtain ⟨⟨p11, p12, p13, p14, p15, hpp, hpg, hpd⟩, hu, hl, hd, hv, hn⟩ := hP
  have hpg : gRel (M 78 3) (M 79) (M 80) (M 81) (wG s) := hpg
  have h0 := hs.1 0 (by omega)
  have h5 := hs.2.1
  have h11 := hs.1 11 (by omega)
  have hc11 := hs.2.2.1
  have hGk : gOk (s 0).toNat (wG s) := wGr_ok s (wB s)
  have hG1 : (wG s).1 ≤ (s 0).toNat := hGk.1
  obtain ⟨g1, g2, g3⟩ := gOf_in hGk (show y < (s 0).toNat by omega)
  refine tw_aload k13_0 rfl ?_
  refine tw_getr k13_1 f69_1 ?_
  refine tw_getr k13_4 f78_2 ?_
  refine tw_aload k13_7 rfl ?_
  refine tw_getr k13_8 f69_4 ?_
  refine tw_iload k13_11 rfl ?_
  refine tw_iald (j := y) (v := (((gOf (wG s) y) : Nat) : Int)) k13_12 al84 rfl (by omega) (hu y (by omega)).1 ?_
  refine tw_iald (j := (gOf (wG s) y)) (v := ((((wG s).2.2.2 (gOf (wG s) y)) : Nat) : Int)) k13_13 al81 rfl (by omega) (hpg.2 (gOf (wG s) y) (by omega)).2.2 ?_
  exact tw_ri k13_14 (⟨rfl, rfl⟩)
theorem x_20_69 {K : mj_C} {d : Nat} {M : Nat → Nat → Int} {N : Nat → Nat → Int64} (hD : 1 ≤ d) (s : Nat → Int) (hs : pRg s) (hP : cPV 69 M N s) (hr : rV 9 M s 46) (hl_ : pLs s 46 5) : mj_X K d 20 [.inr (.inr (.inl 69)), .inr (.inr (.inl 9))] (mj_Sh, M, N) (fun r Z => r = some (.inl (qFirst s 46)) ∧ Z = (mj_Sh, M, N)) := by
  show mj_T K d 20 0 [some (.inr (.inr (.inl 69))), some (.inr (.inr (.inl 9))), none, none] [] (mj_Sh, M, N) _
  have hP0 := hP
  obtain ⟨⟨p11, p12, p13, p14, p15, hpp, hpg, hpd⟩, hu, hl, hd, hv, hn⟩ := hP
  have hpg : gRel (M 78 3) (M 79) (M 80) (M 81) (wG s) := hpg
  have h0 := hs.1 0 (by omega)
  have h5 := hs.2.1
  have h11 := hs.1 11 (by omega)
  have hc11 := hs.2.2.1
  have hGk : gOk (s 0).toNat (wG s) := wGr_ok s (wB s)
  have hG1 : (wG s).1 ≤ (s 0).toNat := hGk.1
  have hl1 := hl_.1
  have hl2 := hl_.2.1
  have key : ∀ i : Nat, i ≤ (s 46).toNat → ∀ o3, (∀ j, j < i → wPr s (s (46 + 1 + 2 * j)).toNat = s (46 + 2 + 2 * j)) → mj_T K d 20 2 [some (.inr (.inr (.inl 69))), some (.inr (.inr (.inl 9))), some (.inl ((i : Nat) : Int)), sv o3] [] (mj_Sh, M, N) (fun r Z => r = some (.inl (qFirst s 46)) ∧ Z = (mj_Sh, M, N)) := by
    refine up_to (s 46).toNat ?_ ?_
    · show ∀ o3, (∀ j, j < (s 46).toNat → wPr s (s (46 + 1 + 2 * j)).toNat = s (46 + 2 + 2 * j)) → mj_T K d 20 2 [some (.inr (.inr (.inl 69))), some (.inr (.inr (.inl 9))), some (.inl (((s 46).toNat : Nat) : Int)), sv o3] [] (mj_Sh, M, N) (fun r Z => r = some (.inl (qFirst s 46)) ∧ Z = (mj_Sh, M, N))
      intro o3 hN
      refine tw_iload k20_2 rfl ?_
      refine tw_aload k20_3 rfl ?_
      refine tw_geti k20_4 f9_2 rfl (v := (s 46)) hr.1 ?_
      refine tw_cgeT k20_7 (by omega) ?_
      refine tw_const k20_47 ?_
      exact tw_ri k20_49 (⟨by unfold qFirst; rw [pFd_no _ 0 (fun j _ hj => fun q => q (hN j (by omega))), if_neg (by omega)], rfl⟩)
    · intro i hmi ih
      have ih : ∀ o3, (∀ j, j < (i + 1) → wPr s (s (46 + 1 + 2 * j)).toNat = s (46 + 2 + 2 * j)) → mj_T K d 20 2 [some (.inr (.inr (.inl 69))), some (.inr (.inr (.inl 9))), some (.inl (((i + 1) : Nat) : Int)), sv o3] [] (mj_Sh, M, N) (fun r Z => r = some (.inl (qFirst s 46)) ∧ Z = (mj_Sh, M, N)) := ih
      show ∀ o3, (∀ j, j < i → wPr s (s (46 + 1 + 2 * j)).toNat = s (46 + 2 + 2 * j)) → mj_T K d 20 2 [some (.inr (.inr (.inl 69))), some (.inr (.inr (.inl 9))), some (.inl ((i : Nat) : Int)), sv o3] [] (mj_Sh, M, N) (fun r Z => r = some (.inl (qFirst s 46)) ∧ Z = (mj_Sh, M, N))
      intro o3 hN
      have hx := hl_.2.2 i (by omega)
      obtain ⟨k, hke⟩ : ∃ k : Nat, s (46 + 1 + 2 * i) = (k : Int) := ⟨(s (46 + 1 + 2 * i)).toNat, by omega⟩
      have hkt : (s (46 + 1 + 2 * i)).toNat = k := by omega
      refine tw_iload k20_2 rfl ?_
      refine tw_aload k20_3 rfl ?_
      refine tw_geti k20_4 f9_2 rfl (v := (s 46)) hr.1 ?_
      refine tw_cgeF k20_7 (by omega) ?_
      refine tw_aload k20_10 rfl ?_
      refine tw_getr k20_11 f9_0 ?_
      refine tw_iload k20_14 rfl ?_
      refine tw_iald (j := i) (v := ((k : Nat) : Int)) k20_15 al10 rfl (by omega) ((hr.2 i (by omega)).1.trans hke) ?_
      refine tw_istore k20_16 rfl (L' := [some (.inr (.inr (.inl 69))), some (.inr (.inr (.inl 9))), some (.inl ((i : Nat) : Int)), some (.inl ((k : Nat) : Int))]) rfl ?_
      refine tw_iload k20_17 rfl ?_
      refine tw_aload k20_18 rfl ?_
      refine tw_geti k20_19 f69_11 rfl (v := (s 0)) p11 ?_
      refine tw_cgeF k20_22 (by omega) ?_
      refine tw_aload k20_25 rfl ?_
      refine tw_iload k20_26 rfl ?_
      refine tw_callp (v := .inl (wPr s k)) (by omega) (S' := []) (as := [.inr (.inr (.inl 69)), .inl ((k : Nat) : Int)]) k20_27 (x_13_69 (M := M) (N := N) s hs hP0 k (by omega)) rfl rfl rfl rfl rfl ?_
      refine tw_aload k20_30 rfl ?_
      refine tw_getr k20_31 f9_1 ?_
      refine tw_iload k20_34 rfl ?_
      refine tw_iald (j := i) (v := (s (46 + 2 + 2 * i))) k20_35 al11 rfl (by omega) (hr.2 i (by omega)).2 ?_
      refine tw_ceq k20_36 (fun h36 => ?_) (fun h36 => ?_)
      · refine tw_iinc k20_41 rfl (v := ((i + 1 : Nat) : Int)) rfl (by omega) rfl (L' := [some (.inr (.inr (.inl 69))), some (.inr (.inr (.inl 9))), some (.inl ((i + 1 : Nat) : Int)), some (.inl ((k : Nat) : Int))]) rfl ?_
        refine tw_goto k20_44 ?_
        exact ih (some (.inl ((k : Nat) : Int))) (fun j hj => by
          by_cases e : j = i
          · subst e; rw [hkt]; exact h36
          · exact hN j (by omega))
      · refine tw_iload k20_39 rfl ?_
        exact tw_ri k20_40 (⟨by unfold qFirst; rw [pFd_eq (P := (fun i => ¬ wPr s (s (46 + 1 + 2 * i)).toNat = s (46 + 2 + 2 * i))) _ 0 i (by omega) (by omega) (show ¬ wPr s (s (46 + 1 + 2 * i)).toNat = s (46 + 2 + 2 * i) by rw [hkt]; exact h36) (fun j _ hj => fun q => q (hN j hj)), if_pos (by omega)], rfl⟩)
  refine tw_const k20_0 ?_
  refine tw_istore k20_1 rfl (L' := [some (.inr (.inr (.inl 69))), some (.inr (.inr (.inl 9))), some (.inl (0 : Int)), none]) rfl ?_
  exact key 0 (by omega) none (fun j hj => by omega)
theorem x_14 {K : mj_C} {d : Nat} {M : Nat → Nat → Int} {N : Nat → Nat → Int64} (hD : 1 ≤ d) (s : Nat → Int) (hs : pRg s) (hP : cPV 35 M N s) (g : Nat) (hg : g < (wG s).1) : mj_X K d 14 [.inr (.inr (.inl 35)), .inr (.inr (.inl 48)), .inl ((g : Nat) : Int)] (mj_Sh, M, N) (fun r Z => r = some (.inl (gTot (wB s).1 (wG s) g)) ∧ Z = (mj_Sh, M, N)) := by
  show mj_T K d 14 0 [some (.inr (.inr (.inl 35))), some (.inr (.inr (.inl 48))), some (.inl ((g : Nat) : Int))] [] (mj_Sh, M, N) _
  obtain ⟨⟨p11, p12, p13, p14, p15, hpp, hpg, hpd⟩, hu, hl, hd, hv, hn⟩ := hP
  have hpg : gRel (M 44 3) (M 45) (M 46) (M 47) (wG s) := hpg
  have h0 := hs.1 0 (by omega)
  have h5 := hs.2.1
  have h11 := hs.1 11 (by omega)
  have hc11 := hs.2.2.1
  have hGk : gOk (s 0).toNat (wG s) := wGr_ok s (wB s)
  have hG1 : (wG s).1 ≤ (s 0).toNat := hGk.1
  have hgk := hGk.2.1 g hg
  have hur := fun y (hy : y < (s 0).toNat) => wU_rg hs (by omega) hGk (fun k hk => (wI_p (wB_I hs) k hk).1) hy
  refine tw_aload k14_0 rfl ?_
  refine tw_getr k14_1 f35_1 ?_
  refine tw_aload k14_4 rfl ?_
  refine tw_iload k14_5 rfl ?_
  refine tw_callp (v := .inl (gTot (wB s).1 (wG s) g)) (by omega) (S' := []) (as := [.inr (.inr (.inl 44)), .inr (.inr (.inl 48)), .inl ((g : Nat) : Int)]) k14_6 (x_8_35 (M := M) (N := N) g ((wG s).2.1 g) ((wG s).2.2.1 g) (by omega) (hpg.2 g hg).1 (hpg.2 g hg).2.1 (by omega) (by omega) (wB s).1 (fun y _ _ => (hpp y (by omega)).1) (fun y _ _ => wI_p (wB_I hs) y (by omega))) rfl rfl rfl rfl rfl ?_
  exact tw_ri k14_9 (⟨rfl, rfl⟩)
theorem x_14u {K : mj_C} {d : Nat} {M : Nat → Nat → Int} {N : Nat → Nat → Int64} (hD : 1 ≤ d) (s : Nat → Int) (hs : pRg s) (hP : cPV 35 M N s) (g : Nat) (hg : g < (wG s).1) : mj_X K d 14 [.inr (.inr (.inl 35)), .inr (.inr (.inl 51)), .inl ((g : Nat) : Int)] (mj_Sh, M, N) (fun r Z => r = some (.inl (gTot (wU s (wB s).1 (wG s)) (wG s) g)) ∧ Z = (mj_Sh, M, N)) := by
  show mj_T K d 14 0 [some (.inr (.inr (.inl 35))), some (.inr (.inr (.inl 51))), some (.inl ((g : Nat) : Int))] [] (mj_Sh, M, N) _
  obtain ⟨⟨p11, p12, p13, p14, p15, hpp, hpg, hpd⟩, hu, hl, hd, hv, hn⟩ := hP
  have hpg : gRel (M 44 3) (M 45) (M 46) (M 47) (wG s) := hpg
  have h0 := hs.1 0 (by omega)
  have h5 := hs.2.1
  have h11 := hs.1 11 (by omega)
  have hc11 := hs.2.2.1
  have hGk : gOk (s 0).toNat (wG s) := wGr_ok s (wB s)
  have hG1 : (wG s).1 ≤ (s 0).toNat := hGk.1
  have hgk := hGk.2.1 g hg
  have hur := fun y (hy : y < (s 0).toNat) => wU_rg hs (by omega) hGk (fun k hk => (wI_p (wB_I hs) k hk).1) hy
  refine tw_aload k14_0 rfl ?_
  refine tw_getr k14_1 f35_1 ?_
  refine tw_aload k14_4 rfl ?_
  refine tw_iload k14_5 rfl ?_
  refine tw_callp (v := .inl (gTot (wU s (wB s).1 (wG s)) (wG s) g)) (by omega) (S' := []) (as := [.inr (.inr (.inl 44)), .inr (.inr (.inl 51)), .inl ((g : Nat) : Int)]) k14_6 (x_8_35u (M := M) (N := N) g ((wG s).2.1 g) ((wG s).2.2.1 g) (by omega) (hpg.2 g hg).1 (hpg.2 g hg).2.1 (by omega) (by omega) (wU s (wB s).1 (wG s)) (fun y _ _ => (hu y (by omega)).2.1) (fun y _ hy => by have := hur y (by omega); omega)) rfl rfl rfl rfl rfl ?_
  exact tw_ri k14_9 (⟨rfl, rfl⟩)
theorem x_32 {K : mj_C} {d : Nat} {M : Nat → Nat → Int} {N : Nat → Nat → Int64} (s : Nat → Int) (hs : pRg s) (hP : cPV 35 M N s) (g : Nat) (hg : g < (wG s).1) : mj_X K d 32 [.inr (.inr (.inl 35)), .inl ((g : Nat) : Int)] (mj_Sh, M, N) (fun r Z => r = some (.inl (nW (wG s) g g)) ∧ Z = (mj_Sh, M, N)) := by
  show mj_T K d 32 0 [some (.inr (.inr (.inl 35))), some (.inl ((g : Nat) : Int)), none] [] (mj_Sh, M, N) _
  obtain ⟨⟨p11, p12, p13, p14, p15, hpp, hpg, hpd⟩, hu, hl, hd, hv, hn⟩ := hP
  have hpg : gRel (M 44 3) (M 45) (M 46) (M 47) (wG s) := hpg
  have h0 := hs.1 0 (by omega)
  have h5 := hs.2.1
  have h11 := hs.1 11 (by omega)
  have hc11 := hs.2.2.1
  have hGk : gOk (s 0).toNat (wG s) := wGr_ok s (wB s)
  have hG1 : (wG s).1 ≤ (s 0).toNat := hGk.1
  have key : ∀ k : Nat, k ≤ g → (∀ j, j < k → ¬ (wG s).2.2.2 j = (wG s).2.2.2 g) → mj_T K d 32 2 [some (.inr (.inr (.inl 35))), some (.inl ((g : Nat) : Int)), some (.inl ((k : Nat) : Int))] [] (mj_Sh, M, N) (fun r Z => r = some (.inl (nW (wG s) g g)) ∧ Z = (mj_Sh, M, N)) := by
    refine up_to g ?_ ?_
    · show (∀ j, j < g → ¬ (wG s).2.2.2 j = (wG s).2.2.2 g) → mj_T K d 32 2 [some (.inr (.inr (.inl 35))), some (.inl ((g : Nat) : Int)), some (.inl ((g : Nat) : Int))] [] (mj_Sh, M, N) (fun r Z => r = some (.inl (nW (wG s) g g)) ∧ Z = (mj_Sh, M, N))
      intro hN
      refine tw_iload k32_2 rfl ?_
      refine tw_iload k32_3 rfl ?_
      refine tw_cgeT k32_4 (by omega) ?_
      refine tw_const k32_36 ?_
      exact tw_rb k32_37 (by decide) (⟨by rw [nW_ye g hN], rfl⟩)
    · intro k hmk ih
      have ih : (∀ j, j < (k + 1) → ¬ (wG s).2.2.2 j = (wG s).2.2.2 g) → mj_T K d 32 2 [some (.inr (.inr (.inl 35))), some (.inl ((g : Nat) : Int)), some (.inl (((k + 1) : Nat) : Int))] [] (mj_Sh, M, N) (fun r Z => r = some (.inl (nW (wG s) g g)) ∧ Z = (mj_Sh, M, N)) := ih
      show (∀ j, j < k → ¬ (wG s).2.2.2 j = (wG s).2.2.2 g) → mj_T K d 32 2 [some (.inr (.inr (.inl 35))), some (.inl ((g : Nat) : Int)), some (.inl ((k : Nat) : Int))] [] (mj_Sh, M, N) (fun r Z => r = some (.inl (nW (wG s) g g)) ∧ Z = (mj_Sh, M, N))
      intro hN
      refine tw_iload k32_2 rfl ?_
      refine tw_iload k32_3 rfl ?_
      refine tw_cgeF k32_4 (by omega) ?_
      refine tw_aload k32_7 rfl ?_
      refine tw_getr k32_8 f35_1 ?_
      refine tw_getr k32_11 f44_2 ?_
      refine tw_iload k32_14 rfl ?_
      refine tw_iald (j := k) (v := ((((wG s).2.2.2 k) : Nat) : Int)) k32_15 al47 rfl (by omega) (hpg.2 k (by omega)).2.2 ?_
      refine tw_aload k32_16 rfl ?_
      refine tw_getr k32_17 f35_1 ?_
      refine tw_getr k32_20 f44_2 ?_
      refine tw_iload k32_23 rfl ?_
      refine tw_iald (j := g) (v := ((((wG s).2.2.2 g) : Nat) : Int)) k32_24 al47 rfl (by omega) (hpg.2 g (by omega)).2.2 ?_
      refine tw_cne k32_25 (fun h25 => ?_) (fun h25 => ?_)
      · refine tw_iinc k32_30 rfl (v := ((k + 1 : Nat) : Int)) rfl (by omega) rfl (L' := [some (.inr (.inr (.inl 35))), some (.inl ((g : Nat) : Int)), some (.inl ((k + 1 : Nat) : Int))]) rfl ?_
        refine tw_goto k32_33 ?_
        exact ih (fun j hj => by
          by_cases e : j = k
          · subst e; omega
          · exact hN j (by omega))
      · refine tw_const k32_28 ?_
        exact tw_rb k32_29 (by decide) (⟨by rw [nW_no (k := k) (by omega) g hmk], rfl⟩)
  refine tw_const k32_0 ?_
  refine tw_istore k32_1 rfl (L' := [some (.inr (.inr (.inl 35))), some (.inl ((g : Nat) : Int)), some (.inl (0 : Int))]) rfl ?_
  exact key 0 (by omega) (fun j hj => by omega)
theorem x_16 {K : mj_C} {d : Nat} {M : Nat → Nat → Int} {N : Nat → Nat → Int64} (hD : 1 ≤ d) (s : Nat → Int) (hs : pRg s) (hP : cPV 35 M N s) : mj_X K d 16 [.inr (.inr (.inl 35))] (mj_Sh, M, N) (fun r Z => r = some (.inl (uN (wG s))) ∧ Z = (mj_Sh, M, N)) := by
  show mj_T K d 16 0 [some (.inr (.inr (.inl 35))), none, none] [] (mj_Sh, M, N) _
  have hP0 := hP
  obtain ⟨⟨p11, p12, p13, p14, p15, hpp, hpg, hpd⟩, hu, hl, hd, hv, hn⟩ := hP
  have hpg : gRel (M 44 3) (M 45) (M 46) (M 47) (wG s) := hpg
  have h0 := hs.1 0 (by omega)
  have h5 := hs.2.1
  have h11 := hs.1 11 (by omega)
  have hc11 := hs.2.2.1
  have hGk : gOk (s 0).toNat (wG s) := wGr_ok s (wB s)
  have hG1 : (wG s).1 ≤ (s 0).toNat := hGk.1
  have key : ∀ g : Nat, g ≤ (wG s).1 → mj_T K d 16 4 [some (.inr (.inr (.inl 35))), some (.inl (pS (fun g => nW (wG s) g g) 0 g)), some (.inl ((g : Nat) : Int))] [] (mj_Sh, M, N) (fun r Z => r = some (.inl (uN (wG s))) ∧ Z = (mj_Sh, M, N)) := by
    refine up_to (wG s).1 ?_ ?_
    · show mj_T K d 16 4 [some (.inr (.inr (.inl 35))), some (.inl (pS (fun g => nW (wG s) g g) 0 (wG s).1)), some (.inl (((wG s).1 : Nat) : Int))] [] (mj_Sh, M, N) (fun r Z => r = some (.inl (uN (wG s))) ∧ Z = (mj_Sh, M, N))
      refine tw_iload k16_4 rfl ?_
      refine tw_aload k16_5 rfl ?_
      refine tw_getr k16_6 f35_1 ?_
      refine tw_geti k16_9 f44_3 rfl (v := (((wG s).1 : Nat) : Int)) hpg.1 ?_
      refine tw_cgeT k16_12 (by omega) ?_
      refine tw_iload k16_32 rfl ?_
      exact tw_ri k16_33 (⟨rfl, rfl⟩)
    · intro g hmg ih
      have ih : mj_T K d 16 4 [some (.inr (.inr (.inl 35))), some (.inl (pS (fun g => nW (wG s) g g) 0 (g + 1))), some (.inl (((g + 1) : Nat) : Int))] [] (mj_Sh, M, N) (fun r Z => r = some (.inl (uN (wG s))) ∧ Z = (mj_Sh, M, N)) := ih
      show mj_T K d 16 4 [some (.inr (.inr (.inl 35))), some (.inl (pS (fun g => nW (wG s) g g) 0 g)), some (.inl ((g : Nat) : Int))] [] (mj_Sh, M, N) (fun r Z => r = some (.inl (uN (wG s))) ∧ Z = (mj_Sh, M, N))
      have h01 := nW_01 (G := wG s) (g := g) g
      have hr := pS_rg (f := (fun g => nW (wG s) g g)) (a := 0) (B := 1) g (fun k _ _ => by have := nW_01 (G := wG s) (g := k) k; (try dsimp only); omega)
      refine tw_iload k16_4 rfl ?_
      refine tw_aload k16_5 rfl ?_
      refine tw_getr k16_6 f35_1 ?_
      refine tw_geti k16_9 f44_3 rfl (v := (((wG s).1 : Nat) : Int)) hpg.1 ?_
      refine tw_cgeF k16_12 (by omega) ?_
      refine tw_aload k16_15 rfl ?_
      refine tw_iload k16_16 rfl ?_
      refine tw_callp (v := .inl (nW (wG s) g g)) (by omega) (S' := []) (as := [.inr (.inr (.inl 35)), .inl ((g : Nat) : Int)]) k16_17 (x_32 (M := M) (N := N) s hs hP0 g (by omega)) rfl rfl rfl rfl rfl ?_
      refine tw_zeq k16_20 (fun h20 => ?_) (fun h20 => ?_)
      · refine tw_iinc k16_26 rfl (v := ((g + 1 : Nat) : Int)) rfl (by omega) rfl (L' := [some (.inr (.inr (.inl 35))), some (.inl (pS (fun g => nW (wG s) g g) 0 g)), some (.inl ((g + 1 : Nat) : Int))]) rfl ?_
        refine tw_goto k16_29 ?_
        refine tw_eqL (L' := [some (.inr (.inr (.inl 35))), some (.inl (pS (fun g => nW (wG s) g g) 0 (g + 1))), some (.inl (((g + 1) : Nat) : Int))]) (e_c rfl (e_c (e_i (by rw [pS]; (try dsimp only); rw [Nat.zero_add]; omega)) (e_c rfl rfl))) ?_
        exact ih
      · refine tw_iinc k16_23 rfl (v := ((pS (fun g => nW (wG s) g g) 0 g) + (1 : Int))) rfl (by omega) rfl (L' := [some (.inr (.inr (.inl 35))), some (.inl ((pS (fun g => nW (wG s) g g) 0 g) + (1 : Int))), some (.inl ((g : Nat) : Int))]) rfl ?_
        refine tw_iinc k16_26 rfl (v := ((g + 1 : Nat) : Int)) rfl (by omega) rfl (L' := [some (.inr (.inr (.inl 35))), some (.inl ((pS (fun g => nW (wG s) g g) 0 g) + (1 : Int))), some (.inl ((g + 1 : Nat) : Int))]) rfl ?_
        refine tw_goto k16_29 ?_
        refine tw_eqL (L' := [some (.inr (.inr (.inl 35))), some (.inl (pS (fun g => nW (wG s) g g) 0 (g + 1))), some (.inl (((g + 1) : Nat) : Int))]) (e_c rfl (e_c (e_i (by rw [pS]; (try dsimp only); rw [Nat.zero_add]; omega)) (e_c rfl rfl))) ?_
        exact ih
  refine tw_const k16_0 ?_
  refine tw_istore k16_1 rfl (L' := [some (.inr (.inr (.inl 35))), some (.inl (0 : Int)), none]) rfl ?_
  refine tw_const k16_2 ?_
  refine tw_istore k16_3 rfl (L' := [some (.inr (.inr (.inl 35))), some (.inl (0 : Int)), some (.inl (0 : Int))]) rfl ?_
  refine tw_eqL (L' := [some (.inr (.inr (.inl 35))), some (.inl (pS (fun g => nW (wG s) g g) 0 0)), some (.inl ((0 : Nat) : Int))]) (e_c rfl (e_c (e_i rfl) (e_c (e_i rfl) rfl))) ?_
  exact key 0 (by omega)
theorem x_17 {K : mj_C} {d : Nat} {M : Nat → Nat → Int} {N : Nat → Nat → Int64} (s : Nat → Int) (hs : pRg s) (hP : cPV 35 M N s) : mj_X K d 17 [.inr (.inr (.inl 35))] (mj_Sh, M, N) (fun r Z => r = some (.inl (fcJ (wFl s (wB s).1 (wG s)) (s 0).toNat)) ∧ Z = (mj_Sh, M, N)) := by
  show mj_T K d 17 0 [some (.inr (.inr (.inl 35))), none, none, none] [] (mj_Sh, M, N) _
  obtain ⟨⟨p11, p12, p13, p14, p15, hpp, hpg, hpd⟩, hu, hl, hd, hv, hn⟩ := hP
  have hpg : gRel (M 44 3) (M 45) (M 46) (M 47) (wG s) := hpg
  have h0 := hs.1 0 (by omega)
  have h5 := hs.2.1
  have h11 := hs.1 11 (by omega)
  have hc11 := hs.2.2.1
  have hGk : gOk (s 0).toNat (wG s) := wGr_ok s (wB s)
  have hG1 : (wG s).1 ≤ (s 0).toNat := hGk.1
  have keyO : ∀ j : Nat, j ≤ (s 0).toNat → ∀ o3, mj_T K d 17 4 [some (.inr (.inr (.inl 35))), some (.inl (fcJ (wFl s (wB s).1 (wG s)) j)), some (.inl ((j : Nat) : Int)), sv o3] [] (mj_Sh, M, N) (fun r Z => r = some (.inl (fcJ (wFl s (wB s).1 (wG s)) (s 0).toNat)) ∧ Z = (mj_Sh, M, N)) := by
    refine up_to (s 0).toNat ?_ ?_
    · show ∀ o3, mj_T K d 17 4 [some (.inr (.inr (.inl 35))), some (.inl (fcJ (wFl s (wB s).1 (wG s)) (s 0).toNat)), some (.inl (((s 0).toNat : Nat) : Int)), sv o3] [] (mj_Sh, M, N) (fun r Z => r = some (.inl (fcJ (wFl s (wB s).1 (wG s)) (s 0).toNat)) ∧ Z = (mj_Sh, M, N))
      intro o3
      refine tw_iload k17_4 rfl ?_
      refine tw_aload k17_5 rfl ?_
      refine tw_geti k17_6 f35_11 rfl (v := (s 0)) p11 ?_
      refine tw_cgeT k17_9 (by omega) ?_
      refine tw_iload k17_50 rfl ?_
      exact tw_ri k17_51 (⟨rfl, rfl⟩)
    · intro j hmj ih
      have ih : ∀ o3, mj_T K d 17 4 [some (.inr (.inr (.inl 35))), some (.inl (fcJ (wFl s (wB s).1 (wG s)) (j + 1))), some (.inl (((j + 1) : Nat) : Int)), sv o3] [] (mj_Sh, M, N) (fun r Z => r = some (.inl (fcJ (wFl s (wB s).1 (wG s)) (s 0).toNat)) ∧ Z = (mj_Sh, M, N)) := ih
      show ∀ o3, mj_T K d 17 4 [some (.inr (.inr (.inl 35))), some (.inl (fcJ (wFl s (wB s).1 (wG s)) j)), some (.inl ((j : Nat) : Int)), sv o3] [] (mj_Sh, M, N) (fun r Z => r = some (.inl (fcJ (wFl s (wB s).1 (wG s)) (s 0).toNat)) ∧ Z = (mj_Sh, M, N))
      intro o3
      refine tw_iload k17_4 rfl ?_
      refine tw_aload k17_5 rfl ?_
      refine tw_geti k17_6 f35_11 rfl (v := (s 0)) p11 ?_
      refine tw_cgeF k17_9 (by omega) ?_
      refine tw_const k17_12 ?_
      refine tw_istore k17_13 rfl (L' := [some (.inr (.inr (.inl 35))), some (.inl (fcJ (wFl s (wB s).1 (wG s)) j)), some (.inl ((j : Nat) : Int)), some (.inl (0 : Int))]) rfl ?_
      have ih2 := ih
      have keyI : ∀ i : Nat, i ≤ (j + 1) → mj_T K d 17 14 [some (.inr (.inr (.inl 35))), some (.inl (fcJ (wFl s (wB s).1 (wG s)) j + fcI (wFl s (wB s).1 (wG s)) j i)), some (.inl ((j : Nat) : Int)), some (.inl ((i : Nat) : Int))] [] (mj_Sh, M, N) (fun r Z => r = some (.inl (fcJ (wFl s (wB s).1 (wG s)) (s 0).toNat)) ∧ Z = (mj_Sh, M, N)) := by
        refine up_to (j + 1) ?_ ?_
        · show mj_T K d 17 14 [some (.inr (.inr (.inl 35))), some (.inl (fcJ (wFl s (wB s).1 (wG s)) j + fcI (wFl s (wB s).1 (wG s)) j (j + 1))), some (.inl ((j : Nat) : Int)), some (.inl (((j + 1) : Nat) : Int))] [] (mj_Sh, M, N) (fun r Z => r = some (.inl (fcJ (wFl s (wB s).1 (wG s)) (s 0).toNat)) ∧ Z = (mj_Sh, M, N))
          refine tw_iload k17_14 rfl ?_
          refine tw_iload k17_15 rfl ?_
          refine tw_cgtT k17_16 (by omega) ?_
          refine tw_iinc k17_44 rfl (v := ((j + 1 : Nat) : Int)) rfl (by omega) rfl (L' := [some (.inr (.inr (.inl 35))), some (.inl (fcJ (wFl s (wB s).1 (wG s)) j + fcI (wFl s (wB s).1 (wG s)) j (j + 1))), some (.inl ((j + 1 : Nat) : Int)), some (.inl (((j + 1) : Nat) : Int))]) rfl ?_
          refine tw_goto k17_47 ?_
          refine tw_eqL (L' := [some (.inr (.inr (.inl 35))), some (.inl (fcJ (wFl s (wB s).1 (wG s)) (j + 1))), some (.inl (((j + 1) : Nat) : Int)), sv (some (.inl (((j + 1) : Nat) : Int)))]) (e_c rfl (e_c (e_i (by rw [fcJ_s])) (e_c rfl (e_c rfl rfl)))) ?_
          exact ih2 _
        · intro i hmi ih
          have ih : mj_T K d 17 14 [some (.inr (.inr (.inl 35))), some (.inl (fcJ (wFl s (wB s).1 (wG s)) j + fcI (wFl s (wB s).1 (wG s)) j (i + 1))), some (.inl ((j : Nat) : Int)), some (.inl (((i + 1) : Nat) : Int))] [] (mj_Sh, M, N) (fun r Z => r = some (.inl (fcJ (wFl s (wB s).1 (wG s)) (s 0).toNat)) ∧ Z = (mj_Sh, M, N)) := ih
          show mj_T K d 17 14 [some (.inr (.inr (.inl 35))), some (.inl (fcJ (wFl s (wB s).1 (wG s)) j + fcI (wFl s (wB s).1 (wG s)) j i)), some (.inl ((j : Nat) : Int)), some (.inl ((i : Nat) : Int))] [] (mj_Sh, M, N) (fun r Z => r = some (.inl (fcJ (wFl s (wB s).1 (wG s)) (s 0).toNat)) ∧ Z = (mj_Sh, M, N))
          have q1 := fcI_rg (f := (wFl s (wB s).1 (wG s))) (j := j) i
          have q2 := fcJ_rg (f := (wFl s (wB s).1 (wG s))) j (by omega)
          have q3 := wFl_rg hs (i := i) (j := j) (by omega) (by omega)
          refine tw_iload k17_14 rfl ?_
          refine tw_iload k17_15 rfl ?_
          refine tw_cgtF k17_16 (by omega) ?_
          refine tw_iload k17_19 rfl ?_
          refine tw_aload k17_20 rfl ?_
          refine tw_getr k17_21 f35_9 ?_
          refine tw_iload k17_24 rfl ?_
          refine tw_aald (j := i) (u := (56 + i)) k17_25 rfl (rr55 (by omega)) ?_
          refine tw_iload k17_26 rfl ?_
          refine tw_iald (j := j) (v := (wFl s (wB s).1 (wG s) i j)) k17_27 (alF (by omega)) rfl (by omega) (hv i j (by omega) (by omega)) ?_
          refine tw_zle k17_28 (fun h28 => ?_) (fun h28 => ?_)
          · refine tw_const k17_35 ?_
            refine tw_iadd k17_36 (v := ((fcJ (wFl s (wB s).1 (wG s)) j + fcI (wFl s (wB s).1 (wG s)) j i) + (0 : Int))) rfl (by omega) ?_
            refine tw_istore k17_37 rfl (L' := [some (.inr (.inr (.inl 35))), some (.inl ((fcJ (wFl s (wB s).1 (wG s)) j + fcI (wFl s (wB s).1 (wG s)) j i) + (0 : Int))), some (.inl ((j : Nat) : Int)), some (.inl ((i : Nat) : Int))]) rfl ?_
            refine tw_iinc k17_38 rfl (v := ((i + 1 : Nat) : Int)) rfl (by omega) rfl (L' := [some (.inr (.inr (.inl 35))), some (.inl ((fcJ (wFl s (wB s).1 (wG s)) j + fcI (wFl s (wB s).1 (wG s)) j i) + (0 : Int))), some (.inl ((j : Nat) : Int)), some (.inl ((i + 1 : Nat) : Int))]) rfl ?_
            refine tw_goto k17_41 ?_
            refine tw_eqL (L' := [some (.inr (.inr (.inl 35))), some (.inl (fcJ (wFl s (wB s).1 (wG s)) j + fcI (wFl s (wB s).1 (wG s)) j (i + 1))), some (.inl ((j : Nat) : Int)), some (.inl (((i + 1) : Nat) : Int))]) (e_c rfl (e_c (e_i (by rw [fcI_s, if_pos (by omega)]; omega)) (e_c rfl (e_c rfl rfl)))) ?_
            exact ih
          · refine tw_const k17_31 ?_
            refine tw_goto k17_32 ?_
            refine tw_iadd k17_36 (v := ((fcJ (wFl s (wB s).1 (wG s)) j + fcI (wFl s (wB s).1 (wG s)) j i) + (1 : Int))) rfl (by omega) ?_
            refine tw_istore k17_37 rfl (L' := [some (.inr (.inr (.inl 35))), some (.inl ((fcJ (wFl s (wB s).1 (wG s)) j + fcI (wFl s (wB s).1 (wG s)) j i) + (1 : Int))), some (.inl ((j : Nat) : Int)), some (.inl ((i : Nat) : Int))]) rfl ?_
            refine tw_iinc k17_38 rfl (v := ((i + 1 : Nat) : Int)) rfl (by omega) rfl (L' := [some (.inr (.inr (.inl 35))), some (.inl ((fcJ (wFl s (wB s).1 (wG s)) j + fcI (wFl s (wB s).1 (wG s)) j i) + (1 : Int))), some (.inl ((j : Nat) : Int)), some (.inl ((i + 1 : Nat) : Int))]) rfl ?_
            refine tw_goto k17_41 ?_
            refine tw_eqL (L' := [some (.inr (.inr (.inl 35))), some (.inl (fcJ (wFl s (wB s).1 (wG s)) j + fcI (wFl s (wB s).1 (wG s)) j (i + 1))), some (.inl ((j : Nat) : Int)), some (.inl (((i + 1) : Nat) : Int))]) (e_c rfl (e_c (e_i (by rw [fcI_s, if_neg (by omega)]; omega)) (e_c rfl (e_c rfl rfl)))) ?_
            exact ih
      refine tw_eqL (L' := [some (.inr (.inr (.inl 35))), some (.inl (fcJ (wFl s (wB s).1 (wG s)) j + fcI (wFl s (wB s).1 (wG s)) j 0)), some (.inl ((j : Nat) : Int)), some (.inl ((0 : Nat) : Int))]) (e_c rfl (e_c (e_i (by show fcJ (wFl s (wB s).1 (wG s)) j = fcJ (wFl s (wB s).1 (wG s)) j + 0; omega)) (e_c rfl (e_c (e_i rfl) rfl)))) ?_
      exact keyI 0 (by omega)
  refine tw_const k17_0 ?_
  refine tw_istore k17_1 rfl (L' := [some (.inr (.inr (.inl 35))), some (.inl (0 : Int)), none, none]) rfl ?_
  refine tw_const k17_2 ?_
  refine tw_istore k17_3 rfl (L' := [some (.inr (.inr (.inl 35))), some (.inl (0 : Int)), some (.inl (0 : Int)), none]) rfl ?_
  refine tw_eqL (L' := [some (.inr (.inr (.inl 35))), some (.inl (fcJ (wFl s (wB s).1 (wG s)) 0)), some (.inl ((0 : Nat) : Int)), sv none]) (e_c rfl (e_c (e_i rfl) (e_c (e_i rfl) (e_c rfl rfl)))) ?_
  exact keyO 0 (by omega) none
theorem x_18 {K : mj_C} {d : Nat} {M : Nat → Nat → Int} {N : Nat → Nat → Int64} (s : Nat → Int) (hs : pRg s) (hP : cPV 35 M N s) (k what : Int) (hk : 0 ≤ k) (hw : 0 ≤ what ∧ what ≤ 2) : mj_X K d 18 [.inr (.inr (.inl 35)), .inl k, .inl what] (mj_Sh, M, N) (fun r Z => r = some (.inl (fPt (wFl s (wB s).1 (wG s)) (s 0).toNat k what)) ∧ Z = (mj_Sh, M, N)) := by
  show mj_T K d 18 0 [some (.inr (.inr (.inl 35))), some (.inl k), some (.inl what), none, none, none] [] (mj_Sh, M, N) _
  obtain ⟨⟨p11, p12, p13, p14, p15, hpp, hpg, hpd⟩, hu, hl, hd, hv, hn⟩ := hP
  have hpg : gRel (M 44 3) (M 45) (M 46) (M 47) (wG s) := hpg
  have h0 := hs.1 0 (by omega)
  have h5 := hs.2.1
  have h11 := hs.1 11 (by omega)
  have hc11 := hs.2.2.1
  have hGk : gOk (s 0).toNat (wG s) := wGr_ok s (wB s)
  have hG1 : (wG s).1 ≤ (s 0).toNat := hGk.1
  have keyO : ∀ j : Nat, j ≤ (s 0).toNat → ∀ o5, fcJ (wFl s (wB s).1 (wG s)) j ≤ k → mj_T K d 18 5 [some (.inr (.inr (.inl 35))), some (.inl k), some (.inl what), some (.inl (fcJ (wFl s (wB s).1 (wG s)) j)), some (.inl ((j : Nat) : Int)), sv o5] [] (mj_Sh, M, N) (fun r Z => r = some (.inl (fPt (wFl s (wB s).1 (wG s)) (s 0).toNat k what)) ∧ Z = (mj_Sh, M, N)) := by
    refine up_to (s 0).toNat ?_ ?_
    · show ∀ o5, fcJ (wFl s (wB s).1 (wG s)) (s 0).toNat ≤ k → mj_T K d 18 5 [some (.inr (.inr (.inl 35))), some (.inl k), some (.inl what), some (.inl (fcJ (wFl s (wB s).1 (wG s)) (s 0).toNat)), some (.inl (((s 0).toNat : Nat) : Int)), sv o5] [] (mj_Sh, M, N) (fun r Z => r = some (.inl (fPt (wFl s (wB s).1 (wG s)) (s 0).toNat k what)) ∧ Z = (mj_Sh, M, N))
      intro o5 hn
      refine tw_iload k18_5 rfl ?_
      refine tw_aload k18_7 rfl ?_
      refine tw_geti k18_8 f35_11 rfl (v := (s 0)) p11 ?_
      refine tw_cgeT k18_11 (by omega) ?_
      refine tw_const k18_105 ?_
      exact tw_ri k18_106 (⟨by unfold fPt; rw [if_neg (fk_no hn)], rfl⟩)
    · intro j hmj ih
      have ih : ∀ o5, fcJ (wFl s (wB s).1 (wG s)) (j + 1) ≤ k → mj_T K d 18 5 [some (.inr (.inr (.inl 35))), some (.inl k), some (.inl what), some (.inl (fcJ (wFl s (wB s).1 (wG s)) (j + 1))), some (.inl (((j + 1) : Nat) : Int)), sv o5] [] (mj_Sh, M, N) (fun r Z => r = some (.inl (fPt (wFl s (wB s).1 (wG s)) (s 0).toNat k what)) ∧ Z = (mj_Sh, M, N)) := ih
      show ∀ o5, fcJ (wFl s (wB s).1 (wG s)) j ≤ k → mj_T K d 18 5 [some (.inr (.inr (.inl 35))), some (.inl k), some (.inl what), some (.inl (fcJ (wFl s (wB s).1 (wG s)) j)), some (.inl ((j : Nat) : Int)), sv o5] [] (mj_Sh, M, N) (fun r Z => r = some (.inl (fPt (wFl s (wB s).1 (wG s)) (s 0).toNat k what)) ∧ Z = (mj_Sh, M, N))
      intro o5 hn
      refine tw_iload k18_5 rfl ?_
      refine tw_aload k18_7 rfl ?_
      refine tw_geti k18_8 f35_11 rfl (v := (s 0)) p11 ?_
      refine tw_cgeF k18_11 (by omega) ?_
      refine tw_const k18_14 ?_
      refine tw_istore k18_15 rfl (L' := [some (.inr (.inr (.inl 35))), some (.inl k), some (.inl what), some (.inl (fcJ (wFl s (wB s).1 (wG s)) j)), some (.inl ((j : Nat) : Int)), some (.inl (0 : Int))]) rfl ?_
      have ih2 := ih
      have keyI : ∀ i : Nat, i ≤ (j + 1) → fcJ (wFl s (wB s).1 (wG s)) j + fcI (wFl s (wB s).1 (wG s)) j i ≤ k → mj_T K d 18 17 [some (.inr (.inr (.inl 35))), some (.inl k), some (.inl what), some (.inl (fcJ (wFl s (wB s).1 (wG s)) j + fcI (wFl s (wB s).1 (wG s)) j i)), some (.inl ((j : Nat) : Int)), some (.inl ((i : Nat) : Int))] [] (mj_Sh, M, N) (fun r Z => r = some (.inl (fPt (wFl s (wB s).1 (wG s)) (s 0).toNat k what)) ∧ Z = (mj_Sh, M, N)) := by
        refine up_to (j + 1) ?_ ?_
        · show fcJ (wFl s (wB s).1 (wG s)) j + fcI (wFl s (wB s).1 (wG s)) j (j + 1) ≤ k → mj_T K d 18 17 [some (.inr (.inr (.inl 35))), some (.inl k), some (.inl what), some (.inl (fcJ (wFl s (wB s).1 (wG s)) j + fcI (wFl s (wB s).1 (wG s)) j (j + 1))), some (.inl ((j : Nat) : Int)), some (.inl (((j + 1) : Nat) : Int))] [] (mj_Sh, M, N) (fun r Z => r = some (.inl (fPt (wFl s (wB s).1 (wG s)) (s 0).toNat k what)) ∧ Z = (mj_Sh, M, N))
          intro hn
          refine tw_iload k18_17 rfl ?_
          refine tw_iload k18_19 rfl ?_
          refine tw_cgtT k18_21 (by omega) ?_
          refine tw_iinc k18_99 rfl (v := ((j + 1 : Nat) : Int)) rfl (by omega) rfl (L' := [some (.inr (.inr (.inl 35))), some (.inl k), some (.inl what), some (.inl (fcJ (wFl s (wB s).1 (wG s)) j + fcI (wFl s (wB s).1 (wG s)) j (j + 1))), some (.inl ((j + 1 : Nat) : Int)), some (.inl (((j + 1) : Nat) : Int))]) rfl ?_
          refine tw_goto k18_102 ?_
          refine tw_eqL (L' := [some (.inr (.inr (.inl 35))), some (.inl k), some (.inl what), some (.inl (fcJ (wFl s (wB s).1 (wG s)) (j + 1))), some (.inl (((j + 1) : Nat) : Int)), sv (some (.inl (((j + 1) : Nat) : Int)))]) (e_c rfl (e_c rfl (e_c rfl (e_c (e_i (by rw [fcJ_s])) (e_c rfl (e_c rfl rfl)))))) ?_
          exact ih2 _ (by rw [fcJ_s]; exact hn)
        · intro i hmi ih
          have ih : fcJ (wFl s (wB s).1 (wG s)) j + fcI (wFl s (wB s).1 (wG s)) j (i + 1) ≤ k → mj_T K d 18 17 [some (.inr (.inr (.inl 35))), some (.inl k), some (.inl what), some (.inl (fcJ (wFl s (wB s).1 (wG s)) j + fcI (wFl s (wB s).1 (wG s)) j (i + 1))), some (.inl ((j : Nat) : Int)), some (.inl (((i + 1) : Nat) : Int))] [] (mj_Sh, M, N) (fun r Z => r = some (.inl (fPt (wFl s (wB s).1 (wG s)) (s 0).toNat k what)) ∧ Z = (mj_Sh, M, N)) := ih
          show fcJ (wFl s (wB s).1 (wG s)) j + fcI (wFl s (wB s).1 (wG s)) j i ≤ k → mj_T K d 18 17 [some (.inr (.inr (.inl 35))), some (.inl k), some (.inl what), some (.inl (fcJ (wFl s (wB s).1 (wG s)) j + fcI (wFl s (wB s).1 (wG s)) j i)), some (.inl ((j : Nat) : Int)), some (.inl ((i : Nat) : Int))] [] (mj_Sh, M, N) (fun r Z => r = some (.inl (fPt (wFl s (wB s).1 (wG s)) (s 0).toNat k what)) ∧ Z = (mj_Sh, M, N))
          intro hn
          have q1 := fcI_rg (f := (wFl s (wB s).1 (wG s))) (j := j) i
          have q2 := fcJ_rg (f := (wFl s (wB s).1 (wG s))) j (by omega)
          have q3 := wFl_rg hs (i := i) (j := j) (by omega) (by omega)
          refine tw_iload k18_17 rfl ?_
          refine tw_iload k18_19 rfl ?_
          refine tw_cgtF k18_21 (by omega) ?_
          refine tw_aload k18_24 rfl ?_
          refine tw_getr k18_25 f35_9 ?_
          refine tw_iload k18_28 rfl ?_
          refine tw_aald (j := i) (u := (56 + i)) k18_30 rfl (rr55 (by omega)) ?_
          refine tw_iload k18_31 rfl ?_
          refine tw_iald (j := j) (v := (wFl s (wB s).1 (wG s) i j)) k18_33 (alF (by omega)) rfl (by omega) (hv i j (by omega) (by omega)) ?_
          refine tw_zle k18_34 (fun h34 => ?_) (fun h34 => ?_)
          · refine tw_iload k18_72 rfl ?_
            refine tw_aload k18_73 rfl ?_
            refine tw_getr k18_74 f35_9 ?_
            refine tw_iload k18_77 rfl ?_
            refine tw_aald (j := i) (u := (56 + i)) k18_79 rfl (rr55 (by omega)) ?_
            refine tw_iload k18_80 rfl ?_
            refine tw_iald (j := j) (v := (wFl s (wB s).1 (wG s) i j)) k18_82 (alF (by omega)) rfl (by omega) (hv i j (by omega) (by omega)) ?_
            refine tw_zle k18_83 (fun h83 => ?_) (fun h83 => ?_)
            · refine tw_const k18_90 ?_
              refine tw_iadd k18_91 (v := ((fcJ (wFl s (wB s).1 (wG s)) j + fcI (wFl s (wB s).1 (wG s)) j i) + (0 : Int))) rfl (by omega) ?_
              refine tw_istore k18_92 rfl (L' := [some (.inr (.inr (.inl 35))), some (.inl k), some (.inl what), some (.inl ((fcJ (wFl s (wB s).1 (wG s)) j + fcI (wFl s (wB s).1 (wG s)) j i) + (0 : Int))), some (.inl ((j : Nat) : Int)), some (.inl ((i : Nat) : Int))]) rfl ?_
              refine tw_iinc k18_93 rfl (v := ((i + 1 : Nat) : Int)) rfl (by omega) rfl (L' := [some (.inr (.inr (.inl 35))), some (.inl k), some (.inl what), some (.inl ((fcJ (wFl s (wB s).1 (wG s)) j + fcI (wFl s (wB s).1 (wG s)) j i) + (0 : Int))), some (.inl ((j : Nat) : Int)), some (.inl ((i + 1 : Nat) : Int))]) rfl ?_
              refine tw_goto k18_96 ?_
              refine tw_eqL (L' := [some (.inr (.inr (.inl 35))), some (.inl k), some (.inl what), some (.inl (fcJ (wFl s (wB s).1 (wG s)) j + fcI (wFl s (wB s).1 (wG s)) j (i + 1))), some (.inl ((j : Nat) : Int)), some (.inl (((i + 1) : Nat) : Int))]) (e_c rfl (e_c rfl (e_c rfl (e_c (e_i (by rw [fcI_s, if_pos (by omega)]; omega)) (e_c rfl (e_c rfl rfl)))))) ?_
              exact ih (by rw [fcI_s, if_pos (by omega)]; omega)
            · refine tw_const k18_86 ?_
              refine tw_goto k18_87 ?_
              refine tw_iadd k18_91 (v := ((fcJ (wFl s (wB s).1 (wG s)) j + fcI (wFl s (wB s).1 (wG s)) j i) + (1 : Int))) rfl (by omega) ?_
              refine tw_istore k18_92 rfl (L' := [some (.inr (.inr (.inl 35))), some (.inl k), some (.inl what), some (.inl ((fcJ (wFl s (wB s).1 (wG s)) j + fcI (wFl s (wB s).1 (wG s)) j i) + (1 : Int))), some (.inl ((j : Nat) : Int)), some (.inl ((i : Nat) : Int))]) rfl ?_
              refine tw_iinc k18_93 rfl (v := ((i + 1 : Nat) : Int)) rfl (by omega) rfl (L' := [some (.inr (.inr (.inl 35))), some (.inl k), some (.inl what), some (.inl ((fcJ (wFl s (wB s).1 (wG s)) j + fcI (wFl s (wB s).1 (wG s)) j i) + (1 : Int))), some (.inl ((j : Nat) : Int)), some (.inl ((i + 1 : Nat) : Int))]) rfl ?_
              refine tw_goto k18_96 ?_
              refine tw_eqL (L' := [some (.inr (.inr (.inl 35))), some (.inl k), some (.inl what), some (.inl (fcJ (wFl s (wB s).1 (wG s)) j + fcI (wFl s (wB s).1 (wG s)) j (i + 1))), some (.inl ((j : Nat) : Int)), some (.inl (((i + 1) : Nat) : Int))]) (e_c rfl (e_c rfl (e_c rfl (e_c (e_i (by rw [fcI_s, if_neg (by omega)]; omega)) (e_c rfl (e_c rfl rfl)))))) ?_
              exact ih (by rw [fcI_s, if_neg (by omega)]; omega)
          · refine tw_iload k18_37 rfl ?_
            refine tw_iload k18_38 rfl ?_
            refine tw_cne k18_39 (fun h39 => ?_) (fun h39 => ?_)
            · refine tw_iload k18_72 rfl ?_
              refine tw_aload k18_73 rfl ?_
              refine tw_getr k18_74 f35_9 ?_
              refine tw_iload k18_77 rfl ?_
              refine tw_aald (j := i) (u := (56 + i)) k18_79 rfl (rr55 (by omega)) ?_
              refine tw_iload k18_80 rfl ?_
              refine tw_iald (j := j) (v := (wFl s (wB s).1 (wG s) i j)) k18_82 (alF (by omega)) rfl (by omega) (hv i j (by omega) (by omega)) ?_
              refine tw_zle k18_83 (fun h83 => ?_) (fun h83 => ?_)
              · refine tw_const k18_90 ?_
                refine tw_iadd k18_91 (v := ((fcJ (wFl s (wB s).1 (wG s)) j + fcI (wFl s (wB s).1 (wG s)) j i) + (0 : Int))) rfl (by omega) ?_
                refine tw_istore k18_92 rfl (L' := [some (.inr (.inr (.inl 35))), some (.inl k), some (.inl what), some (.inl ((fcJ (wFl s (wB s).1 (wG s)) j + fcI (wFl s (wB s).1 (wG s)) j i) + (0 : Int))), some (.inl ((j : Nat) : Int)), some (.inl ((i : Nat) : Int))]) rfl ?_
                refine tw_iinc k18_93 rfl (v := ((i + 1 : Nat) : Int)) rfl (by omega) rfl (L' := [some (.inr (.inr (.inl 35))), some (.inl k), some (.inl what), some (.inl ((fcJ (wFl s (wB s).1 (wG s)) j + fcI (wFl s (wB s).1 (wG s)) j i) + (0 : Int))), some (.inl ((j : Nat) : Int)), some (.inl ((i + 1 : Nat) : Int))]) rfl ?_
                refine tw_goto k18_96 ?_
                refine tw_eqL (L' := [some (.inr (.inr (.inl 35))), some (.inl k), some (.inl what), some (.inl (fcJ (wFl s (wB s).1 (wG s)) j + fcI (wFl s (wB s).1 (wG s)) j (i + 1))), some (.inl ((j : Nat) : Int)), some (.inl (((i + 1) : Nat) : Int))]) (e_c rfl (e_c rfl (e_c rfl (e_c (e_i (by rw [fcI_s, if_pos (by omega)]; omega)) (e_c rfl (e_c rfl rfl)))))) ?_
                exact ih (by rw [fcI_s, if_pos (by omega)]; omega)
              · refine tw_const k18_86 ?_
                refine tw_goto k18_87 ?_
                refine tw_iadd k18_91 (v := ((fcJ (wFl s (wB s).1 (wG s)) j + fcI (wFl s (wB s).1 (wG s)) j i) + (1 : Int))) rfl (by omega) ?_
                refine tw_istore k18_92 rfl (L' := [some (.inr (.inr (.inl 35))), some (.inl k), some (.inl what), some (.inl ((fcJ (wFl s (wB s).1 (wG s)) j + fcI (wFl s (wB s).1 (wG s)) j i) + (1 : Int))), some (.inl ((j : Nat) : Int)), some (.inl ((i : Nat) : Int))]) rfl ?_
                refine tw_iinc k18_93 rfl (v := ((i + 1 : Nat) : Int)) rfl (by omega) rfl (L' := [some (.inr (.inr (.inl 35))), some (.inl k), some (.inl what), some (.inl ((fcJ (wFl s (wB s).1 (wG s)) j + fcI (wFl s (wB s).1 (wG s)) j i) + (1 : Int))), some (.inl ((j : Nat) : Int)), some (.inl ((i + 1 : Nat) : Int))]) rfl ?_
                refine tw_goto k18_96 ?_
                refine tw_eqL (L' := [some (.inr (.inr (.inl 35))), some (.inl k), some (.inl what), some (.inl (fcJ (wFl s (wB s).1 (wG s)) j + fcI (wFl s (wB s).1 (wG s)) j (i + 1))), some (.inl ((j : Nat) : Int)), some (.inl (((i + 1) : Nat) : Int))]) (e_c rfl (e_c rfl (e_c rfl (e_c (e_i (by rw [fcI_s, if_neg (by omega)]; omega)) (e_c rfl (e_c rfl rfl)))))) ?_
                exact ih (by rw [fcI_s, if_neg (by omega)]; omega)
            · refine tw_iload k18_42 rfl ?_
              refine tw_zne k18_43 (fun h43 => ?_) (fun h43 => ?_)
              · refine tw_iload k18_51 rfl ?_
                refine tw_const k18_52 ?_
                refine tw_cne k18_53 (fun h53 => ?_) (fun h53 => ?_)
                · refine tw_aload k18_61 rfl ?_
                  refine tw_getr k18_62 f35_9 ?_
                  refine tw_iload k18_65 rfl ?_
                  refine tw_aald (j := i) (u := (56 + i)) k18_67 rfl (rr55 (by omega)) ?_
                  refine tw_iload k18_68 rfl ?_
                  refine tw_iald (j := j) (v := (wFl s (wB s).1 (wG s) i j)) k18_70 (alF (by omega)) rfl (by omega) (hv i j (by omega) (by omega)) ?_
                  exact tw_ri k18_71 (⟨by have hf := fk_at (f := (wFl s (wB s).1 (wG s))) (Y := (s 0).toNat) (by omega) (by omega) (show ¬ (wFl s (wB s).1 (wG s)) i j = 0 by omega) (show fcJ (wFl s (wB s).1 (wG s)) j + fcI (wFl s (wB s).1 (wG s)) j i = k by omega); unfold fPt; rw [hf.1, if_pos (by omega), hf.2]; (repeat' split) <;> first | rfl | omega, rfl⟩)
                · refine tw_iload k18_56 rfl ?_
                  refine tw_goto k18_58 ?_
                  exact tw_ri k18_71 (⟨by have hf := fk_at (f := (wFl s (wB s).1 (wG s))) (Y := (s 0).toNat) (by omega) (by omega) (show ¬ (wFl s (wB s).1 (wG s)) i j = 0 by omega) (show fcJ (wFl s (wB s).1 (wG s)) j + fcI (wFl s (wB s).1 (wG s)) j i = k by omega); unfold fPt; rw [hf.1, if_pos (by omega), hf.2]; (repeat' split) <;> first | rfl | omega, rfl⟩)
              · refine tw_iload k18_46 rfl ?_
                refine tw_goto k18_48 ?_
                exact tw_ri k18_71 (⟨by have hf := fk_at (f := (wFl s (wB s).1 (wG s))) (Y := (s 0).toNat) (by omega) (by omega) (show ¬ (wFl s (wB s).1 (wG s)) i j = 0 by omega) (show fcJ (wFl s (wB s).1 (wG s)) j + fcI (wFl s (wB s).1 (wG s)) j i = k by omega); unfold fPt; rw [hf.1, if_pos (by omega), hf.2]; (repeat' split) <;> first | rfl | omega, rfl⟩)
      refine tw_eqL (L' := [some (.inr (.inr (.inl 35))), some (.inl k), some (.inl what), some (.inl (fcJ (wFl s (wB s).1 (wG s)) j + fcI (wFl s (wB s).1 (wG s)) j 0)), some (.inl ((j : Nat) : Int)), some (.inl ((0 : Nat) : Int))]) (e_c rfl (e_c rfl (e_c rfl (e_c (e_i (by show fcJ (wFl s (wB s).1 (wG s)) j = fcJ (wFl s (wB s).1 (wG s)) j + 0; omega)) (e_c rfl (e_c (e_i rfl) rfl)))))) ?_
      exact keyI 0 (by omega) (by show fcJ (wFl s (wB s).1 (wG s)) j + 0 ≤ k; omega)
  refine tw_const k18_0 ?_
  refine tw_istore k18_1 rfl (L' := [some (.inr (.inr (.inl 35))), some (.inl k), some (.inl what), some (.inl (0 : Int)), none, none]) rfl ?_
  refine tw_const k18_2 ?_
  refine tw_istore k18_3 rfl (L' := [some (.inr (.inr (.inl 35))), some (.inl k), some (.inl what), some (.inl (0 : Int)), some (.inl (0 : Int)), none]) rfl ?_
  refine tw_eqL (L' := [some (.inr (.inr (.inl 35))), some (.inl k), some (.inl what), some (.inl (fcJ (wFl s (wB s).1 (wG s)) 0)), some (.inl ((0 : Nat) : Int)), sv none]) (e_c rfl (e_c rfl (e_c rfl (e_c (e_i rfl) (e_c (e_i rfl) (e_c rfl rfl)))))) ?_
  exact keyO 0 (by omega) none (show (0 : Int) ≤ k by omega)
theorem x_31 {K : mj_C} {d : Nat} {M : Nat → Nat → Int} {N : Nat → Nat → Int64} (s : Nat → Int) (hs : pRg s) (hP : cPV 35 M N s) (hS : cSV 2 M s) (a c : Nat) (ha : (a : Int) < s 11) (hc : (c : Int) < s 11) : mj_X K d 31 [.inr (.inr (.inl 35)), .inr (.inr (.inl 2)), .inl ((a : Nat) : Int), .inl ((c : Nat) : Int)] (mj_Sh, M, N) (fun r Z => r = some (.inl (if rkA s (wDv s) a c then 1 else 0)) ∧ Z = (mj_Sh, M, N)) := by
  show mj_T K d 31 0 [some (.inr (.inr (.inl 35))), some (.inr (.inr (.inl 2))), some (.inl ((a : Nat) : Int)), some (.inl ((c : Nat) : Int)), none, none] [] (mj_Sh, M, N) _
  obtain ⟨⟨p11, p12, p13, p14, p15, hpp, hpg, hpd⟩, hu, hl, hd, hv, hn⟩ := hP
  have hpg : gRel (M 44 3) (M 45) (M 46) (M 47) (wG s) := hpg
  have h0 := hs.1 0 (by omega)
  have h5 := hs.2.1
  have h11 := hs.1 11 (by omega)
  have hc11 := hs.2.2.1
  have hGk : gOk (s 0).toNat (wG s) := wGr_ok s (wB s)
  have hG1 : (wG s).1 ≤ (s 0).toNat := hGk.1
  have q1 := wDv_rg hs (m := a) (by omega)
  have q2 := wDv_rg hs (m := c) (by omega)
  have q3 := hs.1 (32 + a) (by omega)
  have q4 := hs.1 (32 + c) (by omega)
  refine tw_aload k31_0 rfl ?_
  refine tw_getr k31_1 f2_4 ?_
  refine tw_iload k31_4 rfl ?_
  refine tw_iald (j := a) (v := (s (32 + a))) k31_5 al7 rfl (by omega) (hS.2.2.2.1 a (by omega)).2.2 ?_
  refine tw_aload k31_6 rfl ?_
  refine tw_getr k31_7 f35_8 ?_
  refine tw_iload k31_10 rfl ?_
  refine tw_iald (j := a) (v := (wDv s a)) k31_11 al54 rfl (by omega) (hd a (by omega)) ?_
  refine tw_isub k31_12 (v := ((s (32 + a)) - (wDv s a))) rfl (by omega) ?_
  refine tw_istore k31_13 rfl (L' := [some (.inr (.inr (.inl 35))), some (.inr (.inr (.inl 2))), some (.inl ((a : Nat) : Int)), some (.inl ((c : Nat) : Int)), some (.inl ((s (32 + a)) - (wDv s a))), none]) rfl ?_
  refine tw_aload k31_15 rfl ?_
  refine tw_getr k31_16 f2_4 ?_
  refine tw_iload k31_19 rfl ?_
  refine tw_iald (j := c) (v := (s (32 + c))) k31_20 al7 rfl (by omega) (hS.2.2.2.1 c (by omega)).2.2 ?_
  refine tw_aload k31_21 rfl ?_
  refine tw_getr k31_22 f35_8 ?_
  refine tw_iload k31_25 rfl ?_
  refine tw_iald (j := c) (v := (wDv s c)) k31_26 al54 rfl (by omega) (hd c (by omega)) ?_
  refine tw_isub k31_27 (v := ((s (32 + c)) - (wDv s c))) rfl (by omega) ?_
  refine tw_istore k31_28 rfl (L' := [some (.inr (.inr (.inl 35))), some (.inr (.inr (.inl 2))), some (.inl ((a : Nat) : Int)), some (.inl ((c : Nat) : Int)), some (.inl ((s (32 + a)) - (wDv s a))), some (.inl ((s (32 + c)) - (wDv s c)))]) rfl ?_
  refine tw_iload k31_30 rfl ?_
  refine tw_iload k31_32 rfl ?_
  refine tw_ceq k31_34 (fun h34 => ?_) (fun h34 => ?_)
  · refine tw_aload k31_50 rfl ?_
    refine tw_getr k31_51 f2_3 ?_
    refine tw_iload k31_54 rfl ?_
    refine tw_iald (j := a) (v := (s (22 + a))) k31_55 al6 rfl (by omega) (hS.2.2.2.1 a (by omega)).2.1 ?_
    refine tw_aload k31_56 rfl ?_
    refine tw_getr k31_57 f2_3 ?_
    refine tw_iload k31_60 rfl ?_
    refine tw_iald (j := c) (v := (s (22 + c))) k31_61 al6 rfl (by omega) (hS.2.2.2.1 c (by omega)).2.1 ?_
    refine tw_ceq k31_62 (fun h62 => ?_) (fun h62 => ?_)
    · refine tw_iload k31_88 rfl ?_
      refine tw_iload k31_89 rfl ?_
      refine tw_cle k31_90 (fun h90 => ?_) (fun h90 => ?_)
      · refine tw_const k31_97 ?_
        exact tw_rb k31_98 (by decide) (⟨by rw [if_neg (by unfold rkA; omega)], rfl⟩)
      · refine tw_const k31_93 ?_
        refine tw_goto k31_94 ?_
        exact tw_rb k31_98 (by decide) (⟨by rw [if_pos (by unfold rkA; omega)], rfl⟩)
    · refine tw_aload k31_65 rfl ?_
      refine tw_getr k31_66 f2_3 ?_
      refine tw_iload k31_69 rfl ?_
      refine tw_iald (j := a) (v := (s (22 + a))) k31_70 al6 rfl (by omega) (hS.2.2.2.1 a (by omega)).2.1 ?_
      refine tw_aload k31_71 rfl ?_
      refine tw_getr k31_72 f2_3 ?_
      refine tw_iload k31_75 rfl ?_
      refine tw_iald (j := c) (v := (s (22 + c))) k31_76 al6 rfl (by omega) (hS.2.2.2.1 c (by omega)).2.1 ?_
      refine tw_cge k31_77 (fun h77 => ?_) (fun h77 => ?_)
      · refine tw_const k31_84 ?_
        refine tw_goto k31_85 ?_
        exact tw_rb k31_98 (by decide) (⟨by rw [if_neg (by unfold rkA; omega)], rfl⟩)
      · refine tw_const k31_80 ?_
        refine tw_goto k31_81 ?_
        exact tw_rb k31_98 (by decide) (⟨by rw [if_pos (by unfold rkA; omega)], rfl⟩)
  · refine tw_iload k31_37 rfl ?_
    refine tw_iload k31_39 rfl ?_
    refine tw_cle k31_41 (fun h41 => ?_) (fun h41 => ?_)
    · refine tw_const k31_48 ?_
      exact tw_rb k31_49 (by decide) (⟨by rw [if_neg (by unfold rkA; omega)], rfl⟩)
    · refine tw_const k31_44 ?_
      refine tw_goto k31_45 ?_
      exact tw_rb k31_49 (by decide) (⟨by rw [if_pos (by unfold rkA; omega)], rfl⟩)
theorem x_19 {K : mj_C} {d : Nat} {M : Nat → Nat → Int} {N : Nat → Nat → Int64} (hD : 1 ≤ d) (s : Nat → Int) (hs : pRg s) (hP : cPV 35 M N s) (hS : cSV 2 M s) (q : Nat) (hq : (q : Int) < s 11) : mj_X K d 19 [.inr (.inr (.inl 35)), .inr (.inr (.inl 2)), .inl ((q : Nat) : Int)] (mj_Sh, M, N) (fun r Z => r = some (.inl (rkN s (wDv s) q)) ∧ Z = (mj_Sh, M, N)) := by
  show mj_T K d 19 0 [some (.inr (.inr (.inl 35))), some (.inr (.inr (.inl 2))), some (.inl ((q : Nat) : Int)), none, none] [] (mj_Sh, M, N) _
  have hP0 := hP
  obtain ⟨⟨p11, p12, p13, p14, p15, hpp, hpg, hpd⟩, hu, hl, hd, hv, hn⟩ := hP
  have hpg : gRel (M 44 3) (M 45) (M 46) (M 47) (wG s) := hpg
  have h0 := hs.1 0 (by omega)
  have h5 := hs.2.1
  have h11 := hs.1 11 (by omega)
  have hc11 := hs.2.2.1
  have hGk : gOk (s 0).toNat (wG s) := wGr_ok s (wB s)
  have hG1 : (wG s).1 ≤ (s 0).toNat := hGk.1
  have key : ∀ i : Nat, i ≤ (s 11).toNat → mj_T K d 19 5 [some (.inr (.inr (.inl 35))), some (.inr (.inr (.inl 2))), some (.inl ((q : Nat) : Int)), some (.inl (pS (fun o => if rkA s (wDv s) o q then (1 : Int) else 0) 0 i)), some (.inl ((i : Nat) : Int))] [] (mj_Sh, M, N) (fun r Z => r = some (.inl (rkN s (wDv s) q)) ∧ Z = (mj_Sh, M, N)) := by
    refine up_to (s 11).toNat ?_ ?_
    · show mj_T K d 19 5 [some (.inr (.inr (.inl 35))), some (.inr (.inr (.inl 2))), some (.inl ((q : Nat) : Int)), some (.inl (pS (fun o => if rkA s (wDv s) o q then (1 : Int) else 0) 0 (s 11).toNat)), some (.inl (((s 11).toNat : Nat) : Int))] [] (mj_Sh, M, N) (fun r Z => r = some (.inl (rkN s (wDv s) q)) ∧ Z = (mj_Sh, M, N))
      refine tw_iload k19_5 rfl ?_
      refine tw_aload k19_7 rfl ?_
      refine tw_geti k19_8 f2_7 rfl (v := (s 11)) hS.2.1 ?_
      refine tw_cgeT k19_11 (by omega) ?_
      refine tw_iload k19_34 rfl ?_
      exact tw_ri k19_35 (⟨rfl, rfl⟩)
    · intro i hmi ih
      have ih : mj_T K d 19 5 [some (.inr (.inr (.inl 35))), some (.inr (.inr (.inl 2))), some (.inl ((q : Nat) : Int)), some (.inl (pS (fun o => if rkA s (wDv s) o q then (1 : Int) else 0) 0 (i + 1))), some (.inl (((i + 1) : Nat) : Int))] [] (mj_Sh, M, N) (fun r Z => r = some (.inl (rkN s (wDv s) q)) ∧ Z = (mj_Sh, M, N)) := ih
      show mj_T K d 19 5 [some (.inr (.inr (.inl 35))), some (.inr (.inr (.inl 2))), some (.inl ((q : Nat) : Int)), some (.inl (pS (fun o => if rkA s (wDv s) o q then (1 : Int) else 0) 0 i)), some (.inl ((i : Nat) : Int))] [] (mj_Sh, M, N) (fun r Z => r = some (.inl (rkN s (wDv s) q)) ∧ Z = (mj_Sh, M, N))
      have hr := pS_rg (f := (fun o => if rkA s (wDv s) o q then (1 : Int) else 0)) (a := 0) (B := 1) i (fun k _ _ => by (try dsimp only); split <;> omega)
      refine tw_iload k19_5 rfl ?_
      refine tw_aload k19_7 rfl ?_
      refine tw_geti k19_8 f2_7 rfl (v := (s 11)) hS.2.1 ?_
      refine tw_cgeF k19_11 (by omega) ?_
      refine tw_aload k19_14 rfl ?_
      refine tw_aload k19_15 rfl ?_
      refine tw_iload k19_16 rfl ?_
      refine tw_iload k19_18 rfl ?_
      refine tw_callb (by omega) (S' := []) (as := [.inr (.inr (.inl 35)), .inr (.inr (.inl 2)), .inl ((i : Nat) : Int), .inl ((q : Nat) : Int)]) k19_19 (x_31 (M := M) (N := N) s hs hP0 hS i q (by omega) hq) rfl rfl rfl rfl rfl (fun h19 => ?_) (fun h19 => ?_)
      · refine tw_zeqF k19_22 (by decide) ?_
        refine tw_iinc k19_25 rfl (v := ((pS (fun o => if rkA s (wDv s) o q then (1 : Int) else 0) 0 i) + (1 : Int))) rfl (by omega) rfl (L' := [some (.inr (.inr (.inl 35))), some (.inr (.inr (.inl 2))), some (.inl ((q : Nat) : Int)), some (.inl ((pS (fun o => if rkA s (wDv s) o q then (1 : Int) else 0) 0 i) + (1 : Int))), some (.inl ((i : Nat) : Int))]) rfl ?_
        refine tw_iinc k19_28 rfl (v := ((i + 1 : Nat) : Int)) rfl (by omega) rfl (L' := [some (.inr (.inr (.inl 35))), some (.inr (.inr (.inl 2))), some (.inl ((q : Nat) : Int)), some (.inl ((pS (fun o => if rkA s (wDv s) o q then (1 : Int) else 0) 0 i) + (1 : Int))), some (.inl ((i + 1 : Nat) : Int))]) rfl ?_
        refine tw_goto k19_31 ?_
        refine tw_eqL (L' := [some (.inr (.inr (.inl 35))), some (.inr (.inr (.inl 2))), some (.inl ((q : Nat) : Int)), some (.inl (pS (fun o => if rkA s (wDv s) o q then (1 : Int) else 0) 0 (i + 1))), some (.inl (((i + 1) : Nat) : Int))]) (e_c rfl (e_c rfl (e_c rfl (e_c (e_i (by rw [pS]; (try dsimp only); rw [Nat.zero_add, if_pos h19])) (e_c rfl rfl))))) ?_
        exact ih
      · refine tw_zeqT k19_22 (by decide) ?_
        refine tw_iinc k19_28 rfl (v := ((i + 1 : Nat) : Int)) rfl (by omega) rfl (L' := [some (.inr (.inr (.inl 35))), some (.inr (.inr (.inl 2))), some (.inl ((q : Nat) : Int)), some (.inl (pS (fun o => if rkA s (wDv s) o q then (1 : Int) else 0) 0 i)), some (.inl ((i + 1 : Nat) : Int))]) rfl ?_
        refine tw_goto k19_31 ?_
        refine tw_eqL (L' := [some (.inr (.inr (.inl 35))), some (.inr (.inr (.inl 2))), some (.inl ((q : Nat) : Int)), some (.inl (pS (fun o => if rkA s (wDv s) o q then (1 : Int) else 0) 0 (i + 1))), some (.inl (((i + 1) : Nat) : Int))]) (e_c rfl (e_c rfl (e_c rfl (e_c (e_i (by rw [pS]; (try dsimp only); rw [Nat.zero_add, if_neg h19, Int.add_zero])) (e_c rfl rfl))))) ?_
        exact ih
  refine tw_const k19_0 ?_
  refine tw_istore k19_1 rfl (L' := [some (.inr (.inr (.inl 35))), some (.inr (.inr (.inl 2))), some (.inl ((q : Nat) : Int)), some (.inl (0 : Int)), none]) rfl ?_
  refine tw_const k19_2 ?_
  refine tw_istore k19_3 rfl (L' := [some (.inr (.inr (.inl 35))), some (.inr (.inr (.inl 2))), some (.inl ((q : Nat) : Int)), some (.inl (0 : Int)), some (.inl (0 : Int))]) rfl ?_
  refine tw_eqL (L' := [some (.inr (.inr (.inl 35))), some (.inr (.inr (.inl 2))), some (.inl ((q : Nat) : Int)), some (.inl (pS (fun o => if rkA s (wDv s) o q then (1 : Int) else 0) 0 0)), some (.inl ((0 : Nat) : Int))]) (e_c rfl (e_c rfl (e_c rfl (e_c (e_i rfl) (e_c (e_i rfl) rfl))))) ?_
  exact key 0 (by omega)
theorem x_54 {K : mj_C} {d : Nat} {M : Nat → Nat → Int} {N : Nat → Nat → Int64} (s : Nat → Int) (hs : pRg s) (hS : cSV 2 M s) (y : Int) : mj_X K d 54 [.inr (.inr (.inl 2)), .inl y] (mj_Sh, M, N) (fun r Z => r = some (.inl (mO s y)) ∧ Z = (mj_Sh, M, N)) := by
  show mj_T K d 54 0 [some (.inr (.inr (.inl 2))), some (.inl y), none, none] [] (mj_Sh, M, N) _
  have h11 := hs.1 11 (by omega)
  have hc11 := hs.2.2.1
  have key : ∀ i : Nat, i ≤ (s 11).toNat → mj_T K d 54 4 [some (.inr (.inr (.inl 2))), some (.inl y), some (.inl (pS (fun m => if s (12 + m) = y then (1 : Int) else 0) 0 i)), some (.inl ((i : Nat) : Int))] [] (mj_Sh, M, N) (fun r Z => r = some (.inl (mO s y)) ∧ Z = (mj_Sh, M, N)) := by
    refine up_to (s 11).toNat ?_ ?_
    · show mj_T K d 54 4 [some (.inr (.inr (.inl 2))), some (.inl y), some (.inl (pS (fun m => if s (12 + m) = y then (1 : Int) else 0) 0 (s 11).toNat)), some (.inl (((s 11).toNat : Nat) : Int))] [] (mj_Sh, M, N) (fun r Z => r = some (.inl (mO s y)) ∧ Z = (mj_Sh, M, N))
      refine tw_iload k54_4 rfl ?_
      refine tw_aload k54_5 rfl ?_
      refine tw_geti k54_6 f2_7 rfl (v := (s 11)) hS.2.1 ?_
      refine tw_cgeT k54_9 (by omega) ?_
      refine tw_iload k54_31 rfl ?_
      exact tw_ri k54_32 (⟨rfl, rfl⟩)
    · intro i hmi ih
      have ih : mj_T K d 54 4 [some (.inr (.inr (.inl 2))), some (.inl y), some (.inl (pS (fun m => if s (12 + m) = y then (1 : Int) else 0) 0 (i + 1))), some (.inl (((i + 1) : Nat) : Int))] [] (mj_Sh, M, N) (fun r Z => r = some (.inl (mO s y)) ∧ Z = (mj_Sh, M, N)) := ih
      show mj_T K d 54 4 [some (.inr (.inr (.inl 2))), some (.inl y), some (.inl (pS (fun m => if s (12 + m) = y then (1 : Int) else 0) 0 i)), some (.inl ((i : Nat) : Int))] [] (mj_Sh, M, N) (fun r Z => r = some (.inl (mO s y)) ∧ Z = (mj_Sh, M, N))
      have hr := pS_rg (f := (fun m => if s (12 + m) = y then (1 : Int) else 0)) (a := 0) (B := 1) i (fun k _ _ => by (try dsimp only); split <;> omega)
      refine tw_iload k54_4 rfl ?_
      refine tw_aload k54_5 rfl ?_
      refine tw_geti k54_6 f2_7 rfl (v := (s 11)) hS.2.1 ?_
      refine tw_cgeF k54_9 (by omega) ?_
      refine tw_aload k54_12 rfl ?_
      refine tw_getr k54_13 f2_2 ?_
      refine tw_iload k54_16 rfl ?_
      refine tw_iald (j := i) (v := (s (12 + i))) k54_17 al5 rfl (by omega) (hS.2.2.2.1 i (by omega)).1 ?_
      refine tw_iload k54_18 rfl ?_
      refine tw_cne k54_19 (fun h19 => ?_) (fun h19 => ?_)
      · refine tw_iinc k54_25 rfl (v := ((i + 1 : Nat) : Int)) rfl (by omega) rfl (L' := [some (.inr (.inr (.inl 2))), some (.inl y), some (.inl (pS (fun m => if s (12 + m) = y then (1 : Int) else 0) 0 i)), some (.inl ((i + 1 : Nat) : Int))]) rfl ?_
        refine tw_goto k54_28 ?_
        refine tw_eqL (L' := [some (.inr (.inr (.inl 2))), some (.inl y), some (.inl (pS (fun m => if s (12 + m) = y then (1 : Int) else 0) 0 (i + 1))), some (.inl (((i + 1) : Nat) : Int))]) (e_c rfl (e_c rfl (e_c (e_i (by rw [pS]; (try dsimp only); rw [Nat.zero_add, if_neg h19, Int.add_zero])) (e_c rfl rfl)))) ?_
        exact ih
      · refine tw_iinc k54_22 rfl (v := ((pS (fun m => if s (12 + m) = y then (1 : Int) else 0) 0 i) + (1 : Int))) rfl (by omega) rfl (L' := [some (.inr (.inr (.inl 2))), some (.inl y), some (.inl ((pS (fun m => if s (12 + m) = y then (1 : Int) else 0) 0 i) + (1 : Int))), some (.inl ((i : Nat) : Int))]) rfl ?_
        refine tw_iinc k54_25 rfl (v := ((i + 1 : Nat) : Int)) rfl (by omega) rfl (L' := [some (.inr (.inr (.inl 2))), some (.inl y), some (.inl ((pS (fun m => if s (12 + m) = y then (1 : Int) else 0) 0 i) + (1 : Int))), some (.inl ((i + 1 : Nat) : Int))]) rfl ?_
        refine tw_goto k54_28 ?_
        refine tw_eqL (L' := [some (.inr (.inr (.inl 2))), some (.inl y), some (.inl (pS (fun m => if s (12 + m) = y then (1 : Int) else 0) 0 (i + 1))), some (.inl (((i + 1) : Nat) : Int))]) (e_c rfl (e_c rfl (e_c (e_i (by rw [pS]; (try dsimp only); rw [Nat.zero_add, if_pos h19])) (e_c rfl rfl)))) ?_
        exact ih
  refine tw_const k54_0 ?_
  refine tw_istore k54_1 rfl (L' := [some (.inr (.inr (.inl 2))), some (.inl y), some (.inl (0 : Int)), none]) rfl ?_
  refine tw_const k54_2 ?_
  refine tw_istore k54_3 rfl (L' := [some (.inr (.inr (.inl 2))), some (.inl y), some (.inl (0 : Int)), some (.inl (0 : Int))]) rfl ?_
  refine tw_eqL (L' := [some (.inr (.inr (.inl 2))), some (.inl y), some (.inl (pS (fun m => if s (12 + m) = y then (1 : Int) else 0) 0 0)), some (.inl ((0 : Nat) : Int))]) (e_c rfl (e_c rfl (e_c (e_i rfl) (e_c (e_i rfl) rfl)))) ?_
  exact key 0 (by omega)
theorem x_58 {K : mj_C} {d : Nat} {M : Nat → Nat → Int} {N : Nat → Nat → Int64} (hD : 1 ≤ d) (s : Nat → Int) (hs : pRg s) (hS : cSV 2 M s) (q : Nat) (hq : q < 10) : mj_X K d 58 [.inr (.inr (.inl 2)), .inl ((q : Nat) : Int)] (mj_Sh, M, N) (fun r Z => r = some (.inl (mrt s q)) ∧ Z = (mj_Sh, M, N)) := by
  show mj_T K d 58 0 [some (.inr (.inr (.inl 2))), some (.inl ((q : Nat) : Int)), none, none] [] (mj_Sh, M, N) _
  have h11 := hs.1 11 (by omega)
  have hc11 := hs.2.2.1
  have key : ∀ i : Nat, i ≤ (s 11).toNat → mj_T K d 58 4 [some (.inr (.inr (.inl 2))), some (.inl ((q : Nat) : Int)), some (.inl (pS (fun o => if s (12 + o) = s (12 + q) ∧ isA s o q then (1 : Int) else 0) 0 i)), some (.inl ((i : Nat) : Int))] [] (mj_Sh, M, N) (fun r Z => r = some (.inl (mrt s q)) ∧ Z = (mj_Sh, M, N)) := by
    refine up_to (s 11).toNat ?_ ?_
    · show mj_T K d 58 4 [some (.inr (.inr (.inl 2))), some (.inl ((q : Nat) : Int)), some (.inl (pS (fun o => if s (12 + o) = s (12 + q) ∧ isA s o q then (1 : Int) else 0) 0 (s 11).toNat)), some (.inl (((s 11).toNat : Nat) : Int))] [] (mj_Sh, M, N) (fun r Z => r = some (.inl (mrt s q)) ∧ Z = (mj_Sh, M, N))
      refine tw_iload k58_4 rfl ?_
      refine tw_aload k58_5 rfl ?_
      refine tw_geti k58_6 f2_7 rfl (v := (s 11)) hS.2.1 ?_
      refine tw_cgeT k58_9 (by omega) ?_
      refine tw_iload k58_30 rfl ?_
      exact tw_ri k58_31 (⟨rfl, rfl⟩)
    · intro i hmi ih
      have ih : mj_T K d 58 4 [some (.inr (.inr (.inl 2))), some (.inl ((q : Nat) : Int)), some (.inl (pS (fun o => if s (12 + o) = s (12 + q) ∧ isA s o q then (1 : Int) else 0) 0 (i + 1))), some (.inl (((i + 1) : Nat) : Int))] [] (mj_Sh, M, N) (fun r Z => r = some (.inl (mrt s q)) ∧ Z = (mj_Sh, M, N)) := ih
      show mj_T K d 58 4 [some (.inr (.inr (.inl 2))), some (.inl ((q : Nat) : Int)), some (.inl (pS (fun o => if s (12 + o) = s (12 + q) ∧ isA s o q then (1 : Int) else 0) 0 i)), some (.inl ((i : Nat) : Int))] [] (mj_Sh, M, N) (fun r Z => r = some (.inl (mrt s q)) ∧ Z = (mj_Sh, M, N))
      have hr := pS_rg (f := (fun o => if s (12 + o) = s (12 + q) ∧ isA s o q then (1 : Int) else 0)) (a := 0) (B := 1) i (fun k _ _ => by (try dsimp only); split <;> omega)
      refine tw_iload k58_4 rfl ?_
      refine tw_aload k58_5 rfl ?_
      refine tw_geti k58_6 f2_7 rfl (v := (s 11)) hS.2.1 ?_
      refine tw_cgeF k58_9 (by omega) ?_
      refine tw_aload k58_12 rfl ?_
      refine tw_iload k58_13 rfl ?_
      refine tw_iload k58_14 rfl ?_
      refine tw_callb (by omega) (S' := []) (as := [.inr (.inr (.inl 2)), .inl ((i : Nat) : Int), .inl ((q : Nat) : Int)]) k58_15 (x_55_35 (M := M) (N := N) s hS i q (by omega) (by omega)) rfl rfl rfl rfl rfl (fun h15 => ?_) (fun h15 => ?_)
      · refine tw_zeqF k58_18 (by decide) ?_
        refine tw_iinc k58_21 rfl (v := ((pS (fun o => if s (12 + o) = s (12 + q) ∧ isA s o q then (1 : Int) else 0) 0 i) + (1 : Int))) rfl (by omega) rfl (L' := [some (.inr (.inr (.inl 2))), some (.inl ((q : Nat) : Int)), some (.inl ((pS (fun o => if s (12 + o) = s (12 + q) ∧ isA s o q then (1 : Int) else 0) 0 i) + (1 : Int))), some (.inl ((i : Nat) : Int))]) rfl ?_
        refine tw_iinc k58_24 rfl (v := ((i + 1 : Nat) : Int)) rfl (by omega) rfl (L' := [some (.inr (.inr (.inl 2))), some (.inl ((q : Nat) : Int)), some (.inl ((pS (fun o => if s (12 + o) = s (12 + q) ∧ isA s o q then (1 : Int) else 0) 0 i) + (1 : Int))), some (.inl ((i + 1 : Nat) : Int))]) rfl ?_
        refine tw_goto k58_27 ?_
        refine tw_eqL (L' := [some (.inr (.inr (.inl 2))), some (.inl ((q : Nat) : Int)), some (.inl (pS (fun o => if s (12 + o) = s (12 + q) ∧ isA s o q then (1 : Int) else 0) 0 (i + 1))), some (.inl (((i + 1) : Nat) : Int))]) (e_c rfl (e_c rfl (e_c (e_i (by rw [pS]; (try dsimp only); rw [Nat.zero_add, if_pos h15])) (e_c rfl rfl)))) ?_
        exact ih
      · refine tw_zeqT k58_18 (by decide) ?_
        refine tw_iinc k58_24 rfl (v := ((i + 1 : Nat) : Int)) rfl (by omega) rfl (L' := [some (.inr (.inr (.inl 2))), some (.inl ((q : Nat) : Int)), some (.inl (pS (fun o => if s (12 + o) = s (12 + q) ∧ isA s o q then (1 : Int) else 0) 0 i)), some (.inl ((i + 1 : Nat) : Int))]) rfl ?_
        refine tw_goto k58_27 ?_
        refine tw_eqL (L' := [some (.inr (.inr (.inl 2))), some (.inl ((q : Nat) : Int)), some (.inl (pS (fun o => if s (12 + o) = s (12 + q) ∧ isA s o q then (1 : Int) else 0) 0 (i + 1))), some (.inl (((i + 1) : Nat) : Int))]) (e_c rfl (e_c rfl (e_c (e_i (by rw [pS]; (try dsimp only); rw [Nat.zero_add, if_neg h15, Int.add_zero])) (e_c rfl rfl)))) ?_
        exact ih
  refine tw_const k58_0 ?_
  refine tw_istore k58_1 rfl (L' := [some (.inr (.inr (.inl 2))), some (.inl ((q : Nat) : Int)), some (.inl (0 : Int)), none]) rfl ?_
  refine tw_const k58_2 ?_
  refine tw_istore k58_3 rfl (L' := [some (.inr (.inr (.inl 2))), some (.inl ((q : Nat) : Int)), some (.inl (0 : Int)), some (.inl (0 : Int))]) rfl ?_
  refine tw_eqL (L' := [some (.inr (.inr (.inl 2))), some (.inl ((q : Nat) : Int)), some (.inl (pS (fun o => if s (12 + o) = s (12 + q) ∧ isA s o q then (1 : Int) else 0) 0 0)), some (.inl ((0 : Nat) : Int))]) (e_c rfl (e_c rfl (e_c (e_i rfl) (e_c (e_i rfl) rfl)))) ?_
  exact key 0 (by omega)
theorem x_56 {K : mj_C} {d : Nat} {M : Nat → Nat → Int} {N : Nat → Nat → Int64} (hD : 2 ≤ d) (s : Nat → Int) (hs : pRg s) (hS : cSV 2 M s) (y k : Int) : mj_X K d 56 [.inr (.inr (.inl 2)), .inl y, .inl k] (mj_Sh, M, N) (fun r Z => r = some (.inl (byM s y k)) ∧ Z = (mj_Sh, M, N)) := by
  show mj_T K d 56 0 [some (.inr (.inr (.inl 2))), some (.inl y), some (.inl k), none] [] (mj_Sh, M, N) _
  have h11 := hs.1 11 (by omega)
  have hc11 := hs.2.2.1
  have key : ∀ i : Nat, i ≤ (s 11).toNat → (∀ j, j < i → ¬ (s (12 + j) = y ∧ mrt s j = k)) → mj_T K d 56 2 [some (.inr (.inr (.inl 2))), some (.inl y), some (.inl k), some (.inl ((i : Nat) : Int))] [] (mj_Sh, M, N) (fun r Z => r = some (.inl (byM s y k)) ∧ Z = (mj_Sh, M, N)) := by
    refine up_to (s 11).toNat ?_ ?_
    · show (∀ j, j < (s 11).toNat → ¬ (s (12 + j) = y ∧ mrt s j = k)) → mj_T K d 56 2 [some (.inr (.inr (.inl 2))), some (.inl y), some (.inl k), some (.inl (((s 11).toNat : Nat) : Int))] [] (mj_Sh, M, N) (fun r Z => r = some (.inl (byM s y k)) ∧ Z = (mj_Sh, M, N))
      intro hN
      refine tw_iload k56_2 rfl ?_
      refine tw_aload k56_3 rfl ?_
      refine tw_geti k56_4 f2_7 rfl (v := (s 11)) hS.2.1 ?_
      refine tw_cgeT k56_7 (by omega) ?_
      refine tw_const k56_37 ?_
      exact tw_ri k56_39 (⟨by unfold byM bmF; rw [pFd_no _ 0 (fun j _ hj => hN j (by omega)), if_neg (by omega)], rfl⟩)
    · intro i hmi ih
      have ih : (∀ j, j < (i + 1) → ¬ (s (12 + j) = y ∧ mrt s j = k)) → mj_T K d 56 2 [some (.inr (.inr (.inl 2))), some (.inl y), some (.inl k), some (.inl (((i + 1) : Nat) : Int))] [] (mj_Sh, M, N) (fun r Z => r = some (.inl (byM s y k)) ∧ Z = (mj_Sh, M, N)) := ih
      show (∀ j, j < i → ¬ (s (12 + j) = y ∧ mrt s j = k)) → mj_T K d 56 2 [some (.inr (.inr (.inl 2))), some (.inl y), some (.inl k), some (.inl ((i : Nat) : Int))] [] (mj_Sh, M, N) (fun r Z => r = some (.inl (byM s y k)) ∧ Z = (mj_Sh, M, N))
      intro hN
      refine tw_iload k56_2 rfl ?_
      refine tw_aload k56_3 rfl ?_
      refine tw_geti k56_4 f2_7 rfl (v := (s 11)) hS.2.1 ?_
      refine tw_cgeF k56_7 (by omega) ?_
      refine tw_aload k56_10 rfl ?_
      refine tw_getr k56_11 f2_2 ?_
      refine tw_iload k56_14 rfl ?_
      refine tw_iald (j := i) (v := (s (12 + i))) k56_15 al5 rfl (by omega) (hS.2.2.2.1 i (by omega)).1 ?_
      refine tw_iload k56_16 rfl ?_
      refine tw_cne k56_17 (fun h17 => ?_) (fun h17 => ?_)
      · refine tw_iinc k56_31 rfl (v := ((i + 1 : Nat) : Int)) rfl (by omega) rfl (L' := [some (.inr (.inr (.inl 2))), some (.inl y), some (.inl k), some (.inl ((i + 1 : Nat) : Int))]) rfl ?_
        refine tw_goto k56_34 ?_
        exact ih (fun j hj => by
          by_cases e : j = i
          · subst e; intro hc; exact h17 hc.1
          · exact hN j (by omega))
      · refine tw_aload k56_20 rfl ?_
        refine tw_iload k56_21 rfl ?_
        refine tw_callp (v := .inl (mrt s i)) (by omega) (S' := []) (as := [.inr (.inr (.inl 2)), .inl ((i : Nat) : Int)]) k56_22 (x_58 (M := M) (N := N) (by omega) s hs hS i (by omega)) rfl rfl rfl rfl rfl ?_
        refine tw_iload k56_25 rfl ?_
        refine tw_cne k56_26 (fun h26 => ?_) (fun h26 => ?_)
        · refine tw_iinc k56_31 rfl (v := ((i + 1 : Nat) : Int)) rfl (by omega) rfl (L' := [some (.inr (.inr (.inl 2))), some (.inl y), some (.inl k), some (.inl ((i + 1 : Nat) : Int))]) rfl ?_
          refine tw_goto k56_34 ?_
          exact ih (fun j hj => by
            by_cases e : j = i
            · subst e; intro hc; exact h26 hc.2
            · exact hN j (by omega))
        · refine tw_iload k56_29 rfl ?_
          exact tw_ri k56_30 (⟨by unfold byM bmF; rw [pFd_eq _ 0 i (by omega) (by omega) ⟨by omega, by omega⟩ (fun j _ hj => hN j hj), if_pos (by omega)], rfl⟩)
  refine tw_const k56_0 ?_
  refine tw_istore k56_1 rfl (L' := [some (.inr (.inr (.inl 2))), some (.inl y), some (.inl k), some (.inl (0 : Int))]) rfl ?_
  exact key 0 (by omega) (fun j hj => by omega)
