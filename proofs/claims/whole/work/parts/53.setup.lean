-- the class: a set-up changed, rows of two numbers
def kOk (K : mj_C) : Prop := ((K 1).1 = 4 ∧ (K 2).1 = 4 ∧ (K 3).1 = 4) ∧ ((K 1).2 0 = 0 ∧ (K 1).2 1 = 0 ∧ (K 1).2 2 = 1 ∧ (K 1).2 3 = 1) ∧ ((K 2).2 0 = 20 ∧ (K 2).2 1 = 40 ∧ (K 2).2 2 = 20 ∧ (K 2).2 3 = 9) ∧ ((K 3).2 0 = 20 ∧ (K 3).2 1 = 20 ∧ (K 3).2 2 = 20 ∧ (K 3).2 3 = 5)
theorem cSV_year {M : Nat → Nat → Int} {s : Nat → Int} {n : Nat} {cap em : Int} (h : cSV 2 M s) (hn : n = (s 0).toNat) (h5 : n < 5) : cSV 2 (st M [(3, pU (M 3) n cap), (4, pU (M 4) n em), (2, pU (M 2) 6 ((n + 1 : Nat) : Int))]) (sYear s cap em) := by
  obtain ⟨h1, h2, h3, h4, h6⟩ := h
  unfold sYear
  rw [← hn]
  refine ⟨?_, ?_, fun y hy => ⟨?_, ?_⟩, fun m hm => ⟨?_, ?_, ?_⟩, fun i hi => ?_⟩
  · show pU (M 2) 6 ((n + 1 : Nat) : Int) 6 = _; rw [pU_eq, pU_eq]
  · show pU (M 2) 6 ((n + 1 : Nat) : Int) 7 = _; rw [pU_ne (by omega), pU_ne (by omega), pU_ne (by omega), pU_ne (by omega)]; exact h2
  · show pU (M 3) n cap y = _; have : M 3 y = s (1 + y) ∧ M 4 y = s (6 + y) := h3 y hy; unfold pU; (repeat' split) <;> omega
  · show pU (M 4) n em y = _; have : M 3 y = s (1 + y) ∧ M 4 y = s (6 + y) := h3 y hy; unfold pU; (repeat' split) <;> omega
  · show M 5 m = _; rw [pU_ne (by omega), pU_ne (by omega), pU_ne (by omega)]; exact (h4 m hm).1
  · show M 6 m = _; rw [pU_ne (by omega), pU_ne (by omega), pU_ne (by omega)]; exact (h4 m hm).2.1
  · show M 7 m = _; rw [pU_ne (by omega), pU_ne (by omega), pU_ne (by omega)]; exact (h4 m hm).2.2
  · show M 8 i = _; rw [pU_ne (by omega), pU_ne (by omega), pU_ne (by omega)]; exact h6 i hi
theorem cSV_meas {M : Nat → Nat → Int} {s : Nat → Int} {n : Nat} {y cost much : Int} (h : cSV 2 M s) (hn : n = (s 11).toNat) (h5 : n < 10) : cSV 2 (st M [(5, pU (M 5) n y), (6, pU (M 6) n cost), (7, pU (M 7) n much), (2, pU (M 2) 7 ((n + 1 : Nat) : Int))]) (sMeas s y cost much) := by
  obtain ⟨h1, h2, h3, h4, h6⟩ := h
  unfold sMeas
  rw [← hn]
  refine ⟨?_, ?_, fun y hy => ⟨?_, ?_⟩, fun m hm => ⟨?_, ?_, ?_⟩, fun i hi => ?_⟩
  · show pU (M 2) 7 ((n + 1 : Nat) : Int) 6 = _; rw [pU_ne (by omega), pU_ne (by omega), pU_ne (by omega), pU_ne (by omega), pU_ne (by omega)]; exact h1
  · show pU (M 2) 7 ((n + 1 : Nat) : Int) 7 = _; rw [pU_eq, pU_eq]
  · show M 3 y = _; rw [pU_ne (by omega), pU_ne (by omega), pU_ne (by omega), pU_ne (by omega)]; exact (h3 y hy).1
  · show M 4 y = _; rw [pU_ne (by omega), pU_ne (by omega), pU_ne (by omega), pU_ne (by omega)]; exact (h3 y hy).2
  · show pU (M 5) n y m = _; have : M 5 m = s (12 + m) ∧ M 6 m = s (22 + m) ∧ M 7 m = s (32 + m) := h4 m hm; unfold pU; (repeat' split) <;> omega
  · show pU (M 6) n cost m = _; have : M 5 m = s (12 + m) ∧ M 6 m = s (22 + m) ∧ M 7 m = s (32 + m) := h4 m hm; unfold pU; (repeat' split) <;> omega
  · show pU (M 7) n much m = _; have : M 5 m = s (12 + m) ∧ M 6 m = s (22 + m) ∧ M 7 m = s (32 + m) := h4 m hm; unfold pU; (repeat' split) <;> omega
  · show M 8 i = _; rw [pU_ne (by omega), pU_ne (by omega), pU_ne (by omega), pU_ne (by omega)]; exact h6 i hi
theorem cSV_put {o x b : Nat} {M : Nat → Nat → Int} {s : Nat → Int} {k : Nat} {v : Int} (h : cSV o M s) (hc : x = o + 1 ∧ b = 1 ∧ k < 5 ∨ x = o + 2 ∧ b = 6 ∧ k < 5 ∨ x = o + 4 ∧ b = 22 ∧ k < 10 ∨ x = o + 5 ∧ b = 32 ∧ k < 10 ∨ x = o + 6 ∧ b = 42 ∧ k < 4) : cSV o (st M [(x, pU (M x) k v)]) (pU s (b + k) v) := by
  obtain ⟨h1, h2, h3, h4, h5⟩ := h
  have key : ∀ c j, st M [(x, pU (M x) k v)] c j = if c = x ∧ j = k then v else M c j := by
    intro c j
    rw [st_c, st_nil]
    unfold pU
    by_cases e : c = x
    · subst e; by_cases e2 : j = k <;> simp [e2]
    · simp [e]
  unfold cSV
  simp only [key]
  refine ⟨?_, ?_, fun y hy => ⟨?_, ?_⟩, fun m hm => ⟨?_, ?_, ?_⟩, fun i hi => ?_⟩
  · rw [if_neg (by omega), pU_ne (by omega)]; exact h1
  · rw [if_neg (by omega), pU_ne (by omega)]; exact h2
  · have := h3 y hy; unfold pU; (repeat' split) <;> omega
  · have := h3 y hy; unfold pU; (repeat' split) <;> omega
  · have := h4 m hm; unfold pU; (repeat' split) <;> omega
  · have := h4 m hm; unfold pU; (repeat' split) <;> omega
  · have := h4 m hm; unfold pU; (repeat' split) <;> omega
  · have := h5 i hi; unfold pU; (repeat' split) <;> omega
theorem pCp0 {f g : Nat → Int} {n y : Nat} (h : y < n) : pCp f g 0 0 n y = f y := by
  unfold pCp
  rw [if_pos (by omega), show 0 + (y - 0) = y by omega]
theorem qRenew_0 {s : Nat → Int} {k v : Int} : qRenew s 0 k v = if 0 ≤ k ∧ k < s 0 then (if 0 ≤ v ∧ v ≤ 20 then s (1 + k.toNat) else -2) else -1 := by unfold qRenew rK rLo rHi rBs; simp
theorem aRenew_0 {s : Nat → Int} {k v : Int} : aRenew s 0 k v = if (0 ≤ k ∧ k < s 0) ∧ 0 ≤ v ∧ v ≤ 20 then pU s (1 + k.toNat) v else s := by unfold aRenew rK rLo rHi rBs; simp
theorem qSet_0 {s : Nat → Int} {v : Int} : qSet s 0 v = if 0 ≤ v ∧ v ≤ 20 then s (42 + 0) else -2 := by unfold qSet sHi; simp
theorem aSet_0 {s : Nat → Int} {v : Int} : aSet s 0 v = if 0 ≤ v ∧ v ≤ 20 then pU s (42 + 0) v else s := by unfold aSet sHi; simp
theorem qRenew_1 {s : Nat → Int} {k v : Int} : qRenew s 1 k v = if 0 ≤ k ∧ k < s 0 then (if 0 ≤ v ∧ v ≤ 40 then s (6 + k.toNat) else -2) else -1 := by unfold qRenew rK rLo rHi rBs; simp
theorem aRenew_1 {s : Nat → Int} {k v : Int} : aRenew s 1 k v = if (0 ≤ k ∧ k < s 0) ∧ 0 ≤ v ∧ v ≤ 40 then pU s (6 + k.toNat) v else s := by unfold aRenew rK rLo rHi rBs; simp
theorem qSet_1 {s : Nat → Int} {v : Int} : qSet s 1 v = if 0 ≤ v ∧ v ≤ 20 then s (42 + 1) else -2 := by unfold qSet sHi; simp
theorem aSet_1 {s : Nat → Int} {v : Int} : aSet s 1 v = if 0 ≤ v ∧ v ≤ 20 then pU s (42 + 1) v else s := by unfold aSet sHi; simp
theorem qRenew_2 {s : Nat → Int} {k v : Int} : qRenew s 2 k v = if 0 ≤ k ∧ k < s 11 then (if 1 ≤ v ∧ v ≤ 20 then s (22 + k.toNat) else -2) else -1 := by unfold qRenew rK rLo rHi rBs; simp
theorem aRenew_2 {s : Nat → Int} {k v : Int} : aRenew s 2 k v = if (0 ≤ k ∧ k < s 11) ∧ 1 ≤ v ∧ v ≤ 20 then pU s (22 + k.toNat) v else s := by unfold aRenew rK rLo rHi rBs; simp
theorem qSet_2 {s : Nat → Int} {v : Int} : qSet s 2 v = if 0 ≤ v ∧ v ≤ 20 then s (42 + 2) else -2 := by unfold qSet sHi; simp
theorem aSet_2 {s : Nat → Int} {v : Int} : aSet s 2 v = if 0 ≤ v ∧ v ≤ 20 then pU s (42 + 2) v else s := by unfold aSet sHi; simp
theorem qRenew_3 {s : Nat → Int} {k v : Int} : qRenew s 3 k v = if 0 ≤ k ∧ k < s 11 then (if 1 ≤ v ∧ v ≤ 9 then s (32 + k.toNat) else -2) else -1 := by unfold qRenew rK rLo rHi rBs; simp
theorem aRenew_3 {s : Nat → Int} {k v : Int} : aRenew s 3 k v = if (0 ≤ k ∧ k < s 11) ∧ 1 ≤ v ∧ v ≤ 9 then pU s (32 + k.toNat) v else s := by unfold aRenew rK rLo rHi rBs; simp
theorem qSet_3 {s : Nat → Int} {v : Int} : qSet s 3 v = if 0 ≤ v ∧ v ≤ 5 then s (42 + 3) else -2 := by unfold qSet sHi; simp
theorem aSet_3 {s : Nat → Int} {v : Int} : aSet s 3 v = if 0 ≤ v ∧ v ≤ 5 then pU s (42 + 3) v else s := by unfold aSet sHi; simp
theorem evS_0 {s : Nat → Int} {n : Int} : evS s 0 n = pU s (1 + n.toNat) 0 := by unfold evS; rw [if_pos rfl]
theorem evS_1 {s : Nat → Int} {n : Int} : evS s 1 n = pU s (6 + n.toNat) (min 40 (s (6 + n.toNat) + 5)) := by unfold evS; rw [if_neg (by decide), if_pos rfl]
theorem evS_2 {s : Nat → Int} {n : Int} : evS s 2 n = pU s (42 + 3) n := by unfold evS; rw [if_neg (by decide), if_neg (by decide), if_pos rfl]
theorem evS_3 {s : Nat → Int} {n : Int} : evS s 3 n = pU s (42 + 0) n := by unfold evS; rw [if_neg (by decide), if_neg (by decide), if_neg (by decide)]
def stV (q : Nat) (M : Nat → Nat → Int) (s : Nat → Int) : Prop := cSV (q + 1) M s ∧ rV (q + 8) M s 46 ∧ rV (q + 11) M s 57 ∧ rV (q + 14) M s 74
theorem x_47_2 {K : mj_C} {d : Nat} {M : Nat → Nat → Int} {N : Nat → Nat → Int64} (hD : 1 ≤ d) (s : Nat → Int) (hr : 0 ≤ s 0 ∧ s 0 ≤ 100) (hS : cSV 2 M s) (y : Int) : mj_X K d 47 [.inr (.inr (.inl 2)), .inl y] (mj_Sh, M, N) (fun r Z => r = some (.inl (if 0 ≤ y ∧ y < s 0 then 1 else 0)) ∧ Z = (mj_Sh, M, N)) := by
  show mj_T K d 47 0 [some (.inr (.inr (.inl 2))), some (.inl y)] [] (mj_Sh, M, N) _
  refine tw_iload k47_0 rfl ?_
  refine tw_const k47_1 ?_
  refine tw_aload k47_2 rfl ?_
  refine tw_geti k47_3 f2_6 rfl (v := (s 0)) hS.1 ?_
  refine tw_const k47_6 ?_
  refine tw_isub k47_7 (v := ((s 0) - (1 : Int))) rfl (by omega) ?_
  refine tw_callb (by omega) (S' := []) (as := [.inl y, .inl (0 : Int), .inl ((s 0) - (1 : Int))]) k47_8 (x_104 y (0 : Int) ((s 0) - (1 : Int))) rfl rfl rfl rfl rfl (fun h8 => ?_) (fun h8 => ?_)
  · exact tw_rb k47_11 (by decide) (⟨by rw [if_pos (by omega)], rfl⟩)
  · exact tw_rb k47_11 (by decide) (⟨by rw [if_neg (by omega)], rfl⟩)
theorem x_47_62 {K : mj_C} {d : Nat} {M : Nat → Nat → Int} {N : Nat → Nat → Int64} (hD : 1 ≤ d) (s : Nat → Int) (hr : 0 ≤ s 0 ∧ s 0 ≤ 100) (hS : cSV 62 M s) (y : Int) : mj_X K d 47 [.inr (.inr (.inl 62)), .inl y] (mj_Sh, M, N) (fun r Z => r = some (.inl (if 0 ≤ y ∧ y < s 0 then 1 else 0)) ∧ Z = (mj_Sh, M, N)) := by
  show mj_T K d 47 0 [some (.inr (.inr (.inl 62))), some (.inl y)] [] (mj_Sh, M, N) _
  refine tw_iload k47_0 rfl ?_
  refine tw_const k47_1 ?_
  refine tw_aload k47_2 rfl ?_
  refine tw_geti k47_3 f62_6 rfl (v := (s 0)) hS.1 ?_
  refine tw_const k47_6 ?_
  refine tw_isub k47_7 (v := ((s 0) - (1 : Int))) rfl (by omega) ?_
  refine tw_callb (by omega) (S' := []) (as := [.inl y, .inl (0 : Int), .inl ((s 0) - (1 : Int))]) k47_8 (x_104 y (0 : Int) ((s 0) - (1 : Int))) rfl rfl rfl rfl rfl (fun h8 => ?_) (fun h8 => ?_)
  · exact tw_rb k47_11 (by decide) (⟨by rw [if_pos (by omega)], rfl⟩)
  · exact tw_rb k47_11 (by decide) (⟨by rw [if_neg (by omega)], rfl⟩)
theorem x_48_2 {K : mj_C} {d : Nat} {M : Nat → Nat → Int} {N : Nat → Nat → Int64} (hD : 1 ≤ d) (s : Nat → Int) (hr : 0 ≤ s 11 ∧ s 11 ≤ 100) (hS : cSV 2 M s) (y : Int) : mj_X K d 48 [.inr (.inr (.inl 2)), .inl y] (mj_Sh, M, N) (fun r Z => r = some (.inl (if 0 ≤ y ∧ y < s 11 then 1 else 0)) ∧ Z = (mj_Sh, M, N)) := by
  show mj_T K d 48 0 [some (.inr (.inr (.inl 2))), some (.inl y)] [] (mj_Sh, M, N) _
  refine tw_iload k48_0 rfl ?_
  refine tw_const k48_1 ?_
  refine tw_aload k48_2 rfl ?_
  refine tw_geti k48_3 f2_7 rfl (v := (s 11)) hS.2.1 ?_
  refine tw_const k48_6 ?_
  refine tw_isub k48_7 (v := ((s 11) - (1 : Int))) rfl (by omega) ?_
  refine tw_callb (by omega) (S' := []) (as := [.inl y, .inl (0 : Int), .inl ((s 11) - (1 : Int))]) k48_8 (x_104 y (0 : Int) ((s 11) - (1 : Int))) rfl rfl rfl rfl rfl (fun h8 => ?_) (fun h8 => ?_)
  · exact tw_rb k48_11 (by decide) (⟨by rw [if_pos (by omega)], rfl⟩)
  · exact tw_rb k48_11 (by decide) (⟨by rw [if_neg (by omega)], rfl⟩)
theorem x_60_0 {K : mj_C} {d : Nat} {Z : mj_Z} (hD : 1 ≤ d) (hK : kOk K) (v : Int) : mj_X K d 60 [.inl (0 : Int), .inl v] Z (fun r Z' => r = some (.inl (if 0 ≤ v ∧ v ≤ 20 then 1 else 0)) ∧ Z' = Z) := by
  show mj_T K d 60 0 [some (.inl (0 : Int)), some (.inl v)] [] Z _
  refine tw_iload k60_0 rfl ?_
  refine tw_gets k60_1 ?_
  refine tw_iload k60_4 rfl ?_
  refine tw_ialdc (j := 0) (v := (0 : Int)) k60_5 rfl rfl (by rw [hK.1.1]; omega) hK.2.1.1 ?_
  refine tw_gets k60_6 ?_
  refine tw_iload k60_9 rfl ?_
  refine tw_ialdc (j := 0) (v := (20 : Int)) k60_10 rfl rfl (by rw [hK.1.2.1]; omega) hK.2.2.1.1 ?_
  refine tw_callb (by omega) (S' := []) (as := [.inl v, .inl (0 : Int), .inl (20 : Int)]) k60_11 (x_104 v (0 : Int) (20 : Int)) rfl rfl rfl rfl rfl (fun h11 => ?_) (fun h11 => ?_)
  · exact tw_rb k60_14 (by decide) (⟨by rw [if_pos (by omega)], rfl⟩)
  · exact tw_rb k60_14 (by decide) (⟨by rw [if_neg (by omega)], rfl⟩)
theorem x_60_1 {K : mj_C} {d : Nat} {Z : mj_Z} (hD : 1 ≤ d) (hK : kOk K) (v : Int) : mj_X K d 60 [.inl (1 : Int), .inl v] Z (fun r Z' => r = some (.inl (if 0 ≤ v ∧ v ≤ 40 then 1 else 0)) ∧ Z' = Z) := by
  show mj_T K d 60 0 [some (.inl (1 : Int)), some (.inl v)] [] Z _
  refine tw_iload k60_0 rfl ?_
  refine tw_gets k60_1 ?_
  refine tw_iload k60_4 rfl ?_
  refine tw_ialdc (j := 1) (v := (0 : Int)) k60_5 rfl rfl (by rw [hK.1.1]; omega) hK.2.1.2.1 ?_
  refine tw_gets k60_6 ?_
  refine tw_iload k60_9 rfl ?_
  refine tw_ialdc (j := 1) (v := (40 : Int)) k60_10 rfl rfl (by rw [hK.1.2.1]; omega) hK.2.2.1.2.1 ?_
  refine tw_callb (by omega) (S' := []) (as := [.inl v, .inl (0 : Int), .inl (40 : Int)]) k60_11 (x_104 v (0 : Int) (40 : Int)) rfl rfl rfl rfl rfl (fun h11 => ?_) (fun h11 => ?_)
  · exact tw_rb k60_14 (by decide) (⟨by rw [if_pos (by omega)], rfl⟩)
  · exact tw_rb k60_14 (by decide) (⟨by rw [if_neg (by omega)], rfl⟩)
theorem x_60_2 {K : mj_C} {d : Nat} {Z : mj_Z} (hD : 1 ≤ d) (hK : kOk K) (v : Int) : mj_X K d 60 [.inl (2 : Int), .inl v] Z (fun r Z' => r = some (.inl (if 1 ≤ v ∧ v ≤ 20 then 1 else 0)) ∧ Z' = Z) := by
  show mj_T K d 60 0 [some (.inl (2 : Int)), some (.inl v)] [] Z _
  refine tw_iload k60_0 rfl ?_
  refine tw_gets k60_1 ?_
  refine tw_iload k60_4 rfl ?_
  refine tw_ialdc (j := 2) (v := (1 : Int)) k60_5 rfl rfl (by rw [hK.1.1]; omega) hK.2.1.2.2.1 ?_
  refine tw_gets k60_6 ?_
  refine tw_iload k60_9 rfl ?_
  refine tw_ialdc (j := 2) (v := (20 : Int)) k60_10 rfl rfl (by rw [hK.1.2.1]; omega) hK.2.2.1.2.2.1 ?_
  refine tw_callb (by omega) (S' := []) (as := [.inl v, .inl (1 : Int), .inl (20 : Int)]) k60_11 (x_104 v (1 : Int) (20 : Int)) rfl rfl rfl rfl rfl (fun h11 => ?_) (fun h11 => ?_)
  · exact tw_rb k60_14 (by decide) (⟨by rw [if_pos (by omega)], rfl⟩)
  · exact tw_rb k60_14 (by decide) (⟨by rw [if_neg (by omega)], rfl⟩)
theorem x_60_3 {K : mj_C} {d : Nat} {Z : mj_Z} (hD : 1 ≤ d) (hK : kOk K) (v : Int) : mj_X K d 60 [.inl (3 : Int), .inl v] Z (fun r Z' => r = some (.inl (if 1 ≤ v ∧ v ≤ 9 then 1 else 0)) ∧ Z' = Z) := by
  show mj_T K d 60 0 [some (.inl (3 : Int)), some (.inl v)] [] Z _
  refine tw_iload k60_0 rfl ?_
  refine tw_gets k60_1 ?_
  refine tw_iload k60_4 rfl ?_
  refine tw_ialdc (j := 3) (v := (1 : Int)) k60_5 rfl rfl (by rw [hK.1.1]; omega) hK.2.1.2.2.2 ?_
  refine tw_gets k60_6 ?_
  refine tw_iload k60_9 rfl ?_
  refine tw_ialdc (j := 3) (v := (9 : Int)) k60_10 rfl rfl (by rw [hK.1.2.1]; omega) hK.2.2.1.2.2.2 ?_
  refine tw_callb (by omega) (S' := []) (as := [.inl v, .inl (1 : Int), .inl (9 : Int)]) k60_11 (x_104 v (1 : Int) (9 : Int)) rfl rfl rfl rfl rfl (fun h11 => ?_) (fun h11 => ?_)
  · exact tw_rb k60_14 (by decide) (⟨by rw [if_pos (by omega)], rfl⟩)
  · exact tw_rb k60_14 (by decide) (⟨by rw [if_neg (by omega)], rfl⟩)
theorem x_49 {K : mj_C} {d : Nat} {M : Nat → Nat → Int} {N : Nat → Nat → Int64} (hD : 2 ≤ d) (hK : kOk K) (s : Nat → Int) (hV : pVI s) (hS : cSV 2 M s) (cap em : Int) : mj_X K d 49 [.inr (.inr (.inl 2)), .inl cap, .inl em] (mj_Sh, M, N) (fun r Z => r = some (.inl (qYear s cap em)) ∧ ∃ M1, Z = (mj_Sh, M1, N) ∧ cSV 2 M1 (aYear s cap em) ∧ (∀ c, c < 2 ∨ 8 < c → M1 c = M c)) := by
  show mj_T K d 49 0 [some (.inr (.inr (.inl 2))), some (.inl cap), some (.inl em)] [] (mj_Sh, M, N) _
  have hs := hV.1
  have h0 := hs.1 0 (by omega)
  have h5 := hs.2.1
  have h11 := hs.1 11 (by omega)
  have hc11 := hs.2.2.1
  obtain ⟨n, hn⟩ : ∃ n : Nat, n = (s 0).toNat := ⟨_, rfl⟩
  have hn0 : M 2 6 = (n : Int) := hS.1.trans (by omega)
  refine tw_const k49_0 ?_
  refine tw_iload k49_1 rfl ?_
  refine tw_callb (by omega) (S' := []) (as := [.inl (0 : Int), .inl cap]) k49_2 (x_60_0 (by omega) hK cap) rfl rfl rfl rfl rfl (fun h2 => ?_) (fun h2 => ?_)
  · refine tw_zeqF k49_5 (by decide) ?_
    refine tw_const k49_8 ?_
    refine tw_iload k49_9 rfl ?_
    refine tw_callb (by omega) (S' := []) (as := [.inl (1 : Int), .inl em]) k49_10 (x_60_1 (by omega) hK em) rfl rfl rfl rfl rfl (fun h10 => ?_) (fun h10 => ?_)
    · refine tw_zneT k49_13 (by decide) ?_
      refine tw_aload k49_19 rfl ?_
      refine tw_geti k49_20 f2_6 rfl (v := ((n : Nat) : Int)) hn0 ?_
      refine tw_const k49_23 ?_
      refine tw_clt k49_24 (fun h24 => ?_) (fun h24 => ?_)
      · refine tw_aload k49_30 rfl ?_
        refine tw_getr k49_31 f2_0 ?_
        refine tw_aload k49_34 rfl ?_
        refine tw_geti k49_35 f2_6 rfl (v := ((n : Nat) : Int)) hn0 ?_
        refine tw_iload k49_38 rfl ?_
        refine tw_iast (M := M) (N := N) (l := []) (l' := [(3, (pU (M 3) n cap))]) (j := n) k49_39 al3 rfl (by omega) rfl ?_
        refine tw_aload k49_40 rfl ?_
        refine tw_getr k49_41 f2_1 ?_
        refine tw_aload k49_44 rfl ?_
        refine tw_geti k49_45 f2_6 rfl (v := ((n : Nat) : Int)) (show M 2 6 = _ from hn0) ?_
        refine tw_iload k49_48 rfl ?_
        refine tw_iast (M := M) (N := N) (l := [(3, (pU (M 3) n cap))]) (l' := [(3, (pU (M 3) n cap)), (4, (pU (M 4) n em))]) (j := n) k49_49 al4 rfl (by omega) rfl ?_
        refine tw_aload k49_50 rfl ?_
        refine tw_dupr k49_51 ?_
        refine tw_geti k49_52 f2_6 rfl (v := ((n : Nat) : Int)) (show M 2 6 = _ from hn0) ?_
        refine tw_dupx k49_55 ?_
        refine tw_const k49_56 ?_
        refine tw_iadd k49_57 (v := ((n + 1 : Nat) : Int)) rfl (by omega) ?_
        refine tw_puti (M := M) (N := N) (l := [(3, (pU (M 3) n cap)), (4, (pU (M 4) n em))]) (l' := [(3, (pU (M 3) n cap)), (4, (pU (M 4) n em)), (2, (pU (M 2) 6 ((n + 1 : Nat) : Int)))]) k49_58 f2_6 rfl ?_
        exact tw_ri k49_61 (⟨by unfold qYear yOk; rw [if_pos ⟨h2, h10⟩, if_pos (by omega)]; exact congrArg (fun x => some (Sum.inl x)) (by omega), _, rfl, by unfold aYear yOk; rw [if_pos ⟨⟨h2, h10⟩, by omega⟩]; exact cSV_year hS hn (by omega), fun c hc => by rw [st_c, if_neg (by omega), st_c, if_neg (by omega), st_c, if_neg (by omega), st_nil]⟩)
      · refine tw_const k49_27 ?_
        exact tw_ri k49_29 (⟨by unfold qYear; (try unfold yOk); (try simp only [Int.toNat_natCast]); (repeat' split) <;> first | rfl | omega, M, rfl, by rw [show aYear s cap em = s by unfold aYear; (try unfold yOk); (try simp only [Int.toNat_natCast]); (repeat' split) <;> first | rfl | (exfalso; omega)]; exact hS, fun c _ => rfl⟩)
    · refine tw_zneF k49_13 (by decide) ?_
      refine tw_const k49_16 ?_
      exact tw_ri k49_18 (⟨by unfold qYear; (try unfold yOk); (try simp only [Int.toNat_natCast]); (repeat' split) <;> first | rfl | omega, M, rfl, by rw [show aYear s cap em = s by unfold aYear; (try unfold yOk); (try simp only [Int.toNat_natCast]); (repeat' split) <;> first | rfl | (exfalso; omega)]; exact hS, fun c _ => rfl⟩)
  · refine tw_zeqT k49_5 (by decide) ?_
    refine tw_const k49_16 ?_
    exact tw_ri k49_18 (⟨by unfold qYear; (try unfold yOk); (try simp only [Int.toNat_natCast]); (repeat' split) <;> first | rfl | omega, M, rfl, by rw [show aYear s cap em = s by unfold aYear; (try unfold yOk); (try simp only [Int.toNat_natCast]); (repeat' split) <;> first | rfl | (exfalso; omega)]; exact hS, fun c _ => rfl⟩)
theorem x_50 {K : mj_C} {d : Nat} {M : Nat → Nat → Int} {N : Nat → Nat → Int64} (hD : 2 ≤ d) (hK : kOk K) (s : Nat → Int) (hV : pVI s) (hS : cSV 2 M s) (y cost much : Int) : mj_X K d 50 [.inr (.inr (.inl 2)), .inl y, .inl cost, .inl much] (mj_Sh, M, N) (fun r Z => r = some (.inl (qMeas s y cost much)) ∧ ∃ M1, Z = (mj_Sh, M1, N) ∧ cSV 2 M1 (aMeas s y cost much) ∧ (∀ c, c < 2 ∨ 8 < c → M1 c = M c)) := by
  show mj_T K d 50 0 [some (.inr (.inr (.inl 2))), some (.inl y), some (.inl cost), some (.inl much)] [] (mj_Sh, M, N) _
  have hs := hV.1
  have h0 := hs.1 0 (by omega)
  have h5 := hs.2.1
  have h11 := hs.1 11 (by omega)
  have hc11 := hs.2.2.1
  obtain ⟨n, hn⟩ : ∃ n : Nat, n = (s 11).toNat := ⟨_, rfl⟩
  have hn0 : M 2 7 = (n : Int) := hS.2.1.trans (by omega)
  refine tw_aload k50_0 rfl ?_
  refine tw_iload k50_1 rfl ?_
  refine tw_callb (by omega) (S' := []) (as := [.inr (.inr (.inl 2)), .inl y]) k50_2 (x_47_2 (M := M) (N := N) (by omega) s (hs.1 0 (by omega)) hS y) rfl rfl rfl rfl rfl (fun h2 => ?_) (fun h2 => ?_)
  · refine tw_zneT k50_5 (by decide) ?_
    refine tw_const k50_10 ?_
    refine tw_iload k50_11 rfl ?_
    refine tw_callb (by omega) (S' := []) (as := [.inl (2 : Int), .inl cost]) k50_12 (x_60_2 (by omega) hK cost) rfl rfl rfl rfl rfl (fun h12 => ?_) (fun h12 => ?_)
    · refine tw_zeqF k50_15 (by decide) ?_
      refine tw_const k50_18 ?_
      refine tw_iload k50_19 rfl ?_
      refine tw_callb (by omega) (S' := []) (as := [.inl (3 : Int), .inl much]) k50_20 (x_60_3 (by omega) hK much) rfl rfl rfl rfl rfl (fun h20 => ?_) (fun h20 => ?_)
      · refine tw_zneT k50_23 (by decide) ?_
        refine tw_aload k50_29 rfl ?_
        refine tw_geti k50_30 f2_7 rfl (v := ((n : Nat) : Int)) hn0 ?_
        refine tw_const k50_33 ?_
        refine tw_clt k50_35 (fun h35 => ?_) (fun h35 => ?_)
        · refine tw_aload k50_41 rfl ?_
          refine tw_getr k50_42 f2_2 ?_
          refine tw_aload k50_45 rfl ?_
          refine tw_geti k50_46 f2_7 rfl (v := ((n : Nat) : Int)) hn0 ?_
          refine tw_iload k50_49 rfl ?_
          refine tw_iast (M := M) (N := N) (l := []) (l' := [(5, (pU (M 5) n y))]) (j := n) k50_50 al5 rfl (by omega) rfl ?_
          refine tw_aload k50_51 rfl ?_
          refine tw_getr k50_52 f2_3 ?_
          refine tw_aload k50_55 rfl ?_
          refine tw_geti k50_56 f2_7 rfl (v := ((n : Nat) : Int)) (show M 2 7 = _ from hn0) ?_
          refine tw_iload k50_59 rfl ?_
          refine tw_iast (M := M) (N := N) (l := [(5, (pU (M 5) n y))]) (l' := [(5, (pU (M 5) n y)), (6, (pU (M 6) n cost))]) (j := n) k50_60 al6 rfl (by omega) rfl ?_
          refine tw_aload k50_61 rfl ?_
          refine tw_getr k50_62 f2_4 ?_
          refine tw_aload k50_65 rfl ?_
          refine tw_geti k50_66 f2_7 rfl (v := ((n : Nat) : Int)) (show M 2 7 = _ from hn0) ?_
          refine tw_iload k50_69 rfl ?_
          refine tw_iast (M := M) (N := N) (l := [(5, (pU (M 5) n y)), (6, (pU (M 6) n cost))]) (l' := [(5, (pU (M 5) n y)), (6, (pU (M 6) n cost)), (7, (pU (M 7) n much))]) (j := n) k50_70 al7 rfl (by omega) rfl ?_
          refine tw_aload k50_71 rfl ?_
          refine tw_dupr k50_72 ?_
          refine tw_geti k50_73 f2_7 rfl (v := ((n : Nat) : Int)) (show M 2 7 = _ from hn0) ?_
          refine tw_dupx k50_76 ?_
          refine tw_const k50_77 ?_
          refine tw_iadd k50_78 (v := ((n + 1 : Nat) : Int)) rfl (by omega) ?_
          refine tw_puti (M := M) (N := N) (l := [(5, (pU (M 5) n y)), (6, (pU (M 6) n cost)), (7, (pU (M 7) n much))]) (l' := [(5, (pU (M 5) n y)), (6, (pU (M 6) n cost)), (7, (pU (M 7) n much)), (2, (pU (M 2) 7 ((n + 1 : Nat) : Int)))]) k50_79 f2_7 rfl ?_
          exact tw_ri k50_82 (⟨by unfold qMeas mOk; rw [if_pos h2, if_pos ⟨h12, h20⟩, if_pos (by omega)]; exact congrArg (fun x => some (Sum.inl x)) (by omega), _, rfl, by unfold aMeas mOk; rw [if_pos ⟨h2, ⟨h12, h20⟩, by omega⟩]; exact cSV_meas hS hn (by omega), fun c hc => by rw [st_c, if_neg (by omega), st_c, if_neg (by omega), st_c, if_neg (by omega), st_c, if_neg (by omega), st_nil]⟩)
        · refine tw_const k50_38 ?_
          exact tw_ri k50_40 (⟨by unfold qMeas; (try unfold mOk); (try simp only [Int.toNat_natCast]); (repeat' split) <;> first | rfl | omega, M, rfl, by rw [show aMeas s y cost much = s by unfold aMeas; (try unfold mOk); (try simp only [Int.toNat_natCast]); (repeat' split) <;> first | rfl | (exfalso; omega)]; exact hS, fun c _ => rfl⟩)
      · refine tw_zneF k50_23 (by decide) ?_
        refine tw_const k50_26 ?_
        exact tw_ri k50_28 (⟨by unfold qMeas; (try unfold mOk); (try simp only [Int.toNat_natCast]); (repeat' split) <;> first | rfl | omega, M, rfl, by rw [show aMeas s y cost much = s by unfold aMeas; (try unfold mOk); (try simp only [Int.toNat_natCast]); (repeat' split) <;> first | rfl | (exfalso; omega)]; exact hS, fun c _ => rfl⟩)
    · refine tw_zeqT k50_15 (by decide) ?_
      refine tw_const k50_26 ?_
      exact tw_ri k50_28 (⟨by unfold qMeas; (try unfold mOk); (try simp only [Int.toNat_natCast]); (repeat' split) <;> first | rfl | omega, M, rfl, by rw [show aMeas s y cost much = s by unfold aMeas; (try unfold mOk); (try simp only [Int.toNat_natCast]); (repeat' split) <;> first | rfl | (exfalso; omega)]; exact hS, fun c _ => rfl⟩)
  · refine tw_zneF k50_5 (by decide) ?_
    refine tw_const k50_8 ?_
    exact tw_ri k50_9 (⟨by unfold qMeas; (try unfold mOk); (try simp only [Int.toNat_natCast]); (repeat' split) <;> first | rfl | omega, M, rfl, by rw [show aMeas s y cost much = s by unfold aMeas; (try unfold mOk); (try simp only [Int.toNat_natCast]); (repeat' split) <;> first | rfl | (exfalso; omega)]; exact hS, fun c _ => rfl⟩)
theorem x_59_0 {K : mj_C} {d : Nat} {M : Nat → Nat → Int} {N : Nat → Nat → Int64}  : mj_X K d 59 [.inr (.inr (.inl 2)), .inl (0 : Int)] (mj_Sh, M, N) (fun r Z => r = some (.inr (.inr (.inl 3))) ∧ Z = (mj_Sh, M, N)) := by
  show mj_T K d 59 0 [some (.inr (.inr (.inl 2))), some (.inl (0 : Int))] [] (mj_Sh, M, N) _
  refine tw_iload k59_0 rfl ?_
  refine tw_sw k59_1 ?_
  refine tw_pkT (by decide) ?_
  refine tw_aload k59_28 rfl ?_
  refine tw_getr k59_29 f2_0 ?_
  exact tw_ra k59_32 (⟨rfl, rfl⟩)
theorem x_59_1 {K : mj_C} {d : Nat} {M : Nat → Nat → Int} {N : Nat → Nat → Int64}  : mj_X K d 59 [.inr (.inr (.inl 2)), .inl (1 : Int)] (mj_Sh, M, N) (fun r Z => r = some (.inr (.inr (.inl 4))) ∧ Z = (mj_Sh, M, N)) := by
  show mj_T K d 59 0 [some (.inr (.inr (.inl 2))), some (.inl (1 : Int))] [] (mj_Sh, M, N) _
  refine tw_iload k59_0 rfl ?_
  refine tw_sw k59_1 ?_
  refine tw_pkF (by decide) ?_
  refine tw_pkT (by decide) ?_
  refine tw_aload k59_33 rfl ?_
  refine tw_getr k59_34 f2_1 ?_
  exact tw_ra k59_37 (⟨rfl, rfl⟩)
theorem x_59_2 {K : mj_C} {d : Nat} {M : Nat → Nat → Int} {N : Nat → Nat → Int64}  : mj_X K d 59 [.inr (.inr (.inl 2)), .inl (2 : Int)] (mj_Sh, M, N) (fun r Z => r = some (.inr (.inr (.inl 6))) ∧ Z = (mj_Sh, M, N)) := by
  show mj_T K d 59 0 [some (.inr (.inr (.inl 2))), some (.inl (2 : Int))] [] (mj_Sh, M, N) _
  refine tw_iload k59_0 rfl ?_
  refine tw_sw k59_1 ?_
  refine tw_pkF (by decide) ?_
  refine tw_pkF (by decide) ?_
  refine tw_pkT (by decide) ?_
  refine tw_aload k59_38 rfl ?_
  refine tw_getr k59_39 f2_3 ?_
  exact tw_ra k59_42 (⟨rfl, rfl⟩)
theorem x_59_3 {K : mj_C} {d : Nat} {M : Nat → Nat → Int} {N : Nat → Nat → Int64}  : mj_X K d 59 [.inr (.inr (.inl 2)), .inl (3 : Int)] (mj_Sh, M, N) (fun r Z => r = some (.inr (.inr (.inl 7))) ∧ Z = (mj_Sh, M, N)) := by
  show mj_T K d 59 0 [some (.inr (.inr (.inl 2))), some (.inl (3 : Int))] [] (mj_Sh, M, N) _
  refine tw_iload k59_0 rfl ?_
  refine tw_sw k59_1 ?_
  refine tw_pkF (by decide) ?_
  refine tw_pkF (by decide) ?_
  refine tw_pkF (by decide) ?_
  refine tw_pk0 ?_
  refine tw_aload k59_43 rfl ?_
  refine tw_getr k59_44 f2_4 ?_
  exact tw_ra k59_47 (⟨rfl, rfl⟩)
theorem x_51 {K : mj_C} {d : Nat} {M : Nat → Nat → Int} {N : Nat → Nat → Int64} (hD : 3 ≤ d) (hK : kOk K) (s : Nat → Int) (hV : pVI s) (hS : cSV 2 M s) (what k v : Int) : mj_X K d 51 [.inr (.inr (.inl 2)), .inl what, .inl k, .inl v] (mj_Sh, M, N) (fun r Z => r = some (.inl (qRenew s what k v)) ∧ ∃ M1, Z = (mj_Sh, M1, N) ∧ cSV 2 M1 (aRenew s what k v) ∧ (∀ c, c < 2 ∨ 8 < c → M1 c = M c)) := by
  show mj_T K d 51 0 [some (.inr (.inr (.inl 2))), some (.inl what), some (.inl k), some (.inl v), none, none, none] [] (mj_Sh, M, N) _
  have hs := hV.1
  have h0 := hs.1 0 (by omega)
  have h5 := hs.2.1
  have h11 := hs.1 11 (by omega)
  have hc11 := hs.2.2.1
  by_cases hw0 : what = 0
  · subst hw0
    by_cases hk0 : 0 ≤ k
    · obtain ⟨q, rfl⟩ : ∃ q : Nat, k = (q : Int) := ⟨k.toNat, by omega⟩
      refine tw_iload k51_0 rfl ?_
      refine tw_const k51_1 ?_
      refine tw_const k51_2 ?_
      refine tw_callb (by omega) (S' := []) (as := [.inl (0 : Int), .inl (0 : Int), .inl (3 : Int)]) k51_3 (x_104 (0 : Int) (0 : Int) (3 : Int)) rfl rfl rfl rfl rfl (fun h3 => ?_) (fun h3 => ?_)
      · refine tw_zneT k51_6 (by decide) ?_
        refine tw_iload k51_11 rfl ?_
        refine tw_const k51_12 ?_
        refine tw_cgtF k51_13 (by decide) ?_
        refine tw_aload k51_16 rfl ?_
        refine tw_iload k51_17 rfl ?_
        refine tw_callb (by omega) (S' := []) (as := [.inr (.inr (.inl 2)), .inl ((q : Nat) : Int)]) k51_18 (x_47_2 (M := M) (N := N) (by omega) s (hs.1 0 (by omega)) hS ((q : Nat) : Int)) rfl rfl rfl rfl rfl (fun h18 => ?_) (fun h18 => ?_)
        · refine tw_goto k51_21 ?_
          refine tw_istore k51_29 rfl (L' := [some (.inr (.inr (.inl 2))), some (.inl (0 : Int)), some (.inl ((q : Nat) : Int)), some (.inl v), some (.inl (1 : Int)), none, none]) rfl ?_
          refine tw_iload k51_31 rfl ?_
          refine tw_zneT k51_33 (by decide) ?_
          refine tw_iload k51_38 rfl ?_
          refine tw_iload k51_39 rfl ?_
          refine tw_callb (by omega) (S' := []) (as := [.inl (0 : Int), .inl v]) k51_40 (x_60_0 (by omega) hK v) rfl rfl rfl rfl rfl (fun h40 => ?_) (fun h40 => ?_)
          · refine tw_zneT k51_43 (by decide) ?_
            refine tw_aload k51_49 rfl ?_
            refine tw_iload k51_50 rfl ?_
            refine tw_callp (v := .inr (.inr (.inl 3))) (by omega) (S' := []) (as := [.inr (.inr (.inl 2)), .inl (0 : Int)]) k51_51 (x_59_0 (M := M) (N := N)) rfl rfl rfl rfl rfl ?_
            refine tw_astore k51_54 rfl (L' := [some (.inr (.inr (.inl 2))), some (.inl (0 : Int)), some (.inl ((q : Nat) : Int)), some (.inl v), some (.inl (1 : Int)), some (.inr (.inr (.inl 3))), none]) rfl ?_
            refine tw_aload k51_56 rfl ?_
            refine tw_iload k51_58 rfl ?_
            refine tw_iald (j := q) (v := (s (1 + q))) k51_59 al3 rfl (by omega) (hS.2.2.1 q (by omega)).1 ?_
            refine tw_istore k51_60 rfl (L' := [some (.inr (.inr (.inl 2))), some (.inl (0 : Int)), some (.inl ((q : Nat) : Int)), some (.inl v), some (.inl (1 : Int)), some (.inr (.inr (.inl 3))), some (.inl (s (1 + q)))]) rfl ?_
            refine tw_aload k51_62 rfl ?_
            refine tw_iload k51_64 rfl ?_
            refine tw_iload k51_65 rfl ?_
            refine tw_iast (M := M) (N := N) (l := []) (l' := [(3, (pU (M 3) q v))]) (j := q) k51_66 al3 rfl (by omega) rfl ?_
            refine tw_iload k51_67 rfl ?_
            exact tw_ri k51_69 (⟨by rw [qRenew_0]; (try simp only [Int.toNat_natCast]); (repeat' split) <;> first | rfl | omega, _, rfl, by rw [show aRenew s 0 ((q : Nat) : Int) v = pU s (1 + q) v by rw [aRenew_0]; (try simp only [Int.toNat_natCast]); (repeat' split) <;> first | rfl | (exfalso; omega)]; exact cSV_put hS (by omega), fun c hc => by rw [st_c, if_neg (by omega), st_nil]⟩)
          · refine tw_zneF k51_43 (by decide) ?_
            refine tw_const k51_46 ?_
            exact tw_ri k51_48 (⟨by rw [qRenew_0]; (try simp only [Int.toNat_natCast]); (repeat' split) <;> first | rfl | omega, M, rfl, by rw [show aRenew s 0 ((q : Nat) : Int) v = s by rw [aRenew_0]; (try simp only [Int.toNat_natCast]); (repeat' split) <;> first | rfl | (exfalso; omega)]; exact hS, fun c _ => rfl⟩)
        · refine tw_goto k51_21 ?_
          refine tw_istore k51_29 rfl (L' := [some (.inr (.inr (.inl 2))), some (.inl (0 : Int)), some (.inl ((q : Nat) : Int)), some (.inl v), some (.inl (0 : Int)), none, none]) rfl ?_
          refine tw_iload k51_31 rfl ?_
          refine tw_zneF k51_33 (by decide) ?_
          refine tw_const k51_36 ?_
          exact tw_ri k51_37 (⟨by rw [qRenew_0]; (try simp only [Int.toNat_natCast]); (repeat' split) <;> first | rfl | omega, M, rfl, by rw [show aRenew s 0 ((q : Nat) : Int) v = s by rw [aRenew_0]; (try simp only [Int.toNat_natCast]); (repeat' split) <;> first | rfl | (exfalso; omega)]; exact hS, fun c _ => rfl⟩)
      · refine tw_zneF k51_6 (by decide) ?_
        refine tw_const k51_9 ?_
        exact tw_ri k51_10 (⟨by rw [qRenew_0]; (try simp only [Int.toNat_natCast]); (repeat' split) <;> first | rfl | omega, M, rfl, by rw [show aRenew s 0 ((q : Nat) : Int) v = s by rw [aRenew_0]; (try simp only [Int.toNat_natCast]); (repeat' split) <;> first | rfl | (exfalso; omega)]; exact hS, fun c _ => rfl⟩)
    · refine tw_iload k51_0 rfl ?_
      refine tw_const k51_1 ?_
      refine tw_const k51_2 ?_
      refine tw_callb (by omega) (S' := []) (as := [.inl (0 : Int), .inl (0 : Int), .inl (3 : Int)]) k51_3 (x_104 (0 : Int) (0 : Int) (3 : Int)) rfl rfl rfl rfl rfl (fun h3 => ?_) (fun h3 => ?_)
      · refine tw_zneT k51_6 (by decide) ?_
        refine tw_iload k51_11 rfl ?_
        refine tw_const k51_12 ?_
        refine tw_cgtF k51_13 (by decide) ?_
        refine tw_aload k51_16 rfl ?_
        refine tw_iload k51_17 rfl ?_
        refine tw_callbF (by omega) (S' := []) (as := [.inr (.inr (.inl 2)), .inl k]) k51_18 (x_47_2 (M := M) (N := N) (by omega) s (hs.1 0 (by omega)) hS k) rfl rfl rfl rfl rfl (by omega) ?_
        refine tw_goto k51_21 ?_
        refine tw_istore k51_29 rfl (L' := [some (.inr (.inr (.inl 2))), some (.inl (0 : Int)), some (.inl k), some (.inl v), some (.inl (0 : Int)), none, none]) rfl ?_
        refine tw_iload k51_31 rfl ?_
        refine tw_zneF k51_33 (by decide) ?_
        refine tw_const k51_36 ?_
        exact tw_ri k51_37 (⟨by rw [qRenew_0]; (try simp only [Int.toNat_natCast]); (repeat' split) <;> first | rfl | omega, M, rfl, by rw [show aRenew s 0 k v = s by rw [aRenew_0]; (try simp only [Int.toNat_natCast]); (repeat' split) <;> first | rfl | (exfalso; omega)]; exact hS, fun c _ => rfl⟩)
      · refine tw_zneF k51_6 (by decide) ?_
        refine tw_const k51_9 ?_
        exact tw_ri k51_10 (⟨by rw [qRenew_0]; (try simp only [Int.toNat_natCast]); (repeat' split) <;> first | rfl | omega, M, rfl, by rw [show aRenew s 0 k v = s by rw [aRenew_0]; (try simp only [Int.toNat_natCast]); (repeat' split) <;> first | rfl | (exfalso; omega)]; exact hS, fun c _ => rfl⟩)
  · by_cases hw1 : what = 1
    · subst hw1
      by_cases hk0 : 0 ≤ k
      · obtain ⟨q, rfl⟩ : ∃ q : Nat, k = (q : Int) := ⟨k.toNat, by omega⟩
        refine tw_iload k51_0 rfl ?_
        refine tw_const k51_1 ?_
        refine tw_const k51_2 ?_
        refine tw_callb (by omega) (S' := []) (as := [.inl (1 : Int), .inl (0 : Int), .inl (3 : Int)]) k51_3 (x_104 (1 : Int) (0 : Int) (3 : Int)) rfl rfl rfl rfl rfl (fun h3 => ?_) (fun h3 => ?_)
        · refine tw_zneT k51_6 (by decide) ?_
          refine tw_iload k51_11 rfl ?_
          refine tw_const k51_12 ?_
          refine tw_cgtF k51_13 (by decide) ?_
          refine tw_aload k51_16 rfl ?_
          refine tw_iload k51_17 rfl ?_
          refine tw_callb (by omega) (S' := []) (as := [.inr (.inr (.inl 2)), .inl ((q : Nat) : Int)]) k51_18 (x_47_2 (M := M) (N := N) (by omega) s (hs.1 0 (by omega)) hS ((q : Nat) : Int)) rfl rfl rfl rfl rfl (fun h18 => ?_) (fun h18 => ?_)
          · refine tw_goto k51_21 ?_
            refine tw_istore k51_29 rfl (L' := [some (.inr (.inr (.inl 2))), some (.inl (1 : Int)), some (.inl ((q : Nat) : Int)), some (.inl v), some (.inl (1 : Int)), none, none]) rfl ?_
            refine tw_iload k51_31 rfl ?_
            refine tw_zneT k51_33 (by decide) ?_
            refine tw_iload k51_38 rfl ?_
            refine tw_iload k51_39 rfl ?_
            refine tw_callb (by omega) (S' := []) (as := [.inl (1 : Int), .inl v]) k51_40 (x_60_1 (by omega) hK v) rfl rfl rfl rfl rfl (fun h40 => ?_) (fun h40 => ?_)
            · refine tw_zneT k51_43 (by decide) ?_
              refine tw_aload k51_49 rfl ?_
              refine tw_iload k51_50 rfl ?_
              refine tw_callp (v := .inr (.inr (.inl 4))) (by omega) (S' := []) (as := [.inr (.inr (.inl 2)), .inl (1 : Int)]) k51_51 (x_59_1 (M := M) (N := N)) rfl rfl rfl rfl rfl ?_
              refine tw_astore k51_54 rfl (L' := [some (.inr (.inr (.inl 2))), some (.inl (1 : Int)), some (.inl ((q : Nat) : Int)), some (.inl v), some (.inl (1 : Int)), some (.inr (.inr (.inl 4))), none]) rfl ?_
              refine tw_aload k51_56 rfl ?_
              refine tw_iload k51_58 rfl ?_
              refine tw_iald (j := q) (v := (s (6 + q))) k51_59 al4 rfl (by omega) (hS.2.2.1 q (by omega)).2 ?_
              refine tw_istore k51_60 rfl (L' := [some (.inr (.inr (.inl 2))), some (.inl (1 : Int)), some (.inl ((q : Nat) : Int)), some (.inl v), some (.inl (1 : Int)), some (.inr (.inr (.inl 4))), some (.inl (s (6 + q)))]) rfl ?_
              refine tw_aload k51_62 rfl ?_
              refine tw_iload k51_64 rfl ?_
              refine tw_iload k51_65 rfl ?_
              refine tw_iast (M := M) (N := N) (l := []) (l' := [(4, (pU (M 4) q v))]) (j := q) k51_66 al4 rfl (by omega) rfl ?_
              refine tw_iload k51_67 rfl ?_
              exact tw_ri k51_69 (⟨by rw [qRenew_1]; (try simp only [Int.toNat_natCast]); (repeat' split) <;> first | rfl | omega, _, rfl, by rw [show aRenew s 1 ((q : Nat) : Int) v = pU s (6 + q) v by rw [aRenew_1]; (try simp only [Int.toNat_natCast]); (repeat' split) <;> first | rfl | (exfalso; omega)]; exact cSV_put hS (by omega), fun c hc => by rw [st_c, if_neg (by omega), st_nil]⟩)
            · refine tw_zneF k51_43 (by decide) ?_
              refine tw_const k51_46 ?_
              exact tw_ri k51_48 (⟨by rw [qRenew_1]; (try simp only [Int.toNat_natCast]); (repeat' split) <;> first | rfl | omega, M, rfl, by rw [show aRenew s 1 ((q : Nat) : Int) v = s by rw [aRenew_1]; (try simp only [Int.toNat_natCast]); (repeat' split) <;> first | rfl | (exfalso; omega)]; exact hS, fun c _ => rfl⟩)
          · refine tw_goto k51_21 ?_
            refine tw_istore k51_29 rfl (L' := [some (.inr (.inr (.inl 2))), some (.inl (1 : Int)), some (.inl ((q : Nat) : Int)), some (.inl v), some (.inl (0 : Int)), none, none]) rfl ?_
            refine tw_iload k51_31 rfl ?_
            refine tw_zneF k51_33 (by decide) ?_
            refine tw_const k51_36 ?_
            exact tw_ri k51_37 (⟨by rw [qRenew_1]; (try simp only [Int.toNat_natCast]); (repeat' split) <;> first | rfl | omega, M, rfl, by rw [show aRenew s 1 ((q : Nat) : Int) v = s by rw [aRenew_1]; (try simp only [Int.toNat_natCast]); (repeat' split) <;> first | rfl | (exfalso; omega)]; exact hS, fun c _ => rfl⟩)
        · refine tw_zneF k51_6 (by decide) ?_
          refine tw_const k51_9 ?_
          exact tw_ri k51_10 (⟨by rw [qRenew_1]; (try simp only [Int.toNat_natCast]); (repeat' split) <;> first | rfl | omega, M, rfl, by rw [show aRenew s 1 ((q : Nat) : Int) v = s by rw [aRenew_1]; (try simp only [Int.toNat_natCast]); (repeat' split) <;> first | rfl | (exfalso; omega)]; exact hS, fun c _ => rfl⟩)
      · refine tw_iload k51_0 rfl ?_
        refine tw_const k51_1 ?_
        refine tw_const k51_2 ?_
        refine tw_callb (by omega) (S' := []) (as := [.inl (1 : Int), .inl (0 : Int), .inl (3 : Int)]) k51_3 (x_104 (1 : Int) (0 : Int) (3 : Int)) rfl rfl rfl rfl rfl (fun h3 => ?_) (fun h3 => ?_)
        · refine tw_zneT k51_6 (by decide) ?_
          refine tw_iload k51_11 rfl ?_
          refine tw_const k51_12 ?_
          refine tw_cgtF k51_13 (by decide) ?_
          refine tw_aload k51_16 rfl ?_
          refine tw_iload k51_17 rfl ?_
          refine tw_callbF (by omega) (S' := []) (as := [.inr (.inr (.inl 2)), .inl k]) k51_18 (x_47_2 (M := M) (N := N) (by omega) s (hs.1 0 (by omega)) hS k) rfl rfl rfl rfl rfl (by omega) ?_
          refine tw_goto k51_21 ?_
          refine tw_istore k51_29 rfl (L' := [some (.inr (.inr (.inl 2))), some (.inl (1 : Int)), some (.inl k), some (.inl v), some (.inl (0 : Int)), none, none]) rfl ?_
          refine tw_iload k51_31 rfl ?_
          refine tw_zneF k51_33 (by decide) ?_
          refine tw_const k51_36 ?_
          exact tw_ri k51_37 (⟨by rw [qRenew_1]; (try simp only [Int.toNat_natCast]); (repeat' split) <;> first | rfl | omega, M, rfl, by rw [show aRenew s 1 k v = s by rw [aRenew_1]; (try simp only [Int.toNat_natCast]); (repeat' split) <;> first | rfl | (exfalso; omega)]; exact hS, fun c _ => rfl⟩)
        · refine tw_zneF k51_6 (by decide) ?_
          refine tw_const k51_9 ?_
          exact tw_ri k51_10 (⟨by rw [qRenew_1]; (try simp only [Int.toNat_natCast]); (repeat' split) <;> first | rfl | omega, M, rfl, by rw [show aRenew s 1 k v = s by rw [aRenew_1]; (try simp only [Int.toNat_natCast]); (repeat' split) <;> first | rfl | (exfalso; omega)]; exact hS, fun c _ => rfl⟩)
    · by_cases hw2 : what = 2
      · subst hw2
        by_cases hk0 : 0 ≤ k
        · obtain ⟨q, rfl⟩ : ∃ q : Nat, k = (q : Int) := ⟨k.toNat, by omega⟩
          refine tw_iload k51_0 rfl ?_
          refine tw_const k51_1 ?_
          refine tw_const k51_2 ?_
          refine tw_callb (by omega) (S' := []) (as := [.inl (2 : Int), .inl (0 : Int), .inl (3 : Int)]) k51_3 (x_104 (2 : Int) (0 : Int) (3 : Int)) rfl rfl rfl rfl rfl (fun h3 => ?_) (fun h3 => ?_)
          · refine tw_zneT k51_6 (by decide) ?_
            refine tw_iload k51_11 rfl ?_
            refine tw_const k51_12 ?_
            refine tw_cgtT k51_13 (by decide) ?_
            refine tw_aload k51_24 rfl ?_
            refine tw_iload k51_25 rfl ?_
            refine tw_callb (by omega) (S' := []) (as := [.inr (.inr (.inl 2)), .inl ((q : Nat) : Int)]) k51_26 (x_48_2 (M := M) (N := N) (by omega) s (hs.1 11 (by omega)) hS ((q : Nat) : Int)) rfl rfl rfl rfl rfl (fun h26 => ?_) (fun h26 => ?_)
            · refine tw_istore k51_29 rfl (L' := [some (.inr (.inr (.inl 2))), some (.inl (2 : Int)), some (.inl ((q : Nat) : Int)), some (.inl v), some (.inl (1 : Int)), none, none]) rfl ?_
              refine tw_iload k51_31 rfl ?_
              refine tw_zneT k51_33 (by decide) ?_
              refine tw_iload k51_38 rfl ?_
              refine tw_iload k51_39 rfl ?_
              refine tw_callb (by omega) (S' := []) (as := [.inl (2 : Int), .inl v]) k51_40 (x_60_2 (by omega) hK v) rfl rfl rfl rfl rfl (fun h40 => ?_) (fun h40 => ?_)
              · refine tw_zneT k51_43 (by decide) ?_
                refine tw_aload k51_49 rfl ?_
                refine tw_iload k51_50 rfl ?_
                refine tw_callp (v := .inr (.inr (.inl 6))) (by omega) (S' := []) (as := [.inr (.inr (.inl 2)), .inl (2 : Int)]) k51_51 (x_59_2 (M := M) (N := N)) rfl rfl rfl rfl rfl ?_
                refine tw_astore k51_54 rfl (L' := [some (.inr (.inr (.inl 2))), some (.inl (2 : Int)), some (.inl ((q : Nat) : Int)), some (.inl v), some (.inl (1 : Int)), some (.inr (.inr (.inl 6))), none]) rfl ?_
                refine tw_aload k51_56 rfl ?_
                refine tw_iload k51_58 rfl ?_
                refine tw_iald (j := q) (v := (s (22 + q))) k51_59 al6 rfl (by omega) (hS.2.2.2.1 q (by omega)).2.1 ?_
                refine tw_istore k51_60 rfl (L' := [some (.inr (.inr (.inl 2))), some (.inl (2 : Int)), some (.inl ((q : Nat) : Int)), some (.inl v), some (.inl (1 : Int)), some (.inr (.inr (.inl 6))), some (.inl (s (22 + q)))]) rfl ?_
                refine tw_aload k51_62 rfl ?_
                refine tw_iload k51_64 rfl ?_
                refine tw_iload k51_65 rfl ?_
                refine tw_iast (M := M) (N := N) (l := []) (l' := [(6, (pU (M 6) q v))]) (j := q) k51_66 al6 rfl (by omega) rfl ?_
                refine tw_iload k51_67 rfl ?_
                exact tw_ri k51_69 (⟨by rw [qRenew_2]; (try simp only [Int.toNat_natCast]); (repeat' split) <;> first | rfl | omega, _, rfl, by rw [show aRenew s 2 ((q : Nat) : Int) v = pU s (22 + q) v by rw [aRenew_2]; (try simp only [Int.toNat_natCast]); (repeat' split) <;> first | rfl | (exfalso; omega)]; exact cSV_put hS (by omega), fun c hc => by rw [st_c, if_neg (by omega), st_nil]⟩)
              · refine tw_zneF k51_43 (by decide) ?_
                refine tw_const k51_46 ?_
                exact tw_ri k51_48 (⟨by rw [qRenew_2]; (try simp only [Int.toNat_natCast]); (repeat' split) <;> first | rfl | omega, M, rfl, by rw [show aRenew s 2 ((q : Nat) : Int) v = s by rw [aRenew_2]; (try simp only [Int.toNat_natCast]); (repeat' split) <;> first | rfl | (exfalso; omega)]; exact hS, fun c _ => rfl⟩)
            · refine tw_istore k51_29 rfl (L' := [some (.inr (.inr (.inl 2))), some (.inl (2 : Int)), some (.inl ((q : Nat) : Int)), some (.inl v), some (.inl (0 : Int)), none, none]) rfl ?_
              refine tw_iload k51_31 rfl ?_
              refine tw_zneF k51_33 (by decide) ?_
              refine tw_const k51_36 ?_
              exact tw_ri k51_37 (⟨by rw [qRenew_2]; (try simp only [Int.toNat_natCast]); (repeat' split) <;> first | rfl | omega, M, rfl, by rw [show aRenew s 2 ((q : Nat) : Int) v = s by rw [aRenew_2]; (try simp only [Int.toNat_natCast]); (repeat' split) <;> first | rfl | (exfalso; omega)]; exact hS, fun c _ => rfl⟩)
          · refine tw_zneF k51_6 (by decide) ?_
            refine tw_const k51_9 ?_
            exact tw_ri k51_10 (⟨by rw [qRenew_2]; (try simp only [Int.toNat_natCast]); (repeat' split) <;> first | rfl | omega, M, rfl, by rw [show aRenew s 2 ((q : Nat) : Int) v = s by rw [aRenew_2]; (try simp only [Int.toNat_natCast]); (repeat' split) <;> first | rfl | (exfalso; omega)]; exact hS, fun c _ => rfl⟩)
        · refine tw_iload k51_0 rfl ?_
          refine tw_const k51_1 ?_
          refine tw_const k51_2 ?_
          refine tw_callb (by omega) (S' := []) (as := [.inl (2 : Int), .inl (0 : Int), .inl (3 : Int)]) k51_3 (x_104 (2 : Int) (0 : Int) (3 : Int)) rfl rfl rfl rfl rfl (fun h3 => ?_) (fun h3 => ?_)
          · refine tw_zneT k51_6 (by decide) ?_
            refine tw_iload k51_11 rfl ?_
            refine tw_const k51_12 ?_
            refine tw_cgtT k51_13 (by decide) ?_
            refine tw_aload k51_24 rfl ?_
            refine tw_iload k51_25 rfl ?_
            refine tw_callbF (by omega) (S' := []) (as := [.inr (.inr (.inl 2)), .inl k]) k51_26 (x_48_2 (M := M) (N := N) (by omega) s (hs.1 11 (by omega)) hS k) rfl rfl rfl rfl rfl (by omega) ?_
            refine tw_istore k51_29 rfl (L' := [some (.inr (.inr (.inl 2))), some (.inl (2 : Int)), some (.inl k), some (.inl v), some (.inl (0 : Int)), none, none]) rfl ?_
            refine tw_iload k51_31 rfl ?_
            refine tw_zneF k51_33 (by decide) ?_
            refine tw_const k51_36 ?_
            exact tw_ri k51_37 (⟨by rw [qRenew_2]; (try simp only [Int.toNat_natCast]); (repeat' split) <;> first | rfl | omega, M, rfl, by rw [show aRenew s 2 k v = s by rw [aRenew_2]; (try simp only [Int.toNat_natCast]); (repeat' split) <;> first | rfl | (exfalso; omega)]; exact hS, fun c _ => rfl⟩)
          · refine tw_zneF k51_6 (by decide) ?_
            refine tw_const k51_9 ?_
            exact tw_ri k51_10 (⟨by rw [qRenew_2]; (try simp only [Int.toNat_natCast]); (repeat' split) <;> first | rfl | omega, M, rfl, by rw [show aRenew s 2 k v = s by rw [aRenew_2]; (try simp only [Int.toNat_natCast]); (repeat' split) <;> first | rfl | (exfalso; omega)]; exact hS, fun c _ => rfl⟩)
      · by_cases hw3 : what = 3
        · subst hw3
          by_cases hk0 : 0 ≤ k
          · obtain ⟨q, rfl⟩ : ∃ q : Nat, k = (q : Int) := ⟨k.toNat, by omega⟩
            refine tw_iload k51_0 rfl ?_
            refine tw_const k51_1 ?_
            refine tw_const k51_2 ?_
            refine tw_callb (by omega) (S' := []) (as := [.inl (3 : Int), .inl (0 : Int), .inl (3 : Int)]) k51_3 (x_104 (3 : Int) (0 : Int) (3 : Int)) rfl rfl rfl rfl rfl (fun h3 => ?_) (fun h3 => ?_)
            · refine tw_zneT k51_6 (by decide) ?_
              refine tw_iload k51_11 rfl ?_
              refine tw_const k51_12 ?_
              refine tw_cgtT k51_13 (by decide) ?_
              refine tw_aload k51_24 rfl ?_
              refine tw_iload k51_25 rfl ?_
              refine tw_callb (by omega) (S' := []) (as := [.inr (.inr (.inl 2)), .inl ((q : Nat) : Int)]) k51_26 (x_48_2 (M := M) (N := N) (by omega) s (hs.1 11 (by omega)) hS ((q : Nat) : Int)) rfl rfl rfl rfl rfl (fun h26 => ?_) (fun h26 => ?_)
              · refine tw_istore k51_29 rfl (L' := [some (.inr (.inr (.inl 2))), some (.inl (3 : Int)), some (.inl ((q : Nat) : Int)), some (.inl v), some (.inl (1 : Int)), none, none]) rfl ?_
                refine tw_iload k51_31 rfl ?_
                refine tw_zneT k51_33 (by decide) ?_
                refine tw_iload k51_38 rfl ?_
                refine tw_iload k51_39 rfl ?_
                refine tw_callb (by omega) (S' := []) (as := [.inl (3 : Int), .inl v]) k51_40 (x_60_3 (by omega) hK v) rfl rfl rfl rfl rfl (fun h40 => ?_) (fun h40 => ?_)
                · refine tw_zneT k51_43 (by decide) ?_
                  refine tw_aload k51_49 rfl ?_
                  refine tw_iload k51_50 rfl ?_
                  refine tw_callp (v := .inr (.inr (.inl 7))) (by omega) (S' := []) (as := [.inr (.inr (.inl 2)), .inl (3 : Int)]) k51_51 (x_59_3 (M := M) (N := N)) rfl rfl rfl rfl rfl ?_
                  refine tw_astore k51_54 rfl (L' := [some (.inr (.inr (.inl 2))), some (.inl (3 : Int)), some (.inl ((q : Nat) : Int)), some (.inl v), some (.inl (1 : Int)), some (.inr (.inr (.inl 7))), none]) rfl ?_
                  refine tw_aload k51_56 rfl ?_
                  refine tw_iload k51_58 rfl ?_
                  refine tw_iald (j := q) (v := (s (32 + q))) k51_59 al7 rfl (by omega) (hS.2.2.2.1 q (by omega)).2.2 ?_
                  refine tw_istore k51_60 rfl (L' := [some (.inr (.inr (.inl 2))), some (.inl (3 : Int)), some (.inl ((q : Nat) : Int)), some (.inl v), some (.inl (1 : Int)), some (.inr (.inr (.inl 7))), some (.inl (s (32 + q)))]) rfl ?_
                  refine tw_aload k51_62 rfl ?_
                  refine tw_iload k51_64 rfl ?_
                  refine tw_iload k51_65 rfl ?_
                  refine tw_iast (M := M) (N := N) (l := []) (l' := [(7, (pU (M 7) q v))]) (j := q) k51_66 al7 rfl (by omega) rfl ?_
                  refine tw_iload k51_67 rfl ?_
                  exact tw_ri k51_69 (⟨by rw [qRenew_3]; (try simp only [Int.toNat_natCast]); (repeat' split) <;> first | rfl | omega, _, rfl, by rw [show aRenew s 3 ((q : Nat) : Int) v = pU s (32 + q) v by rw [aRenew_3]; (try simp only [Int.toNat_natCast]); (repeat' split) <;> first | rfl | (exfalso; omega)]; exact cSV_put hS (by omega), fun c hc => by rw [st_c, if_neg (by omega), st_nil]⟩)
                · refine tw_zneF k51_43 (by decide) ?_
                  refine tw_const k51_46 ?_
                  exact tw_ri k51_48 (⟨by rw [qRenew_3]; (try simp only [Int.toNat_natCast]); (repeat' split) <;> first | rfl | omega, M, rfl, by rw [show aRenew s 3 ((q : Nat) : Int) v = s by rw [aRenew_3]; (try simp only [Int.toNat_natCast]); (repeat' split) <;> first | rfl | (exfalso; omega)]; exact hS, fun c _ => rfl⟩)
              · refine tw_istore k51_29 rfl (L' := [some (.inr (.inr (.inl 2))), some (.inl (3 : Int)), some (.inl ((q : Nat) : Int)), some (.inl v), some (.inl (0 : Int)), none, none]) rfl ?_
                refine tw_iload k51_31 rfl ?_
                refine tw_zneF k51_33 (by decide) ?_
                refine tw_const k51_36 ?_
                exact tw_ri k51_37 (⟨by rw [qRenew_3]; (try simp only [Int.toNat_natCast]); (repeat' split) <;> first | rfl | omega, M, rfl, by rw [show aRenew s 3 ((q : Nat) : Int) v = s by rw [aRenew_3]; (try simp only [Int.toNat_natCast]); (repeat' split) <;> first | rfl | (exfalso; omega)]; exact hS, fun c _ => rfl⟩)
            · refine tw_zneF k51_6 (by decide) ?_
              refine tw_const k51_9 ?_
              exact tw_ri k51_10 (⟨by rw [qRenew_3]; (try simp only [Int.toNat_natCast]); (repeat' split) <;> first | rfl | omega, M, rfl, by rw [show aRenew s 3 ((q : Nat) : Int) v = s by rw [aRenew_3]; (try simp only [Int.toNat_natCast]); (repeat' split) <;> first | rfl | (exfalso; omega)]; exact hS, fun c _ => rfl⟩)
          · refine tw_iload k51_0 rfl ?_
            refine tw_const k51_1 ?_
            refine tw_const k51_2 ?_
            refine tw_callb (by omega) (S' := []) (as := [.inl (3 : Int), .inl (0 : Int), .inl (3 : Int)]) k51_3 (x_104 (3 : Int) (0 : Int) (3 : Int)) rfl rfl rfl rfl rfl (fun h3 => ?_) (fun h3 => ?_)
            · refine tw_zneT k51_6 (by decide) ?_
              refine tw_iload k51_11 rfl ?_
              refine tw_const k51_12 ?_
              refine tw_cgtT k51_13 (by decide) ?_
              refine tw_aload k51_24 rfl ?_
              refine tw_iload k51_25 rfl ?_
              refine tw_callbF (by omega) (S' := []) (as := [.inr (.inr (.inl 2)), .inl k]) k51_26 (x_48_2 (M := M) (N := N) (by omega) s (hs.1 11 (by omega)) hS k) rfl rfl rfl rfl rfl (by omega) ?_
              refine tw_istore k51_29 rfl (L' := [some (.inr (.inr (.inl 2))), some (.inl (3 : Int)), some (.inl k), some (.inl v), some (.inl (0 : Int)), none, none]) rfl ?_
              refine tw_iload k51_31 rfl ?_
              refine tw_zneF k51_33 (by decide) ?_
              refine tw_const k51_36 ?_
              exact tw_ri k51_37 (⟨by rw [qRenew_3]; (try simp only [Int.toNat_natCast]); (repeat' split) <;> first | rfl | omega, M, rfl, by rw [show aRenew s 3 k v = s by rw [aRenew_3]; (try simp only [Int.toNat_natCast]); (repeat' split) <;> first | rfl | (exfalso; omega)]; exact hS, fun c _ => rfl⟩)
            · refine tw_zneF k51_6 (by decide) ?_
              refine tw_const k51_9 ?_
              exact tw_ri k51_10 (⟨by rw [qRenew_3]; (try simp only [Int.toNat_natCast]); (repeat' split) <;> first | rfl | omega, M, rfl, by rw [show aRenew s 3 k v = s by rw [aRenew_3]; (try simp only [Int.toNat_natCast]); (repeat' split) <;> first | rfl | (exfalso; omega)]; exact hS, fun c _ => rfl⟩)
        · refine tw_iload k51_0 rfl ?_
          refine tw_const k51_1 ?_
          refine tw_const k51_2 ?_
          refine tw_callbF (by omega) (S' := []) (as := [.inl what, .inl (0 : Int), .inl (3 : Int)]) k51_3 (x_104 what (0 : Int) (3 : Int)) rfl rfl rfl rfl rfl (by omega) ?_
          refine tw_zneF k51_6 (by decide) ?_
          refine tw_const k51_9 ?_
          exact tw_ri k51_10 (⟨by unfold qRenew; (try unfold rK); (try unfold rLo); (try unfold rHi); (try unfold rBs); (try simp only [Int.toNat_natCast]); (repeat' split) <;> first | rfl | omega, M, rfl, by rw [show aRenew s what k v = s by unfold aRenew; (try unfold rK); (try unfold rLo); (try unfold rHi); (try unfold rBs); (try simp only [Int.toNat_natCast]); (repeat' split) <;> first | rfl | (exfalso; omega)]; exact hS, fun c _ => rfl⟩)
theorem x_52 {K : mj_C} {d : Nat} {M : Nat → Nat → Int} {N : Nat → Nat → Int64} (hD : 1 ≤ d) (hK : kOk K) (s : Nat → Int) (hV : pVI s) (hS : cSV 2 M s) (what v : Int) : mj_X K d 52 [.inr (.inr (.inl 2)), .inl what, .inl v] (mj_Sh, M, N) (fun r Z => r = some (.inl (qSet s what v)) ∧ ∃ M1, Z = (mj_Sh, M1, N) ∧ cSV 2 M1 (aSet s what v) ∧ (∀ c, c < 2 ∨ 8 < c → M1 c = M c)) := by
  show mj_T K d 52 0 [some (.inr (.inr (.inl 2))), some (.inl what), some (.inl v), none] [] (mj_Sh, M, N) _
  have hs := hV.1
  have h0 := hs.1 0 (by omega)
  have h5 := hs.2.1
  have h11 := hs.1 11 (by omega)
  have hc11 := hs.2.2.1
  by_cases hw0 : what = 0
  · subst hw0
    refine tw_iload k52_0 rfl ?_
    refine tw_const k52_1 ?_
    refine tw_const k52_2 ?_
    refine tw_callb (by omega) (S' := []) (as := [.inl (0 : Int), .inl (0 : Int), .inl (3 : Int)]) k52_3 (x_104 (0 : Int) (0 : Int) (3 : Int)) rfl rfl rfl rfl rfl (fun h3 => ?_) (fun h3 => ?_)
    · refine tw_zneT k52_6 (by decide) ?_
      refine tw_iload k52_11 rfl ?_
      refine tw_const k52_12 ?_
      refine tw_gets k52_13 ?_
      refine tw_iload k52_16 rfl ?_
      refine tw_ialdc (j := 0) (v := (20 : Int)) k52_17 rfl rfl (by rw [hK.1.2.2]; omega) hK.2.2.2.1 ?_
      refine tw_callb (by omega) (S' := []) (as := [.inl v, .inl (0 : Int), .inl (20 : Int)]) k52_18 (x_104 v (0 : Int) (20 : Int)) rfl rfl rfl rfl rfl (fun h18 => ?_) (fun h18 => ?_)
      · refine tw_zneT k52_21 (by decide) ?_
        refine tw_aload k52_27 rfl ?_
        refine tw_getr k52_28 f2_5 ?_
        refine tw_iload k52_31 rfl ?_
        refine tw_iald (j := 0) (v := (s 42)) k52_32 al8 rfl (by decide) (hS.2.2.2.2 0 (by omega)) ?_
        refine tw_istore k52_33 rfl (L' := [some (.inr (.inr (.inl 2))), some (.inl (0 : Int)), some (.inl v), some (.inl (s 42))]) rfl ?_
        refine tw_aload k52_34 rfl ?_
        refine tw_getr k52_35 f2_5 ?_
        refine tw_iload k52_38 rfl ?_
        refine tw_iload k52_39 rfl ?_
        refine tw_iast (M := M) (N := N) (l := []) (l' := [(8, (pU (M 8) 0 v))]) (j := 0) k52_40 al8 rfl (by decide) rfl ?_
        refine tw_iload k52_41 rfl ?_
        exact tw_ri k52_42 (⟨by rw [qSet_0]; (try simp only [Int.toNat_natCast]); (repeat' split) <;> first | rfl | omega, _, rfl, by rw [show aSet s 0 v = pU s (42 + 0) v by rw [aSet_0]; (try simp only [Int.toNat_natCast]); (repeat' split) <;> first | rfl | (exfalso; omega)]; exact cSV_put hS (by omega), fun c hc => by rw [st_c, if_neg (by omega), st_nil]⟩)
      · refine tw_zneF k52_21 (by decide) ?_
        refine tw_const k52_24 ?_
        exact tw_ri k52_26 (⟨by rw [qSet_0]; (try simp only [Int.toNat_natCast]); (repeat' split) <;> first | rfl | omega, M, rfl, by rw [show aSet s 0 v = s by rw [aSet_0]; (try simp only [Int.toNat_natCast]); (repeat' split) <;> first | rfl | (exfalso; omega)]; exact hS, fun c _ => rfl⟩)
    · refine tw_zneF k52_6 (by decide) ?_
      refine tw_const k52_9 ?_
      exact tw_ri k52_10 (⟨by rw [qSet_0]; (try simp only [Int.toNat_natCast]); (repeat' split) <;> first | rfl | omega, M, rfl, by rw [show aSet s 0 v = s by rw [aSet_0]; (try simp only [Int.toNat_natCast]); (repeat' split) <;> first | rfl | (exfalso; omega)]; exact hS, fun c _ => rfl⟩)
  · by_cases hw1 : what = 1
    · subst hw1
      refine tw_iload k52_0 rfl ?_
      refine tw_const k52_1 ?_
      refine tw_const k52_2 ?_
      refine tw_callb (by omega) (S' := []) (as := [.inl (1 : Int), .inl (0 : Int), .inl (3 : Int)]) k52_3 (x_104 (1 : Int) (0 : Int) (3 : Int)) rfl rfl rfl rfl rfl (fun h3 => ?_) (fun h3 => ?_)
      · refine tw_zneT k52_6 (by decide) ?_
        refine tw_iload k52_11 rfl ?_
        refine tw_const k52_12 ?_
        refine tw_gets k52_13 ?_
        refine tw_iload k52_16 rfl ?_
        refine tw_ialdc (j := 1) (v := (20 : Int)) k52_17 rfl rfl (by rw [hK.1.2.2]; omega) hK.2.2.2.2.1 ?_
        refine tw_callb (by omega) (S' := []) (as := [.inl v, .inl (0 : Int), .inl (20 : Int)]) k52_18 (x_104 v (0 : Int) (20 : Int)) rfl rfl rfl rfl rfl (fun h18 => ?_) (fun h18 => ?_)
        · refine tw_zneT k52_21 (by decide) ?_
          refine tw_aload k52_27 rfl ?_
          refine tw_getr k52_28 f2_5 ?_
          refine tw_iload k52_31 rfl ?_
          refine tw_iald (j := 1) (v := (s 43)) k52_32 al8 rfl (by decide) (hS.2.2.2.2 1 (by omega)) ?_
          refine tw_istore k52_33 rfl (L' := [some (.inr (.inr (.inl 2))), some (.inl (1 : Int)), some (.inl v), some (.inl (s 43))]) rfl ?_
          refine tw_aload k52_34 rfl ?_
          refine tw_getr k52_35 f2_5 ?_
          refine tw_iload k52_38 rfl ?_
          refine tw_iload k52_39 rfl ?_
          refine tw_iast (M := M) (N := N) (l := []) (l' := [(8, (pU (M 8) 1 v))]) (j := 1) k52_40 al8 rfl (by decide) rfl ?_
          refine tw_iload k52_41 rfl ?_
          exact tw_ri k52_42 (⟨by rw [qSet_1]; (try simp only [Int.toNat_natCast]); (repeat' split) <;> first | rfl | omega, _, rfl, by rw [show aSet s 1 v = pU s (42 + 1) v by rw [aSet_1]; (try simp only [Int.toNat_natCast]); (repeat' split) <;> first | rfl | (exfalso; omega)]; exact cSV_put hS (by omega), fun c hc => by rw [st_c, if_neg (by omega), st_nil]⟩)
        · refine tw_zneF k52_21 (by decide) ?_
          refine tw_const k52_24 ?_
          exact tw_ri k52_26 (⟨by rw [qSet_1]; (try simp only [Int.toNat_natCast]); (repeat' split) <;> first | rfl | omega, M, rfl, by rw [show aSet s 1 v = s by rw [aSet_1]; (try simp only [Int.toNat_natCast]); (repeat' split) <;> first | rfl | (exfalso; omega)]; exact hS, fun c _ => rfl⟩)
      · refine tw_zneF k52_6 (by decide) ?_
        refine tw_const k52_9 ?_
        exact tw_ri k52_10 (⟨by rw [qSet_1]; (try simp only [Int.toNat_natCast]); (repeat' split) <;> first | rfl | omega, M, rfl, by rw [show aSet s 1 v = s by rw [aSet_1]; (try simp only [Int.toNat_natCast]); (repeat' split) <;> first | rfl | (exfalso; omega)]; exact hS, fun c _ => rfl⟩)
    · by_cases hw2 : what = 2
      · subst hw2
        refine tw_iload k52_0 rfl ?_
        refine tw_const k52_1 ?_
        refine tw_const k52_2 ?_
        refine tw_callb (by omega) (S' := []) (as := [.inl (2 : Int), .inl (0 : Int), .inl (3 : Int)]) k52_3 (x_104 (2 : Int) (0 : Int) (3 : Int)) rfl rfl rfl rfl rfl (fun h3 => ?_) (fun h3 => ?_)
        · refine tw_zneT k52_6 (by decide) ?_
          refine tw_iload k52_11 rfl ?_
          refine tw_const k52_12 ?_
          refine tw_gets k52_13 ?_
          refine tw_iload k52_16 rfl ?_
          refine tw_ialdc (j := 2) (v := (20 : Int)) k52_17 rfl rfl (by rw [hK.1.2.2]; omega) hK.2.2.2.2.2.1 ?_
          refine tw_callb (by omega) (S' := []) (as := [.inl v, .inl (0 : Int), .inl (20 : Int)]) k52_18 (x_104 v (0 : Int) (20 : Int)) rfl rfl rfl rfl rfl (fun h18 => ?_) (fun h18 => ?_)
          · refine tw_zneT k52_21 (by decide) ?_
            refine tw_aload k52_27 rfl ?_
            refine tw_getr k52_28 f2_5 ?_
            refine tw_iload k52_31 rfl ?_
            refine tw_iald (j := 2) (v := (s 44)) k52_32 al8 rfl (by decide) (hS.2.2.2.2 2 (by omega)) ?_
            refine tw_istore k52_33 rfl (L' := [some (.inr (.inr (.inl 2))), some (.inl (2 : Int)), some (.inl v), some (.inl (s 44))]) rfl ?_
            refine tw_aload k52_34 rfl ?_
            refine tw_getr k52_35 f2_5 ?_
            refine tw_iload k52_38 rfl ?_
            refine tw_iload k52_39 rfl ?_
            refine tw_iast (M := M) (N := N) (l := []) (l' := [(8, (pU (M 8) 2 v))]) (j := 2) k52_40 al8 rfl (by decide) rfl ?_
            refine tw_iload k52_41 rfl ?_
            exact tw_ri k52_42 (⟨by rw [qSet_2]; (try simp only [Int.toNat_natCast]); (repeat' split) <;> first | rfl | omega, _, rfl, by rw [show aSet s 2 v = pU s (42 + 2) v by rw [aSet_2]; (try simp only [Int.toNat_natCast]); (repeat' split) <;> first | rfl | (exfalso; omega)]; exact cSV_put hS (by omega), fun c hc => by rw [st_c, if_neg (by omega), st_nil]⟩)
          · refine tw_zneF k52_21 (by decide) ?_
            refine tw_const k52_24 ?_
            exact tw_ri k52_26 (⟨by rw [qSet_2]; (try simp only [Int.toNat_natCast]); (repeat' split) <;> first | rfl | omega, M, rfl, by rw [show aSet s 2 v = s by rw [aSet_2]; (try simp only [Int.toNat_natCast]); (repeat' split) <;> first | rfl | (exfalso; omega)]; exact hS, fun c _ => rfl⟩)
        · refine tw_zneF k52_6 (by decide) ?_
          refine tw_const k52_9 ?_
          exact tw_ri k52_10 (⟨by rw [qSet_2]; (try simp only [Int.toNat_natCast]); (repeat' split) <;> first | rfl | omega, M, rfl, by rw [show aSet s 2 v = s by rw [aSet_2]; (try simp only [Int.toNat_natCast]); (repeat' split) <;> first | rfl | (exfalso; omega)]; exact hS, fun c _ => rfl⟩)
      · by_cases hw3 : what = 3
        · subst hw3
          refine tw_iload k52_0 rfl ?_
          refine tw_const k52_1 ?_
          refine tw_const k52_2 ?_
          refine tw_callb (by omega) (S' := []) (as := [.inl (3 : Int), .inl (0 : Int), .inl (3 : Int)]) k52_3 (x_104 (3 : Int) (0 : Int) (3 : Int)) rfl rfl rfl rfl rfl (fun h3 => ?_) (fun h3 => ?_)
          · refine tw_zneT k52_6 (by decide) ?_
            refine tw_iload k52_11 rfl ?_
            refine tw_const k52_12 ?_
            refine tw_gets k52_13 ?_
            refine tw_iload k52_16 rfl ?_
            refine tw_ialdc (j := 3) (v := (5 : Int)) k52_17 rfl rfl (by rw [hK.1.2.2]; omega) hK.2.2.2.2.2.2 ?_
            refine tw_callb (by omega) (S' := []) (as := [.inl v, .inl (0 : Int), .inl (5 : Int)]) k52_18 (x_104 v (0 : Int) (5 : Int)) rfl rfl rfl rfl rfl (fun h18 => ?_) (fun h18 => ?_)
            · refine tw_zneT k52_21 (by decide) ?_
              refine tw_aload k52_27 rfl ?_
              refine tw_getr k52_28 f2_5 ?_
              refine tw_iload k52_31 rfl ?_
              refine tw_iald (j := 3) (v := (s 45)) k52_32 al8 rfl (by decide) (hS.2.2.2.2 3 (by omega)) ?_
              refine tw_istore k52_33 rfl (L' := [some (.inr (.inr (.inl 2))), some (.inl (3 : Int)), some (.inl v), some (.inl (s 45))]) rfl ?_
              refine tw_aload k52_34 rfl ?_
              refine tw_getr k52_35 f2_5 ?_
              refine tw_iload k52_38 rfl ?_
              refine tw_iload k52_39 rfl ?_
              refine tw_iast (M := M) (N := N) (l := []) (l' := [(8, (pU (M 8) 3 v))]) (j := 3) k52_40 al8 rfl (by decide) rfl ?_
              refine tw_iload k52_41 rfl ?_
              exact tw_ri k52_42 (⟨by rw [qSet_3]; (try simp only [Int.toNat_natCast]); (repeat' split) <;> first | rfl | omega, _, rfl, by rw [show aSet s 3 v = pU s (42 + 3) v by rw [aSet_3]; (try simp only [Int.toNat_natCast]); (repeat' split) <;> first | rfl | (exfalso; omega)]; exact cSV_put hS (by omega), fun c hc => by rw [st_c, if_neg (by omega), st_nil]⟩)
            · refine tw_zneF k52_21 (by decide) ?_
              refine tw_const k52_24 ?_
              exact tw_ri k52_26 (⟨by rw [qSet_3]; (try simp only [Int.toNat_natCast]); (repeat' split) <;> first | rfl | omega, M, rfl, by rw [show aSet s 3 v = s by rw [aSet_3]; (try simp only [Int.toNat_natCast]); (repeat' split) <;> first | rfl | (exfalso; omega)]; exact hS, fun c _ => rfl⟩)
          · refine tw_zneF k52_6 (by decide) ?_
            refine tw_const k52_9 ?_
            exact tw_ri k52_10 (⟨by rw [qSet_3]; (try simp only [Int.toNat_natCast]); (repeat' split) <;> first | rfl | omega, M, rfl, by rw [show aSet s 3 v = s by rw [aSet_3]; (try simp only [Int.toNat_natCast]); (repeat' split) <;> first | rfl | (exfalso; omega)]; exact hS, fun c _ => rfl⟩)
        · refine tw_iload k52_0 rfl ?_
          refine tw_const k52_1 ?_
          refine tw_const k52_2 ?_
          refine tw_callbF (by omega) (S' := []) (as := [.inl what, .inl (0 : Int), .inl (3 : Int)]) k52_3 (x_104 what (0 : Int) (3 : Int)) rfl rfl rfl rfl rfl (by omega) ?_
          refine tw_zneF k52_6 (by decide) ?_
          refine tw_const k52_9 ?_
          exact tw_ri k52_10 (⟨by unfold qSet; (try unfold sHi); (try simp only [Int.toNat_natCast]); (repeat' split) <;> first | rfl | omega, M, rfl, by rw [show aSet s what v = s by unfold aSet; (try unfold sHi); (try simp only [Int.toNat_natCast]); (repeat' split) <;> first | rfl | (exfalso; omega)]; exact hS, fun c _ => rfl⟩)
theorem x_53 {K : mj_C} {d : Nat} {M : Nat → Nat → Int} {N : Nat → Nat → Int64} (hD : 2 ≤ d) (hK : kOk K) (s : Nat → Int) (hs : pRg s) (hS : cSV 62 M s) (what n : Int) (hw : 0 ≤ what ∧ what ≤ 3) (hn1 : what < 2 → 0 ≤ n ∧ n < s 0) : mj_X K d 53 [.inr (.inr (.inl 62)), .inl what, .inl n] (mj_Sh, M, N) (fun r Z => r = none ∧ ∃ M1, Z = (mj_Sh, M1, N) ∧ cSV 62 M1 (evS s what n) ∧ ∀ c, c < 62 ∨ 68 < c → M1 c = M c) := by
  show mj_T K d 53 0 [some (.inr (.inr (.inl 62))), some (.inl what), some (.inl n)] [] (mj_Sh, M, N) _
  have h0 := hs.1 0 (by omega)
  have h5 := hs.2.1
  by_cases hw0 : what = 0
  · subst hw0
    have hn := hn1 (by omega)
    obtain ⟨q, rfl⟩ : ∃ q : Nat, n = (q : Int) := ⟨n.toNat, by omega⟩
    have h6q := hs.1 (6 + q) (by omega)
    refine tw_iload k53_0 rfl ?_
    refine tw_zneF k53_1 (by decide) ?_
    refine tw_aload k53_4 rfl ?_
    refine tw_iload k53_5 rfl ?_
    refine tw_callbT (by omega) (S' := []) (as := [.inr (.inr (.inl 62)), .inl ((q : Nat) : Int)]) k53_6 (x_47_62 (M := M) (N := N) (by omega) s (hs.1 0 (by omega)) hS ((q : Nat) : Int)) rfl rfl rfl rfl rfl (by omega) ?_
    refine tw_zeqF k53_9 (by decide) ?_
    refine tw_aload k53_12 rfl ?_
    refine tw_getr k53_13 f62_0 ?_
    refine tw_iload k53_16 rfl ?_
    refine tw_const k53_17 ?_
    refine tw_iast (M := M) (N := N) (l := []) (l' := [(63, (pU (M 63) q (0 : Int)))]) (j := q) k53_18 al63 rfl (by omega) rfl ?_
    refine tw_goto k53_19 ?_
    exact tw_rv k53_87 (⟨rfl, _, rfl, by rw [show evS s 0 ((q : Nat) : Int) = pU s (1 + q) 0 by rw [evS_0]; (try simp only [Int.toNat_natCast])]; exact cSV_put hS (by omega), fun c hc => by rw [st_c, if_neg (by omega), st_nil]⟩)
  · by_cases hw1 : what = 1
    · subst hw1
      have hn := hn1 (by omega)
      obtain ⟨q, rfl⟩ : ∃ q : Nat, n = (q : Int) := ⟨n.toNat, by omega⟩
      have h6q := hs.1 (6 + q) (by omega)
      refine tw_iload k53_0 rfl ?_
      refine tw_zneT k53_1 (by decide) ?_
      refine tw_iload k53_22 rfl ?_
      refine tw_const k53_23 ?_
      refine tw_cneF k53_24 (by decide) ?_
      refine tw_aload k53_27 rfl ?_
      refine tw_iload k53_28 rfl ?_
      refine tw_callbT (by omega) (S' := []) (as := [.inr (.inr (.inl 62)), .inl ((q : Nat) : Int)]) k53_29 (x_47_62 (M := M) (N := N) (by omega) s (hs.1 0 (by omega)) hS ((q : Nat) : Int)) rfl rfl rfl rfl rfl (by omega) ?_
      refine tw_zeqF k53_32 (by decide) ?_
      refine tw_aload k53_35 rfl ?_
      refine tw_getr k53_36 f62_1 ?_
      refine tw_iload k53_39 rfl ?_
      refine tw_aload k53_40 rfl ?_
      refine tw_getr k53_41 f62_1 ?_
      refine tw_iload k53_44 rfl ?_
      refine tw_iald (j := q) (v := (s (6 + q))) k53_45 al64 rfl (by omega) (hS.2.2.1 q (by omega)).2 ?_
      refine tw_const k53_46 ?_
      refine tw_iadd k53_47 (v := ((s (6 + q)) + (5 : Int))) rfl (by omega) ?_
      refine tw_gets k53_48 ?_
      refine tw_const k53_51 ?_
      refine tw_ialdc (j := 1) (v := (40 : Int)) k53_52 rfl rfl (by rw [hK.1.2.1]; omega) hK.2.2.1.2.1 ?_
      refine tw_min k53_53 rfl ?_
      refine tw_iast (M := M) (N := N) (l := []) (l' := [(64, (pU (M 64) q (min ((s (6 + q)) + (5 : Int)) (40 : Int))))]) (j := q) k53_56 al64 rfl (by omega) rfl ?_
      refine tw_goto k53_57 ?_
      exact tw_rv k53_87 (⟨rfl, _, rfl, by rw [show evS s 1 ((q : Nat) : Int) = pU s (6 + q) (min 40 (s (6 + q) + 5)) by rw [evS_1]; (try simp only [Int.toNat_natCast])]; rw [show min 40 (s (6 + q) + 5) = min (s (6 + q) + 5) 40 by omega]; exact cSV_put hS (by omega), fun c hc => by rw [st_c, if_neg (by omega), st_nil]⟩)
    · by_cases hw2 : what = 2
      · subst hw2
        refine tw_iload k53_0 rfl ?_
        refine tw_zneT k53_1 (by decide) ?_
        refine tw_iload k53_22 rfl ?_
        refine tw_const k53_23 ?_
        refine tw_cneT k53_24 (by decide) ?_
        refine tw_iload k53_60 rfl ?_
        refine tw_const k53_61 ?_
        refine tw_cneF k53_62 (by decide) ?_
        refine tw_aload k53_65 rfl ?_
        refine tw_getr k53_66 f62_5 ?_
        refine tw_const k53_69 ?_
        refine tw_iload k53_70 rfl ?_
        refine tw_iast (M := M) (N := N) (l := []) (l' := [(68, (pU (M 68) 3 n))]) (j := 3) k53_71 al68 rfl (by decide) rfl ?_
        refine tw_goto k53_72 ?_
        exact tw_rv k53_87 (⟨rfl, _, rfl, by rw [show evS s 2 n = pU s (42 + 3) n by rw [evS_2]; (try simp only [Int.toNat_natCast])]; exact cSV_put hS (by omega), fun c hc => by rw [st_c, if_neg (by omega), st_nil]⟩)
      · have hw3 : what = 3 := by omega
        subst hw3
        refine tw_iload k53_0 rfl ?_
        refine tw_zneT k53_1 (by decide) ?_
        refine tw_iload k53_22 rfl ?_
        refine tw_const k53_23 ?_
        refine tw_cneT k53_24 (by decide) ?_
        refine tw_iload k53_60 rfl ?_
        refine tw_const k53_61 ?_
        refine tw_cneT k53_62 (by decide) ?_
        refine tw_iload k53_75 rfl ?_
        refine tw_const k53_76 ?_
        refine tw_cneF k53_77 (by decide) ?_
        refine tw_aload k53_80 rfl ?_
        refine tw_getr k53_81 f62_5 ?_
        refine tw_const k53_84 ?_
        refine tw_iload k53_85 rfl ?_
        refine tw_iast (M := M) (N := N) (l := []) (l' := [(68, (pU (M 68) 0 n))]) (j := 0) k53_86 al68 rfl (by decide) rfl ?_
        exact tw_rv k53_87 (⟨rfl, _, rfl, by rw [show evS s 3 n = pU s (42 + 0) n by rw [evS_3]; (try simp only [Int.toNat_natCast])]; exact cSV_put hS (by omega), fun c hc => by rw [st_c, if_neg (by omega), st_nil]⟩)
theorem x_57_2_19 {K : mj_C} {d : Nat} {M : Nat → Nat → Int} {N : Nat → Nat → Int64} (s : Nat → Int) (hS : cSV 19 M s) : mj_X K d 57 [.inr (.inr (.inl 2)), .inr (.inr (.inl 19))] (mj_Sh, M, N) (fun r Z => r = none ∧ ∃ M1, Z = (mj_Sh, M1, N) ∧ cSV 2 M1 s ∧ ∀ c, c < 2 ∨ 8 < c → M1 c = M c) := by
  show mj_T K d 57 0 [some (.inr (.inr (.inl 2))), some (.inr (.inr (.inl 19)))] [] (mj_Sh, M, N) _
  refine tw_aload k57_0 rfl ?_
  refine tw_getr k57_1 f19_0 ?_
  refine tw_const k57_4 ?_
  refine tw_aload k57_5 rfl ?_
  refine tw_getr k57_6 f2_0 ?_
  refine tw_const k57_9 ?_
  refine tw_const k57_10 ?_
  refine tw_acpi (M := M) (N := N) (l := []) (l' := [(3, (pCp (M 20) (M 3) 0 0 5))]) (i' := 0) (j' := 0) (n' := 5) k57_11 al20 al3 rfl rfl rfl (by omega) (by omega) rfl rfl ?_
  refine tw_aload k57_14 rfl ?_
  refine tw_getr k57_15 f19_1 ?_
  refine tw_const k57_18 ?_
  refine tw_aload k57_19 rfl ?_
  refine tw_getr k57_20 f2_1 ?_
  refine tw_const k57_23 ?_
  refine tw_const k57_24 ?_
  refine tw_acpi (M := M) (N := N) (l := [(3, (pCp (M 20) (M 3) 0 0 5))]) (l' := [(3, (pCp (M 20) (M 3) 0 0 5)), (4, (pCp (M 21) (M 4) 0 0 5))]) (i' := 0) (j' := 0) (n' := 5) k57_25 al21 al4 rfl rfl rfl (by omega) (by omega) rfl rfl ?_
  refine tw_aload k57_28 rfl ?_
  refine tw_getr k57_29 f19_2 ?_
  refine tw_const k57_32 ?_
  refine tw_aload k57_33 rfl ?_
  refine tw_getr k57_34 f2_2 ?_
  refine tw_const k57_37 ?_
  refine tw_const k57_38 ?_
  refine tw_acpi (M := M) (N := N) (l := [(3, (pCp (M 20) (M 3) 0 0 5)), (4, (pCp (M 21) (M 4) 0 0 5))]) (l' := [(3, (pCp (M 20) (M 3) 0 0 5)), (4, (pCp (M 21) (M 4) 0 0 5)), (5, (pCp (M 22) (M 5) 0 0 10))]) (i' := 0) (j' := 0) (n' := 10) k57_40 al22 al5 rfl rfl rfl (by omega) (by omega) rfl rfl ?_
  refine tw_aload k57_43 rfl ?_
  refine tw_getr k57_44 f19_3 ?_
  refine tw_const k57_47 ?_
  refine tw_aload k57_48 rfl ?_
  refine tw_getr k57_49 f2_3 ?_
  refine tw_const k57_52 ?_
  refine tw_const k57_53 ?_
  refine tw_acpi (M := M) (N := N) (l := [(3, (pCp (M 20) (M 3) 0 0 5)), (4, (pCp (M 21) (M 4) 0 0 5)), (5, (pCp (M 22) (M 5) 0 0 10))]) (l' := [(3, (pCp (M 20) (M 3) 0 0 5)), (4, (pCp (M 21) (M 4) 0 0 5)), (5, (pCp (M 22) (M 5) 0 0 10)), (6, (pCp (M 23) (M 6) 0 0 10))]) (i' := 0) (j' := 0) (n' := 10) k57_55 al23 al6 rfl rfl rfl (by omega) (by omega) rfl rfl ?_
  refine tw_aload k57_58 rfl ?_
  refine tw_getr k57_59 f19_4 ?_
  refine tw_const k57_62 ?_
  refine tw_aload k57_63 rfl ?_
  refine tw_getr k57_64 f2_4 ?_
  refine tw_const k57_67 ?_
  refine tw_const k57_68 ?_
  refine tw_acpi (M := M) (N := N) (l := [(3, (pCp (M 20) (M 3) 0 0 5)), (4, (pCp (M 21) (M 4) 0 0 5)), (5, (pCp (M 22) (M 5) 0 0 10)), (6, (pCp (M 23) (M 6) 0 0 10))]) (l' := [(3, (pCp (M 20) (M 3) 0 0 5)), (4, (pCp (M 21) (M 4) 0 0 5)), (5, (pCp (M 22) (M 5) 0 0 10)), (6, (pCp (M 23) (M 6) 0 0 10)), (7, (pCp (M 24) (M 7) 0 0 10))]) (i' := 0) (j' := 0) (n' := 10) k57_70 al24 al7 rfl rfl rfl (by omega) (by omega) rfl rfl ?_
  refine tw_aload k57_73 rfl ?_
  refine tw_getr k57_74 f19_5 ?_
  refine tw_const k57_77 ?_
  refine tw_aload k57_78 rfl ?_
  refine tw_getr k57_79 f2_5 ?_
  refine tw_const k57_82 ?_
  refine tw_aload k57_83 rfl ?_
  refine tw_getr k57_84 f2_5 ?_
  refine tw_alen k57_87 (u := 4) (v := 4) rfl rfl rfl ?_
  refine tw_acpi (M := M) (N := N) (l := [(3, (pCp (M 20) (M 3) 0 0 5)), (4, (pCp (M 21) (M 4) 0 0 5)), (5, (pCp (M 22) (M 5) 0 0 10)), (6, (pCp (M 23) (M 6) 0 0 10)), (7, (pCp (M 24) (M 7) 0 0 10))]) (l' := [(3, (pCp (M 20) (M 3) 0 0 5)), (4, (pCp (M 21) (M 4) 0 0 5)), (5, (pCp (M 22) (M 5) 0 0 10)), (6, (pCp (M 23) (M 6) 0 0 10)), (7, (pCp (M 24) (M 7) 0 0 10)), (8, (pCp (M 25) (M 8) 0 0 4))]) (i' := 0) (j' := 0) (n' := 4) k57_88 al25 al8 rfl rfl rfl (by omega) (by omega) rfl rfl ?_
  refine tw_aload k57_91 rfl ?_
  refine tw_aload k57_92 rfl ?_
  refine tw_geti k57_93 f19_6 rfl (v := (s 0)) (show M 19 6 = _ from hS.1) ?_
  refine tw_puti (M := M) (N := N) (l := [(3, (pCp (M 20) (M 3) 0 0 5)), (4, (pCp (M 21) (M 4) 0 0 5)), (5, (pCp (M 22) (M 5) 0 0 10)), (6, (pCp (M 23) (M 6) 0 0 10)), (7, (pCp (M 24) (M 7) 0 0 10)), (8, (pCp (M 25) (M 8) 0 0 4))]) (l' := [(3, (pCp (M 20) (M 3) 0 0 5)), (4, (pCp (M 21) (M 4) 0 0 5)), (5, (pCp (M 22) (M 5) 0 0 10)), (6, (pCp (M 23) (M 6) 0 0 10)), (7, (pCp (M 24) (M 7) 0 0 10)), (8, (pCp (M 25) (M 8) 0 0 4)), (2, (pU (M 2) 6 (s 0)))]) k57_96 f2_6 rfl ?_
  refine tw_aload k57_99 rfl ?_
  refine tw_aload k57_100 rfl ?_
  refine tw_geti k57_101 f19_7 rfl (v := (s 11)) (show M 19 7 = _ from hS.2.1) ?_
  refine tw_puti (M := M) (N := N) (l := [(3, (pCp (M 20) (M 3) 0 0 5)), (4, (pCp (M 21) (M 4) 0 0 5)), (5, (pCp (M 22) (M 5) 0 0 10)), (6, (pCp (M 23) (M 6) 0 0 10)), (7, (pCp (M 24) (M 7) 0 0 10)), (8, (pCp (M 25) (M 8) 0 0 4)), (2, (pU (M 2) 6 (s 0)))]) (l' := [(3, (pCp (M 20) (M 3) 0 0 5)), (4, (pCp (M 21) (M 4) 0 0 5)), (5, (pCp (M 22) (M 5) 0 0 10)), (6, (pCp (M 23) (M 6) 0 0 10)), (7, (pCp (M 24) (M 7) 0 0 10)), (8, (pCp (M 25) (M 8) 0 0 4)), (2, (pU (pU (M 2) 6 (s 0)) 7 (s 11)))]) k57_104 f2_7 rfl ?_
  exact tw_rv k57_107 (⟨rfl, _, rfl, ⟨by show pU (pU (M 2) 6 (s 0)) 7 (s 11) 6 = _; rw [pU_ne (by omega), pU_eq], by show pU (pU (M 2) 6 (s 0)) 7 (s 11) 7 = _; rw [pU_eq], fun y hy => ⟨by show pCp (M 20) (M 3) 0 0 5 y = _; rw [pCp0 (by omega)]; exact (hS.2.2.1 y hy).1, by show pCp (M 21) (M 4) 0 0 5 y = _; rw [pCp0 (by omega)]; exact (hS.2.2.1 y hy).2⟩, fun k hk => ⟨by show pCp (M 22) (M 5) 0 0 10 k = _; rw [pCp0 (by omega)]; exact (hS.2.2.2.1 k hk).1, by show pCp (M 23) (M 6) 0 0 10 k = _; rw [pCp0 (by omega)]; exact (hS.2.2.2.1 k hk).2.1, by show pCp (M 24) (M 7) 0 0 10 k = _; rw [pCp0 (by omega)]; exact (hS.2.2.2.1 k hk).2.2⟩, fun i hi => by show pCp (M 25) (M 8) 0 0 4 i = _; rw [pCp0 (by omega)]; exact hS.2.2.2.2 i hi⟩, fun c hc => by rw [st_c, if_neg (by omega), st_c, if_neg (by omega), st_c, if_neg (by omega), st_c, if_neg (by omega), st_c, if_neg (by omega), st_c, if_neg (by omega), st_c, if_neg (by omega), st_nil]⟩)
theorem x_57_19_2 {K : mj_C} {d : Nat} {M : Nat → Nat → Int} {N : Nat → Nat → Int64} (s : Nat → Int) (hS : cSV 2 M s) : mj_X K d 57 [.inr (.inr (.inl 19)), .inr (.inr (.inl 2))] (mj_Sh, M, N) (fun r Z => r = none ∧ ∃ M1, Z = (mj_Sh, M1, N) ∧ cSV 19 M1 s ∧ ∀ c, c < 19 ∨ 25 < c → M1 c = M c) := by
  show mj_T K d 57 0 [some (.inr (.inr (.inl 19))), some (.inr (.inr (.inl 2)))] [] (mj_Sh, M, N) _
  refine tw_aload k57_0 rfl ?_
  refine tw_getr k57_1 f2_0 ?_
  refine tw_const k57_4 ?_
  refine tw_aload k57_5 rfl ?_
  refine tw_getr k57_6 f19_0 ?_
  refine tw_const k57_9 ?_
  refine tw_const k57_10 ?_
  refine tw_acpi (M := M) (N := N) (l := []) (l' := [(20, (pCp (M 3) (M 20) 0 0 5))]) (i' := 0) (j' := 0) (n' := 5) k57_11 al3 al20 rfl rfl rfl (by omega) (by omega) rfl rfl ?_
  refine tw_aload k57_14 rfl ?_
  refine tw_getr k57_15 f2_1 ?_
  refine tw_const k57_18 ?_
  refine tw_aload k57_19 rfl ?_
  refine tw_getr k57_20 f19_1 ?_
  refine tw_const k57_23 ?_
  refine tw_const k57_24 ?_
  refine tw_acpi (M := M) (N := N) (l := [(20, (pCp (M 3) (M 20) 0 0 5))]) (l' := [(20, (pCp (M 3) (M 20) 0 0 5)), (21, (pCp (M 4) (M 21) 0 0 5))]) (i' := 0) (j' := 0) (n' := 5) k57_25 al4 al21 rfl rfl rfl (by omega) (by omega) rfl rfl ?_
  refine tw_aload k57_28 rfl ?_
  refine tw_getr k57_29 f2_2 ?_
  refine tw_const k57_32 ?_
  refine tw_aload k57_33 rfl ?_
  refine tw_getr k57_34 f19_2 ?_
  refine tw_const k57_37 ?_
  refine tw_const k57_38 ?_
  refine tw_acpi (M := M) (N := N) (l := [(20, (pCp (M 3) (M 20) 0 0 5)), (21, (pCp (M 4) (M 21) 0 0 5))]) (l' := [(20, (pCp (M 3) (M 20) 0 0 5)), (21, (pCp (M 4) (M 21) 0 0 5)), (22, (pCp (M 5) (M 22) 0 0 10))]) (i' := 0) (j' := 0) (n' := 10) k57_40 al5 al22 rfl rfl rfl (by omega) (by omega) rfl rfl ?_
  refine tw_aload k57_43 rfl ?_
  refine tw_getr k57_44 f2_3 ?_
  refine tw_const k57_47 ?_
  refine tw_aload k57_48 rfl ?_
  refine tw_getr k57_49 f19_3 ?_
  refine tw_const k57_52 ?_
  refine tw_const k57_53 ?_
  refine tw_acpi (M := M) (N := N) (l := [(20, (pCp (M 3) (M 20) 0 0 5)), (21, (pCp (M 4) (M 21) 0 0 5)), (22, (pCp (M 5) (M 22) 0 0 10))]) (l' := [(20, (pCp (M 3) (M 20) 0 0 5)), (21, (pCp (M 4) (M 21) 0 0 5)), (22, (pCp (M 5) (M 22) 0 0 10)), (23, (pCp (M 6) (M 23) 0 0 10))]) (i' := 0) (j' := 0) (n' := 10) k57_55 al6 al23 rfl rfl rfl (by omega) (by omega) rfl rfl ?_
  refine tw_aload k57_58 rfl ?_
  refine tw_getr k57_59 f2_4 ?_
  refine tw_const k57_62 ?_
  refine tw_aload k57_63 rfl ?_
  refine tw_getr k57_64 f19_4 ?_
  refine tw_const k57_67 ?_
  refine tw_const k57_68 ?_
  refine tw_acpi (M := M) (N := N) (l := [(20, (pCp (M 3) (M 20) 0 0 5)), (21, (pCp (M 4) (M 21) 0 0 5)), (22, (pCp (M 5) (M 22) 0 0 10)), (23, (pCp (M 6) (M 23) 0 0 10))]) (l' := [(20, (pCp (M 3) (M 20) 0 0 5)), (21, (pCp (M 4) (M 21) 0 0 5)), (22, (pCp (M 5) (M 22) 0 0 10)), (23, (pCp (M 6) (M 23) 0 0 10)), (24, (pCp (M 7) (M 24) 0 0 10))]) (i' := 0) (j' := 0) (n' := 10) k57_70 al7 al24 rfl rfl rfl (by omega) (by omega) rfl rfl ?_
  refine tw_aload k57_73 rfl ?_
  refine tw_getr k57_74 f2_5 ?_
  refine tw_const k57_77 ?_
  refine tw_aload k57_78 rfl ?_
  refine tw_getr k57_79 f19_5 ?_
  refine tw_const k57_82 ?_
  refine tw_aload k57_83 rfl ?_
  refine tw_getr k57_84 f19_5 ?_
  refine tw_alen k57_87 (u := 4) (v := 4) rfl rfl rfl ?_
  refine tw_acpi (M := M) (N := N) (l := [(20, (pCp (M 3) (M 20) 0 0 5)), (21, (pCp (M 4) (M 21) 0 0 5)), (22, (pCp (M 5) (M 22) 0 0 10)), (23, (pCp (M 6) (M 23) 0 0 10)), (24, (pCp (M 7) (M 24) 0 0 10))]) (l' := [(20, (pCp (M 3) (M 20) 0 0 5)), (21, (pCp (M 4) (M 21) 0 0 5)), (22, (pCp (M 5) (M 22) 0 0 10)), (23, (pCp (M 6) (M 23) 0 0 10)), (24, (pCp (M 7) (M 24) 0 0 10)), (25, (pCp (M 8) (M 25) 0 0 4))]) (i' := 0) (j' := 0) (n' := 4) k57_88 al8 al25 rfl rfl rfl (by omega) (by omega) rfl rfl ?_
  refine tw_aload k57_91 rfl ?_
  refine tw_aload k57_92 rfl ?_
  refine tw_geti k57_93 f2_6 rfl (v := (s 0)) (show M 2 6 = _ from hS.1) ?_
  refine tw_puti (M := M) (N := N) (l := [(20, (pCp (M 3) (M 20) 0 0 5)), (21, (pCp (M 4) (M 21) 0 0 5)), (22, (pCp (M 5) (M 22) 0 0 10)), (23, (pCp (M 6) (M 23) 0 0 10)), (24, (pCp (M 7) (M 24) 0 0 10)), (25, (pCp (M 8) (M 25) 0 0 4))]) (l' := [(20, (pCp (M 3) (M 20) 0 0 5)), (21, (pCp (M 4) (M 21) 0 0 5)), (22, (pCp (M 5) (M 22) 0 0 10)), (23, (pCp (M 6) (M 23) 0 0 10)), (24, (pCp (M 7) (M 24) 0 0 10)), (25, (pCp (M 8) (M 25) 0 0 4)), (19, (pU (M 19) 6 (s 0)))]) k57_96 f19_6 rfl ?_
  refine tw_aload k57_99 rfl ?_
  refine tw_aload k57_100 rfl ?_
  refine tw_geti k57_101 f2_7 rfl (v := (s 11)) (show M 2 7 = _ from hS.2.1) ?_
  refine tw_puti (M := M) (N := N) (l := [(20, (pCp (M 3) (M 20) 0 0 5)), (21, (pCp (M 4) (M 21) 0 0 5)), (22, (pCp (M 5) (M 22) 0 0 10)), (23, (pCp (M 6) (M 23) 0 0 10)), (24, (pCp (M 7) (M 24) 0 0 10)), (25, (pCp (M 8) (M 25) 0 0 4)), (19, (pU (M 19) 6 (s 0)))]) (l' := [(20, (pCp (M 3) (M 20) 0 0 5)), (21, (pCp (M 4) (M 21) 0 0 5)), (22, (pCp (M 5) (M 22) 0 0 10)), (23, (pCp (M 6) (M 23) 0 0 10)), (24, (pCp (M 7) (M 24) 0 0 10)), (25, (pCp (M 8) (M 25) 0 0 4)), (19, (pU (pU (M 19) 6 (s 0)) 7 (s 11)))]) k57_104 f19_7 rfl ?_
  exact tw_rv k57_107 (⟨rfl, _, rfl, ⟨by show pU (pU (M 19) 6 (s 0)) 7 (s 11) 6 = _; rw [pU_ne (by omega), pU_eq], by show pU (pU (M 19) 6 (s 0)) 7 (s 11) 7 = _; rw [pU_eq], fun y hy => ⟨by show pCp (M 3) (M 20) 0 0 5 y = _; rw [pCp0 (by omega)]; exact (hS.2.2.1 y hy).1, by show pCp (M 4) (M 21) 0 0 5 y = _; rw [pCp0 (by omega)]; exact (hS.2.2.1 y hy).2⟩, fun k hk => ⟨by show pCp (M 5) (M 22) 0 0 10 k = _; rw [pCp0 (by omega)]; exact (hS.2.2.2.1 k hk).1, by show pCp (M 6) (M 23) 0 0 10 k = _; rw [pCp0 (by omega)]; exact (hS.2.2.2.1 k hk).2.1, by show pCp (M 7) (M 24) 0 0 10 k = _; rw [pCp0 (by omega)]; exact (hS.2.2.2.1 k hk).2.2⟩, fun i hi => by show pCp (M 8) (M 25) 0 0 4 i = _; rw [pCp0 (by omega)]; exact hS.2.2.2.2 i hi⟩, fun c hc => by rw [st_c, if_neg (by omega), st_c, if_neg (by omega), st_c, if_neg (by omega), st_c, if_neg (by omega), st_c, if_neg (by omega), st_c, if_neg (by omega), st_c, if_neg (by omega), st_nil]⟩)
theorem x_57_62_2 {K : mj_C} {d : Nat} {M : Nat → Nat → Int} {N : Nat → Nat → Int64} (s : Nat → Int) (hS : cSV 2 M s) : mj_X K d 57 [.inr (.inr (.inl 62)), .inr (.inr (.inl 2))] (mj_Sh, M, N) (fun r Z => r = none ∧ ∃ M1, Z = (mj_Sh, M1, N) ∧ cSV 62 M1 s ∧ ∀ c, c < 62 ∨ 68 < c → M1 c = M c) := by
  show mj_T K d 57 0 [some (.inr (.inr (.inl 62))), some (.inr (.inr (.inl 2)))] [] (mj_Sh, M, N) _
  refine tw_aload k57_0 rfl ?_
  refine tw_getr k57_1 f2_0 ?_
  refine tw_const k57_4 ?_
  refine tw_aload k57_5 rfl ?_
  refine tw_getr k57_6 f62_0 ?_
  refine tw_const k57_9 ?_
  refine tw_const k57_10 ?_
  refine tw_acpi (M := M) (N := N) (l := []) (l' := [(63, (pCp (M 3) (M 63) 0 0 5))]) (i' := 0) (j' := 0) (n' := 5) k57_11 al3 al63 rfl rfl rfl (by omega) (by omega) rfl rfl ?_
  refine tw_aload k57_14 rfl ?_
  refine tw_getr k57_15 f2_1 ?_
  refine tw_const k57_18 ?_
  refine tw_aload k57_19 rfl ?_
  refine tw_getr k57_20 f62_1 ?_
  refine tw_const k57_23 ?_
  refine tw_const k57_24 ?_
  refine tw_acpi (M := M) (N := N) (l := [(63, (pCp (M 3) (M 63) 0 0 5))]) (l' := [(63, (pCp (M 3) (M 63) 0 0 5)), (64, (pCp (M 4) (M 64) 0 0 5))]) (i' := 0) (j' := 0) (n' := 5) k57_25 al4 al64 rfl rfl rfl (by omega) (by omega) rfl rfl ?_
  refine tw_aload k57_28 rfl ?_
  refine tw_getr k57_29 f2_2 ?_
  refine tw_const k57_32 ?_
  refine tw_aload k57_33 rfl ?_
  refine tw_getr k57_34 f62_2 ?_
  refine tw_const k57_37 ?_
  refine tw_const k57_38 ?_
  refine tw_acpi (M := M) (N := N) (l := [(63, (pCp (M 3) (M 63) 0 0 5)), (64, (pCp (M 4) (M 64) 0 0 5))]) (l' := [(63, (pCp (M 3) (M 63) 0 0 5)), (64, (pCp (M 4) (M 64) 0 0 5)), (65, (pCp (M 5) (M 65) 0 0 10))]) (i' := 0) (j' := 0) (n' := 10) k57_40 al5 al65 rfl rfl rfl (by omega) (by omega) rfl rfl ?_
  refine tw_aload k57_43 rfl ?_
  refine tw_getr k57_44 f2_3 ?_
  refine tw_const k57_47 ?_
  refine tw_aload k57_48 rfl ?_
  refine tw_getr k57_49 f62_3 ?_
  refine tw_const k57_52 ?_
  refine tw_const k57_53 ?_
  refine tw_acpi (M := M) (N := N) (l := [(63, (pCp (M 3) (M 63) 0 0 5)), (64, (pCp (M 4) (M 64) 0 0 5)), (65, (pCp (M 5) (M 65) 0 0 10))]) (l' := [(63, (pCp (M 3) (M 63) 0 0 5)), (64, (pCp (M 4) (M 64) 0 0 5)), (65, (pCp (M 5) (M 65) 0 0 10)), (66, (pCp (M 6) (M 66) 0 0 10))]) (i' := 0) (j' := 0) (n' := 10) k57_55 al6 al66 rfl rfl rfl (by omega) (by omega) rfl rfl ?_
  refine tw_aload k57_58 rfl ?_
  refine tw_getr k57_59 f2_4 ?_
  refine tw_const k57_62 ?_
  refine tw_aload k57_63 rfl ?_
  refine tw_getr k57_64 f62_4 ?_
  refine tw_const k57_67 ?_
  refine tw_const k57_68 ?_
  refine tw_acpi (M := M) (N := N) (l := [(63, (pCp (M 3) (M 63) 0 0 5)), (64, (pCp (M 4) (M 64) 0 0 5)), (65, (pCp (M 5) (M 65) 0 0 10)), (66, (pCp (M 6) (M 66) 0 0 10))]) (l' := [(63, (pCp (M 3) (M 63) 0 0 5)), (64, (pCp (M 4) (M 64) 0 0 5)), (65, (pCp (M 5) (M 65) 0 0 10)), (66, (pCp (M 6) (M 66) 0 0 10)), (67, (pCp (M 7) (M 67) 0 0 10))]) (i' := 0) (j' := 0) (n' := 10) k57_70 al7 al67 rfl rfl rfl (by omega) (by omega) rfl rfl ?_
  refine tw_aload k57_73 rfl ?_
  refine tw_getr k57_74 f2_5 ?_
  refine tw_const k57_77 ?_
  refine tw_aload k57_78 rfl ?_
  refine tw_getr k57_79 f62_5 ?_
  refine tw_const k57_82 ?_
  refine tw_aload k57_83 rfl ?_
  refine tw_getr k57_84 f62_5 ?_
  refine tw_alen k57_87 (u := 4) (v := 4) rfl rfl rfl ?_
  refine tw_acpi (M := M) (N := N) (l := [(63, (pCp (M 3) (M 63) 0 0 5)), (64, (pCp (M 4) (M 64) 0 0 5)), (65, (pCp (M 5) (M 65) 0 0 10)), (66, (pCp (M 6) (M 66) 0 0 10)), (67, (pCp (M 7) (M 67) 0 0 10))]) (l' := [(63, (pCp (M 3) (M 63) 0 0 5)), (64, (pCp (M 4) (M 64) 0 0 5)), (65, (pCp (M 5) (M 65) 0 0 10)), (66, (pCp (M 6) (M 66) 0 0 10)), (67, (pCp (M 7) (M 67) 0 0 10)), (68, (pCp (M 8) (M 68) 0 0 4))]) (i' := 0) (j' := 0) (n' := 4) k57_88 al8 al68 rfl rfl rfl (by omega) (by omega) rfl rfl ?_
  refine tw_aload k57_91 rfl ?_
  refine tw_aload k57_92 rfl ?_
  refine tw_geti k57_93 f2_6 rfl (v := (s 0)) (show M 2 6 = _ from hS.1) ?_
  refine tw_puti (M := M) (N := N) (l := [(63, (pCp (M 3) (M 63) 0 0 5)), (64, (pCp (M 4) (M 64) 0 0 5)), (65, (pCp (M 5) (M 65) 0 0 10)), (66, (pCp (M 6) (M 66) 0 0 10)), (67, (pCp (M 7) (M 67) 0 0 10)), (68, (pCp (M 8) (M 68) 0 0 4))]) (l' := [(63, (pCp (M 3) (M 63) 0 0 5)), (64, (pCp (M 4) (M 64) 0 0 5)), (65, (pCp (M 5) (M 65) 0 0 10)), (66, (pCp (M 6) (M 66) 0 0 10)), (67, (pCp (M 7) (M 67) 0 0 10)), (68, (pCp (M 8) (M 68) 0 0 4)), (62, (pU (M 62) 6 (s 0)))]) k57_96 f62_6 rfl ?_
  refine tw_aload k57_99 rfl ?_
  refine tw_aload k57_100 rfl ?_
  refine tw_geti k57_101 f2_7 rfl (v := (s 11)) (show M 2 7 = _ from hS.2.1) ?_
  refine tw_puti (M := M) (N := N) (l := [(63, (pCp (M 3) (M 63) 0 0 5)), (64, (pCp (M 4) (M 64) 0 0 5)), (65, (pCp (M 5) (M 65) 0 0 10)), (66, (pCp (M 6) (M 66) 0 0 10)), (67, (pCp (M 7) (M 67) 0 0 10)), (68, (pCp (M 8) (M 68) 0 0 4)), (62, (pU (M 62) 6 (s 0)))]) (l' := [(63, (pCp (M 3) (M 63) 0 0 5)), (64, (pCp (M 4) (M 64) 0 0 5)), (65, (pCp (M 5) (M 65) 0 0 10)), (66, (pCp (M 6) (M 66) 0 0 10)), (67, (pCp (M 7) (M 67) 0 0 10)), (68, (pCp (M 8) (M 68) 0 0 4)), (62, (pU (pU (M 62) 6 (s 0)) 7 (s 11)))]) k57_104 f62_7 rfl ?_
  exact tw_rv k57_107 (⟨rfl, _, rfl, ⟨by show pU (pU (M 62) 6 (s 0)) 7 (s 11) 6 = _; rw [pU_ne (by omega), pU_eq], by show pU (pU (M 62) 6 (s 0)) 7 (s 11) 7 = _; rw [pU_eq], fun y hy => ⟨by show pCp (M 3) (M 63) 0 0 5 y = _; rw [pCp0 (by omega)]; exact (hS.2.2.1 y hy).1, by show pCp (M 4) (M 64) 0 0 5 y = _; rw [pCp0 (by omega)]; exact (hS.2.2.1 y hy).2⟩, fun k hk => ⟨by show pCp (M 5) (M 65) 0 0 10 k = _; rw [pCp0 (by omega)]; exact (hS.2.2.2.1 k hk).1, by show pCp (M 6) (M 66) 0 0 10 k = _; rw [pCp0 (by omega)]; exact (hS.2.2.2.1 k hk).2.1, by show pCp (M 7) (M 67) 0 0 10 k = _; rw [pCp0 (by omega)]; exact (hS.2.2.2.1 k hk).2.2⟩, fun i hi => by show pCp (M 8) (M 68) 0 0 4 i = _; rw [pCp0 (by omega)]; exact hS.2.2.2.2 i hi⟩, fun c hc => by rw [st_c, if_neg (by omega), st_c, if_neg (by omega), st_c, if_neg (by omega), st_c, if_neg (by omega), st_c, if_neg (by omega), st_c, if_neg (by omega), st_c, if_neg (by omega), st_nil]⟩)
theorem x_34_9 {K : mj_C} {d : Nat} {M : Nat → Nat → Int} {N : Nat → Nat → Int64} (n : Nat) (hn : M 9 2 = (n : Int)) (hl : n ≤ 5) (a b : Int) : mj_X K d 34 [.inr (.inr (.inl 9)), .inl a, .inl b] (mj_Sh, M, N) (fun r Z => (n < 5 ∧ r = some (.inl ((n + 1 : Nat) : Int)) ∧ Z = (mj_Sh, st M [(10, pU (M 10) n a), (11, pU (M 11) n b), (9, pU (M 9) 2 ((n + 1 : Nat) : Int))], N)) ∨ (¬ n < 5 ∧ r = some (.inl (-4)) ∧ Z = (mj_Sh, M, N))) := by
  show mj_T K d 34 0 [some (.inr (.inr (.inl 9))), some (.inl a), some (.inl b)] [] (mj_Sh, M, N) _
  refine tw_aload k34_0 rfl ?_
  refine tw_geti k34_1 f9_2 rfl (v := ((n : Nat) : Int)) hn ?_
  refine tw_aload k34_4 rfl ?_
  refine tw_getr k34_5 f9_0 ?_
  refine tw_alen k34_8 (u := 5) (v := 5) rfl rfl rfl ?_
  refine tw_clt k34_9 (fun h9 => ?_) (fun h9 => ?_)
  · refine tw_aload k34_15 rfl ?_
    refine tw_getr k34_16 f9_0 ?_
    refine tw_aload k34_19 rfl ?_
    refine tw_geti k34_20 f9_2 rfl (v := ((n : Nat) : Int)) hn ?_
    refine tw_iload k34_23 rfl ?_
    refine tw_iast (M := M) (N := N) (l := []) (l' := [(10, (pU (M 10) n a))]) (j := n) k34_24 al10 rfl (by omega) rfl ?_
    refine tw_aload k34_25 rfl ?_
    refine tw_getr k34_26 f9_1 ?_
    refine tw_aload k34_29 rfl ?_
    refine tw_geti k34_30 f9_2 rfl (v := ((n : Nat) : Int)) (show M 9 2 = _ from hn) ?_
    refine tw_iload k34_33 rfl ?_
    refine tw_iast (M := M) (N := N) (l := [(10, (pU (M 10) n a))]) (l' := [(10, (pU (M 10) n a)), (11, (pU (M 11) n b))]) (j := n) k34_34 al11 rfl (by omega) rfl ?_
    refine tw_aload k34_35 rfl ?_
    refine tw_dupr k34_36 ?_
    refine tw_geti k34_37 f9_2 rfl (v := ((n : Nat) : Int)) (show M 9 2 = _ from hn) ?_
    refine tw_const k34_40 ?_
    refine tw_iadd k34_41 (v := ((n + 1 : Nat) : Int)) rfl (by omega) ?_
    refine tw_puti (M := M) (N := N) (l := [(10, (pU (M 10) n a)), (11, (pU (M 11) n b))]) (l' := [(10, (pU (M 10) n a)), (11, (pU (M 11) n b)), (9, (pU (M 9) 2 ((n + 1 : Nat) : Int)))]) k34_42 f9_2 rfl ?_
    refine tw_aload k34_45 rfl ?_
    refine tw_geti k34_46 f9_2 rfl (v := (((n + 1) : Nat) : Int)) (show (pU (M 9) 2 ((n + 1 : Nat) : Int)) 2 = _ from pU_eq) ?_
    exact tw_ri k34_49 (Or.inl ⟨by omega, rfl, rfl⟩)
  · refine tw_const k34_12 ?_
    exact tw_ri k34_14 (Or.inr ⟨by omega, rfl, rfl⟩)
theorem x_35_9 {K : mj_C} {d : Nat} {M : Nat → Nat → Int} {N : Nat → Nat → Int64}  : mj_X K d 35 [.inr (.inr (.inl 9))] (mj_Sh, M, N) (fun r Z => r = some (.inl 0) ∧ Z = (mj_Sh, st M [(9, pU (M 9) 2 0)], N)) := by
  show mj_T K d 35 0 [some (.inr (.inr (.inl 9)))] [] (mj_Sh, M, N) _
  refine tw_aload k35_0 rfl ?_
  refine tw_const k35_1 ?_
  refine tw_puti (M := M) (N := N) (l := []) (l' := [(9, (pU (M 9) 2 (0 : Int)))]) k35_2 f9_2 rfl ?_
  refine tw_const k35_5 ?_
  exact tw_ri k35_6 (⟨rfl, rfl⟩)
theorem x_34_12 {K : mj_C} {d : Nat} {M : Nat → Nat → Int} {N : Nat → Nat → Int64} (n : Nat) (hn : M 12 2 = (n : Int)) (hl : n ≤ 8) (a b : Int) : mj_X K d 34 [.inr (.inr (.inl 12)), .inl a, .inl b] (mj_Sh, M, N) (fun r Z => (n < 8 ∧ r = some (.inl ((n + 1 : Nat) : Int)) ∧ Z = (mj_Sh, st M [(13, pU (M 13) n a), (14, pU (M 14) n b), (12, pU (M 12) 2 ((n + 1 : Nat) : Int))], N)) ∨ (¬ n < 8 ∧ r = some (.inl (-4)) ∧ Z = (mj_Sh, M, N))) := by
  show mj_T K d 34 0 [some (.inr (.inr (.inl 12))), some (.inl a), some (.inl b)] [] (mj_Sh, M, N) _
  refine tw_aload k34_0 rfl ?_
  refine tw_geti k34_1 f12_2 rfl (v := ((n : Nat) : Int)) hn ?_
  refine tw_aload k34_4 rfl ?_
  refine tw_getr k34_5 f12_0 ?_
  refine tw_alen k34_8 (u := 8) (v := 8) rfl rfl rfl ?_
  refine tw_clt k34_9 (fun h9 => ?_) (fun h9 => ?_)
  · refine tw_aload k34_15 rfl ?_
    refine tw_getr k34_16 f12_0 ?_
    refine tw_aload k34_19 rfl ?_
    refine tw_geti k34_20 f12_2 rfl (v := ((n : Nat) : Int)) hn ?_
    refine tw_iload k34_23 rfl ?_
    refine tw_iast (M := M) (N := N) (l := []) (l' := [(13, (pU (M 13) n a))]) (j := n) k34_24 al13 rfl (by omega) rfl ?_
    refine tw_aload k34_25 rfl ?_
    refine tw_getr k34_26 f12_1 ?_
    refine tw_aload k34_29 rfl ?_
    refine tw_geti k34_30 f12_2 rfl (v := ((n : Nat) : Int)) (show M 12 2 = _ from hn) ?_
    refine tw_iload k34_33 rfl ?_
    refine tw_iast (M := M) (N := N) (l := [(13, (pU (M 13) n a))]) (l' := [(13, (pU (M 13) n a)), (14, (pU (M 14) n b))]) (j := n) k34_34 al14 rfl (by omega) rfl ?_
    refine tw_aload k34_35 rfl ?_
    refine tw_dupr k34_36 ?_
    refine tw_geti k34_37 f12_2 rfl (v := ((n : Nat) : Int)) (show M 12 2 = _ from hn) ?_
    refine tw_const k34_40 ?_
    refine tw_iadd k34_41 (v := ((n + 1 : Nat) : Int)) rfl (by omega) ?_
    refine tw_puti (M := M) (N := N) (l := [(13, (pU (M 13) n a)), (14, (pU (M 14) n b))]) (l' := [(13, (pU (M 13) n a)), (14, (pU (M 14) n b)), (12, (pU (M 12) 2 ((n + 1 : Nat) : Int)))]) k34_42 f12_2 rfl ?_
    refine tw_aload k34_45 rfl ?_
    refine tw_geti k34_46 f12_2 rfl (v := (((n + 1) : Nat) : Int)) (show (pU (M 12) 2 ((n + 1 : Nat) : Int)) 2 = _ from pU_eq) ?_
    exact tw_ri k34_49 (Or.inl ⟨by omega, rfl, rfl⟩)
  · refine tw_const k34_12 ?_
    exact tw_ri k34_14 (Or.inr ⟨by omega, rfl, rfl⟩)
theorem x_35_12 {K : mj_C} {d : Nat} {M : Nat → Nat → Int} {N : Nat → Nat → Int64}  : mj_X K d 35 [.inr (.inr (.inl 12))] (mj_Sh, M, N) (fun r Z => r = some (.inl 0) ∧ Z = (mj_Sh, st M [(12, pU (M 12) 2 0)], N)) := by
  show mj_T K d 35 0 [some (.inr (.inr (.inl 12)))] [] (mj_Sh, M, N) _
  refine tw_aload k35_0 rfl ?_
  refine tw_const k35_1 ?_
  refine tw_puti (M := M) (N := N) (l := []) (l' := [(12, (pU (M 12) 2 (0 : Int)))]) k35_2 f12_2 rfl ?_
  refine tw_const k35_5 ?_
  exact tw_ri k35_6 (⟨rfl, rfl⟩)
theorem x_34_15 {K : mj_C} {d : Nat} {M : Nat → Nat → Int} {N : Nat → Nat → Int64} (n : Nat) (hn : M 15 2 = (n : Int)) (hl : n ≤ 8) (a b : Int) : mj_X K d 34 [.inr (.inr (.inl 15)), .inl a, .inl b] (mj_Sh, M, N) (fun r Z => (n < 8 ∧ r = some (.inl ((n + 1 : Nat) : Int)) ∧ Z = (mj_Sh, st M [(16, pU (M 16) n a), (17, pU (M 17) n b), (15, pU (M 15) 2 ((n + 1 : Nat) : Int))], N)) ∨ (¬ n < 8 ∧ r = some (.inl (-4)) ∧ Z = (mj_Sh, M, N))) := by
  show mj_T K d 34 0 [some (.inr (.inr (.inl 15))), some (.inl a), some (.inl b)] [] (mj_Sh, M, N) _
  refine tw_aload k34_0 rfl ?_
  refine tw_geti k34_1 f15_2 rfl (v := ((n : Nat) : Int)) hn ?_
  refine tw_aload k34_4 rfl ?_
  refine tw_getr k34_5 f15_0 ?_
  refine tw_alen k34_8 (u := 8) (v := 8) rfl rfl rfl ?_
  refine tw_clt k34_9 (fun h9 => ?_) (fun h9 => ?_)
  · refine tw_aload k34_15 rfl ?_
    refine tw_getr k34_16 f15_0 ?_
    refine tw_aload k34_19 rfl ?_
    refine tw_geti k34_20 f15_2 rfl (v := ((n : Nat) : Int)) hn ?_
    refine tw_iload k34_23 rfl ?_
    refine tw_iast (M := M) (N := N) (l := []) (l' := [(16, (pU (M 16) n a))]) (j := n) k34_24 al16 rfl (by omega) rfl ?_
    refine tw_aload k34_25 rfl ?_
    refine tw_getr k34_26 f15_1 ?_
    refine tw_aload k34_29 rfl ?_
    refine tw_geti k34_30 f15_2 rfl (v := ((n : Nat) : Int)) (show M 15 2 = _ from hn) ?_
    refine tw_iload k34_33 rfl ?_
    refine tw_iast (M := M) (N := N) (l := [(16, (pU (M 16) n a))]) (l' := [(16, (pU (M 16) n a)), (17, (pU (M 17) n b))]) (j := n) k34_34 al17 rfl (by omega) rfl ?_
    refine tw_aload k34_35 rfl ?_
    refine tw_dupr k34_36 ?_
    refine tw_geti k34_37 f15_2 rfl (v := ((n : Nat) : Int)) (show M 15 2 = _ from hn) ?_
    refine tw_const k34_40 ?_
    refine tw_iadd k34_41 (v := ((n + 1 : Nat) : Int)) rfl (by omega) ?_
    refine tw_puti (M := M) (N := N) (l := [(16, (pU (M 16) n a)), (17, (pU (M 17) n b))]) (l' := [(16, (pU (M 16) n a)), (17, (pU (M 17) n b)), (15, (pU (M 15) 2 ((n + 1 : Nat) : Int)))]) k34_42 f15_2 rfl ?_
    refine tw_aload k34_45 rfl ?_
    refine tw_geti k34_46 f15_2 rfl (v := (((n + 1) : Nat) : Int)) (show (pU (M 15) 2 ((n + 1 : Nat) : Int)) 2 = _ from pU_eq) ?_
    exact tw_ri k34_49 (Or.inl ⟨by omega, rfl, rfl⟩)
  · refine tw_const k34_12 ?_
    exact tw_ri k34_14 (Or.inr ⟨by omega, rfl, rfl⟩)
theorem x_35_15 {K : mj_C} {d : Nat} {M : Nat → Nat → Int} {N : Nat → Nat → Int64}  : mj_X K d 35 [.inr (.inr (.inl 15))] (mj_Sh, M, N) (fun r Z => r = some (.inl 0) ∧ Z = (mj_Sh, st M [(15, pU (M 15) 2 0)], N)) := by
  show mj_T K d 35 0 [some (.inr (.inr (.inl 15)))] [] (mj_Sh, M, N) _
  refine tw_aload k35_0 rfl ?_
  refine tw_const k35_1 ?_
  refine tw_puti (M := M) (N := N) (l := []) (l' := [(15, (pU (M 15) 2 (0 : Int)))]) k35_2 f15_2 rfl ?_
  refine tw_const k35_5 ?_
  exact tw_ri k35_6 (⟨rfl, rfl⟩)
theorem x_34_26 {K : mj_C} {d : Nat} {M : Nat → Nat → Int} {N : Nat → Nat → Int64} (n : Nat) (hn : M 26 2 = (n : Int)) (hl : n ≤ 5) (a b : Int) : mj_X K d 34 [.inr (.inr (.inl 26)), .inl a, .inl b] (mj_Sh, M, N) (fun r Z => (n < 5 ∧ r = some (.inl ((n + 1 : Nat) : Int)) ∧ Z = (mj_Sh, st M [(27, pU (M 27) n a), (28, pU (M 28) n b), (26, pU (M 26) 2 ((n + 1 : Nat) : Int))], N)) ∨ (¬ n < 5 ∧ r = some (.inl (-4)) ∧ Z = (mj_Sh, M, N))) := by
  show mj_T K d 34 0 [some (.inr (.inr (.inl 26))), some (.inl a), some (.inl b)] [] (mj_Sh, M, N) _
  refine tw_aload k34_0 rfl ?_
  refine tw_geti k34_1 f26_2 rfl (v := ((n : Nat) : Int)) hn ?_
  refine tw_aload k34_4 rfl ?_
  refine tw_getr k34_5 f26_0 ?_
  refine tw_alen k34_8 (u := 5) (v := 5) rfl rfl rfl ?_
  refine tw_clt k34_9 (fun h9 => ?_) (fun h9 => ?_)
  · refine tw_aload k34_15 rfl ?_
    refine tw_getr k34_16 f26_0 ?_
    refine tw_aload k34_19 rfl ?_
    refine tw_geti k34_20 f26_2 rfl (v := ((n : Nat) : Int)) hn ?_
    refine tw_iload k34_23 rfl ?_
    refine tw_iast (M := M) (N := N) (l := []) (l' := [(27, (pU (M 27) n a))]) (j := n) k34_24 al27 rfl (by omega) rfl ?_
    refine tw_aload k34_25 rfl ?_
    refine tw_getr k34_26 f26_1 ?_
    refine tw_aload k34_29 rfl ?_
    refine tw_geti k34_30 f26_2 rfl (v := ((n : Nat) : Int)) (show M 26 2 = _ from hn) ?_
    refine tw_iload k34_33 rfl ?_
    refine tw_iast (M := M) (N := N) (l := [(27, (pU (M 27) n a))]) (l' := [(27, (pU (M 27) n a)), (28, (pU (M 28) n b))]) (j := n) k34_34 al28 rfl (by omega) rfl ?_
    refine tw_aload k34_35 rfl ?_
    refine tw_dupr k34_36 ?_
    refine tw_geti k34_37 f26_2 rfl (v := ((n : Nat) : Int)) (show M 26 2 = _ from hn) ?_
    refine tw_const k34_40 ?_
    refine tw_iadd k34_41 (v := ((n + 1 : Nat) : Int)) rfl (by omega) ?_
    refine tw_puti (M := M) (N := N) (l := [(27, (pU (M 27) n a)), (28, (pU (M 28) n b))]) (l' := [(27, (pU (M 27) n a)), (28, (pU (M 28) n b)), (26, (pU (M 26) 2 ((n + 1 : Nat) : Int)))]) k34_42 f26_2 rfl ?_
    refine tw_aload k34_45 rfl ?_
    refine tw_geti k34_46 f26_2 rfl (v := (((n + 1) : Nat) : Int)) (show (pU (M 26) 2 ((n + 1 : Nat) : Int)) 2 = _ from pU_eq) ?_
    exact tw_ri k34_49 (Or.inl ⟨by omega, rfl, rfl⟩)
  · refine tw_const k34_12 ?_
    exact tw_ri k34_14 (Or.inr ⟨by omega, rfl, rfl⟩)
theorem x_35_26 {K : mj_C} {d : Nat} {M : Nat → Nat → Int} {N : Nat → Nat → Int64}  : mj_X K d 35 [.inr (.inr (.inl 26))] (mj_Sh, M, N) (fun r Z => r = some (.inl 0) ∧ Z = (mj_Sh, st M [(26, pU (M 26) 2 0)], N)) := by
  show mj_T K d 35 0 [some (.inr (.inr (.inl 26)))] [] (mj_Sh, M, N) _
  refine tw_aload k35_0 rfl ?_
  refine tw_const k35_1 ?_
  refine tw_puti (M := M) (N := N) (l := []) (l' := [(26, (pU (M 26) 2 (0 : Int)))]) k35_2 f26_2 rfl ?_
  refine tw_const k35_5 ?_
  exact tw_ri k35_6 (⟨rfl, rfl⟩)
theorem x_34_29 {K : mj_C} {d : Nat} {M : Nat → Nat → Int} {N : Nat → Nat → Int64} (n : Nat) (hn : M 29 2 = (n : Int)) (hl : n ≤ 8) (a b : Int) : mj_X K d 34 [.inr (.inr (.inl 29)), .inl a, .inl b] (mj_Sh, M, N) (fun r Z => (n < 8 ∧ r = some (.inl ((n + 1 : Nat) : Int)) ∧ Z = (mj_Sh, st M [(30, pU (M 30) n a), (31, pU (M 31) n b), (29, pU (M 29) 2 ((n + 1 : Nat) : Int))], N)) ∨ (¬ n < 8 ∧ r = some (.inl (-4)) ∧ Z = (mj_Sh, M, N))) := by
  show mj_T K d 34 0 [some (.inr (.inr (.inl 29))), some (.inl a), some (.inl b)] [] (mj_Sh, M, N) _
  refine tw_aload k34_0 rfl ?_
  refine tw_geti k34_1 f29_2 rfl (v := ((n : Nat) : Int)) hn ?_
  refine tw_aload k34_4 rfl ?_
  refine tw_getr k34_5 f29_0 ?_
  refine tw_alen k34_8 (u := 8) (v := 8) rfl rfl rfl ?_
  refine tw_clt k34_9 (fun h9 => ?_) (fun h9 => ?_)
  · refine tw_aload k34_15 rfl ?_
    refine tw_getr k34_16 f29_0 ?_
    refine tw_aload k34_19 rfl ?_
    refine tw_geti k34_20 f29_2 rfl (v := ((n : Nat) : Int)) hn ?_
    refine tw_iload k34_23 rfl ?_
    refine tw_iast (M := M) (N := N) (l := []) (l' := [(30, (pU (M 30) n a))]) (j := n) k34_24 al30 rfl (by omega) rfl ?_
    refine tw_aload k34_25 rfl ?_
    refine tw_getr k34_26 f29_1 ?_
    refine tw_aload k34_29 rfl ?_
    refine tw_geti k34_30 f29_2 rfl (v := ((n : Nat) : Int)) (show M 29 2 = _ from hn) ?_
    refine tw_iload k34_33 rfl ?_
    refine tw_iast (M := M) (N := N) (l := [(30, (pU (M 30) n a))]) (l' := [(30, (pU (M 30) n a)), (31, (pU (M 31) n b))]) (j := n) k34_34 al31 rfl (by omega) rfl ?_
    refine tw_aload k34_35 rfl ?_
    refine tw_dupr k34_36 ?_
    refine tw_geti k34_37 f29_2 rfl (v := ((n : Nat) : Int)) (show M 29 2 = _ from hn) ?_
    refine tw_const k34_40 ?_
    refine tw_iadd k34_41 (v := ((n + 1 : Nat) : Int)) rfl (by omega) ?_
    refine tw_puti (M := M) (N := N) (l := [(30, (pU (M 30) n a)), (31, (pU (M 31) n b))]) (l' := [(30, (pU (M 30) n a)), (31, (pU (M 31) n b)), (29, (pU (M 29) 2 ((n + 1 : Nat) : Int)))]) k34_42 f29_2 rfl ?_
    refine tw_aload k34_45 rfl ?_
    refine tw_geti k34_46 f29_2 rfl (v := (((n + 1) : Nat) : Int)) (show (pU (M 29) 2 ((n + 1 : Nat) : Int)) 2 = _ from pU_eq) ?_
    exact tw_ri k34_49 (Or.inl ⟨by omega, rfl, rfl⟩)
  · refine tw_const k34_12 ?_
    exact tw_ri k34_14 (Or.inr ⟨by omega, rfl, rfl⟩)
theorem x_35_29 {K : mj_C} {d : Nat} {M : Nat → Nat → Int} {N : Nat → Nat → Int64}  : mj_X K d 35 [.inr (.inr (.inl 29))] (mj_Sh, M, N) (fun r Z => r = some (.inl 0) ∧ Z = (mj_Sh, st M [(29, pU (M 29) 2 0)], N)) := by
  show mj_T K d 35 0 [some (.inr (.inr (.inl 29)))] [] (mj_Sh, M, N) _
  refine tw_aload k35_0 rfl ?_
  refine tw_const k35_1 ?_
  refine tw_puti (M := M) (N := N) (l := []) (l' := [(29, (pU (M 29) 2 (0 : Int)))]) k35_2 f29_2 rfl ?_
  refine tw_const k35_5 ?_
  exact tw_ri k35_6 (⟨rfl, rfl⟩)
theorem x_34_32 {K : mj_C} {d : Nat} {M : Nat → Nat → Int} {N : Nat → Nat → Int64} (n : Nat) (hn : M 32 2 = (n : Int)) (hl : n ≤ 8) (a b : Int) : mj_X K d 34 [.inr (.inr (.inl 32)), .inl a, .inl b] (mj_Sh, M, N) (fun r Z => (n < 8 ∧ r = some (.inl ((n + 1 : Nat) : Int)) ∧ Z = (mj_Sh, st M [(33, pU (M 33) n a), (34, pU (M 34) n b), (32, pU (M 32) 2 ((n + 1 : Nat) : Int))], N)) ∨ (¬ n < 8 ∧ r = some (.inl (-4)) ∧ Z = (mj_Sh, M, N))) := by
  show mj_T K d 34 0 [some (.inr (.inr (.inl 32))), some (.inl a), some (.inl b)] [] (mj_Sh, M, N) _
  refine tw_aload k34_0 rfl ?_
  refine tw_geti k34_1 f32_2 rfl (v := ((n : Nat) : Int)) hn ?_
  refine tw_aload k34_4 rfl ?_
  refine tw_getr k34_5 f32_0 ?_
  refine tw_alen k34_8 (u := 8) (v := 8) rfl rfl rfl ?_
  refine tw_clt k34_9 (fun h9 => ?_) (fun h9 => ?_)
  · refine tw_aload k34_15 rfl ?_
    refine tw_getr k34_16 f32_0 ?_
    refine tw_aload k34_19 rfl ?_
    refine tw_geti k34_20 f32_2 rfl (v := ((n : Nat) : Int)) hn ?_
    refine tw_iload k34_23 rfl ?_
    refine tw_iast (M := M) (N := N) (l := []) (l' := [(33, (pU (M 33) n a))]) (j := n) k34_24 al33 rfl (by omega) rfl ?_
    refine tw_aload k34_25 rfl ?_
    refine tw_getr k34_26 f32_1 ?_
    refine tw_aload k34_29 rfl ?_
    refine tw_geti k34_30 f32_2 rfl (v := ((n : Nat) : Int)) (show M 32 2 = _ from hn) ?_
    refine tw_iload k34_33 rfl ?_
    refine tw_iast (M := M) (N := N) (l := [(33, (pU (M 33) n a))]) (l' := [(33, (pU (M 33) n a)), (34, (pU (M 34) n b))]) (j := n) k34_34 al34 rfl (by omega) rfl ?_
    refine tw_aload k34_35 rfl ?_
    refine tw_dupr k34_36 ?_
    refine tw_geti k34_37 f32_2 rfl (v := ((n : Nat) : Int)) (show M 32 2 = _ from hn) ?_
    refine tw_const k34_40 ?_
    refine tw_iadd k34_41 (v := ((n + 1 : Nat) : Int)) rfl (by omega) ?_
    refine tw_puti (M := M) (N := N) (l := [(33, (pU (M 33) n a)), (34, (pU (M 34) n b))]) (l' := [(33, (pU (M 33) n a)), (34, (pU (M 34) n b)), (32, (pU (M 32) 2 ((n + 1 : Nat) : Int)))]) k34_42 f32_2 rfl ?_
    refine tw_aload k34_45 rfl ?_
    refine tw_geti k34_46 f32_2 rfl (v := (((n + 1) : Nat) : Int)) (show (pU (M 32) 2 ((n + 1 : Nat) : Int)) 2 = _ from pU_eq) ?_
    exact tw_ri k34_49 (Or.inl ⟨by omega, rfl, rfl⟩)
  · refine tw_const k34_12 ?_
    exact tw_ri k34_14 (Or.inr ⟨by omega, rfl, rfl⟩)
theorem x_35_32 {K : mj_C} {d : Nat} {M : Nat → Nat → Int} {N : Nat → Nat → Int64}  : mj_X K d 35 [.inr (.inr (.inl 32))] (mj_Sh, M, N) (fun r Z => r = some (.inl 0) ∧ Z = (mj_Sh, st M [(32, pU (M 32) 2 0)], N)) := by
  show mj_T K d 35 0 [some (.inr (.inr (.inl 32)))] [] (mj_Sh, M, N) _
  refine tw_aload k35_0 rfl ?_
  refine tw_const k35_1 ?_
  refine tw_puti (M := M) (N := N) (l := []) (l' := [(32, (pU (M 32) 2 (0 : Int)))]) k35_2 f32_2 rfl ?_
  refine tw_const k35_5 ?_
  exact tw_ri k35_6 (⟨rfl, rfl⟩)
theorem x_36_26_9 {K : mj_C} {d : Nat} {M : Nat → Nat → Int} {N : Nat → Nat → Int64} (hD : 1 ≤ d) (n : Nat) (hn : M 9 2 = (n : Int)) (hl : n ≤ 5) : mj_X K d 36 [.inr (.inr (.inl 26)), .inr (.inr (.inl 9))] (mj_Sh, M, N) (fun r Z => r = none ∧ ∃ M1, Z = (mj_Sh, M1, N) ∧ M1 26 2 = (n : Int) ∧ (∀ i, i < n → M1 27 i = M 10 i ∧ M1 28 i = M 11 i) ∧ ∀ c, c < 26 ∨ 28 < c → M1 c = M c) := by
  show mj_T K d 36 0 [some (.inr (.inr (.inl 26))), some (.inr (.inr (.inl 9))), none] [] (mj_Sh, M, N) _
  have key : ∀ i : Nat, i ≤ n → ∀ M1 : Nat → Nat → Int, M1 26 2 = ((i : Nat) : Int) → (∀ k, k < i → M1 27 k = M 10 k ∧ M1 28 k = M 11 k) → (∀ c, c < 26 ∨ 28 < c → M1 c = M c) → mj_T K d 36 7 [some (.inr (.inr (.inl 26))), some (.inr (.inr (.inl 9))), some (.inl ((i : Nat) : Int))] [] (mj_Sh, M1, N) (fun r Z => r = none ∧ ∃ M1, Z = (mj_Sh, M1, N) ∧ M1 26 2 = (n : Int) ∧ (∀ i, i < n → M1 27 i = M 10 i ∧ M1 28 i = M 11 i) ∧ ∀ c, c < 26 ∨ 28 < c → M1 c = M c) := by
    refine up_to n ?_ ?_
    · show ∀ M1 : Nat → Nat → Int, M1 26 2 = ((n : Nat) : Int) → (∀ k, k < n → M1 27 k = M 10 k ∧ M1 28 k = M 11 k) → (∀ c, c < 26 ∨ 28 < c → M1 c = M c) → mj_T K d 36 7 [some (.inr (.inr (.inl 26))), some (.inr (.inr (.inl 9))), some (.inl ((n : Nat) : Int))] [] (mj_Sh, M1, N) (fun r Z => r = none ∧ ∃ M1, Z = (mj_Sh, M1, N) ∧ M1 26 2 = (n : Int) ∧ (∀ i, i < n → M1 27 i = M 10 i ∧ M1 28 i = M 11 i) ∧ ∀ c, c < 26 ∨ 28 < c → M1 c = M c)
      intro M1 h1 h2 h3
      refine tw_iload k36_7 rfl ?_
      refine tw_aload k36_8 rfl ?_
      refine tw_geti k36_9 f9_2 rfl (v := ((n : Nat) : Int)) (by rw [h3 _ (by omega)]; exact hn) ?_
      refine tw_cgeT k36_12 (by omega) ?_
      exact tw_rv k36_38 (⟨rfl, M1, rfl, h1, h2, h3⟩)
    · intro i hmi ih
      have ih : ∀ M1 : Nat → Nat → Int, M1 26 2 = (((i + 1) : Nat) : Int) → (∀ k, k < (i + 1) → M1 27 k = M 10 k ∧ M1 28 k = M 11 k) → (∀ c, c < 26 ∨ 28 < c → M1 c = M c) → mj_T K d 36 7 [some (.inr (.inr (.inl 26))), some (.inr (.inr (.inl 9))), some (.inl (((i + 1) : Nat) : Int))] [] (mj_Sh, M1, N) (fun r Z => r = none ∧ ∃ M1, Z = (mj_Sh, M1, N) ∧ M1 26 2 = (n : Int) ∧ (∀ i, i < n → M1 27 i = M 10 i ∧ M1 28 i = M 11 i) ∧ ∀ c, c < 26 ∨ 28 < c → M1 c = M c) := ih
      show ∀ M1 : Nat → Nat → Int, M1 26 2 = ((i : Nat) : Int) → (∀ k, k < i → M1 27 k = M 10 k ∧ M1 28 k = M 11 k) → (∀ c, c < 26 ∨ 28 < c → M1 c = M c) → mj_T K d 36 7 [some (.inr (.inr (.inl 26))), some (.inr (.inr (.inl 9))), some (.inl ((i : Nat) : Int))] [] (mj_Sh, M1, N) (fun r Z => r = none ∧ ∃ M1, Z = (mj_Sh, M1, N) ∧ M1 26 2 = (n : Int) ∧ (∀ i, i < n → M1 27 i = M 10 i ∧ M1 28 i = M 11 i) ∧ ∀ c, c < 26 ∨ 28 < c → M1 c = M c)
      intro M1 h1 h2 h3
      refine tw_iload k36_7 rfl ?_
      refine tw_aload k36_8 rfl ?_
      refine tw_geti k36_9 f9_2 rfl (v := ((n : Nat) : Int)) (by rw [h3 _ (by omega)]; exact hn) ?_
      refine tw_cgeF k36_12 (by omega) ?_
      refine tw_aload k36_15 rfl ?_
      refine tw_aload k36_16 rfl ?_
      refine tw_getr k36_17 f9_0 ?_
      refine tw_iload k36_20 rfl ?_
      refine tw_iald (j := i) (v := (M 10 i)) k36_21 al10 rfl (by omega) (by rw [h3 _ (by omega)]) ?_
      refine tw_aload k36_22 rfl ?_
      refine tw_getr k36_23 f9_1 ?_
      refine tw_iload k36_26 rfl ?_
      refine tw_iald (j := i) (v := (M 11 i)) k36_27 al11 rfl (by omega) (by rw [h3 _ (by omega)]) ?_
      refine tw_call (by omega) (S' := []) (as := [.inr (.inr (.inl 26)), .inl (M 10 i), .inl (M 11 i)]) k36_28 (x_34_26 (M := M1) (N := N) i h1 (by omega) (M 10 i) (M 11 i)) rfl rfl rfl rfl rfl (fun r28 Z28 hq28 => ?_)
      rcases hq28 with ⟨_, rfl, rfl⟩ | ⟨hc, _, _⟩
      · refine tw_as (S := [.inl ((i + 1 : Nat) : Int)]) (M := (st M1 [(27, (pU (M1 27) i (M 10 i))), (28, (pU (M1 28) i (M 11 i))), (26, (pU (M1 26) 2 ((i + 1 : Nat) : Int)))])) (N := N) rfl rfl ?_
        refine tw_popi k36_31 ?_
        refine tw_iinc k36_32 rfl (v := ((i + 1 : Nat) : Int)) rfl (by omega) rfl (L' := [some (.inr (.inr (.inl 26))), some (.inr (.inr (.inl 9))), some (.inl ((i + 1 : Nat) : Int))]) rfl ?_
        refine tw_goto k36_35 ?_
        refine ih _ (show pU (M1 26) 2 ((i + 1 : Nat) : Int) 2 = ((i + 1 : Nat) : Int) from pU_eq) (fun k hk => ?_) (fun c hc => by rw [st_c, if_neg (by omega), st_c, if_neg (by omega), st_c, if_neg (by omega), st_nil]; exact h3 c hc)
        show pU (M1 27) i _ k = _ ∧ pU (M1 28) i _ k = _
        by_cases e : k = i
        · subst e; rw [pU_eq, pU_eq]; exact ⟨rfl, rfl⟩
        · rw [pU_ne e, pU_ne e]; exact h2 k (by omega)
      · exact absurd (show i < 5 by omega) hc
  refine tw_aload k36_0 rfl ?_
  refine tw_const k36_1 ?_
  refine tw_puti (M := M) (N := N) (l := []) (l' := [(26, (pU (M 26) 2 (0 : Int)))]) k36_2 f26_2 rfl ?_
  refine tw_const k36_5 ?_
  refine tw_istore k36_6 rfl (L' := [some (.inr (.inr (.inl 26))), some (.inr (.inr (.inl 9))), some (.inl (0 : Int))]) rfl ?_
  exact key 0 (by omega) _ (show pU (M 26) 2 (0 : Int) 2 = ((0 : Nat) : Int) from pU_eq) (fun k hk => by omega) (fun c hc => by rw [st_c, if_neg (by omega), st_nil])
theorem x_36_29_12 {K : mj_C} {d : Nat} {M : Nat → Nat → Int} {N : Nat → Nat → Int64} (hD : 1 ≤ d) (n : Nat) (hn : M 12 2 = (n : Int)) (hl : n ≤ 8) : mj_X K d 36 [.inr (.inr (.inl 29)), .inr (.inr (.inl 12))] (mj_Sh, M, N) (fun r Z => r = none ∧ ∃ M1, Z = (mj_Sh, M1, N) ∧ M1 29 2 = (n : Int) ∧ (∀ i, i < n → M1 30 i = M 13 i ∧ M1 31 i = M 14 i) ∧ ∀ c, c < 29 ∨ 31 < c → M1 c = M c) := by
  show mj_T K d 36 0 [some (.inr (.inr (.inl 29))), some (.inr (.inr (.inl 12))), none] [] (mj_Sh, M, N) _
  have key : ∀ i : Nat, i ≤ n → ∀ M1 : Nat → Nat → Int, M1 29 2 = ((i : Nat) : Int) → (∀ k, k < i → M1 30 k = M 13 k ∧ M1 31 k = M 14 k) → (∀ c, c < 29 ∨ 31 < c → M1 c = M c) → mj_T K d 36 7 [some (.inr (.inr (.inl 29))), some (.inr (.inr (.inl 12))), some (.inl ((i : Nat) : Int))] [] (mj_Sh, M1, N) (fun r Z => r = none ∧ ∃ M1, Z = (mj_Sh, M1, N) ∧ M1 29 2 = (n : Int) ∧ (∀ i, i < n → M1 30 i = M 13 i ∧ M1 31 i = M 14 i) ∧ ∀ c, c < 29 ∨ 31 < c → M1 c = M c) := by
    refine up_to n ?_ ?_
    · show ∀ M1 : Nat → Nat → Int, M1 29 2 = ((n : Nat) : Int) → (∀ k, k < n → M1 30 k = M 13 k ∧ M1 31 k = M 14 k) → (∀ c, c < 29 ∨ 31 < c → M1 c = M c) → mj_T K d 36 7 [some (.inr (.inr (.inl 29))), some (.inr (.inr (.inl 12))), some (.inl ((n : Nat) : Int))] [] (mj_Sh, M1, N) (fun r Z => r = none ∧ ∃ M1, Z = (mj_Sh, M1, N) ∧ M1 29 2 = (n : Int) ∧ (∀ i, i < n → M1 30 i = M 13 i ∧ M1 31 i = M 14 i) ∧ ∀ c, c < 29 ∨ 31 < c → M1 c = M c)
      intro M1 h1 h2 h3
      refine tw_iload k36_7 rfl ?_
      refine tw_aload k36_8 rfl ?_
      refine tw_geti k36_9 f12_2 rfl (v := ((n : Nat) : Int)) (by rw [h3 _ (by omega)]; exact hn) ?_
      refine tw_cgeT k36_12 (by omega) ?_
      exact tw_rv k36_38 (⟨rfl, M1, rfl, h1, h2, h3⟩)
    · intro i hmi ih
      have ih : ∀ M1 : Nat → Nat → Int, M1 29 2 = (((i + 1) : Nat) : Int) → (∀ k, k < (i + 1) → M1 30 k = M 13 k ∧ M1 31 k = M 14 k) → (∀ c, c < 29 ∨ 31 < c → M1 c = M c) → mj_T K d 36 7 [some (.inr (.inr (.inl 29))), some (.inr (.inr (.inl 12))), some (.inl (((i + 1) : Nat) : Int))] [] (mj_Sh, M1, N) (fun r Z => r = none ∧ ∃ M1, Z = (mj_Sh, M1, N) ∧ M1 29 2 = (n : Int) ∧ (∀ i, i < n → M1 30 i = M 13 i ∧ M1 31 i = M 14 i) ∧ ∀ c, c < 29 ∨ 31 < c → M1 c = M c) := ih
      show ∀ M1 : Nat → Nat → Int, M1 29 2 = ((i : Nat) : Int) → (∀ k, k < i → M1 30 k = M 13 k ∧ M1 31 k = M 14 k) → (∀ c, c < 29 ∨ 31 < c → M1 c = M c) → mj_T K d 36 7 [some (.inr (.inr (.inl 29))), some (.inr (.inr (.inl 12))), some (.inl ((i : Nat) : Int))] [] (mj_Sh, M1, N) (fun r Z => r = none ∧ ∃ M1, Z = (mj_Sh, M1, N) ∧ M1 29 2 = (n : Int) ∧ (∀ i, i < n → M1 30 i = M 13 i ∧ M1 31 i = M 14 i) ∧ ∀ c, c < 29 ∨ 31 < c → M1 c = M c)
      intro M1 h1 h2 h3
      refine tw_iload k36_7 rfl ?_
      refine tw_aload k36_8 rfl ?_
      refine tw_geti k36_9 f12_2 rfl (v := ((n : Nat) : Int)) (by rw [h3 _ (by omega)]; exact hn) ?_
      refine tw_cgeF k36_12 (by omega) ?_
      refine tw_aload k36_15 rfl ?_
      refine tw_aload k36_16 rfl ?_
      refine tw_getr k36_17 f12_0 ?_
      refine tw_iload k36_20 rfl ?_
      refine tw_iald (j := i) (v := (M 13 i)) k36_21 al13 rfl (by omega) (by rw [h3 _ (by omega)]) ?_
      refine tw_aload k36_22 rfl ?_
      refine tw_getr k36_23 f12_1 ?_
      refine tw_iload k36_26 rfl ?_
      refine tw_iald (j := i) (v := (M 14 i)) k36_27 al14 rfl (by omega) (by rw [h3 _ (by omega)]) ?_
      refine tw_call (by omega) (S' := []) (as := [.inr (.inr (.inl 29)), .inl (M 13 i), .inl (M 14 i)]) k36_28 (x_34_29 (M := M1) (N := N) i h1 (by omega) (M 13 i) (M 14 i)) rfl rfl rfl rfl rfl (fun r28 Z28 hq28 => ?_)
      rcases hq28 with ⟨_, rfl, rfl⟩ | ⟨hc, _, _⟩
      · refine tw_as (S := [.inl ((i + 1 : Nat) : Int)]) (M := (st M1 [(30, (pU (M1 30) i (M 13 i))), (31, (pU (M1 31) i (M 14 i))), (29, (pU (M1 29) 2 ((i + 1 : Nat) : Int)))])) (N := N) rfl rfl ?_
        refine tw_popi k36_31 ?_
        refine tw_iinc k36_32 rfl (v := ((i + 1 : Nat) : Int)) rfl (by omega) rfl (L' := [some (.inr (.inr (.inl 29))), some (.inr (.inr (.inl 12))), some (.inl ((i + 1 : Nat) : Int))]) rfl ?_
        refine tw_goto k36_35 ?_
        refine ih _ (show pU (M1 29) 2 ((i + 1 : Nat) : Int) 2 = ((i + 1 : Nat) : Int) from pU_eq) (fun k hk => ?_) (fun c hc => by rw [st_c, if_neg (by omega), st_c, if_neg (by omega), st_c, if_neg (by omega), st_nil]; exact h3 c hc)
        show pU (M1 30) i _ k = _ ∧ pU (M1 31) i _ k = _
        by_cases e : k = i
        · subst e; rw [pU_eq, pU_eq]; exact ⟨rfl, rfl⟩
        · rw [pU_ne e, pU_ne e]; exact h2 k (by omega)
      · exact absurd (show i < 8 by omega) hc
  refine tw_aload k36_0 rfl ?_
  refine tw_const k36_1 ?_
  refine tw_puti (M := M) (N := N) (l := []) (l' := [(29, (pU (M 29) 2 (0 : Int)))]) k36_2 f29_2 rfl ?_
  refine tw_const k36_5 ?_
  refine tw_istore k36_6 rfl (L' := [some (.inr (.inr (.inl 29))), some (.inr (.inr (.inl 12))), some (.inl (0 : Int))]) rfl ?_
  exact key 0 (by omega) _ (show pU (M 29) 2 (0 : Int) 2 = ((0 : Nat) : Int) from pU_eq) (fun k hk => by omega) (fun c hc => by rw [st_c, if_neg (by omega), st_nil])
theorem x_36_32_15 {K : mj_C} {d : Nat} {M : Nat → Nat → Int} {N : Nat → Nat → Int64} (hD : 1 ≤ d) (n : Nat) (hn : M 15 2 = (n : Int)) (hl : n ≤ 8) : mj_X K d 36 [.inr (.inr (.inl 32)), .inr (.inr (.inl 15))] (mj_Sh, M, N) (fun r Z => r = none ∧ ∃ M1, Z = (mj_Sh, M1, N) ∧ M1 32 2 = (n : Int) ∧ (∀ i, i < n → M1 33 i = M 16 i ∧ M1 34 i = M 17 i) ∧ ∀ c, c < 32 ∨ 34 < c → M1 c = M c) := by
  show mj_T K d 36 0 [some (.inr (.inr (.inl 32))), some (.inr (.inr (.inl 15))), none] [] (mj_Sh, M, N) _
  have key : ∀ i : Nat, i ≤ n → ∀ M1 : Nat → Nat → Int, M1 32 2 = ((i : Nat) : Int) → (∀ k, k < i → M1 33 k = M 16 k ∧ M1 34 k = M 17 k) → (∀ c, c < 32 ∨ 34 < c → M1 c = M c) → mj_T K d 36 7 [some (.inr (.inr (.inl 32))), some (.inr (.inr (.inl 15))), some (.inl ((i : Nat) : Int))] [] (mj_Sh, M1, N) (fun r Z => r = none ∧ ∃ M1, Z = (mj_Sh, M1, N) ∧ M1 32 2 = (n : Int) ∧ (∀ i, i < n → M1 33 i = M 16 i ∧ M1 34 i = M 17 i) ∧ ∀ c, c < 32 ∨ 34 < c → M1 c = M c) := by
    refine up_to n ?_ ?_
    · show ∀ M1 : Nat → Nat → Int, M1 32 2 = ((n : Nat) : Int) → (∀ k, k < n → M1 33 k = M 16 k ∧ M1 34 k = M 17 k) → (∀ c, c < 32 ∨ 34 < c → M1 c = M c) → mj_T K d 36 7 [some (.inr (.inr (.inl 32))), some (.inr (.inr (.inl 15))), some (.inl ((n : Nat) : Int))] [] (mj_Sh, M1, N) (fun r Z => r = none ∧ ∃ M1, Z = (mj_Sh, M1, N) ∧ M1 32 2 = (n : Int) ∧ (∀ i, i < n → M1 33 i = M 16 i ∧ M1 34 i = M 17 i) ∧ ∀ c, c < 32 ∨ 34 < c → M1 c = M c)
      intro M1 h1 h2 h3
      refine tw_iload k36_7 rfl ?_
      refine tw_aload k36_8 rfl ?_
      refine tw_geti k36_9 f15_2 rfl (v := ((n : Nat) : Int)) (by rw [h3 _ (by omega)]; exact hn) ?_
      refine tw_cgeT k36_12 (by omega) ?_
      exact tw_rv k36_38 (⟨rfl, M1, rfl, h1, h2, h3⟩)
    · intro i hmi ih
      have ih : ∀ M1 : Nat → Nat → Int, M1 32 2 = (((i + 1) : Nat) : Int) → (∀ k, k < (i + 1) → M1 33 k = M 16 k ∧ M1 34 k = M 17 k) → (∀ c, c < 32 ∨ 34 < c → M1 c = M c) → mj_T K d 36 7 [some (.inr (.inr (.inl 32))), some (.inr (.inr (.inl 15))), some (.inl (((i + 1) : Nat) : Int))] [] (mj_Sh, M1, N) (fun r Z => r = none ∧ ∃ M1, Z = (mj_Sh, M1, N) ∧ M1 32 2 = (n : Int) ∧ (∀ i, i < n → M1 33 i = M 16 i ∧ M1 34 i = M 17 i) ∧ ∀ c, c < 32 ∨ 34 < c → M1 c = M c) := ih
      show ∀ M1 : Nat → Nat → Int, M1 32 2 = ((i : Nat) : Int) → (∀ k, k < i → M1 33 k = M 16 k ∧ M1 34 k = M 17 k) → (∀ c, c < 32 ∨ 34 < c → M1 c = M c) → mj_T K d 36 7 [some (.inr (.inr (.inl 32))), some (.inr (.inr (.inl 15))), some (.inl ((i : Nat) : Int))] [] (mj_Sh, M1, N) (fun r Z => r = none ∧ ∃ M1, Z = (mj_Sh, M1, N) ∧ M1 32 2 = (n : Int) ∧ (∀ i, i < n → M1 33 i = M 16 i ∧ M1 34 i = M 17 i) ∧ ∀ c, c < 32 ∨ 34 < c → M1 c = M c)
      intro M1 h1 h2 h3
      refine tw_iload k36_7 rfl ?_
      refine tw_aload k36_8 rfl ?_
      refine tw_geti k36_9 f15_2 rfl (v := ((n : Nat) : Int)) (by rw [h3 _ (by omega)]; exact hn) ?_
      refine tw_cgeF k36_12 (by omega) ?_
      refine tw_aload k36_15 rfl ?_
      refine tw_aload k36_16 rfl ?_
      refine tw_getr k36_17 f15_0 ?_
      refine tw_iload k36_20 rfl ?_
      refine tw_iald (j := i) (v := (M 16 i)) k36_21 al16 rfl (by omega) (by rw [h3 _ (by omega)]) ?_
      refine tw_aload k36_22 rfl ?_
      refine tw_getr k36_23 f15_1 ?_
      refine tw_iload k36_26 rfl ?_
      refine tw_iald (j := i) (v := (M 17 i)) k36_27 al17 rfl (by omega) (by rw [h3 _ (by omega)]) ?_
      refine tw_call (by omega) (S' := []) (as := [.inr (.inr (.inl 32)), .inl (M 16 i), .inl (M 17 i)]) k36_28 (x_34_32 (M := M1) (N := N) i h1 (by omega) (M 16 i) (M 17 i)) rfl rfl rfl rfl rfl (fun r28 Z28 hq28 => ?_)
      rcases hq28 with ⟨_, rfl, rfl⟩ | ⟨hc, _, _⟩
      · refine tw_as (S := [.inl ((i + 1 : Nat) : Int)]) (M := (st M1 [(33, (pU (M1 33) i (M 16 i))), (34, (pU (M1 34) i (M 17 i))), (32, (pU (M1 32) 2 ((i + 1 : Nat) : Int)))])) (N := N) rfl rfl ?_
        refine tw_popi k36_31 ?_
        refine tw_iinc k36_32 rfl (v := ((i + 1 : Nat) : Int)) rfl (by omega) rfl (L' := [some (.inr (.inr (.inl 32))), some (.inr (.inr (.inl 15))), some (.inl ((i + 1 : Nat) : Int))]) rfl ?_
        refine tw_goto k36_35 ?_
        refine ih _ (show pU (M1 32) 2 ((i + 1 : Nat) : Int) 2 = ((i + 1 : Nat) : Int) from pU_eq) (fun k hk => ?_) (fun c hc => by rw [st_c, if_neg (by omega), st_c, if_neg (by omega), st_c, if_neg (by omega), st_nil]; exact h3 c hc)
        show pU (M1 33) i _ k = _ ∧ pU (M1 34) i _ k = _
        by_cases e : k = i
        · subst e; rw [pU_eq, pU_eq]; exact ⟨rfl, rfl⟩
        · rw [pU_ne e, pU_ne e]; exact h2 k (by omega)
      · exact absurd (show i < 8 by omega) hc
  refine tw_aload k36_0 rfl ?_
  refine tw_const k36_1 ?_
  refine tw_puti (M := M) (N := N) (l := []) (l' := [(32, (pU (M 32) 2 (0 : Int)))]) k36_2 f32_2 rfl ?_
  refine tw_const k36_5 ?_
  refine tw_istore k36_6 rfl (L' := [some (.inr (.inr (.inl 32))), some (.inr (.inr (.inl 15))), some (.inl (0 : Int))]) rfl ?_
  exact key 0 (by omega) _ (show pU (M 32) 2 (0 : Int) 2 = ((0 : Nat) : Int) from pU_eq) (fun k hk => by omega) (fun c hc => by rw [st_c, if_neg (by omega), st_nil])
theorem x_36_9_26 {K : mj_C} {d : Nat} {M : Nat → Nat → Int} {N : Nat → Nat → Int64} (hD : 1 ≤ d) (n : Nat) (hn : M 26 2 = (n : Int)) (hl : n ≤ 5) : mj_X K d 36 [.inr (.inr (.inl 9)), .inr (.inr (.inl 26))] (mj_Sh, M, N) (fun r Z => r = none ∧ ∃ M1, Z = (mj_Sh, M1, N) ∧ M1 9 2 = (n : Int) ∧ (∀ i, i < n → M1 10 i = M 27 i ∧ M1 11 i = M 28 i) ∧ ∀ c, c < 9 ∨ 11 < c → M1 c = M c) := by
  show mj_T K d 36 0 [some (.inr (.inr (.inl 9))), some (.inr (.inr (.inl 26))), none] [] (mj_Sh, M, N) _
  have key : ∀ i : Nat, i ≤ n → ∀ M1 : Nat → Nat → Int, M1 9 2 = ((i : Nat) : Int) → (∀ k, k < i → M1 10 k = M 27 k ∧ M1 11 k = M 28 k) → (∀ c, c < 9 ∨ 11 < c → M1 c = M c) → mj_T K d 36 7 [some (.inr (.inr (.inl 9))), some (.inr (.inr (.inl 26))), some (.inl ((i : Nat) : Int))] [] (mj_Sh, M1, N) (fun r Z => r = none ∧ ∃ M1, Z = (mj_Sh, M1, N) ∧ M1 9 2 = (n : Int) ∧ (∀ i, i < n → M1 10 i = M 27 i ∧ M1 11 i = M 28 i) ∧ ∀ c, c < 9 ∨ 11 < c → M1 c = M c) := by
    refine up_to n ?_ ?_
    · show ∀ M1 : Nat → Nat → Int, M1 9 2 = ((n : Nat) : Int) → (∀ k, k < n → M1 10 k = M 27 k ∧ M1 11 k = M 28 k) → (∀ c, c < 9 ∨ 11 < c → M1 c = M c) → mj_T K d 36 7 [some (.inr (.inr (.inl 9))), some (.inr (.inr (.inl 26))), some (.inl ((n : Nat) : Int))] [] (mj_Sh, M1, N) (fun r Z => r = none ∧ ∃ M1, Z = (mj_Sh, M1, N) ∧ M1 9 2 = (n : Int) ∧ (∀ i, i < n → M1 10 i = M 27 i ∧ M1 11 i = M 28 i) ∧ ∀ c, c < 9 ∨ 11 < c → M1 c = M c)
      intro M1 h1 h2 h3
      refine tw_iload k36_7 rfl ?_
      refine tw_aload k36_8 rfl ?_
      refine tw_geti k36_9 f26_2 rfl (v := ((n : Nat) : Int)) (by rw [h3 _ (by omega)]; exact hn) ?_
      refine tw_cgeT k36_12 (by omega) ?_
      exact tw_rv k36_38 (⟨rfl, M1, rfl, h1, h2, h3⟩)
    · intro i hmi ih
      have ih : ∀ M1 : Nat → Nat → Int, M1 9 2 = (((i + 1) : Nat) : Int) → (∀ k, k < (i + 1) → M1 10 k = M 27 k ∧ M1 11 k = M 28 k) → (∀ c, c < 9 ∨ 11 < c → M1 c = M c) → mj_T K d 36 7 [some (.inr (.inr (.inl 9))), some (.inr (.inr (.inl 26))), some (.inl (((i + 1) : Nat) : Int))] [] (mj_Sh, M1, N) (fun r Z => r = none ∧ ∃ M1, Z = (mj_Sh, M1, N) ∧ M1 9 2 = (n : Int) ∧ (∀ i, i < n → M1 10 i = M 27 i ∧ M1 11 i = M 28 i) ∧ ∀ c, c < 9 ∨ 11 < c → M1 c = M c) := ih
      show ∀ M1 : Nat → Nat → Int, M1 9 2 = ((i : Nat) : Int) → (∀ k, k < i → M1 10 k = M 27 k ∧ M1 11 k = M 28 k) → (∀ c, c < 9 ∨ 11 < c → M1 c = M c) → mj_T K d 36 7 [some (.inr (.inr (.inl 9))), some (.inr (.inr (.inl 26))), some (.inl ((i : Nat) : Int))] [] (mj_Sh, M1, N) (fun r Z => r = none ∧ ∃ M1, Z = (mj_Sh, M1, N) ∧ M1 9 2 = (n : Int) ∧ (∀ i, i < n → M1 10 i = M 27 i ∧ M1 11 i = M 28 i) ∧ ∀ c, c < 9 ∨ 11 < c → M1 c = M c)
      intro M1 h1 h2 h3
      refine tw_iload k36_7 rfl ?_
      refine tw_aload k36_8 rfl ?_
      refine tw_geti k36_9 f26_2 rfl (v := ((n : Nat) : Int)) (by rw [h3 _ (by omega)]; exact hn) ?_
      refine tw_cgeF k36_12 (by omega) ?_
      refine tw_aload k36_15 rfl ?_
      refine tw_aload k36_16 rfl ?_
      refine tw_getr k36_17 f26_0 ?_
      refine tw_iload k36_20 rfl ?_
      refine tw_iald (j := i) (v := (M 27 i)) k36_21 al27 rfl (by omega) (by rw [h3 _ (by omega)]) ?_
      refine tw_aload k36_22 rfl ?_
      refine tw_getr k36_23 f26_1 ?_
      refine tw_iload k36_26 rfl ?_
      refine tw_iald (j := i) (v := (M 28 i)) k36_27 al28 rfl (by omega) (by rw [h3 _ (by omega)]) ?_
      refine tw_call (by omega) (S' := []) (as := [.inr (.inr (.inl 9)), .inl (M 27 i), .inl (M 28 i)]) k36_28 (x_34_9 (M := M1) (N := N) i h1 (by omega) (M 27 i) (M 28 i)) rfl rfl rfl rfl rfl (fun r28 Z28 hq28 => ?_)
      rcases hq28 with ⟨_, rfl, rfl⟩ | ⟨hc, _, _⟩
      · refine tw_as (S := [.inl ((i + 1 : Nat) : Int)]) (M := (st M1 [(10, (pU (M1 10) i (M 27 i))), (11, (pU (M1 11) i (M 28 i))), (9, (pU (M1 9) 2 ((i + 1 : Nat) : Int)))])) (N := N) rfl rfl ?_
        refine tw_popi k36_31 ?_
        refine tw_iinc k36_32 rfl (v := ((i + 1 : Nat) : Int)) rfl (by omega) rfl (L' := [some (.inr (.inr (.inl 9))), some (.inr (.inr (.inl 26))), some (.inl ((i + 1 : Nat) : Int))]) rfl ?_
        refine tw_goto k36_35 ?_
        refine ih _ (show pU (M1 9) 2 ((i + 1 : Nat) : Int) 2 = ((i + 1 : Nat) : Int) from pU_eq) (fun k hk => ?_) (fun c hc => by rw [st_c, if_neg (by omega), st_c, if_neg (by omega), st_c, if_neg (by omega), st_nil]; exact h3 c hc)
        show pU (M1 10) i _ k = _ ∧ pU (M1 11) i _ k = _
        by_cases e : k = i
        · subst e; rw [pU_eq, pU_eq]; exact ⟨rfl, rfl⟩
        · rw [pU_ne e, pU_ne e]; exact h2 k (by omega)
      · exact absurd (show i < 5 by omega) hc
  refine tw_aload k36_0 rfl ?_
  refine tw_const k36_1 ?_
  refine tw_puti (M := M) (N := N) (l := []) (l' := [(9, (pU (M 9) 2 (0 : Int)))]) k36_2 f9_2 rfl ?_
  refine tw_const k36_5 ?_
  refine tw_istore k36_6 rfl (L' := [some (.inr (.inr (.inl 9))), some (.inr (.inr (.inl 26))), some (.inl (0 : Int))]) rfl ?_
  exact key 0 (by omega) _ (show pU (M 9) 2 (0 : Int) 2 = ((0 : Nat) : Int) from pU_eq) (fun k hk => by omega) (fun c hc => by rw [st_c, if_neg (by omega), st_nil])
theorem x_36_12_29 {K : mj_C} {d : Nat} {M : Nat → Nat → Int} {N : Nat → Nat → Int64} (hD : 1 ≤ d) (n : Nat) (hn : M 29 2 = (n : Int)) (hl : n ≤ 8) : mj_X K d 36 [.inr (.inr (.inl 12)), .inr (.inr (.inl 29))] (mj_Sh, M, N) (fun r Z => r = none ∧ ∃ M1, Z = (mj_Sh, M1, N) ∧ M1 12 2 = (n : Int) ∧ (∀ i, i < n → M1 13 i = M 30 i ∧ M1 14 i = M 31 i) ∧ ∀ c, c < 12 ∨ 14 < c → M1 c = M c) := by
  show mj_T K d 36 0 [some (.inr (.inr (.inl 12))), some (.inr (.inr (.inl 29))), none] [] (mj_Sh, M, N) _
  have key : ∀ i : Nat, i ≤ n → ∀ M1 : Nat → Nat → Int, M1 12 2 = ((i : Nat) : Int) → (∀ k, k < i → M1 13 k = M 30 k ∧ M1 14 k = M 31 k) → (∀ c, c < 12 ∨ 14 < c → M1 c = M c) → mj_T K d 36 7 [some (.inr (.inr (.inl 12))), some (.inr (.inr (.inl 29))), some (.inl ((i : Nat) : Int))] [] (mj_Sh, M1, N) (fun r Z => r = none ∧ ∃ M1, Z = (mj_Sh, M1, N) ∧ M1 12 2 = (n : Int) ∧ (∀ i, i < n → M1 13 i = M 30 i ∧ M1 14 i = M 31 i) ∧ ∀ c, c < 12 ∨ 14 < c → M1 c = M c) := by
    refine up_to n ?_ ?_
    · show ∀ M1 : Nat → Nat → Int, M1 12 2 = ((n : Nat) : Int) → (∀ k, k < n → M1 13 k = M 30 k ∧ M1 14 k = M 31 k) → (∀ c, c < 12 ∨ 14 < c → M1 c = M c) → mj_T K d 36 7 [some (.inr (.inr (.inl 12))), some (.inr (.inr (.inl 29))), some (.inl ((n : Nat) : Int))] [] (mj_Sh, M1, N) (fun r Z => r = none ∧ ∃ M1, Z = (mj_Sh, M1, N) ∧ M1 12 2 = (n : Int) ∧ (∀ i, i < n → M1 13 i = M 30 i ∧ M1 14 i = M 31 i) ∧ ∀ c, c < 12 ∨ 14 < c → M1 c = M c)
      intro M1 h1 h2 h3
      refine tw_iload k36_7 rfl ?_
      refine tw_aload k36_8 rfl ?_
      refine tw_geti k36_9 f29_2 rfl (v := ((n : Nat) : Int)) (by rw [h3 _ (by omega)]; exact hn) ?_
      refine tw_cgeT k36_12 (by omega) ?_
      exact tw_rv k36_38 (⟨rfl, M1, rfl, h1, h2, h3⟩)
    · intro i hmi ih
      have ih : ∀ M1 : Nat → Nat → Int, M1 12 2 = (((i + 1) : Nat) : Int) → (∀ k, k < (i + 1) → M1 13 k = M 30 k ∧ M1 14 k = M 31 k) → (∀ c, c < 12 ∨ 14 < c → M1 c = M c) → mj_T K d 36 7 [some (.inr (.inr (.inl 12))), some (.inr (.inr (.inl 29))), some (.inl (((i + 1) : Nat) : Int))] [] (mj_Sh, M1, N) (fun r Z => r = none ∧ ∃ M1, Z = (mj_Sh, M1, N) ∧ M1 12 2 = (n : Int) ∧ (∀ i, i < n → M1 13 i = M 30 i ∧ M1 14 i = M 31 i) ∧ ∀ c, c < 12 ∨ 14 < c → M1 c = M c) := ih
      show ∀ M1 : Nat → Nat → Int, M1 12 2 = ((i : Nat) : Int) → (∀ k, k < i → M1 13 k = M 30 k ∧ M1 14 k = M 31 k) → (∀ c, c < 12 ∨ 14 < c → M1 c = M c) → mj_T K d 36 7 [some (.inr (.inr (.inl 12))), some (.inr (.inr (.inl 29))), some (.inl ((i : Nat) : Int))] [] (mj_Sh, M1, N) (fun r Z => r = none ∧ ∃ M1, Z = (mj_Sh, M1, N) ∧ M1 12 2 = (n : Int) ∧ (∀ i, i < n → M1 13 i = M 30 i ∧ M1 14 i = M 31 i) ∧ ∀ c, c < 12 ∨ 14 < c → M1 c = M c)
      intro M1 h1 h2 h3
      refine tw_iload k36_7 rfl ?_
      refine tw_aload k36_8 rfl ?_
      refine tw_geti k36_9 f29_2 rfl (v := ((n : Nat) : Int)) (by rw [h3 _ (by omega)]; exact hn) ?_
      refine tw_cgeF k36_12 (by omega) ?_
      refine tw_aload k36_15 rfl ?_
      refine tw_aload k36_16 rfl ?_
      refine tw_getr k36_17 f29_0 ?_
      refine tw_iload k36_20 rfl ?_
      refine tw_iald (j := i) (v := (M 30 i)) k36_21 al30 rfl (by omega) (by rw [h3 _ (by omega)]) ?_
      refine tw_aload k36_22 rfl ?_
      refine tw_getr k36_23 f29_1 ?_
      refine tw_iload k36_26 rfl ?_
      refine tw_iald (j := i) (v := (M 31 i)) k36_27 al31 rfl (by omega) (by rw [h3 _ (by omega)]) ?_
      refine tw_call (by omega) (S' := []) (as := [.inr (.inr (.inl 12)), .inl (M 30 i), .inl (M 31 i)]) k36_28 (x_34_12 (M := M1) (N := N) i h1 (by omega) (M 30 i) (M 31 i)) rfl rfl rfl rfl rfl (fun r28 Z28 hq28 => ?_)
      rcases hq28 with ⟨_, rfl, rfl⟩ | ⟨hc, _, _⟩
      · refine tw_as (S := [.inl ((i + 1 : Nat) : Int)]) (M := (st M1 [(13, (pU (M1 13) i (M 30 i))), (14, (pU (M1 14) i (M 31 i))), (12, (pU (M1 12) 2 ((i + 1 : Nat) : Int)))])) (N := N) rfl rfl ?_
        refine tw_popi k36_31 ?_
        refine tw_iinc k36_32 rfl (v := ((i + 1 : Nat) : Int)) rfl (by omega) rfl (L' := [some (.inr (.inr (.inl 12))), some (.inr (.inr (.inl 29))), some (.inl ((i + 1 : Nat) : Int))]) rfl ?_
        refine tw_goto k36_35 ?_
        refine ih _ (show pU (M1 12) 2 ((i + 1 : Nat) : Int) 2 = ((i + 1 : Nat) : Int) from pU_eq) (fun k hk => ?_) (fun c hc => by rw [st_c, if_neg (by omega), st_c, if_neg (by omega), st_c, if_neg (by omega), st_nil]; exact h3 c hc)
        show pU (M1 13) i _ k = _ ∧ pU (M1 14) i _ k = _
        by_cases e : k = i
        · subst e; rw [pU_eq, pU_eq]; exact ⟨rfl, rfl⟩
        · rw [pU_ne e, pU_ne e]; exact h2 k (by omega)
      · exact absurd (show i < 8 by omega) hc
  refine tw_aload k36_0 rfl ?_
  refine tw_const k36_1 ?_
  refine tw_puti (M := M) (N := N) (l := []) (l' := [(12, (pU (M 12) 2 (0 : Int)))]) k36_2 f12_2 rfl ?_
  refine tw_const k36_5 ?_
  refine tw_istore k36_6 rfl (L' := [some (.inr (.inr (.inl 12))), some (.inr (.inr (.inl 29))), some (.inl (0 : Int))]) rfl ?_
  exact key 0 (by omega) _ (show pU (M 12) 2 (0 : Int) 2 = ((0 : Nat) : Int) from pU_eq) (fun k hk => by omega) (fun c hc => by rw [st_c, if_neg (by omega), st_nil])
theorem x_36_15_32 {K : mj_C} {d : Nat} {M : Nat → Nat → Int} {N : Nat → Nat → Int64} (hD : 1 ≤ d) (n : Nat) (hn : M 32 2 = (n : Int)) (hl : n ≤ 8) : mj_X K d 36 [.inr (.inr (.inl 15)), .inr (.inr (.inl 32))] (mj_Sh, M, N) (fun r Z => r = none ∧ ∃ M1, Z = (mj_Sh, M1, N) ∧ M1 15 2 = (n : Int) ∧ (∀ i, i < n → M1 16 i = M 33 i ∧ M1 17 i = M 34 i) ∧ ∀ c, c < 15 ∨ 17 < c → M1 c = M c) := by
  show mj_T K d 36 0 [some (.inr (.inr (.inl 15))), some (.inr (.inr (.inl 32))), none] [] (mj_Sh, M, N) _
  have key : ∀ i : Nat, i ≤ n → ∀ M1 : Nat → Nat → Int, M1 15 2 = ((i : Nat) : Int) → (∀ k, k < i → M1 16 k = M 33 k ∧ M1 17 k = M 34 k) → (∀ c, c < 15 ∨ 17 < c → M1 c = M c) → mj_T K d 36 7 [some (.inr (.inr (.inl 15))), some (.inr (.inr (.inl 32))), some (.inl ((i : Nat) : Int))] [] (mj_Sh, M1, N) (fun r Z => r = none ∧ ∃ M1, Z = (mj_Sh, M1, N) ∧ M1 15 2 = (n : Int) ∧ (∀ i, i < n → M1 16 i = M 33 i ∧ M1 17 i = M 34 i) ∧ ∀ c, c < 15 ∨ 17 < c → M1 c = M c) := by
    refine up_to n ?_ ?_
    · show ∀ M1 : Nat → Nat → Int, M1 15 2 = ((n : Nat) : Int) → (∀ k, k < n → M1 16 k = M 33 k ∧ M1 17 k = M 34 k) → (∀ c, c < 15 ∨ 17 < c → M1 c = M c) → mj_T K d 36 7 [some (.inr (.inr (.inl 15))), some (.inr (.inr (.inl 32))), some (.inl ((n : Nat) : Int))] [] (mj_Sh, M1, N) (fun r Z => r = none ∧ ∃ M1, Z = (mj_Sh, M1, N) ∧ M1 15 2 = (n : Int) ∧ (∀ i, i < n → M1 16 i = M 33 i ∧ M1 17 i = M 34 i) ∧ ∀ c, c < 15 ∨ 17 < c → M1 c = M c)
      intro M1 h1 h2 h3
      refine tw_iload k36_7 rfl ?_
      refine tw_aload k36_8 rfl ?_
      refine tw_geti k36_9 f32_2 rfl (v := ((n : Nat) : Int)) (by rw [h3 _ (by omega)]; exact hn) ?_
      refine tw_cgeT k36_12 (by omega) ?_
      exact tw_rv k36_38 (⟨rfl, M1, rfl, h1, h2, h3⟩)
    · intro i hmi ih
      have ih : ∀ M1 : Nat → Nat → Int, M1 15 2 = (((i + 1) : Nat) : Int) → (∀ k, k < (i + 1) → M1 16 k = M 33 k ∧ M1 17 k = M 34 k) → (∀ c, c < 15 ∨ 17 < c → M1 c = M c) → mj_T K d 36 7 [some (.inr (.inr (.inl 15))), some (.inr (.inr (.inl 32))), some (.inl (((i + 1) : Nat) : Int))] [] (mj_Sh, M1, N) (fun r Z => r = none ∧ ∃ M1, Z = (mj_Sh, M1, N) ∧ M1 15 2 = (n : Int) ∧ (∀ i, i < n → M1 16 i = M 33 i ∧ M1 17 i = M 34 i) ∧ ∀ c, c < 15 ∨ 17 < c → M1 c = M c) := ih
      show ∀ M1 : Nat → Nat → Int, M1 15 2 = ((i : Nat) : Int) → (∀ k, k < i → M1 16 k = M 33 k ∧ M1 17 k = M 34 k) → (∀ c, c < 15 ∨ 17 < c → M1 c = M c) → mj_T K d 36 7 [some (.inr (.inr (.inl 15))), some (.inr (.inr (.inl 32))), some (.inl ((i : Nat) : Int))] [] (mj_Sh, M1, N) (fun r Z => r = none ∧ ∃ M1, Z = (mj_Sh, M1, N) ∧ M1 15 2 = (n : Int) ∧ (∀ i, i < n → M1 16 i = M 33 i ∧ M1 17 i = M 34 i) ∧ ∀ c, c < 15 ∨ 17 < c → M1 c = M c)
      intro M1 h1 h2 h3
      refine tw_iload k36_7 rfl ?_
      refine tw_aload k36_8 rfl ?_
      refine tw_geti k36_9 f32_2 rfl (v := ((n : Nat) : Int)) (by rw [h3 _ (by omega)]; exact hn) ?_
      refine tw_cgeF k36_12 (by omega) ?_
      refine tw_aload k36_15 rfl ?_
      refine tw_aload k36_16 rfl ?_
      refine tw_getr k36_17 f32_0 ?_
      refine tw_iload k36_20 rfl ?_
      refine tw_iald (j := i) (v := (M 33 i)) k36_21 al33 rfl (by omega) (by rw [h3 _ (by omega)]) ?_
      refine tw_aload k36_22 rfl ?_
      refine tw_getr k36_23 f32_1 ?_
      refine tw_iload k36_26 rfl ?_
      refine tw_iald (j := i) (v := (M 34 i)) k36_27 al34 rfl (by omega) (by rw [h3 _ (by omega)]) ?_
      refine tw_call (by omega) (S' := []) (as := [.inr (.inr (.inl 15)), .inl (M 33 i), .inl (M 34 i)]) k36_28 (x_34_15 (M := M1) (N := N) i h1 (by omega) (M 33 i) (M 34 i)) rfl rfl rfl rfl rfl (fun r28 Z28 hq28 => ?_)
      rcases hq28 with ⟨_, rfl, rfl⟩ | ⟨hc, _, _⟩
      · refine tw_as (S := [.inl ((i + 1 : Nat) : Int)]) (M := (st M1 [(16, (pU (M1 16) i (M 33 i))), (17, (pU (M1 17) i (M 34 i))), (15, (pU (M1 15) 2 ((i + 1 : Nat) : Int)))])) (N := N) rfl rfl ?_
        refine tw_popi k36_31 ?_
        refine tw_iinc k36_32 rfl (v := ((i + 1 : Nat) : Int)) rfl (by omega) rfl (L' := [some (.inr (.inr (.inl 15))), some (.inr (.inr (.inl 32))), some (.inl ((i + 1 : Nat) : Int))]) rfl ?_
        refine tw_goto k36_35 ?_
        refine ih _ (show pU (M1 15) 2 ((i + 1 : Nat) : Int) 2 = ((i + 1 : Nat) : Int) from pU_eq) (fun k hk => ?_) (fun c hc => by rw [st_c, if_neg (by omega), st_c, if_neg (by omega), st_c, if_neg (by omega), st_nil]; exact h3 c hc)
        show pU (M1 16) i _ k = _ ∧ pU (M1 17) i _ k = _
        by_cases e : k = i
        · subst e; rw [pU_eq, pU_eq]; exact ⟨rfl, rfl⟩
        · rw [pU_ne e, pU_ne e]; exact h2 k (by omega)
      · exact absurd (show i < 8 by omega) hc
  refine tw_aload k36_0 rfl ?_
  refine tw_const k36_1 ?_
  refine tw_puti (M := M) (N := N) (l := []) (l' := [(15, (pU (M 15) 2 (0 : Int)))]) k36_2 f15_2 rfl ?_
  refine tw_const k36_5 ?_
  refine tw_istore k36_6 rfl (L' := [some (.inr (.inr (.inl 15))), some (.inr (.inr (.inl 32))), some (.inl (0 : Int))]) rfl ?_
  exact key 0 (by omega) _ (show pU (M 15) 2 (0 : Int) 2 = ((0 : Nat) : Int) from pU_eq) (fun k hk => by omega) (fun c hc => by rw [st_c, if_neg (by omega), st_nil])
theorem x_62_18 {K : mj_C} {d : Nat} {M : Nat → Nat → Int} {N : Nat → Nat → Int64} (hD : 2 ≤ d) (s : Nat → Int) (hV : pVI s) (hX : stV 1 M s) : mj_X K d 62 [.inr (.inr (.inl 18)), .inr (.inr (.inl 1))] (mj_Sh, M, N) (fun r Z => r = none ∧ ∃ M1, Z = (mj_Sh, M1, N) ∧ stV 18 M1 s ∧ ∀ c, c < 19 ∨ 34 < c → M1 c = M c) := by
  show mj_T K d 62 0 [some (.inr (.inr (.inl 18))), some (.inr (.inr (.inl 1)))] [] (mj_Sh, M, N) _
  obtain ⟨hS, hse, hev, hbo⟩ := hX
  have l1 := hV.2.2.1
  have l2 := hV.2.2.2.1
  have l3 := hV.2.2.2.2
  have l11 := l1.1
  have l12 := l1.2.1
  have l21 := l2.1
  have l22 := l2.2.1
  have l31 := l3.1
  have l32 := l3.2.1
  obtain ⟨n3, hn3⟩ : ∃ n : Nat, s 46 = (n : Int) := ⟨(s 46).toNat, by omega⟩
  obtain ⟨n4, hn4⟩ : ∃ n : Nat, s 57 = (n : Int) := ⟨(s 57).toNat, by omega⟩
  obtain ⟨n5, hn5⟩ : ∃ n : Nat, s 74 = (n : Int) := ⟨(s 74).toNat, by omega⟩
  refine tw_aload k62_0 rfl ?_
  refine tw_getr k62_1 f18_0 ?_
  refine tw_aload k62_4 rfl ?_
  refine tw_getr k62_5 f1_0 ?_
  refine tw_call (by omega) (S' := []) (as := [.inr (.inr (.inl 19)), .inr (.inr (.inl 2))]) k62_8 (x_57_19_2 (M := M) (N := N) s hS) rfl rfl rfl rfl rfl (fun r8 Z8 hq8 => ?_)
  obtain ⟨rfl, M2, rfl, hc2, g2⟩ := hq8
  refine tw_as (S := []) (M := M2) (N := N) rfl rfl ?_
  refine tw_aload k62_11 rfl ?_
  refine tw_getr k62_12 f18_1 ?_
  refine tw_aload k62_15 rfl ?_
  refine tw_getr k62_16 f1_1 ?_
  refine tw_call (by omega) (S' := []) (as := [.inr (.inr (.inl 26)), .inr (.inr (.inl 9))]) k62_19 (x_36_26_9 (M := M2) (N := N) (by omega) n3 (by rw [g2 _ (by omega)]; exact hse.1.trans (by omega)) (by omega)) rfl rfl rfl rfl rfl (fun r19 Z19 hq19 => ?_)
  obtain ⟨rfl, M3, rfl, z3, v3, g3⟩ := hq19
  refine tw_as (S := []) (M := M3) (N := N) rfl rfl ?_
  refine tw_aload k62_22 rfl ?_
  refine tw_getr k62_23 f18_2 ?_
  refine tw_aload k62_26 rfl ?_
  refine tw_getr k62_27 f1_2 ?_
  refine tw_call (by omega) (S' := []) (as := [.inr (.inr (.inl 29)), .inr (.inr (.inl 12))]) k62_30 (x_36_29_12 (M := M3) (N := N) (by omega) n4 (by rw [g3 _ (by omega)]; rw [g2 _ (by omega)]; exact hev.1.trans (by omega)) (by omega)) rfl rfl rfl rfl rfl (fun r30 Z30 hq30 => ?_)
  obtain ⟨rfl, M4, rfl, z4, v4, g4⟩ := hq30
  refine tw_as (S := []) (M := M4) (N := N) rfl rfl ?_
  refine tw_aload k62_33 rfl ?_
  refine tw_getr k62_34 f18_3 ?_
  refine tw_aload k62_37 rfl ?_
  refine tw_getr k62_38 f1_3 ?_
  refine tw_call (by omega) (S' := []) (as := [.inr (.inr (.inl 32)), .inr (.inr (.inl 15))]) k62_41 (x_36_32_15 (M := M4) (N := N) (by omega) n5 (by rw [g4 _ (by omega)]; rw [g3 _ (by omega)]; rw [g2 _ (by omega)]; exact hbo.1.trans (by omega)) (by omega)) rfl rfl rfl rfl rfl (fun r41 Z41 hq41 => ?_)
  obtain ⟨rfl, M5, rfl, z5, v5, g5⟩ := hq41
  refine tw_as (S := []) (M := M5) (N := N) rfl rfl ?_
  exact tw_rv k62_44 (⟨rfl, M5, rfl, ⟨cSV_fr hc2 (fun c _ _ => by rw [g5 c (by omega), g4 c (by omega), g3 c (by omega)]), ⟨by rw [g5 _ (by omega), g4 _ (by omega)]; exact z3.trans (by omega), fun i hi => ⟨by rw [g5 _ (by omega), g4 _ (by omega)]; rw [(v3 i (by omega)).1]; rw [g2 _ (by omega)]; exact (hse.2 i hi).1, by rw [g5 _ (by omega), g4 _ (by omega)]; rw [(v3 i (by omega)).2]; rw [g2 _ (by omega)]; exact (hse.2 i hi).2⟩⟩, ⟨by rw [g5 _ (by omega)]; exact z4.trans (by omega), fun i hi => ⟨by rw [g5 _ (by omega)]; rw [(v4 i (by omega)).1]; rw [g3 _ (by omega), g2 _ (by omega)]; exact (hev.2 i hi).1, by rw [g5 _ (by omega)]; rw [(v4 i (by omega)).2]; rw [g3 _ (by omega), g2 _ (by omega)]; exact (hev.2 i hi).2⟩⟩, ⟨by exact z5.trans (by omega), fun i hi => ⟨by rw [(v5 i (by omega)).1]; rw [g4 _ (by omega), g3 _ (by omega), g2 _ (by omega)]; exact (hbo.2 i hi).1, by rw [(v5 i (by omega)).2]; rw [g4 _ (by omega), g3 _ (by omega), g2 _ (by omega)]; exact (hbo.2 i hi).2⟩⟩⟩, fun c hc => by rw [g5 c (by omega), g4 c (by omega), g3 c (by omega), g2 c (by omega)]⟩)
theorem x_62_1 {K : mj_C} {d : Nat} {M : Nat → Nat → Int} {N : Nat → Nat → Int64} (hD : 2 ≤ d) (s : Nat → Int) (hV : pVI s) (hX : stV 18 M s) : mj_X K d 62 [.inr (.inr (.inl 1)), .inr (.inr (.inl 18))] (mj_Sh, M, N) (fun r Z => r = none ∧ ∃ M1, Z = (mj_Sh, M1, N) ∧ stV 1 M1 s ∧ ∀ c, c < 2 ∨ 17 < c → M1 c = M c) := by
  show mj_T K d 62 0 [some (.inr (.inr (.inl 1))), some (.inr (.inr (.inl 18)))] [] (mj_Sh, M, N) _
  obtain ⟨hS, hse, hev, hbo⟩ := hX
  have l1 := hV.2.2.1
  have l2 := hV.2.2.2.1
  have l3 := hV.2.2.2.2
  have l11 := l1.1
  have l12 := l1.2.1
  have l21 := l2.1
  have l22 := l2.2.1
  have l31 := l3.1
  have l32 := l3.2.1
  obtain ⟨n3, hn3⟩ : ∃ n : Nat, s 46 = (n : Int) := ⟨(s 46).toNat, by omega⟩
  obtain ⟨n4, hn4⟩ : ∃ n : Nat, s 57 = (n : Int) := ⟨(s 57).toNat, by omega⟩
  obtain ⟨n5, hn5⟩ : ∃ n : Nat, s 74 = (n : Int) := ⟨(s 74).toNat, by omega⟩
  refine tw_aload k62_0 rfl ?_
  refine tw_getr k62_1 f1_0 ?_
  refine tw_aload k62_4 rfl ?_
  refine tw_getr k62_5 f18_0 ?_
  refine tw_call (by omega) (S' := []) (as := [.inr (.inr (.inl 2)), .inr (.inr (.inl 19))]) k62_8 (x_57_2_19 (M := M) (N := N) s hS) rfl rfl rfl rfl rfl (fun r8 Z8 hq8 => ?_)
  obtain ⟨rfl, M2, rfl, hc2, g2⟩ := hq8
  refine tw_as (S := []) (M := M2) (N := N) rfl rfl ?_
  refine tw_aload k62_11 rfl ?_
  refine tw_getr k62_12 f1_1 ?_
  refine tw_aload k62_15 rfl ?_
  refine tw_getr k62_16 f18_1 ?_
  refine tw_call (by omega) (S' := []) (as := [.inr (.inr (.inl 9)), .inr (.inr (.inl 26))]) k62_19 (x_36_9_26 (M := M2) (N := N) (by omega) n3 (by rw [g2 _ (by omega)]; exact hse.1.trans (by omega)) (by omega)) rfl rfl rfl rfl rfl (fun r19 Z19 hq19 => ?_)
  obtain ⟨rfl, M3, rfl, z3, v3, g3⟩ := hq19
  refine tw_as (S := []) (M := M3) (N := N) rfl rfl ?_
  refine tw_aload k62_22 rfl ?_
  refine tw_getr k62_23 f1_2 ?_
  refine tw_aload k62_26 rfl ?_
  refine tw_getr k62_27 f18_2 ?_
  refine tw_call (by omega) (S' := []) (as := [.inr (.inr (.inl 12)), .inr (.inr (.inl 29))]) k62_30 (x_36_12_29 (M := M3) (N := N) (by omega) n4 (by rw [g3 _ (by omega)]; rw [g2 _ (by omega)]; exact hev.1.trans (by omega)) (by omega)) rfl rfl rfl rfl rfl (fun r30 Z30 hq30 => ?_)
  obtain ⟨rfl, M4, rfl, z4, v4, g4⟩ := hq30
  refine tw_as (S := []) (M := M4) (N := N) rfl rfl ?_
  refine tw_aload k62_33 rfl ?_
  refine tw_getr k62_34 f1_3 ?_
  refine tw_aload k62_37 rfl ?_
  refine tw_getr k62_38 f18_3 ?_
  refine tw_call (by omega) (S' := []) (as := [.inr (.inr (.inl 15)), .inr (.inr (.inl 32))]) k62_41 (x_36_15_32 (M := M4) (N := N) (by omega) n5 (by rw [g4 _ (by omega)]; rw [g3 _ (by omega)]; rw [g2 _ (by omega)]; exact hbo.1.trans (by omega)) (by omega)) rfl rfl rfl rfl rfl (fun r41 Z41 hq41 => ?_)
  obtain ⟨rfl, M5, rfl, z5, v5, g5⟩ := hq41
  refine tw_as (S := []) (M := M5) (N := N) rfl rfl ?_
  exact tw_rv k62_44 (⟨rfl, M5, rfl, ⟨cSV_fr hc2 (fun c _ _ => by rw [g5 c (by omega), g4 c (by omega), g3 c (by omega)]), ⟨by rw [g5 _ (by omega), g4 _ (by omega)]; exact z3.trans (by omega), fun i hi => ⟨by rw [g5 _ (by omega), g4 _ (by omega)]; rw [(v3 i (by omega)).1]; rw [g2 _ (by omega)]; exact (hse.2 i hi).1, by rw [g5 _ (by omega), g4 _ (by omega)]; rw [(v3 i (by omega)).2]; rw [g2 _ (by omega)]; exact (hse.2 i hi).2⟩⟩, ⟨by rw [g5 _ (by omega)]; exact z4.trans (by omega), fun i hi => ⟨by rw [g5 _ (by omega)]; rw [(v4 i (by omega)).1]; rw [g3 _ (by omega), g2 _ (by omega)]; exact (hev.2 i hi).1, by rw [g5 _ (by omega)]; rw [(v4 i (by omega)).2]; rw [g3 _ (by omega), g2 _ (by omega)]; exact (hev.2 i hi).2⟩⟩, ⟨by exact z5.trans (by omega), fun i hi => ⟨by rw [(v5 i (by omega)).1]; rw [g4 _ (by omega), g3 _ (by omega), g2 _ (by omega)]; exact (hbo.2 i hi).1, by rw [(v5 i (by omega)).2]; rw [g4 _ (by omega), g3 _ (by omega), g2 _ (by omega)]; exact (hbo.2 i hi).2⟩⟩⟩, fun c hc => by rw [g5 c (by omega), g4 c (by omega), g3 c (by omega), g2 c (by omega)]⟩)
