-- the class as a whole: what its cells hold; the plan fresh, the trial; what is told
def IC (s im : Nat → Int) (kp : Int) (tx : Nat → Int) (ln : Int) (so it : Nat → Int) (ce : Nat → Int64) (M : Nat → Nat → Int) (N : Nat → Nat → Int64) : Prop := stV 1 M s ∧ M 0 2 = kp ∧ (kp = 1 → stV 18 M im) ∧ (M 0 4 = 0 ∨ M 0 4 = 1 ∧ cPV 35 M N s) ∧ ((∀ p, p ≤ 20 → M 38 p = 0) ∧ (∀ p, p ≤ 20 → M 72 p = 0) ∧ ∀ i j, j < i → i < 5 → M (56 + i) j = 0) ∧ (M 96 3 = ln ∧ ∀ i : Nat, (i : Int) < ln → M 97 i = tx i) ∧ tV M N so it ce
def VI (s im : Nat → Int) (kp : Int) (tx : Nat → Int) (ln : Int) (so it : Nat → Int) : Prop := pVI s ∧ (kp = 0 ∨ kp = 1 ∧ pVI im) ∧ (0 ≤ ln ∧ ln ≤ 100) ∧ (∀ i, i < 100 → 0 ≤ tx i ∧ tx i ≤ 127) ∧ tOk so it
def fr6 (M : Nat → Nat → Int) (N : Nat → Nat → Int64) (M1 : Nat → Nat → Int) (N1 : Nat → Nat → Int64) : Prop := ∀ c, 126 ≤ c → M1 c = M c ∧ N1 c = N c
theorem rV_fr {o c : Nat} {M M1 : Nat → Nat → Int} {s : Nat → Int} (h : rV o M s c) (hf : ∀ x, o ≤ x → x ≤ o + 2 → M1 x = M x) : rV o M1 s c :=
  ⟨by rw [hf o (by omega) (by omega)]; exact h.1, fun i hi => by rw [hf _ (by omega) (by omega), hf _ (by omega) (by omega)]; exact h.2 i hi⟩
theorem rV_cg {o c : Nat} {M : Nat → Nat → Int} {s s' : Nat → Int} (h : rV o M s c) (hc : 46 ≤ c) (hq : ∀ i, 46 ≤ i → s' i = s i) : rV o M s' c :=
  ⟨by rw [hq c hc]; exact h.1, fun i hi => by rw [hq c hc] at hi; rw [hq _ (by omega), hq _ (by omega)]; exact h.2 i hi⟩
theorem cSV_cg {o : Nat} {M : Nat → Nat → Int} {s s' : Nat → Int} (h : cSV o M s) (hq : sQ s s') : cSV o M s' := by
  obtain ⟨h1, h2, h3, h4, h5⟩ := h
  refine ⟨by rw [hq 0 (by omega)]; exact h1, by rw [hq 11 (by omega)]; exact h2, fun y hy => by rw [hq _ (by omega), hq _ (by omega)]; exact h3 y hy, fun m hm => by rw [hq _ (by omega), hq _ (by omega), hq _ (by omega)]; exact h4 m hm, fun i hi => by rw [hq _ (by omega)]; exact h5 i hi⟩
theorem stV_fr {q : Nat} {M M1 : Nat → Nat → Int} {s : Nat → Int} (h : stV q M s) (hf : ∀ c, q + 1 ≤ c → c ≤ q + 16 → M1 c = M c) : stV q M1 s :=
  ⟨cSV_fr h.1 (fun c _ _ => hf c (by omega) (by omega)), rV_fr h.2.1 (fun c _ _ => hf c (by omega) (by omega)), rV_fr h.2.2.1 (fun c _ _ => hf c (by omega) (by omega)), rV_fr h.2.2.2 (fun c _ _ => hf c (by omega) (by omega))⟩
theorem rV_c9 {o c : Nat} {M : Nat → Nat → Int} {s s' : Nat → Int} (h : rV o M s c) (hq : ∀ i, i < 91 → s' i = s i) (hc : c < 91) (hm : ∀ i : Nat, (i : Int) < s c → c + 2 + 2 * i < 91) : rV o M s' c :=
  ⟨by rw [hq c hc]; exact h.1, fun i hi => by rw [hq c hc] at hi; have := hm i hi; rw [hq _ (by omega), hq _ (by omega)]; exact h.2 i hi⟩
theorem stV_c9 {q : Nat} {M : Nat → Nat → Int} {s s' : Nat → Int} (hV : pVI s) (h : stV q M s) (hq : ∀ i, i < 91 → s' i = s i) : stV q M s' := by
  have l1 := hV.2.2.1.2.1
  have l2 := hV.2.2.2.1.2.1
  have l3 := hV.2.2.2.2.2.1
  exact ⟨cSV_cg h.1 (fun i hi => hq i (by omega)), rV_c9 h.2.1 hq (by omega) (fun i hi => by omega), rV_c9 h.2.2.1 hq (by omega) (fun i hi => by omega), rV_c9 h.2.2.2 hq (by omega) (fun i hi => by omega)⟩
theorem tV_fr {M M1 : Nat → Nat → Int} {N N1 : Nat → Nat → Int64} {so it : Nat → Int} {ce : Nat → Int64} (h : tV M N so it ce) (hf : ∀ c, 114 ≤ c → c ≤ 125 → M1 c = M c ∧ N1 c = N c) : tV M1 N1 so it ce := fun t ht =>
  ⟨by rw [(hf _ (by omega) (by omega)).1]; exact (h t ht).1, by rw [(hf _ (by omega) (by omega)).1]; exact (h t ht).2.1, fun i hi => by rw [(hf _ (by omega) (by omega)).2]; exact (h t ht).2.2 i hi⟩
theorem cPV_fr {b : Nat} {M M1 : Nat → Nat → Int} {N N1 : Nat → Nat → Int64} {s : Nat → Int} (hs : pRg s) (h : cPV b M N s) (hf : ∀ c, b ≤ c → c ≤ b + 26 → M1 c = M c) (hN : N1 b = N b) : cPV b M1 N1 s := by
  obtain ⟨⟨p1, p2, p3, p4, p5, p6, p7, p8⟩, hu, hl, hd, hv, hn⟩ := h
  have h5 := hs.2.1
  have hb := hf b (by omega) (by omega)
  refine ⟨⟨by rw [hb]; exact p1, by rw [hb]; exact p2, by rw [hb]; exact p3, by rw [hb]; exact p4, by rw [hb]; exact p5, fun y hy => by rw [hf _ (by omega) (by omega), hf _ (by omega) (by omega)]; exact p6 y hy, by rw [hf (b + 9) (by omega) (by omega), hf (b + 10) (by omega) (by omega), hf (b + 11) (by omega) (by omega), hf (b + 12) (by omega) (by omega)]; exact p7, dM_fr hs p8 (fun c h1 h2 => hf c (by omega) (by omega))⟩,
    fun y hy => by rw [hf (b + 15) (by omega) (by omega), hf (b + 16) (by omega) (by omega), hf (b + 17) (by omega) (by omega)]; exact hu y hy, fun g hg => by rw [hf _ (by omega) (by omega)]; exact hl g hg, fun m hm => by rw [hf _ (by omega) (by omega)]; exact hd m hm, fun i j hij hj => by rw [hf _ (by omega) (by omega)]; exact hv i j hij hj, by rw [hN]; exact hn⟩
section
variable {s im : Nat → Int} {kp : Int} {tx : Nat → Int} {ln : Int} {so it : Nat → Int} {ce : Nat → Int64} {M M1 : Nat → Nat → Int} {N N1 : Nat → Nat → Int64}
theorem IC_fr (h : IC s im kp tx ln so it ce M N) (hf : ∀ c, 0 < c ∧ c ≤ 34 ∨ c = 96 ∨ c = 97 ∨ 113 ≤ c ∧ c ≤ 125 → M1 c = M c) (h2 : M1 0 2 = M 0 2) (hfr : M1 0 4 = 0 ∨ M1 0 4 = 1 ∧ cPV 35 M1 N1 s) (hz : (∀ p, p ≤ 20 → M1 38 p = 0) ∧ (∀ p, p ≤ 20 → M1 72 p = 0) ∧ ∀ i j, j < i → i < 5 → M1 (56 + i) j = 0) (hN : ∀ c, 113 ≤ c → c ≤ 125 → N1 c = N c) : IC s im kp tx ln so it ce M1 N1 := by
  obtain ⟨i1, i2, i3, i4, i5, i6, i7⟩ := h
  exact ⟨stV_fr i1 (fun c _ _ => hf c (by omega)), h2.trans i2, fun q => stV_fr (i3 q) (fun c _ _ => hf c (by omega)), hfr, hz, ⟨by rw [hf 96 (by omega)]; exact i6.1, fun i hi => by rw [hf 97 (by omega)]; exact i6.2 i hi⟩, tV_fr i7 (fun c _ _ => ⟨hf c (by omega), hN c (by omega) (by omega)⟩)⟩
theorem IC_s {s' : Nat → Int} (h : IC s im kp tx ln so it ce M N) (hS : cSV 2 M1 s') (hq : ∀ i, 46 ≤ i → s' i = s i) (hf : ∀ c, 8 < c → M1 c = M c) (h2 : M1 0 2 = M 0 2) (h4 : M1 0 4 = 0) : IC s' im kp tx ln so it ce M1 N := by
  obtain ⟨i1, i2, i3, i4, i5, i6, i7⟩ := h
  exact ⟨⟨hS, rV_cg (rV_fr i1.2.1 (fun c _ _ => hf c (by omega))) (by omega) hq, rV_cg (rV_fr i1.2.2.1 (fun c _ _ => hf c (by omega))) (by omega) hq, rV_cg (rV_fr i1.2.2.2 (fun c _ _ => hf c (by omega))) (by omega) hq⟩, h2.trans i2, fun q => stV_fr (i3 q) (fun c _ _ => hf c (by omega)), Or.inl h4, ⟨fun p hp => by rw [hf 38 (by omega)]; exact i5.1 p hp, fun p hp => by rw [hf 72 (by omega)]; exact i5.2.1 p hp, fun i j hij hi => by rw [hf _ (by omega)]; exact i5.2.2 i j hij hi⟩, ⟨by rw [hf 96 (by omega)]; exact i6.1, fun i hi => by rw [hf 97 (by omega)]; exact i6.2 i hi⟩, tV_fr i7 (fun c _ _ => ⟨hf c (by omega), rfl⟩)⟩
theorem IC_r {s' : Nat → Int} (hs : pRg s) (h : IC s im kp tx ln so it ce M N) (hq : sQ s s') (hse : rV 9 M1 s' 46) (hev : rV 12 M1 s' 57) (hbo : rV 15 M1 s' 74) (hf : ∀ c, c < 9 ∨ 17 < c → M1 c = M c) : IC s' im kp tx ln so it ce M1 N := by
  obtain ⟨i1, i2, i3, i4, i5, i6, i7⟩ := h
  refine ⟨⟨cSV_cg (cSV_fr i1.1 (fun c _ _ => hf c (by omega))) hq, hse, hev, hbo⟩, by rw [hf 0 (by omega)]; exact i2, fun q => stV_fr (i3 q) (fun c _ _ => hf c (by omega)), ?_, ⟨fun p hp => by rw [hf 38 (by omega)]; exact i5.1 p hp, fun p hp => by rw [hf 72 (by omega)]; exact i5.2.1 p hp, fun i j hij hi => by rw [hf _ (by omega)]; exact i5.2.2 i j hij hi⟩, ⟨by rw [hf 96 (by omega)]; exact i6.1, fun i hi => by rw [hf 97 (by omega)]; exact i6.2 i hi⟩, tV_fr i7 (fun c _ _ => ⟨hf c (by omega), rfl⟩)⟩
  rw [hf 0 (by omega)]
  rcases i4 with q | ⟨q1, q2⟩
  · exact Or.inl q
  · exact Or.inr ⟨q1, cPV_cg hq hs (cPV_fr hs q2 (fun c _ _ => hf c (by omega)) rfl)⟩
end
theorem aYear_hi {s : Nat → Int} (hs : pRg s) (cap em : Int) : ∀ i, 46 ≤ i → aYear s cap em i = s i := by
  intro i hi
  have h5 := hs.2.1
  unfold aYear sYear
  split
  · rw [pU_ne (by omega), pU_ne (by omega), pU_ne (by omega)]
  · rfl
theorem aMeas_hi {s : Nat → Int} (hs : pRg s) (y c m : Int) : ∀ i, 46 ≤ i → aMeas s y c m i = s i := by
  intro i hi
  have h5 := hs.2.2.1
  unfold aMeas sMeas
  split
  · rw [pU_ne (by omega), pU_ne (by omega), pU_ne (by omega), pU_ne (by omega)]
  · rfl
theorem aRenew_hi {s : Nat → Int} (hs : pRg s) (what k v : Int) : ∀ i, 46 ≤ i → aRenew s what k v i = s i := by
  intro i hi
  have h5 := hs.2.1
  have h6 := hs.2.2.1
  unfold aRenew
  split
  · rename_i h
    obtain ⟨⟨h1, hk⟩, _⟩ := h
    rw [pU_ne]
    unfold rBs
    (repeat' split at hk) <;> (repeat' split) <;> omega
  · rfl
theorem aSet_hi {s : Nat → Int} (what v : Int) : ∀ i, 46 ≤ i → aSet s what v i = s i := by
  intro i hi
  unfold aSet
  split
  · rw [pU_ne (by omega)]
  · rfl
theorem apS_hi {tx : Nat → Int} {L : Nat} {s : Nat → Int} (hs : pRg s) (p : Nat) : ∀ i, 46 ≤ i → apS tx L s p i = s i := by
  intro i hi
  unfold apS
  (repeat' split)
  · exact aYear_hi hs _ _ i hi
  · exact aMeas_hi hs _ _ _ i hi
  · exact aSet_hi _ _ i hi
  · exact aSet_hi _ _ i hi
  · exact aSet_hi _ _ i hi
  · exact aSet_hi _ _ i hi
theorem rdS_hi {tx : Nat → Int} {L : Nat} {s : Nat → Int} (hs : pVI s) : ∀ k i, 46 ≤ i → rdS tx L s k i = s i
  | 0, _, _ => rfl
  | k + 1, i, hi => by rw [rdS, apS_hi (rdS_VI hs k).1 _ i hi, rdS_hi hs k i hi]
theorem x_106 {K : mj_C} {d : Nat} {M : Nat → Nat → Int} {N : Nat → Nat → Int64} (hD : 5 ≤ d) (hK : kOk K) (s im : Nat → Int) (kp : Int) (tx : Nat → Int) (ln : Int) (so it : Nat → Int) (ce : Nat → Int64) (hI : IC s im kp tx ln so it ce M N) (hV : VI s im kp tx ln so it) : mj_X K d 106 [.inr (.inr (.inl 0))] (mj_Sh, M, N) (fun r Z => r = some (.inr (.inr (.inl 35))) ∧ ∃ M1 N1, Z = (mj_Sh, M1, N1) ∧ IC s im kp tx ln so it ce M1 N1 ∧ cPV 35 M1 N1 s ∧ fr6 M N M1 N1 ∧ ∀ c, 62 ≤ c → c ≤ 95 → M1 c = M c ∧ N1 c = N c) := by
  show mj_T K d 106 0 [some (.inr (.inr (.inl 0)))] [] (mj_Sh, M, N) _
  have hVs := hV.1
  have hs := hVs.1
  have h0 := hs.1 0 (by omega)
  have h5 := hs.2.1
  have h11 := hs.1 11 (by omega)
  have hc11 := hs.2.2.1
  have hI0 := hI
  obtain ⟨⟨hS, hse, hev, hbo⟩, hkp, hkim, hfs, hzz, htxt, htp⟩ := hI
  rcases hfs with hf4 | ⟨hf4, hpv⟩
  · refine tw_aload k106_0 rfl ?_
    refine tw_geti k106_1 f0_4 rfl (v := (0 : Int)) hf4 ?_
    refine tw_zneF k106_4 (by decide) ?_
    refine tw_aload k106_7 rfl ?_
    refine tw_getr k106_8 f0_3 ?_
    refine tw_aload k106_11 rfl ?_
    refine tw_getr k106_12 f0_0 ?_
    refine tw_getr k106_15 f1_0 ?_
    refine tw_call (by omega) (S' := []) (as := [.inr (.inr (.inl 35)), .inr (.inr (.inl 2))]) k106_18 (x_12_35 (M := M) (N := N) (by omega) s hs hS hzz.1) rfl rfl rfl rfl rfl (fun r18 Z18 hq18 => ?_)
    obtain ⟨rfl, M2, N2, rfl, g1, g2, g3, g4, g5⟩ := hq18
    refine tw_as (S := []) (M := M2) (N := N2) rfl rfl ?_
    refine tw_aload k106_21 rfl ?_
    refine tw_const k106_22 ?_
    refine tw_putz (M := M2) (N := N2) (l := []) (l' := [(0, (pU (M2 0) 4 (1 : Int)))]) k106_23 f0_4 (by decide) rfl ?_
    refine tw_aload k106_26 rfl ?_
    refine tw_getr k106_27 f0_3 ?_
    exact tw_ra k106_30 (by
       have hpn : cPV 35 (st M2 [(0, pU (M2 0) 4 1)]) N2 s := cPV_fr hs g5 (fun c _ _ => by rw [st_c, if_neg (by omega), st_nil]) rfl
       exact ⟨rfl, st M2 [(0, pU (M2 0) 4 1)], N2, rfl, IC_fr hI0 (fun c hc => by rw [st_c, if_neg (by omega), st_nil]; exact g1 c (by omega)) (by rw [st_c, if_pos rfl, pU_ne (by omega), g1 0 (by omega)]) (Or.inr ⟨by rw [st_c, if_pos rfl, pU_eq], hpn⟩) ⟨fun p hp => by rw [st_c, if_neg (by omega), st_nil]; exact g3 p hp, fun p hp => by rw [st_c, if_neg (by omega), st_nil, g1 72 (by omega)]; exact hzz.2.1 p hp, fun i j hij hi => by rw [st_c, if_neg (by omega), st_nil, g4 i j hij hi]; exact hzz.2.2 i j hij hi⟩ (fun c _ _ => g2 c (by omega)), hpn, fun c hc => ⟨by rw [st_c, if_neg (by omega), st_nil]; exact g1 c (by omega), g2 c (by omega)⟩, fun c h1 h2 => ⟨by rw [st_c, if_neg (by omega), st_nil]; exact g1 c (by omega), g2 c (by omega)⟩⟩)
  · refine tw_aload k106_0 rfl ?_
    refine tw_geti k106_1 f0_4 rfl (v := (1 : Int)) hf4 ?_
    refine tw_zneT k106_4 (by decide) ?_
    refine tw_aload k106_26 rfl ?_
    refine tw_getr k106_27 f0_3 ?_
    exact tw_ra k106_30 (⟨rfl, M, N, rfl, hI0, hpv, fun c _ => ⟨rfl, rfl⟩, fun c _ _ => ⟨rfl, rfl⟩⟩)
theorem x_107 {K : mj_C} {d : Nat} {M : Nat → Nat → Int} {N : Nat → Nat → Int64} (hD : 1 ≤ d) (hK : kOk K) (s im : Nat → Int) (kp : Int) (tx : Nat → Int) (ln : Int) (so it : Nat → Int) (ce : Nat → Int64) (hI : IC s im kp tx ln so it ce M N) (hV : VI s im kp tx ln so it) : mj_X K d 107 [.inr (.inr (.inl 0))] (mj_Sh, M, N) (fun r Z => r = none ∧ ∃ M1, Z = (mj_Sh, M1, N) ∧ IC s im kp tx ln so it ce M1 N ∧ cSV 62 M1 s ∧ ∀ c, c < 62 ∨ 68 < c → M1 c = M c) := by
  show mj_T K d 107 0 [some (.inr (.inr (.inl 0)))] [] (mj_Sh, M, N) _
  have hVs := hV.1
  have hs := hVs.1
  have h0 := hs.1 0 (by omega)
  have h5 := hs.2.1
  have h11 := hs.1 11 (by omega)
  have hc11 := hs.2.2.1
  have hI0 := hI
  obtain ⟨⟨hS, hse, hev, hbo⟩, hkp, hkim, hfs, hzz, htxt, htp⟩ := hI
  refine tw_aload k107_0 rfl ?_
  refine tw_getr k107_1 f0_5 ?_
  refine tw_aload k107_4 rfl ?_
  refine tw_getr k107_5 f0_0 ?_
  refine tw_getr k107_8 f1_0 ?_
  refine tw_call (by omega) (S' := []) (as := [.inr (.inr (.inl 62)), .inr (.inr (.inl 2))]) k107_11 (x_57_62_2 (M := M) (N := N) s hS) rfl rfl rfl rfl rfl (fun r11 Z11 hq11 => ?_)
  obtain ⟨rfl, M2, rfl, g1, g2⟩ := hq11
  refine tw_as (S := []) (M := M2) (N := N) rfl rfl ?_
  exact tw_rv k107_14 (⟨rfl, M2, rfl, IC_fr hI0 (fun c hc => g2 c (by omega)) (by rw [g2 0 (by omega)]) (by rw [g2 0 (by omega)]; rcases hfs with q | ⟨q1, q2⟩; exact Or.inl q; exact Or.inr ⟨q1, cPV_fr hs q2 (fun c _ _ => g2 c (by omega)) rfl⟩) ⟨fun p hp => by rw [g2 38 (by omega)]; exact hzz.1 p hp, fun p hp => by rw [g2 72 (by omega)]; exact hzz.2.1 p hp, fun i j hij hi => by rw [g2 _ (by omega)]; exact hzz.2.2 i j hij hi⟩ (fun c _ _ => rfl), g1, g2⟩)
theorem x_108 {K : mj_C} {d : Nat} {M : Nat → Nat → Int} {N : Nat → Nat → Int64} (hD : 5 ≤ d) (hK : kOk K) (s im : Nat → Int) (kp : Int) (tx : Nat → Int) (ln : Int) (so it : Nat → Int) (ce : Nat → Int64) (hI : IC s im kp tx ln so it ce M N) (hV : VI s im kp tx ln so it) (s2 : Nat → Int) (hs2 : pRg s2) (hS2 : cSV 62 M s2) : mj_X K d 108 [.inr (.inr (.inl 0))] (mj_Sh, M, N) (fun r Z => r = some (.inr (.inr (.inl 69))) ∧ ∃ M1 N1, Z = (mj_Sh, M1, N1) ∧ IC s im kp tx ln so it ce M1 N1 ∧ cPV 69 M1 N1 s2 ∧ cSV 62 M1 s2 ∧ fr6 M N M1 N1 ∧ ∀ c, c < 69 → M1 c = M c ∧ N1 c = N c) := by
  show mj_T K d 108 0 [some (.inr (.inr (.inl 0)))] [] (mj_Sh, M, N) _
  have hVs := hV.1
  have hs := hVs.1
  have h0 := hs.1 0 (by omega)
  have h5 := hs.2.1
  have h11 := hs.1 11 (by omega)
  have hc11 := hs.2.2.1
  have hI0 := hI
  obtain ⟨⟨hS, hse, hev, hbo⟩, hkp, hkim, hfs, hzz, htxt, htp⟩ := hI
  refine tw_aload k108_0 rfl ?_
  refine tw_getr k108_1 f0_6 ?_
  refine tw_aload k108_4 rfl ?_
  refine tw_getr k108_5 f0_5 ?_
  refine tw_call (by omega) (S' := []) (as := [.inr (.inr (.inl 69)), .inr (.inr (.inl 62))]) k108_8 (x_12_69 (M := M) (N := N) (by omega) s2 hs2 hS2 hzz.2.1) rfl rfl rfl rfl rfl (fun r8 Z8 hq8 => ?_)
  obtain ⟨rfl, M2, N2, rfl, g1, g2, g3, g4, g5⟩ := hq8
  refine tw_as (S := []) (M := M2) (N := N2) rfl rfl ?_
  refine tw_aload k108_11 rfl ?_
  refine tw_getr k108_12 f0_6 ?_
  exact tw_ra k108_15 (⟨rfl, M2, N2, rfl, IC_fr hI0 (fun c hc => g1 c (by omega)) (by rw [g1 0 (by omega)]) (by rw [g1 0 (by omega)]; rcases hfs with q | ⟨q1, q2⟩; exact Or.inl q; exact Or.inr ⟨q1, cPV_fr hs q2 (fun c _ _ => g1 c (by omega)) (g2 35 (by omega))⟩) ⟨fun p hp => by rw [g1 38 (by omega)]; exact hzz.1 p hp, g3, fun i j hij hi => by rw [g1 _ (by omega)]; exact hzz.2.2 i j hij hi⟩ (fun c _ _ => g2 c (by omega)), g5, cSV_fr hS2 (fun c _ _ => g1 c (by omega)), fun c hc => ⟨g1 c (by omega), g2 c (by omega)⟩, fun c hc => ⟨g1 c (by omega), g2 c (by omega)⟩⟩)
theorem x_69 {K : mj_C} {d : Nat} {M : Nat → Nat → Int} {N : Nat → Nat → Int64} (hD : 4 ≤ d) (hK : kOk K) (s im : Nat → Int) (kp : Int) (tx : Nat → Int) (ln : Int) (so it : Nat → Int) (ce : Nat → Int64) (hI : IC s im kp tx ln so it ce M N) (hV : VI s im kp tx ln so it) (cap em : Int) : mj_X K d 69 [.inr (.inr (.inl 0)), .inl cap, .inl em] (mj_Sh, M, N) (fun r Z => r = some (.inl (qYear s cap em)) ∧ ∃ M1 N1, Z = (mj_Sh, M1, N1) ∧ IC (aYear s cap em) im kp tx ln so it ce M1 N1 ∧ fr6 M N M1 N1) := by
  show mj_T K d 69 0 [some (.inr (.inr (.inl 0))), some (.inl cap), some (.inl em)] [] (mj_Sh, M, N) _
  have hVs := hV.1
  have hs := hVs.1
  have h0 := hs.1 0 (by omega)
  have h5 := hs.2.1
  have h11 := hs.1 11 (by omega)
  have hc11 := hs.2.2.1
  have hI0 := hI
  obtain ⟨⟨hS, hse, hev, hbo⟩, hkp, hkim, hfs, hzz, htxt, htp⟩ := hI
  refine tw_aload k69_0 rfl ?_
  refine tw_const k69_1 ?_
  refine tw_putz (M := M) (N := N) (l := []) (l' := [(0, (pU (M 0) 4 (0 : Int)))]) k69_2 f0_4 (by decide) rfl ?_
  refine tw_aload k69_5 rfl ?_
  refine tw_getr k69_6 f0_0 ?_
  refine tw_getr k69_9 f1_0 ?_
  refine tw_iload k69_12 rfl ?_
  refine tw_iload k69_13 rfl ?_
  refine tw_call (by omega) (S' := []) (as := [.inr (.inr (.inl 2)), .inl cap, .inl em]) k69_14 (x_49 (M := (st M [(0, (pU (M 0) 4 (0 : Int)))])) (N := N) (by omega) hK s hVs (show cSV 2 (st M [(0, (pU (M 0) 4 (0 : Int)))]) s from hS) cap em) rfl rfl rfl rfl rfl (fun r14 Z14 hq14 => ?_)
  obtain ⟨rfl, M2, rfl, g1, g2⟩ := hq14
  refine tw_as (S := [.inl (qYear s cap em)]) (M := M2) (N := N) rfl rfl ?_
  exact tw_ri k69_17 (⟨rfl, M2, N, rfl, IC_s hI0 g1 (aYear_hi hs cap em) (fun c hc => by rw [g2 c (by omega), st_c, if_neg (by omega), st_nil]) (by rw [g2 0 (by omega), st_c, if_pos rfl, pU_ne (by omega)]) (by rw [g2 0 (by omega), st_c, if_pos rfl, pU_eq]), fun c hc => ⟨by rw [g2 c (by omega), st_c, if_neg (by omega), st_nil], rfl⟩⟩)
theorem x_70 {K : mj_C} {d : Nat} {M : Nat → Nat → Int} {N : Nat → Nat → Int64} (hD : 4 ≤ d) (hK : kOk K) (s im : Nat → Int) (kp : Int) (tx : Nat → Int) (ln : Int) (so it : Nat → Int) (ce : Nat → Int64) (hI : IC s im kp tx ln so it ce M N) (hV : VI s im kp tx ln so it) (y cost much : Int) : mj_X K d 70 [.inr (.inr (.inl 0)), .inl y, .inl cost, .inl much] (mj_Sh, M, N) (fun r Z => r = some (.inl (qMeas s y cost much)) ∧ ∃ M1 N1, Z = (mj_Sh, M1, N1) ∧ IC (aMeas s y cost much) im kp tx ln so it ce M1 N1 ∧ fr6 M N M1 N1) := by
  show mj_T K d 70 0 [some (.inr (.inr (.inl 0))), some (.inl y), some (.inl cost), some (.inl much)] [] (mj_Sh, M, N) _
  have hVs := hV.1
  have hs := hVs.1
  have h0 := hs.1 0 (by omega)
  have h5 := hs.2.1
  have h11 := hs.1 11 (by omega)
  have hc11 := hs.2.2.1
  have hI0 := hI
  obtain ⟨⟨hS, hse, hev, hbo⟩, hkp, hkim, hfs, hzz, htxt, htp⟩ := hI
  refine tw_aload k70_0 rfl ?_
  refine tw_const k70_1 ?_
  refine tw_putz (M := M) (N := N) (l := []) (l' := [(0, (pU (M 0) 4 (0 : Int)))]) k70_2 f0_4 (by decide) rfl ?_
  refine tw_aload k70_5 rfl ?_
  refine tw_getr k70_6 f0_0 ?_
  refine tw_getr k70_9 f1_0 ?_
  refine tw_iload k70_12 rfl ?_
  refine tw_iload k70_13 rfl ?_
  refine tw_iload k70_14 rfl ?_
  refine tw_call (by omega) (S' := []) (as := [.inr (.inr (.inl 2)), .inl y, .inl cost, .inl much]) k70_15 (x_50 (M := (st M [(0, (pU (M 0) 4 (0 : Int)))])) (N := N) (by omega) hK s hVs (show cSV 2 (st M [(0, (pU (M 0) 4 (0 : Int)))]) s from hS) y cost much) rfl rfl rfl rfl rfl (fun r15 Z15 hq15 => ?_)
  obtain ⟨rfl, M2, rfl, g1, g2⟩ := hq15
  refine tw_as (S := [.inl (qMeas s y cost much)]) (M := M2) (N := N) rfl rfl ?_
  exact tw_ri k70_18 (⟨rfl, M2, N, rfl, IC_s hI0 g1 (aMeas_hi hs y cost much) (fun c hc => by rw [g2 c (by omega), st_c, if_neg (by omega), st_nil]) (by rw [g2 0 (by omega), st_c, if_pos rfl, pU_ne (by omega)]) (by rw [g2 0 (by omega), st_c, if_pos rfl, pU_eq]), fun c hc => ⟨by rw [g2 c (by omega), st_c, if_neg (by omega), st_nil], rfl⟩⟩)
theorem x_71 {K : mj_C} {d : Nat} {M : Nat → Nat → Int} {N : Nat → Nat → Int64} (hD : 4 ≤ d) (hK : kOk K) (s im : Nat → Int) (kp : Int) (tx : Nat → Int) (ln : Int) (so it : Nat → Int) (ce : Nat → Int64) (hI : IC s im kp tx ln so it ce M N) (hV : VI s im kp tx ln so it) (what k v : Int) : mj_X K d 71 [.inr (.inr (.inl 0)), .inl what, .inl k, .inl v] (mj_Sh, M, N) (fun r Z => r = some (.inl (qRenew s what k v)) ∧ ∃ M1 N1, Z = (mj_Sh, M1, N1) ∧ IC (aRenew s what k v) im kp tx ln so it ce M1 N1 ∧ fr6 M N M1 N1) := by
  show mj_T K d 71 0 [some (.inr (.inr (.inl 0))), some (.inl what), some (.inl k), some (.inl v)] [] (mj_Sh, M, N) _
  have hVs := hV.1
  have hs := hVs.1
  have h0 := hs.1 0 (by omega)
  have h5 := hs.2.1
  have h11 := hs.1 11 (by omega)
  have hc11 := hs.2.2.1
  have hI0 := hI
  obtain ⟨⟨hS, hse, hev, hbo⟩, hkp, hkim, hfs, hzz, htxt, htp⟩ := hI
  refine tw_aload k71_0 rfl ?_
  refine tw_const k71_1 ?_
  refine tw_putz (M := M) (N := N) (l := []) (l' := [(0, (pU (M 0) 4 (0 : Int)))]) k71_2 f0_4 (by decide) rfl ?_
  refine tw_aload k71_5 rfl ?_
  refine tw_getr k71_6 f0_0 ?_
  refine tw_getr k71_9 f1_0 ?_
  refine tw_iload k71_12 rfl ?_
  refine tw_iload k71_13 rfl ?_
  refine tw_iload k71_14 rfl ?_
  refine tw_call (by omega) (S' := []) (as := [.inr (.inr (.inl 2)), .inl what, .inl k, .inl v]) k71_15 (x_51 (M := (st M [(0, (pU (M 0) 4 (0 : Int)))])) (N := N) (by omega) hK s hVs (show cSV 2 (st M [(0, (pU (M 0) 4 (0 : Int)))]) s from hS) what k v) rfl rfl rfl rfl rfl (fun r15 Z15 hq15 => ?_)
  obtain ⟨rfl, M2, rfl, g1, g2⟩ := hq15
  refine tw_as (S := [.inl (qRenew s what k v)]) (M := M2) (N := N) rfl rfl ?_
  exact tw_ri k71_18 (⟨rfl, M2, N, rfl, IC_s hI0 g1 (aRenew_hi hs what k v) (fun c hc => by rw [g2 c (by omega), st_c, if_neg (by omega), st_nil]) (by rw [g2 0 (by omega), st_c, if_pos rfl, pU_ne (by omega)]) (by rw [g2 0 (by omega), st_c, if_pos rfl, pU_eq]), fun c hc => ⟨by rw [g2 c (by omega), st_c, if_neg (by omega), st_nil], rfl⟩⟩)
theorem x_72 {K : mj_C} {d : Nat} {M : Nat → Nat → Int} {N : Nat → Nat → Int64} (hD : 4 ≤ d) (hK : kOk K) (s im : Nat → Int) (kp : Int) (tx : Nat → Int) (ln : Int) (so it : Nat → Int) (ce : Nat → Int64) (hI : IC s im kp tx ln so it ce M N) (hV : VI s im kp tx ln so it) (what v : Int) : mj_X K d 72 [.inr (.inr (.inl 0)), .inl what, .inl v] (mj_Sh, M, N) (fun r Z => r = some (.inl (qSet s what v)) ∧ ∃ M1 N1, Z = (mj_Sh, M1, N1) ∧ IC (aSet s what v) im kp tx ln so it ce M1 N1 ∧ fr6 M N M1 N1) := by
  show mj_T K d 72 0 [some (.inr (.inr (.inl 0))), some (.inl what), some (.inl v)] [] (mj_Sh, M, N) _
  have hVs := hV.1
  have hs := hVs.1
  have h0 := hs.1 0 (by omega)
  have h5 := hs.2.1
  have h11 := hs.1 11 (by omega)
  have hc11 := hs.2.2.1
  have hI0 := hI
  obtain ⟨⟨hS, hse, hev, hbo⟩, hkp, hkim, hfs, hzz, htxt, htp⟩ := hI
  refine tw_aload k72_0 rfl ?_
  refine tw_const k72_1 ?_
  refine tw_putz (M := M) (N := N) (l := []) (l' := [(0, (pU (M 0) 4 (0 : Int)))]) k72_2 f0_4 (by decide) rfl ?_
  refine tw_aload k72_5 rfl ?_
  refine tw_getr k72_6 f0_0 ?_
  refine tw_getr k72_9 f1_0 ?_
  refine tw_iload k72_12 rfl ?_
  refine tw_iload k72_13 rfl ?_
  refine tw_call (by omega) (S' := []) (as := [.inr (.inr (.inl 2)), .inl what, .inl v]) k72_14 (x_52 (M := (st M [(0, (pU (M 0) 4 (0 : Int)))])) (N := N) (by omega) hK s hVs (show cSV 2 (st M [(0, (pU (M 0) 4 (0 : Int)))]) s from hS) what v) rfl rfl rfl rfl rfl (fun r14 Z14 hq14 => ?_)
  obtain ⟨rfl, M2, rfl, g1, g2⟩ := hq14
  refine tw_as (S := [.inl (qSet s what v)]) (M := M2) (N := N) rfl rfl ?_
  exact tw_ri k72_17 (⟨rfl, M2, N, rfl, IC_s hI0 g1 (aSet_hi what v) (fun c hc => by rw [g2 c (by omega), st_c, if_neg (by omega), st_nil]) (by rw [g2 0 (by omega), st_c, if_pos rfl, pU_ne (by omega)]) (by rw [g2 0 (by omega), st_c, if_pos rfl, pU_eq]), fun c hc => ⟨by rw [g2 c (by omega), st_c, if_neg (by omega), st_nil], rfl⟩⟩)
theorem x_73 {K : mj_C} {d : Nat} {M : Nat → Nat → Int} {N : Nat → Nat → Int64} (hD : 2 ≤ d) (hK : kOk K) (s im : Nat → Int) (kp : Int) (tx : Nat → Int) (ln : Int) (so it : Nat → Int) (ce : Nat → Int64) (hI : IC s im kp tx ln so it ce M N) (hV : VI s im kp tx ln so it) (sign : Int) : mj_X K d 73 [.inr (.inr (.inl 0)), .inl sign] (mj_Sh, M, N) (fun r Z => r = some (.inl (qFeed ln sign)) ∧ ∃ M1 N1, Z = (mj_Sh, M1, N1) ∧ IC s im kp (aFdT tx ln sign) (aFdL ln sign) so it ce M1 N1 ∧ fr6 M N M1 N1) := by
  show mj_T K d 73 0 [some (.inr (.inr (.inl 0))), some (.inl sign)] [] (mj_Sh, M, N) _
  have hVs := hV.1
  have hs := hVs.1
  have h0 := hs.1 0 (by omega)
  have h5 := hs.2.1
  have h11 := hs.1 11 (by omega)
  have hc11 := hs.2.2.1
  have hI0 := hI
  obtain ⟨⟨hS, hse, hev, hbo⟩, hkp, hkim, hfs, hzz, htxt, htp⟩ := hI
  have hln := htxt.1
  refine tw_aload k73_0 rfl ?_
  refine tw_getr k73_1 f0_7 ?_
  refine tw_iload k73_4 rfl ?_
  refine tw_call (by omega) (S' := []) (as := [.inr (.inr (.inl 96)), .inl sign]) k73_5 (x_38 (M := M) (N := N) (by omega) (by rw [htxt.1]; exact hV.2.2.1) sign) rfl rfl rfl rfl rfl (fun r5 Z5 hq5 => ?_)
  obtain ⟨rfl, M2, rfl, g1, g2, g3⟩ := hq5
  refine tw_as (S := [.inl (qFeed (M 96 3) sign)]) (M := M2) (N := N) rfl rfl ?_
  exact tw_ri k73_8 (by
     rw [hln] at g1 g2
     rw [hln]
     refine ⟨rfl, M2, N, rfl, ⟨⟨cSV_fr hS (fun c _ _ => g3 c (by omega) (by omega)), rV_fr hse (fun c _ _ => g3 c (by omega) (by omega)), rV_fr hev (fun c _ _ => g3 c (by omega) (by omega)), rV_fr hbo (fun c _ _ => g3 c (by omega) (by omega))⟩, by rw [g3 0 (by omega) (by omega)]; exact hkp, fun q => stV_fr (hkim q) (fun c _ _ => g3 c (by omega) (by omega)), ?_, ⟨fun p hp => by rw [g3 38 (by omega) (by omega)]; exact hzz.1 p hp, fun p hp => by rw [g3 72 (by omega) (by omega)]; exact hzz.2.1 p hp, fun i j hij hi => by rw [g3 _ (by omega) (by omega)]; exact hzz.2.2 i j hij hi⟩, ⟨g1, fun i hi => ?_⟩, tV_fr htp (fun c _ _ => ⟨g3 c (by omega) (by omega), rfl⟩)⟩, fun c hc => ⟨g3 c (by omega) (by omega), rfl⟩⟩
     · rw [g3 0 (by omega) (by omega)]
       rcases hfs with q | ⟨q1, q2⟩
       · exact Or.inl q
       · exact Or.inr ⟨q1, cPV_fr hs q2 (fun c _ _ => g3 c (by omega) (by omega)) rfl⟩
     · rw [g2]
       unfold aFdT aFdL at *
       have hl2 := hV.2.2.1
       split
       · rename_i h
         rw [if_pos h] at hi
         by_cases e : i = ln.toNat
         · rw [e, pU_eq, pU_eq]
         · rw [pU_ne e, pU_ne e]; exact htxt.2 i (by omega)
       · rename_i h
         rw [if_neg h] at hi
         exact htxt.2 i hi)
theorem scR_rg {tx : Nat → Int} {L : Nat} (hst : ∀ n, (∀ i, i < n → (clR tx L (stP tx L i)).2 < L) → stP tx L n ≤ L) : ∀ k n, (∀ i, i < n → (clR tx L (stP tx L i)).2 < L) → (scR tx L k n).2.1 ≤ L
  | 0, _, _ => by rw [scR]; exact Nat.zero_le _
  | k + 1, n, h => by
    have h1 := clR_rg (tx := tx) (hst n h)
    rw [scR]
    split
    · split
      · rename_i h3
        split
        · exact scR_rg hst k (n + 1) (fun i hi => by
            by_cases e : i = n
            · rw [e]; exact h3
            · exact h i (by omega))
        · exact h1.2
      · exact h1.2
    · exact h1.2
theorem scT_rg {tx : Nat → Int} {L : Nat} : (scT tx L).2.1 ≤ L := scR_rg (fun n => by
  cases n with
  | zero => intro _; rw [stP]; omega
  | succ n => intro h; rw [stP]; exact h n (by omega)) 14 0 (fun i hi => by omega)
theorem x_74 {K : mj_C} {d : Nat} {M : Nat → Nat → Int} {N : Nat → Nat → Int64} (hD : 6 ≤ d) (hK : kOk K) (s im : Nat → Int) (kp : Int) (tx : Nat → Int) (ln : Int) (so it : Nat → Int) (ce : Nat → Int64) (hI : IC s im kp tx ln so it ce M N) (hV : VI s im kp tx ln so it) : mj_X K d 74 [.inr (.inr (.inl 0))] (mj_Sh, M, N) (fun r Z => r = some (.inl (qRead tx ln.toNat s)) ∧ ∃ M1 N1, Z = (mj_Sh, M1, N1) ∧ IC (aRead tx ln.toNat s) im kp tx 0 so it ce M1 N1 ∧ fr6 M N M1 N1) := by
  show mj_T K d 74 0 [some (.inr (.inr (.inl 0))), none, none] [] (mj_Sh, M, N) _
  have hVs := hV.1
  have hs := hVs.1
  have h0 := hs.1 0 (by omega)
  have h5 := hs.2.1
  have h11 := hs.1 11 (by omega)
  have hc11 := hs.2.2.1
  have hI0 := hI
  obtain ⟨⟨hS, hse, hev, hbo⟩, hkp, hkim, hfs, hzz, htxt, htp⟩ := hI
  obtain ⟨L, hLe⟩ : ∃ L : Nat, ln = (L : Int) := ⟨ln.toNat, by have := hV.2.2.1; omega⟩
  have hL100 : L ≤ 100 := by have := hV.2.2.1; omega
  have htx : ∀ i, i < L → M 97 i = tx i ∧ 0 ≤ tx i ∧ tx i ≤ 127 := fun i hi => ⟨htxt.2 i (by omega), hV.2.2.2.1 i (by omega)⟩
  have hLt : ln.toNat = L := by omega
  have hsr := scT_rg (tx := tx) (L := L)
  by_cases hsc : (scT tx L).1 = true
  · refine tw_aload k74_0 rfl ?_
    refine tw_getr k74_1 f0_7 ?_
    refine tw_call (by omega) (S' := []) (as := [.inr (.inr (.inl 96))]) k74_4 (x_40 (M := M) (N := N) (by omega) tx L (htxt.1.trans hLe) hL100 htx) rfl rfl rfl rfl rfl (fun r4 Z4 hq4 => ?_)
    obtain ⟨rfl, M2, rfl, g1, g2, g3, g4⟩ := hq4
    refine tw_as (S := [.inl (if (scT tx L).1 = true then (1 : Int) else 0)]) (M := M2) (N := N) rfl rfl ?_
    refine tw_istore k74_7 rfl (L' := [some (.inr (.inr (.inl 0))), some (.inl (if (scT tx L).1 = true then (1 : Int) else 0)), none]) rfl ?_
    refine tw_const k74_8 ?_
    refine tw_aload k74_10 rfl ?_
    refine tw_getr k74_11 f0_7 ?_
    refine tw_geti k74_14 f96_4 rfl (v := (((scT tx L).2.1 : Nat) : Int)) g1 ?_
    refine tw_isub k74_17 (v := ((-10 : Int) - (((scT tx L).2.1 : Nat) : Int))) rfl (by have := hsr; omega) ?_
    refine tw_istore k74_18 rfl (L' := [some (.inr (.inr (.inl 0))), some (.inl (if (scT tx L).1 = true then (1 : Int) else 0)), some (.inl ((-10 : Int) - (((scT tx L).2.1 : Nat) : Int)))]) rfl ?_
    refine tw_iload k74_19 rfl ?_
    refine tw_zeqF k74_20 (fun hz => absurd ((if_pos hsc).symm.trans hz) (by decide)) ?_
    refine tw_aload k74_23 rfl ?_
    refine tw_const k74_24 ?_
    refine tw_putz (M := M2) (N := N) (l := []) (l' := [(0, (pU (M2 0) 4 (0 : Int)))]) k74_25 f0_4 (by decide) rfl ?_
    refine tw_aload k74_28 rfl ?_
    refine tw_getr k74_29 f0_7 ?_
    refine tw_aload k74_32 rfl ?_
    refine tw_getr k74_33 f0_0 ?_
    refine tw_getr k74_36 f1_0 ?_
    refine tw_call (by omega) (S' := []) (as := [.inr (.inr (.inl 96)), .inr (.inr (.inl 2))]) k74_39 (x_41 (M := (st M2 [(0, (pU (M2 0) 4 (0 : Int)))])) (N := N) (by omega) hK s hVs (cSV_fr (M := M2) (cSV_fr hS (fun c _ _ => g4 c (by omega) (by omega))) (fun c _ _ => by rw [st_c, if_neg (by omega), st_nil])) tx L (scT tx L).2.2 (show st M2 _ 96 2 = _ by rw [st_c, if_neg (by omega), st_nil]; exact (g2 hsc).1) (g2 hsc).2.1 (fun i hi => by rw [st_c, if_neg (by omega), st_nil]; exact (g2 hsc).2.2 i hi)) rfl rfl rfl rfl rfl (fun r39 Z39 hq39 => ?_)
    obtain ⟨rfl, M3, rfl, h1, h2⟩ := hq39
    refine tw_as (S := [.inl (rdC tx L s (scT tx L).2.2)]) (M := M3) (N := N) rfl rfl ?_
    refine tw_istore k74_42 rfl (L' := [some (.inr (.inr (.inl 0))), some (.inl (if (scT tx L).1 = true then (1 : Int) else 0)), some (.inl (rdC tx L s (scT tx L).2.2))]) rfl ?_
    refine tw_aload k74_43 rfl ?_
    refine tw_getr k74_44 f0_7 ?_
    refine tw_call (by omega) (S' := []) (as := [.inr (.inr (.inl 96))]) k74_47 (x_39 (M := M3) (N := N)) rfl rfl rfl rfl rfl (fun r47 Z47 hq47 => ?_)
    obtain ⟨rfl, rfl⟩ := hq47
    refine tw_as (S := []) (M := (st M3 [(96, (pU (M3 96) 3 0))])) (N := N) rfl rfl ?_
    refine tw_iload k74_50 rfl ?_
    exact tw_ri k74_51 (by
       have hq := fun i (hi : 46 ≤ i) => rdS_hi (tx := tx) (L := L) hVs (scT tx L).2.2 i hi
       have fr : ∀ c, 8 < c → c ≠ 96 → ¬ (99 ≤ c ∧ c ≤ 112) → st M3 [(96, pU (M3 96) 3 (0 : Int))] c = M c := fun c _ _ _ => by rw [st_c, if_neg (by omega), st_nil, h2 c (by omega), st_c, if_neg (by omega), st_nil, g4 c (by omega) (by omega)]
       refine ⟨by rw [hLt]; unfold qRead; rw [if_pos hsc], st M3 [(96, pU (M3 96) 3 (0 : Int))], N, rfl, ⟨⟨?_, ?_, ?_, ?_⟩, ?_, fun q => stV_fr (hkim q) (fun c _ _ => fr c (by omega) (by omega) (by omega)), Or.inl ?_, ⟨fun p hp => by rw [fr 38 (by omega) (by omega) (by omega)]; exact hzz.1 p hp, fun p hp => by rw [fr 72 (by omega) (by omega) (by omega)]; exact hzz.2.1 p hp, fun i j hij hi => by rw [fr _ (by omega) (by omega) (by omega)]; exact hzz.2.2 i j hij hi⟩, ⟨(show pU (M3 96) 3 (0 : Int) 3 = 0 from pU_eq), fun i hi => by omega⟩, tV_fr htp (fun c _ _ => ⟨fr c (by omega) (by omega) (by omega), rfl⟩)⟩, fun c hc => ⟨fr c (by omega) (by omega) (by omega), rfl⟩⟩
       · rw [show aRead tx ln.toNat s = rdS tx L s (scT tx L).2.2 by rw [hLt]; unfold aRead; rw [if_pos hsc]]; exact cSV_fr h1 (fun c _ _ => by rw [st_c, if_neg (by omega), st_nil])
       · rw [show aRead tx ln.toNat s = rdS tx L s (scT tx L).2.2 by rw [hLt]; unfold aRead; rw [if_pos hsc]]; exact rV_cg (rV_fr hse (fun c _ _ => fr c (by omega) (by omega) (by omega))) (by omega) hq
       · rw [show aRead tx ln.toNat s = rdS tx L s (scT tx L).2.2 by rw [hLt]; unfold aRead; rw [if_pos hsc]]; exact rV_cg (rV_fr hev (fun c _ _ => fr c (by omega) (by omega) (by omega))) (by omega) hq
       · rw [show aRead tx ln.toNat s = rdS tx L s (scT tx L).2.2 by rw [hLt]; unfold aRead; rw [if_pos hsc]]; exact rV_cg (rV_fr hbo (fun c _ _ => fr c (by omega) (by omega) (by omega))) (by omega) hq
       · rw [st_c, if_neg (by omega), st_nil, h2 0 (by omega), st_c, if_pos rfl, pU_ne (by omega), g4 0 (by omega) (by omega)]; exact hkp
       · rw [st_c, if_neg (by omega), st_nil, h2 0 (by omega), st_c, if_pos rfl, pU_eq])
  · refine tw_aload k74_0 rfl ?_
    refine tw_getr k74_1 f0_7 ?_
    refine tw_call (by omega) (S' := []) (as := [.inr (.inr (.inl 96))]) k74_4 (x_40 (M := M) (N := N) (by omega) tx L (htxt.1.trans hLe) hL100 htx) rfl rfl rfl rfl rfl (fun r4 Z4 hq4 => ?_)
    obtain ⟨rfl, M2, rfl, g1, g2, g3, g4⟩ := hq4
    refine tw_as (S := [.inl (if (scT tx L).1 = true then (1 : Int) else 0)]) (M := M2) (N := N) rfl rfl ?_
    refine tw_istore k74_7 rfl (L' := [some (.inr (.inr (.inl 0))), some (.inl (if (scT tx L).1 = true then (1 : Int) else 0)), none]) rfl ?_
    refine tw_const k74_8 ?_
    refine tw_aload k74_10 rfl ?_
    refine tw_getr k74_11 f0_7 ?_
    refine tw_geti k74_14 f96_4 rfl (v := (((scT tx L).2.1 : Nat) : Int)) g1 ?_
    refine tw_isub k74_17 (v := ((-10 : Int) - (((scT tx L).2.1 : Nat) : Int))) rfl (by have := hsr; omega) ?_
    refine tw_istore k74_18 rfl (L' := [some (.inr (.inr (.inl 0))), some (.inl (if (scT tx L).1 = true then (1 : Int) else 0)), some (.inl ((-10 : Int) - (((scT tx L).2.1 : Nat) : Int)))]) rfl ?_
    refine tw_iload k74_19 rfl ?_
    refine tw_zeqT k74_20 (if_neg hsc) ?_
    refine tw_aload k74_43 rfl ?_
    refine tw_getr k74_44 f0_7 ?_
    refine tw_call (by omega) (S' := []) (as := [.inr (.inr (.inl 96))]) k74_47 (x_39 (M := M2) (N := N)) rfl rfl rfl rfl rfl (fun r47 Z47 hq47 => ?_)
    obtain ⟨rfl, rfl⟩ := hq47
    refine tw_as (S := []) (M := (st M2 [(96, (pU (M2 96) 3 0))])) (N := N) rfl rfl ?_
    refine tw_iload k74_50 rfl ?_
    exact tw_ri k74_51 (by
       have fr : ∀ c, c ≠ 96 → ¬ (99 ≤ c ∧ c ≤ 112) → st M2 [(96, pU (M2 96) 3 (0 : Int))] c = M c := fun c _ _ => by rw [st_c, if_neg (by omega), st_nil, g4 c (by omega) (by omega)]
       have ha : aRead tx ln.toNat s = s := by rw [hLt]; unfold aRead; rw [if_neg hsc]
       refine ⟨by rw [hLt]; unfold qRead; rw [if_neg hsc], st M2 [(96, pU (M2 96) 3 (0 : Int))], N, rfl, ⟨?_, by rw [fr 0 (by omega) (by omega)]; exact hkp, fun q => stV_fr (hkim q) (fun c _ _ => fr c (by omega) (by omega)), ?_, ⟨fun p hp => by rw [fr 38 (by omega) (by omega)]; exact hzz.1 p hp, fun p hp => by rw [fr 72 (by omega) (by omega)]; exact hzz.2.1 p hp, fun i j hij hi => by rw [fr _ (by omega) (by omega)]; exact hzz.2.2 i j hij hi⟩, ⟨(show pU (M2 96) 3 (0 : Int) 3 = 0 from pU_eq), fun i hi => by omega⟩, tV_fr htp (fun c _ _ => ⟨fr c (by omega) (by omega), rfl⟩)⟩, fun c hc => ⟨fr c (by omega) (by omega), rfl⟩⟩
       · rw [ha]; exact stV_fr (q := 1) ⟨hS, hse, hev, hbo⟩ (fun c _ _ => fr c (by omega) (by omega))
       · rw [ha, fr 0 (by omega) (by omega)]
         rcases hfs with q | ⟨q1, q2⟩
         · exact Or.inl q
         · exact Or.inr ⟨q1, cPV_fr hs q2 (fun c _ _ => fr c (by omega) (by omega)) rfl⟩)
