-- the class: what would be, lists, judging, the image, tapes
theorem pU_sf {f : Nat → Int} {j : Nat} : pU f j (f j) = f := by
  funext i; unfold pU; split
  · rename_i h; rw [h]
  · rfl
theorem fr6_tr {M M1 M2 : Nat → Nat → Int} {N N1 N2 : Nat → Nat → Int64} (h1 : fr6 M N M1 N1) (h2 : fr6 M1 N1 M2 N2) : fr6 M N M2 N2 := fun c hc => ⟨(h2 c hc).1.trans (h1 c hc).1, (h2 c hc).2.trans (h1 c hc).2⟩
def TR (s2 s im : Nat → Int) (kp : Int) (tx : Nat → Int) (ln : Int) (so it : Nat → Int) (ce : Nat → Int64) (M : Nat → Nat → Int) (N : Nat → Nat → Int64) (M1 : Nat → Nat → Int) (N1 : Nat → Nat → Int64) : Prop := IC s im kp tx ln so it ce M1 N1 ∧ cSV 62 M1 s2 ∧ fr6 M N M1 N1
section
variable {s2 s im : Nat → Int} {kp : Int} {tx : Nat → Int} {ln : Int} {so it : Nat → Int} {ce : Nat → Int64} {M M1 M2 : Nat → Nat → Int} {N N1 N2 : Nat → Nat → Int64}
theorem IC_tr (hs : pRg s) (h : IC s im kp tx ln so it ce M N) (hf : ∀ c, c < 62 ∨ 68 < c → M1 c = M c) : IC s im kp tx ln so it ce M1 N := by
  have h' := h
  obtain ⟨i1, i2, i3, i4, i5, i6, i7⟩ := h
  refine IC_fr h' (fun c hc => hf c (by omega)) (by rw [hf 0 (by omega)]) ?_ ⟨fun p hp => by rw [hf 38 (by omega)]; exact i5.1 p hp, fun p hp => by rw [hf 72 (by omega)]; exact i5.2.1 p hp, fun i j hij hi => by rw [hf _ (by omega)]; exact i5.2.2 i j hij hi⟩ (fun c _ _ => rfl)
  rw [hf 0 (by omega)]
  rcases i4 with q | ⟨q1, q2⟩
  · exact Or.inl q
  · exact Or.inr ⟨q1, cPV_fr hs q2 (fun c _ _ => hf c (by omega)) rfl⟩
theorem TR_put (hs : pRg s) (h : TR s2 s im kp tx ln so it ce M N M1 N1) {x b k : Nat} {v : Int} (hc : x = 62 + 1 ∧ b = 1 ∧ k < 5 ∨ x = 62 + 2 ∧ b = 6 ∧ k < 5 ∨ x = 62 + 4 ∧ b = 22 ∧ k < 10 ∨ x = 62 + 5 ∧ b = 32 ∧ k < 10 ∨ x = 62 + 6 ∧ b = 42 ∧ k < 4) : TR (pU s2 (b + k) v) s im kp tx ln so it ce M N (st M1 [(x, pU (M1 x) k v)]) N1 :=
  ⟨IC_tr hs h.1 (fun c hq => by rw [st_c, if_neg (by omega), st_nil]), cSV_put h.2.1 hc, fun c hq => ⟨by rw [st_c, if_neg (by omega), st_nil]; exact (h.2.2 c hq).1, (h.2.2 c hq).2⟩⟩
theorem TR_m (hs : pRg s) (h : TR s2 s im kp tx ln so it ce M N M1 N1) {s3 : Nat → Int} (hf : ∀ c, c < 62 ∨ 68 < c → M2 c = M1 c) (h3 : cSV 62 M2 s3) : TR s3 s im kp tx ln so it ce M N M2 N1 :=
  ⟨IC_tr hs h.1 hf, h3, fun c hq => ⟨by rw [hf c (by omega)]; exact (h.2.2 c hq).1, (h.2.2 c hq).2⟩⟩
end
theorem x_86 {K : mj_C} {d : Nat} {M : Nat → Nat → Int} {N : Nat → Nat → Int64} (hD : 6 ≤ d) (hK : kOk K) (s im : Nat → Int) (kp : Int) (tx : Nat → Int) (ln : Int) (so it : Nat → Int) (ce : Nat → Int64) (hI : IC s im kp tx ln so it ce M N) (hV : VI s im kp tx ln so it) (y : Int) : mj_X K d 86 [.inr (.inr (.inl 0)), .inl y] (mj_Sh, M, N) (fun r Z => r = some (.inr (.inl (qMore s y))) ∧ ∃ M1 N1, Z = (mj_Sh, M1, N1) ∧ IC s im kp tx ln so it ce M1 N1 ∧ fr6 M N M1 N1) := by
  show mj_T K d 86 0 [some (.inr (.inr (.inl 0))), some (.inl y), none] [] (mj_Sh, M, N) _
  have hVs := hV.1
  have hs := hVs.1
  have h0 := hs.1 0 (by omega)
  have h5 := hs.2.1
  have h11 := hs.1 11 (by omega)
  have hc11 := hs.2.2.1
  have hI0 := hI
  obtain ⟨⟨hS, hse, hev, hbo⟩, hkp, hkim, hfs, hzz, htxt, htp⟩ := hI
  by_cases hyy : (0 ≤ y ∧ y < s 0) ∧ ¬ s (1 + y.toNat) = 20
  · obtain ⟨k, rfl⟩ : ∃ k : Nat, y = (k : Int) := ⟨y.toNat, by omega⟩
    have hcap := (hVs.2.1 k (by omega)).1
    have hcp0 := hs.1 (1 + k) (by omega)
    have hk20 : ¬ s (1 + k) = 20 := by have := hyy.2; rwa [Int.toNat_natCast] at this
    refine tw_aload k86_0 rfl ?_
    refine tw_getr k86_1 f0_0 ?_
    refine tw_getr k86_4 f1_0 ?_
    refine tw_astore k86_7 rfl (L' := [some (.inr (.inr (.inl 0))), some (.inl ((k : Nat) : Int)), some (.inr (.inr (.inl 2)))]) rfl ?_
    refine tw_aload k86_8 rfl ?_
    refine tw_iload k86_9 rfl ?_
    refine tw_callbT (by omega) (S' := []) (as := [.inr (.inr (.inl 2)), .inl ((k : Nat) : Int)]) k86_10 (x_47_2 (M := M) (N := N) (by omega) s (hs.1 0 (by omega)) hS ((k : Nat) : Int)) rfl rfl rfl rfl rfl hyy.1 ?_
    refine tw_zeqF k86_13 (by decide) ?_
    refine tw_aload k86_16 rfl ?_
    refine tw_getr k86_17 f2_0 ?_
    refine tw_iload k86_20 rfl ?_
    refine tw_iald (j := k) (v := (s (1 + k))) k86_21 al3 rfl (by omega) (hS.2.2.1 k (by omega)).1 ?_
    refine tw_gets k86_22 ?_
    refine tw_const k86_25 ?_
    refine tw_ialdc (j := 0) (v := (20 : Int)) k86_26 rfl rfl (by rw [hK.1.2.1]; omega) hK.2.2.1.1 ?_
    refine tw_cltT k86_27 (by omega) ?_
    refine tw_aload k86_34 rfl ?_
    refine tw_call (by omega) (S' := []) (as := [.inr (.inr (.inl 0))]) k86_35 (x_107 (M := M) (N := N) (by omega) hK s im kp tx ln so it ce hI0 hV) rfl rfl rfl rfl rfl (fun r35 Z35 hq35 => ?_)
    obtain ⟨rfl, M4, rfl, j1, j2, j3⟩ := hq35
    have hT : TR s s im kp tx ln so it ce M N M4 N := ⟨j1, j2, fun c hc => ⟨j3 c (by omega), rfl⟩⟩
    refine tw_as (S := []) (M := M4) (N := N) rfl rfl ?_
    refine tw_aload k86_38 rfl ?_
    refine tw_getr k86_39 f0_5 ?_
    refine tw_getr k86_42 f62_0 ?_
    refine tw_iload k86_45 rfl ?_
    refine tw_dup2 k86_46 ?_
    refine tw_iald (j := k) (v := (s (1 + k))) k86_47 al63 rfl (by omega) (hT.2.1.2.2.1 k (by omega)).1 ?_
    refine tw_const k86_48 ?_
    refine tw_iadd k86_49 (v := ((s (1 + k)) + (1 : Int))) rfl (by omega) ?_
    refine tw_iast (M := M4) (N := N) (l := []) (l' := [(63, (pU (M4 63) k ((s (1 + k)) + (1 : Int))))]) (j := k) k86_50 al63 rfl (by omega) rfl ?_
    refine tw_aload k86_51 rfl ?_
    refine tw_call (by omega) (S' := []) (as := [.inr (.inr (.inl 0))]) k86_52 (x_108 (M := (st M4 [(63, (pU (M4 63) k ((s (1 + k)) + (1 : Int))))])) (N := N) (by omega) hK s im kp tx ln so it ce ((TR_put hs hT (by omega)) : TR (pU s (1 + k) (s (1 + k) + 1)) s im kp tx ln so it ce M N (st M4 [(63, (pU (M4 63) k ((s (1 + k)) + (1 : Int))))]) N).1 hV (pU s (1 + k) (s (1 + k) + 1)) (pRg_put hs (by omega) (by omega)) ((TR_put hs hT (by omega)) : TR (pU s (1 + k) (s (1 + k) + 1)) s im kp tx ln so it ce M N (st M4 [(63, (pU (M4 63) k ((s (1 + k)) + (1 : Int))))]) N).2.1) rfl rfl rfl rfl rfl (fun r52 Z52 hq52 => ?_)
    obtain ⟨rfl, M5, N5, rfl, t1, t2, t3, t4, t5⟩ := hq52
    have hT5a : TR (pU s (1 + k) (s (1 + k) + 1)) s im kp tx ln so it ce M N (st M4 [(63, (pU (M4 63) k ((s (1 + k)) + (1 : Int))))]) N := (TR_put hs hT (by omega))
    have hT5 : TR (pU s (1 + k) (s (1 + k) + 1)) s im kp tx ln so it ce M N M5 N5 := ⟨t1, t3, fr6_tr hT5a.2.2 t4⟩
    have hP5 : cPV 69 M5 N5 (pU s (1 + k) (s (1 + k) + 1)) := t2
    refine tw_as (S := [.inr (.inr (.inl 69))]) (M := M5) (N := N5) rfl rfl ?_
    refine tw_getl k86_55 f69_16 (v := (N5 69 16)) rfl ?_
    refine tw_aload k86_58 rfl ?_
    refine tw_call (by omega) (S' := [.inr (.inl (N5 69 16))]) (as := [.inr (.inr (.inl 0))]) k86_59 (x_106 (M := M5) (N := N5) (by omega) hK s im kp tx ln so it ce hT5.1 hV) rfl rfl rfl rfl rfl (fun r59 Z59 hq59 => ?_)
    obtain ⟨rfl, M6, N6, rfl, u1, u2, u3, u4⟩ := hq59
    have hP6 : cPV 35 M6 N6 s := u2
    have hF6 : fr6 M N M6 N6 := fr6_tr hT5.2.2 u3
    refine tw_as (S := [.inr (.inr (.inl 35)), .inr (.inl (N5 69 16))]) (M := M6) (N := N6) rfl rfl ?_
    refine tw_getl k86_62 f35_16 (v := (N6 35 16)) rfl ?_
    refine tw_lsub k86_65 ?_
    exact tw_rl k86_66 (⟨by unfold qMore; rw [if_pos hyy, Int.toNat_natCast, hP5.2.2.2.2.2, hP6.2.2.2.2.2], M6, N6, rfl, u1, hF6⟩)
  · by_cases hy1 : 0 ≤ y ∧ y < s 0
    · obtain ⟨k, rfl⟩ : ∃ k : Nat, y = (k : Int) := ⟨y.toNat, by omega⟩
      have hk20 : s (1 + k) = 20 := by rw [Int.toNat_natCast] at hyy; omega
      refine tw_aload k86_0 rfl ?_
      refine tw_getr k86_1 f0_0 ?_
      refine tw_getr k86_4 f1_0 ?_
      refine tw_astore k86_7 rfl (L' := [some (.inr (.inr (.inl 0))), some (.inl ((k : Nat) : Int)), some (.inr (.inr (.inl 2)))]) rfl ?_
      refine tw_aload k86_8 rfl ?_
      refine tw_iload k86_9 rfl ?_
      refine tw_callbT (by omega) (S' := []) (as := [.inr (.inr (.inl 2)), .inl ((k : Nat) : Int)]) k86_10 (x_47_2 (M := M) (N := N) (by omega) s (hs.1 0 (by omega)) hS ((k : Nat) : Int)) rfl rfl rfl rfl rfl hy1 ?_
      refine tw_zeqF k86_13 (by decide) ?_
      refine tw_aload k86_16 rfl ?_
      refine tw_getr k86_17 f2_0 ?_
      refine tw_iload k86_20 rfl ?_
      refine tw_iald (j := k) (v := (s (1 + k))) k86_21 al3 rfl (by omega) (hS.2.2.1 k (by omega)).1 ?_
      refine tw_gets k86_22 ?_
      refine tw_const k86_25 ?_
      refine tw_ialdc (j := 0) (v := (20 : Int)) k86_26 rfl rfl (by rw [hK.1.2.1]; omega) hK.2.2.1.1 ?_
      refine tw_cltF k86_27 (by omega) ?_
      refine tw_lconst k86_30 ?_
      exact tw_rl k86_33 (⟨by unfold qMore; rw [if_neg hyy]; rfl, M, N, rfl, hI0, fun c _ => ⟨rfl, rfl⟩⟩)
    · refine tw_aload k86_0 rfl ?_
      refine tw_getr k86_1 f0_0 ?_
      refine tw_getr k86_4 f1_0 ?_
      refine tw_astore k86_7 rfl (L' := [some (.inr (.inr (.inl 0))), some (.inl y), some (.inr (.inr (.inl 2)))]) rfl ?_
      refine tw_aload k86_8 rfl ?_
      refine tw_iload k86_9 rfl ?_
      refine tw_callbF (by omega) (S' := []) (as := [.inr (.inr (.inl 2)), .inl y]) k86_10 (x_47_2 (M := M) (N := N) (by omega) s (hs.1 0 (by omega)) hS y) rfl rfl rfl rfl rfl hy1 ?_
      refine tw_zeqT k86_13 (by decide) ?_
      refine tw_lconst k86_30 ?_
      exact tw_rl k86_33 (⟨by unfold qMore; rw [if_neg hyy]; rfl, M, N, rfl, hI0, fun c _ => ⟨rfl, rfl⟩⟩)
theorem x_87 {K : mj_C} {d : Nat} {M : Nat → Nat → Int} {N : Nat → Nat → Int64} (hD : 6 ≤ d) (hK : kOk K) (s im : Nat → Int) (kp : Int) (tx : Nat → Int) (ln : Int) (so it : Nat → Int) (ce : Nat → Int64) (hI : IC s im kp tx ln so it ce M N) (hV : VI s im kp tx ln so it) (y b n : Int) : mj_X K d 87 [.inr (.inr (.inl 0)), .inl y, .inl b, .inl n] (mj_Sh, M, N) (fun r Z => r = some (.inr (.inl (qShock s y b n))) ∧ ∃ M1 N1, Z = (mj_Sh, M1, N1) ∧ IC s im kp tx ln so it ce M1 N1 ∧ fr6 M N M1 N1) := by
  show mj_T K d 87 0 [some (.inr (.inr (.inl 0))), some (.inl y), some (.inl b), some (.inl n), none] [] (mj_Sh, M, N) _
  have hVs := hV.1
  have hs := hVs.1
  have h0 := hs.1 0 (by omega)
  have h5 := hs.2.1
  have h11 := hs.1 11 (by omega)
  have hc11 := hs.2.2.1
  have hI0 := hI
  obtain ⟨⟨hS, hse, hev, hbo⟩, hkp, hkim, hfs, hzz, htxt, htp⟩ := hI
  by_cases hyy : (0 ≤ y ∧ y < s 0) ∧ (0 ≤ b ∧ b < s 0) ∧ -9 ≤ n ∧ n ≤ 9
  · obtain ⟨k, rfl⟩ : ∃ k : Nat, y = (k : Int) := ⟨y.toNat, by omega⟩
    obtain ⟨q, rfl⟩ : ∃ q : Nat, b = (q : Int) := ⟨b.toNat, by omega⟩
    have hem := hVs.2.1 q (by omega)
    have hem0 := hs.1 (6 + q) (by omega)
    have hw1 := wPr_rg (pU s (6 + q) (max (0 : Int) (s (6 + q) + n))) k
    have hw2 := wPr_rg s k
    refine tw_aload k87_0 rfl ?_
    refine tw_getr k87_1 f0_0 ?_
    refine tw_getr k87_4 f1_0 ?_
    refine tw_astore k87_7 rfl (L' := [some (.inr (.inr (.inl 0))), some (.inl ((k : Nat) : Int)), some (.inl ((q : Nat) : Int)), some (.inl n), some (.inr (.inr (.inl 2)))]) rfl ?_
    refine tw_aload k87_9 rfl ?_
    refine tw_iload k87_11 rfl ?_
    refine tw_callbT (by omega) (S' := []) (as := [.inr (.inr (.inl 2)), .inl ((k : Nat) : Int)]) k87_12 (x_47_2 (M := M) (N := N) (by omega) s (hs.1 0 (by omega)) hS ((k : Nat) : Int)) rfl rfl rfl rfl rfl hyy.1 ?_
    refine tw_zeqF k87_15 (by decide) ?_
    refine tw_aload k87_18 rfl ?_
    refine tw_iload k87_20 rfl ?_
    refine tw_callbT (by omega) (S' := []) (as := [.inr (.inr (.inl 2)), .inl ((q : Nat) : Int)]) k87_21 (x_47_2 (M := M) (N := N) (by omega) s (hs.1 0 (by omega)) hS ((q : Nat) : Int)) rfl rfl rfl rfl rfl hyy.2.1 ?_
    refine tw_zeqF k87_24 (by decide) ?_
    refine tw_iload k87_27 rfl ?_
    refine tw_const k87_28 ?_
    refine tw_const k87_30 ?_
    refine tw_callbT (by omega) (S' := []) (as := [.inl n, .inl (-9 : Int), .inl (9 : Int)]) k87_32 (x_104 n (-9 : Int) (9 : Int)) rfl rfl rfl rfl rfl hyy.2.2 ?_
    refine tw_zneT k87_35 (by decide) ?_
    refine tw_aload k87_42 rfl ?_
    refine tw_call (by omega) (S' := []) (as := [.inr (.inr (.inl 0))]) k87_43 (x_107 (M := M) (N := N) (by omega) hK s im kp tx ln so it ce hI0 hV) rfl rfl rfl rfl rfl (fun r43 Z43 hq43 => ?_)
    obtain ⟨rfl, M4, rfl, j1, j2, j3⟩ := hq43
    have hT : TR s s im kp tx ln so it ce M N M4 N := ⟨j1, j2, fun c hc => ⟨j3 c (by omega), rfl⟩⟩
    refine tw_as (S := []) (M := M4) (N := N) rfl rfl ?_
    refine tw_aload k87_46 rfl ?_
    refine tw_getr k87_47 f0_5 ?_
    refine tw_getr k87_50 f62_1 ?_
    refine tw_iload k87_53 rfl ?_
    refine tw_const k87_54 ?_
    refine tw_aload k87_55 rfl ?_
    refine tw_getr k87_56 f0_5 ?_
    refine tw_getr k87_59 f62_1 ?_
    refine tw_iload k87_62 rfl ?_
    refine tw_iald (j := q) (v := (s (6 + q))) k87_63 al64 rfl (by omega) (hT.2.1.2.2.1 q (by omega)).2 ?_
    refine tw_iload k87_64 rfl ?_
    refine tw_iadd k87_65 (v := ((s (6 + q)) + n)) rfl (by omega) ?_
    refine tw_max k87_66 rfl ?_
    refine tw_iast (M := M4) (N := N) (l := []) (l' := [(64, (pU (M4 64) q (max (0 : Int) ((s (6 + q)) + n))))]) (j := q) k87_69 al64 rfl (by omega) rfl ?_
    refine tw_aload k87_70 rfl ?_
    refine tw_call (by omega) (S' := []) (as := [.inr (.inr (.inl 0))]) k87_71 (x_108 (M := (st M4 [(64, (pU (M4 64) q (max (0 : Int) ((s (6 + q)) + n))))])) (N := N) (by omega) hK s im kp tx ln so it ce ((TR_put hs hT (by omega)) : TR (pU s (6 + q) (max (0 : Int) (s (6 + q) + n))) s im kp tx ln so it ce M N (st M4 [(64, (pU (M4 64) q (max (0 : Int) ((s (6 + q)) + n))))]) N).1 hV (pU s (6 + q) (max (0 : Int) (s (6 + q) + n))) (pRg_put hs (by omega) (by omega)) ((TR_put hs hT (by omega)) : TR (pU s (6 + q) (max (0 : Int) (s (6 + q) + n))) s im kp tx ln so it ce M N (st M4 [(64, (pU (M4 64) q (max (0 : Int) ((s (6 + q)) + n))))]) N).2.1) rfl rfl rfl rfl rfl (fun r71 Z71 hq71 => ?_)
    obtain ⟨rfl, M5, N5, rfl, t1, t2, t3, t4, t5⟩ := hq71
    have hT5a : TR (pU s (6 + q) (max (0 : Int) (s (6 + q) + n))) s im kp tx ln so it ce M N (st M4 [(64, (pU (M4 64) q (max (0 : Int) ((s (6 + q)) + n))))]) N := (TR_put hs hT (by omega))
    have hT5 : TR (pU s (6 + q) (max (0 : Int) (s (6 + q) + n))) s im kp tx ln so it ce M N M5 N5 := ⟨t1, t3, fr6_tr hT5a.2.2 t4⟩
    have hP5 : cPV 69 M5 N5 (pU s (6 + q) (max (0 : Int) (s (6 + q) + n))) := t2
    refine tw_as (S := [.inr (.inr (.inl 69))]) (M := M5) (N := N5) rfl rfl ?_
    refine tw_iload k87_74 rfl ?_
    refine tw_callp (v := .inl (wPr (pU s (6 + q) (max (0 : Int) (s (6 + q) + n))) k)) (by omega) (S' := []) (as := [.inr (.inr (.inl 69)), .inl ((k : Nat) : Int)]) k87_75 (x_13_69 (M := M5) (N := N5) (pU s (6 + q) (max (0 : Int) (s (6 + q) + n))) (pRg_put hs (by omega) (by omega)) hP5 k (by rw [pU_ne (by omega)]; omega)) rfl rfl rfl rfl rfl ?_
    refine tw_aload k87_78 rfl ?_
    refine tw_call (by omega) (S' := [.inl (wPr (pU s (6 + q) (max (0 : Int) (s (6 + q) + n))) k)]) (as := [.inr (.inr (.inl 0))]) k87_79 (x_106 (M := M5) (N := N5) (by omega) hK s im kp tx ln so it ce hT5.1 hV) rfl rfl rfl rfl rfl (fun r79 Z79 hq79 => ?_)
    obtain ⟨rfl, M6, N6, rfl, u1, u2, u3, u4⟩ := hq79
    have hP6 : cPV 35 M6 N6 s := u2
    have hF6 : fr6 M N M6 N6 := fr6_tr hT5.2.2 u3
    refine tw_as (S := [.inr (.inr (.inl 35)), .inl (wPr (pU s (6 + q) (max (0 : Int) (s (6 + q) + n))) k)]) (M := M6) (N := N6) rfl rfl ?_
    refine tw_iload k87_82 rfl ?_
    refine tw_callp (v := .inl (wPr s k)) (by omega) (S' := [.inl (wPr (pU s (6 + q) (max (0 : Int) (s (6 + q) + n))) k)]) (as := [.inr (.inr (.inl 35)), .inl ((k : Nat) : Int)]) k87_83 (x_13_35 (M := M6) (N := N6) s hs hP6 k (by omega)) rfl rfl rfl rfl rfl ?_
    refine tw_isub k87_86 (v := ((wPr (pU s (6 + q) (max (0 : Int) (s (6 + q) + n))) k) - (wPr s k))) rfl (by omega) ?_
    refine tw_i2l k87_87 ?_
    exact tw_rl k87_88 (⟨by unfold qShock sShk; rw [if_pos hyy]; simp only [Int.toNat_natCast], M6, N6, rfl, u1, hF6⟩)
  · by_cases hy1 : 0 ≤ y ∧ y < s 0
    · by_cases hy2 : 0 ≤ b ∧ b < s 0
      · refine tw_aload k87_0 rfl ?_
        refine tw_getr k87_1 f0_0 ?_
        refine tw_getr k87_4 f1_0 ?_
        refine tw_astore k87_7 rfl (L' := [some (.inr (.inr (.inl 0))), some (.inl y), some (.inl b), some (.inl n), some (.inr (.inr (.inl 2)))]) rfl ?_
        refine tw_aload k87_9 rfl ?_
        refine tw_iload k87_11 rfl ?_
        refine tw_callbT (by omega) (S' := []) (as := [.inr (.inr (.inl 2)), .inl y]) k87_12 (x_47_2 (M := M) (N := N) (by omega) s (hs.1 0 (by omega)) hS y) rfl rfl rfl rfl rfl hy1 ?_
        refine tw_zeqF k87_15 (by decide) ?_
        refine tw_aload k87_18 rfl ?_
        refine tw_iload k87_20 rfl ?_
        refine tw_callbT (by omega) (S' := []) (as := [.inr (.inr (.inl 2)), .inl b]) k87_21 (x_47_2 (M := M) (N := N) (by omega) s (hs.1 0 (by omega)) hS b) rfl rfl rfl rfl rfl hy2 ?_
        refine tw_zeqF k87_24 (by decide) ?_
        refine tw_iload k87_27 rfl ?_
        refine tw_const k87_28 ?_
        refine tw_const k87_30 ?_
        refine tw_callbF (by omega) (S' := []) (as := [.inl n, .inl (-9 : Int), .inl (9 : Int)]) k87_32 (x_104 n (-9 : Int) (9 : Int)) rfl rfl rfl rfl rfl (fun q => hyy ⟨hy1, hy2, q⟩) ?_
        refine tw_zneF k87_35 (by decide) ?_
        refine tw_lconst k87_38 ?_
        exact tw_rl k87_41 (⟨by unfold qShock; rw [if_neg hyy]; rfl, M, N, rfl, hI0, fun c _ => ⟨rfl, rfl⟩⟩)
      · refine tw_aload k87_0 rfl ?_
        refine tw_getr k87_1 f0_0 ?_
        refine tw_getr k87_4 f1_0 ?_
        refine tw_astore k87_7 rfl (L' := [some (.inr (.inr (.inl 0))), some (.inl y), some (.inl b), some (.inl n), some (.inr (.inr (.inl 2)))]) rfl ?_
        refine tw_aload k87_9 rfl ?_
        refine tw_iload k87_11 rfl ?_
        refine tw_callbT (by omega) (S' := []) (as := [.inr (.inr (.inl 2)), .inl y]) k87_12 (x_47_2 (M := M) (N := N) (by omega) s (hs.1 0 (by omega)) hS y) rfl rfl rfl rfl rfl hy1 ?_
        refine tw_zeqF k87_15 (by decide) ?_
        refine tw_aload k87_18 rfl ?_
        refine tw_iload k87_20 rfl ?_
        refine tw_callbF (by omega) (S' := []) (as := [.inr (.inr (.inl 2)), .inl b]) k87_21 (x_47_2 (M := M) (N := N) (by omega) s (hs.1 0 (by omega)) hS b) rfl rfl rfl rfl rfl hy2 ?_
        refine tw_zeqT k87_24 (by decide) ?_
        refine tw_lconst k87_38 ?_
        exact tw_rl k87_41 (⟨by unfold qShock; rw [if_neg hyy]; rfl, M, N, rfl, hI0, fun c _ => ⟨rfl, rfl⟩⟩)
    · refine tw_aload k87_0 rfl ?_
      refine tw_getr k87_1 f0_0 ?_
      refine tw_getr k87_4 f1_0 ?_
      refine tw_astore k87_7 rfl (L' := [some (.inr (.inr (.inl 0))), some (.inl y), some (.inl b), some (.inl n), some (.inr (.inr (.inl 2)))]) rfl ?_
      refine tw_aload k87_9 rfl ?_
      refine tw_iload k87_11 rfl ?_
      refine tw_callbF (by omega) (S' := []) (as := [.inr (.inr (.inl 2)), .inl y]) k87_12 (x_47_2 (M := M) (N := N) (by omega) s (hs.1 0 (by omega)) hS y) rfl rfl rfl rfl rfl hy1 ?_
      refine tw_zeqT k87_15 (by decide) ?_
      refine tw_lconst k87_38 ?_
      exact tw_rl k87_41 (⟨by unfold qShock; rw [if_neg hyy]; rfl, M, N, rfl, hI0, fun c _ => ⟨rfl, rfl⟩⟩)
