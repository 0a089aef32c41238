-- the class: asked
theorem wFl_0 {s perm : Nat → Int} {G : GS} {i j : Nat} (h : j < i) : wFl s perm G i j = 0 := by
  unfold wFl fFl; rw [if_neg (by omega)]
def lD (x y : Nat) : Nat → Nat
  | 0 => 1
  | n + 1 => if x % (n + 1) = 0 ∧ y % (n + 1) = 0 then n + 1 else lD x y n
theorem lD_g : ∀ x : Nat, x < 101 → ∀ y : Nat, y < 11 → (¬ y = 0 → lD x y y = Nat.gcd x y) := by decide +kernel
theorem lD_1 {x y : Nat} : ∀ n, 1 ≤ lD x y n ∧ (lD x y n ≤ n ∨ n = 0)
  | 0 => by rw [lD]; omega
  | n + 1 => by
    have := lD_1 (x := x) (y := y) n
    rw [lD]
    split
    · omega
    · by_cases e : n = 0
      · subst e; rw [lD]; omega
      · omega
theorem x_75 {K : mj_C} {d : Nat} {M : Nat → Nat → Int} {N : Nat → Nat → Int64} (hD : 6 ≤ d) (hK : kOk K) (s im : Nat → Int) (kp : Int) (tx : Nat → Int) (ln : Int) (so it : Nat → Int) (ce : Nat → Int64) (hI : IC s im kp tx ln so it ce M N) (hV : VI s im kp tx ln so it) (y what : Int) : mj_X K d 75 [.inr (.inr (.inl 0)), .inl y, .inl what] (mj_Sh, M, N) (fun r Z => r = some (.inl (qOf s y what)) ∧ ∃ M1 N1, Z = (mj_Sh, M1, N1) ∧ IC s im kp tx ln so it ce M1 N1 ∧ fr6 M N M1 N1) := by
  show mj_T K d 75 0 [some (.inr (.inr (.inl 0))), some (.inl y), some (.inl what), none, none] [] (mj_Sh, M, N) _
  have hVs := hV.1
  have hs := hVs.1
  have h0 := hs.1 0 (by omega)
  have h5 := hs.2.1
  have h11 := hs.1 11 (by omega)
  have hc11 := hs.2.2.1
  have hI0 := hI
  obtain ⟨⟨hS, hse, hev, hbo⟩, hkp, hkim, hfs, hzz, htxt, htp⟩ := hI
  have hGk : gOk (s 0).toNat (wG s) := wGr_ok s (wB s)
  have hG1 : (wG s).1 ≤ (s 0).toNat := hGk.1
  by_cases hyy : 0 ≤ y ∧ y < s 0
  · obtain ⟨k, rfl⟩ : ∃ k : Nat, y = (k : Int) := ⟨y.toNat, by omega⟩
    obtain ⟨gg1, gg2, gg3⟩ := gOf_in hGk (show k < (s 0).toNat by omega)
    refine tw_aload k75_0 rfl ?_
    refine tw_getr k75_1 f0_0 ?_
    refine tw_getr k75_4 f1_0 ?_
    refine tw_astore k75_7 rfl (L' := [some (.inr (.inr (.inl 0))), some (.inl ((k : Nat) : Int)), some (.inl what), some (.inr (.inr (.inl 2))), none]) rfl ?_
    refine tw_aload k75_8 rfl ?_
    refine tw_iload k75_9 rfl ?_
    refine tw_callbT (by omega) (S' := []) (as := [.inr (.inr (.inl 2)), .inl ((k : Nat) : Int)]) k75_10 (x_47_2 (M := M) (N := N) (by omega) s (hs.1 0 (by omega)) hS ((k : Nat) : Int)) rfl rfl rfl rfl rfl hyy ?_
    refine tw_zneT k75_13 (by decide) ?_
    refine tw_aload k75_18 rfl ?_
    refine tw_call (by omega) (S' := []) (as := [.inr (.inr (.inl 0))]) k75_19 (x_106 (M := M) (N := N) (by omega) hK s im kp tx ln so it ce hI0 hV) rfl rfl rfl rfl rfl (fun r19 Z19 hq19 => ?_)
    obtain ⟨rfl, M3, N3, rfl, hIM3, hPM3, hFM3, hGM3⟩ := hq19
    have hS3 : cSV 2 M3 s := hIM3.1.1
    have hP0 := hPM3
    obtain ⟨⟨p11, p12, p13, p14, p15, hpp, hpg, hpd⟩, hu, hl, hd, hv, hn⟩ := hPM3
    have hpg : gRel (M3 44 3) (M3 45) (M3 46) (M3 47) (wG s) := hpg
    refine tw_as (S := [.inr (.inr (.inl 35))]) (M := M3) (N := N3) rfl rfl ?_
    refine tw_astore k75_22 rfl (L' := [some (.inr (.inr (.inl 0))), some (.inl ((k : Nat) : Int)), some (.inl what), some (.inr (.inr (.inl 2))), some (.inr (.inr (.inl 35)))]) rfl ?_
    refine tw_iload k75_24 rfl ?_
    refine tw_sw k75_25 ?_
    refine tw_pk (fun h25_0 => ?_) (fun h25_0 => ?_)
    · refine tw_aload k75_76 rfl ?_
      refine tw_getr k75_77 f2_0 ?_
      refine tw_iload k75_80 rfl ?_
      refine tw_iald (j := k) (v := (s (1 + k))) k75_81 al3 rfl (by omega) (hS3.2.2.1 k (by omega)).1 ?_
      exact tw_ri k75_82 (⟨by unfold qOf; rw [if_pos hyy]; (try simp only [Int.toNat_natCast]); all_goals ((repeat' split) <;> first | rfl | omega), M3, N3, rfl, hIM3, hFM3⟩)
    · skip
      refine tw_pk (fun h25_1 => ?_) (fun h25_1 => ?_)
      · refine tw_aload k75_83 rfl ?_
        refine tw_getr k75_84 f2_1 ?_
        refine tw_iload k75_87 rfl ?_
        refine tw_iald (j := k) (v := (s (6 + k))) k75_88 al4 rfl (by omega) (hS3.2.2.1 k (by omega)).2 ?_
        exact tw_ri k75_89 (⟨by unfold qOf; rw [if_pos hyy]; (try simp only [Int.toNat_natCast]); all_goals ((repeat' split) <;> first | rfl | omega), M3, N3, rfl, hIM3, hFM3⟩)
      · skip
        refine tw_pk (fun h25_2 => ?_) (fun h25_2 => ?_)
        · refine tw_aload k75_90 rfl ?_
          refine tw_getr k75_92 f35_2 ?_
          refine tw_iload k75_95 rfl ?_
          refine tw_iald (j := k) (v := ((wB s).1 k)) k75_96 al48 rfl (by omega) (hpp k (by omega)).1 ?_
          exact tw_ri k75_97 (⟨by unfold qOf; rw [if_pos hyy]; (try simp only [Int.toNat_natCast]); all_goals ((repeat' split) <;> first | rfl | omega), M3, N3, rfl, hIM3, hFM3⟩)
        · skip
          refine tw_pk (fun h25_3 => ?_) (fun h25_3 => ?_)
          · refine tw_aload k75_98 rfl ?_
            refine tw_getr k75_100 f35_4 ?_
            refine tw_iload k75_103 rfl ?_
            refine tw_iald (j := k) (v := (((gOf (wG s) k) : Nat) : Int)) k75_104 al50 rfl (by omega) (hu k (by omega)).1 ?_
            exact tw_ri k75_105 (⟨by unfold qOf; rw [if_pos hyy]; (try simp only [Int.toNat_natCast]); all_goals ((repeat' split) <;> first | rfl | omega), M3, N3, rfl, hIM3, hFM3⟩)
          · skip
            refine tw_pk (fun h25_4 => ?_) (fun h25_4 => ?_)
            · refine tw_aload k75_106 rfl ?_
              refine tw_iload k75_108 rfl ?_
              refine tw_callp (v := .inl (wPr s k)) (by omega) (S' := []) (as := [.inr (.inr (.inl 35)), .inl ((k : Nat) : Int)]) k75_109 (x_13_35 (M := M3) (N := N3) s hs hP0 k (by omega)) rfl rfl rfl rfl rfl ?_
              exact tw_ri k75_112 (⟨by unfold qOf; rw [if_pos hyy]; (try simp only [Int.toNat_natCast]); all_goals ((repeat' split) <;> first | rfl | omega), M3, N3, rfl, hIM3, hFM3⟩)
            · skip
              refine tw_pk (fun h25_5 => ?_) (fun h25_5 => ?_)
              · refine tw_aload k75_113 rfl ?_
                refine tw_getr k75_115 f35_5 ?_
                refine tw_iload k75_118 rfl ?_
                refine tw_iald (j := k) (v := (wU s (wB s).1 (wG s) k)) k75_119 al51 rfl (by omega) (hu k (by omega)).2.1 ?_
                exact tw_ri k75_120 (⟨by unfold qOf; rw [if_pos hyy]; (try simp only [Int.toNat_natCast]); all_goals ((repeat' split) <;> first | rfl | omega), M3, N3, rfl, hIM3, hFM3⟩)
              · skip
                refine tw_pk (fun h25_6 => ?_) (fun h25_6 => ?_)
                · refine tw_aload k75_121 rfl ?_
                  refine tw_getr k75_123 f35_6 ?_
                  refine tw_iload k75_126 rfl ?_
                  refine tw_iald (j := k) (v := (wBk s (wB s).1 (wG s) k)) k75_127 al52 rfl (by omega) (hu k (by omega)).2.2 ?_
                  exact tw_ri k75_128 (⟨by unfold qOf; rw [if_pos hyy]; (try simp only [Int.toNat_natCast]); all_goals ((repeat' split) <;> first | rfl | omega), M3, N3, rfl, hIM3, hFM3⟩)
                · skip
                  refine tw_pk (fun h25_7 => ?_) (fun h25_7 => ?_)
                  · refine tw_aload k75_129 rfl ?_
                    refine tw_getr k75_131 f35_3 ?_
                    refine tw_iload k75_134 rfl ?_
                    refine tw_iald (j := k) (v := ((wB s).2.1 k)) k75_135 al49 rfl (by omega) (hpp k (by omega)).2 ?_
                    exact tw_ri k75_136 (⟨by unfold qOf; rw [if_pos hyy]; (try simp only [Int.toNat_natCast]); all_goals ((repeat' split) <;> first | rfl | omega), M3, N3, rfl, hIM3, hFM3⟩)
                  · skip
                    refine tw_pk (fun h25_8 => ?_) (fun h25_8 => ?_)
                    · refine tw_aload k75_137 rfl ?_
                      refine tw_iload k75_138 rfl ?_
                      refine tw_callp (v := .inl (mO s (k : Int))) (by omega) (S' := []) (as := [.inr (.inr (.inl 2)), .inl ((k : Nat) : Int)]) k75_139 (x_54 (M := M3) (N := N3) s hs hS3 (k : Int)) rfl rfl rfl rfl rfl ?_
                      exact tw_ri k75_142 (⟨by unfold qOf; rw [if_pos hyy]; (try simp only [Int.toNat_natCast]); all_goals ((repeat' split) <;> first | rfl | omega), M3, N3, rfl, hIM3, hFM3⟩)
                    · skip
                      refine tw_pk0 ?_
                      refine tw_const k75_143 ?_
                      exact tw_ri k75_144 (⟨by unfold qOf; rw [if_pos hyy]; (try simp only [Int.toNat_natCast]); all_goals ((repeat' split) <;> first | rfl | omega), M3, N3, rfl, hIM3, hFM3⟩)
  · refine tw_aload k75_0 rfl ?_
    refine tw_getr k75_1 f0_0 ?_
    refine tw_getr k75_4 f1_0 ?_
    refine tw_astore k75_7 rfl (L' := [some (.inr (.inr (.inl 0))), some (.inl y), some (.inl what), some (.inr (.inr (.inl 2))), none]) rfl ?_
    refine tw_aload k75_8 rfl ?_
    refine tw_iload k75_9 rfl ?_
    refine tw_callbF (by omega) (S' := []) (as := [.inr (.inr (.inl 2)), .inl y]) k75_10 (x_47_2 (M := M) (N := N) (by omega) s (hs.1 0 (by omega)) hS y) rfl rfl rfl rfl rfl hyy ?_
    refine tw_zneF k75_13 (by decide) ?_
    refine tw_const k75_16 ?_
    exact tw_ri k75_17 (⟨by unfold qOf; rw [if_neg hyy], M, N, rfl, hI0, fun c _ => ⟨rfl, rfl⟩⟩)
theorem x_76 {K : mj_C} {d : Nat} {M : Nat → Nat → Int} {N : Nat → Nat → Int64} (hD : 6 ≤ d) (hK : kOk K) (s im : Nat → Int) (kp : Int) (tx : Nat → Int) (ln : Int) (so it : Nat → Int) (ce : Nat → Int64) (hI : IC s im kp tx ln so it ce M N) (hV : VI s im kp tx ln so it) (y what : Int) : mj_X K d 76 [.inr (.inr (.inl 0)), .inl y, .inl what] (mj_Sh, M, N) (fun r Z => r = some (.inl (qAbout s y what)) ∧ ∃ M1 N1, Z = (mj_Sh, M1, N1) ∧ IC s im kp tx ln so it ce M1 N1 ∧ fr6 M N M1 N1) := by
  show mj_T K d 76 0 [some (.inr (.inr (.inl 0))), some (.inl y), some (.inl what), none] [] (mj_Sh, M, N) _
  have hVs := hV.1
  have hs := hVs.1
  have h0 := hs.1 0 (by omega)
  have h5 := hs.2.1
  have h11 := hs.1 11 (by omega)
  have hc11 := hs.2.2.1
  have hI0 := hI
  obtain ⟨⟨hS, hse, hev, hbo⟩, hkp, hkim, hfs, hzz, htxt, htp⟩ := hI
  have hGk : gOk (s 0).toNat (wG s) := wGr_ok s (wB s)
  have hG1 : (wG s).1 ≤ (s 0).toNat := hGk.1
  by_cases hyy : 0 ≤ y ∧ y < s 11
  · obtain ⟨k, rfl⟩ : ∃ k : Nat, y = (k : Int) := ⟨y.toNat, by omega⟩
    refine tw_aload k76_0 rfl ?_
    refine tw_getr k76_1 f0_0 ?_
    refine tw_getr k76_4 f1_0 ?_
    refine tw_astore k76_7 rfl (L' := [some (.inr (.inr (.inl 0))), some (.inl ((k : Nat) : Int)), some (.inl what), some (.inr (.inr (.inl 2)))]) rfl ?_
    refine tw_aload k76_8 rfl ?_
    refine tw_iload k76_9 rfl ?_
    refine tw_callbT (by omega) (S' := []) (as := [.inr (.inr (.inl 2)), .inl ((k : Nat) : Int)]) k76_10 (x_48_2 (M := M) (N := N) (by omega) s (hs.1 11 (by omega)) hS ((k : Nat) : Int)) rfl rfl rfl rfl rfl hyy ?_
    refine tw_zneT k76_13 (by decide) ?_
    refine tw_iload k76_18 rfl ?_
    refine tw_sw k76_19 ?_
    refine tw_pk (fun h19_0 => ?_) (fun h19_0 => ?_)
    · refine tw_aload k76_48 rfl ?_
      refine tw_getr k76_49 f2_2 ?_
      refine tw_iload k76_52 rfl ?_
      refine tw_iald (j := k) (v := (s (12 + k))) k76_53 al5 rfl (by omega) (hS.2.2.2.1 k (by omega)).1 ?_
      exact tw_ri k76_54 (⟨by unfold qAbout; rw [if_pos hyy]; (try simp only [Int.toNat_natCast]); all_goals ((repeat' split) <;> first | rfl | omega), M, N, rfl, hI0, fun c _ => ⟨rfl, rfl⟩⟩)
    · skip
      refine tw_pk (fun h19_1 => ?_) (fun h19_1 => ?_)
      · refine tw_aload k76_55 rfl ?_
        refine tw_getr k76_56 f2_3 ?_
        refine tw_iload k76_59 rfl ?_
        refine tw_iald (j := k) (v := (s (22 + k))) k76_60 al6 rfl (by omega) (hS.2.2.2.1 k (by omega)).2.1 ?_
        exact tw_ri k76_61 (⟨by unfold qAbout; rw [if_pos hyy]; (try simp only [Int.toNat_natCast]); all_goals ((repeat' split) <;> first | rfl | omega), M, N, rfl, hI0, fun c _ => ⟨rfl, rfl⟩⟩)
      · skip
        refine tw_pk (fun h19_2 => ?_) (fun h19_2 => ?_)
        · refine tw_aload k76_62 rfl ?_
          refine tw_getr k76_63 f2_4 ?_
          refine tw_iload k76_66 rfl ?_
          refine tw_iald (j := k) (v := (s (32 + k))) k76_67 al7 rfl (by omega) (hS.2.2.2.1 k (by omega)).2.2 ?_
          exact tw_ri k76_68 (⟨by unfold qAbout; rw [if_pos hyy]; (try simp only [Int.toNat_natCast]); all_goals ((repeat' split) <;> first | rfl | omega), M, N, rfl, hI0, fun c _ => ⟨rfl, rfl⟩⟩)
        · skip
          refine tw_pk (fun h19_3 => ?_) (fun h19_3 => ?_)
          · refine tw_aload k76_69 rfl ?_
            refine tw_call (by omega) (S' := []) (as := [.inr (.inr (.inl 0))]) k76_70 (x_106 (M := M) (N := N) (by omega) hK s im kp tx ln so it ce hI0 hV) rfl rfl rfl rfl rfl (fun r70 Z70 hq70 => ?_)
            obtain ⟨rfl, M3, N3, rfl, hIM3, hPM3, hFM3, hGM3⟩ := hq70
            have hS3 : cSV 2 M3 s := hIM3.1.1
            have hP0 := hPM3
            obtain ⟨⟨p11, p12, p13, p14, p15, hpp, hpg, hpd⟩, hu, hl, hd, hv, hn⟩ := hPM3
            have hpg : gRel (M3 44 3) (M3 45) (M3 46) (M3 47) (wG s) := hpg
            refine tw_as (S := [.inr (.inr (.inl 35))]) (M := M3) (N := N3) rfl rfl ?_
            refine tw_getr k76_73 f35_8 ?_
            refine tw_iload k76_76 rfl ?_
            refine tw_iald (j := k) (v := (wDv s k)) k76_77 al54 rfl (by omega) (hd k (by omega)) ?_
            exact tw_ri k76_78 (⟨by unfold qAbout; rw [if_pos hyy]; (try simp only [Int.toNat_natCast]); all_goals ((repeat' split) <;> first | rfl | omega), M3, N3, rfl, hIM3, hFM3⟩)
          · skip
            refine tw_pk0 ?_
            refine tw_const k76_79 ?_
            exact tw_ri k76_80 (⟨by unfold qAbout; rw [if_pos hyy]; (try simp only [Int.toNat_natCast]); all_goals ((repeat' split) <;> first | rfl | omega), M, N, rfl, hI0, fun c _ => ⟨rfl, rfl⟩⟩)
  · refine tw_aload k76_0 rfl ?_
    refine tw_getr k76_1 f0_0 ?_
    refine tw_getr k76_4 f1_0 ?_
    refine tw_astore k76_7 rfl (L' := [some (.inr (.inr (.inl 0))), some (.inl y), some (.inl what), some (.inr (.inr (.inl 2)))]) rfl ?_
    refine tw_aload k76_8 rfl ?_
    refine tw_iload k76_9 rfl ?_
    refine tw_callbF (by omega) (S' := []) (as := [.inr (.inr (.inl 2)), .inl y]) k76_10 (x_48_2 (M := M) (N := N) (by omega) s (hs.1 11 (by omega)) hS y) rfl rfl rfl rfl rfl hyy ?_
    refine tw_zneF k76_13 (by decide) ?_
    refine tw_const k76_16 ?_
    exact tw_ri k76_17 (⟨by unfold qAbout; rw [if_neg hyy], M, N, rfl, hI0, fun c _ => ⟨rfl, rfl⟩⟩)
theorem x_77 {K : mj_C} {d : Nat} {M : Nat → Nat → Int} {N : Nat → Nat → Int64} (hD : 6 ≤ d) (hK : kOk K) (s im : Nat → Int) (kp : Int) (tx : Nat → Int) (ln : Int) (so it : Nat → Int) (ce : Nat → Int64) (hI : IC s im kp tx ln so it ce M N) (hV : VI s im kp tx ln so it) (y p what : Int) : mj_X K d 77 [.inr (.inr (.inl 0)), .inl y, .inl p, .inl what] (mj_Sh, M, N) (fun r Z => r = some (.inl (qAt s y p what)) ∧ ∃ M1 N1, Z = (mj_Sh, M1, N1) ∧ IC s im kp tx ln so it ce M1 N1 ∧ fr6 M N M1 N1) := by
  show mj_T K d 77 0 [some (.inr (.inr (.inl 0))), some (.inl y), some (.inl p), some (.inl what), none] [] (mj_Sh, M, N) _
  have hVs := hV.1
  have hs := hVs.1
  have h0 := hs.1 0 (by omega)
  have h5 := hs.2.1
  have h11 := hs.1 11 (by omega)
  have hc11 := hs.2.2.1
  have hI0 := hI
  obtain ⟨⟨hS, hse, hev, hbo⟩, hkp, hkim, hfs, hzz, htxt, htp⟩ := hI
  have hGk : gOk (s 0).toNat (wG s) := wGr_ok s (wB s)
  have hG1 : (wG s).1 ≤ (s 0).toNat := hGk.1
  by_cases hyy : 0 ≤ y ∧ y < s 0
  · by_cases hpp_ : 0 ≤ p ∧ p ≤ 20
    · obtain ⟨k, rfl⟩ : ∃ k : Nat, y = (k : Int) := ⟨y.toNat, by omega⟩
      obtain ⟨q, rfl⟩ : ∃ q : Nat, p = (q : Int) := ⟨p.toNat, by omega⟩
      refine tw_aload k77_0 rfl ?_
      refine tw_getr k77_1 f0_0 ?_
      refine tw_getr k77_4 f1_0 ?_
      refine tw_iload k77_7 rfl ?_
      refine tw_callbT (by omega) (S' := []) (as := [.inr (.inr (.inl 2)), .inl ((k : Nat) : Int)]) k77_8 (x_47_2 (M := M) (N := N) (by omega) s (hs.1 0 (by omega)) hS ((k : Nat) : Int)) rfl rfl rfl rfl rfl hyy ?_
      refine tw_zeqF k77_11 (by decide) ?_
      refine tw_iload k77_14 rfl ?_
      refine tw_const k77_15 ?_
      refine tw_const k77_16 ?_
      refine tw_callb (by omega) (S' := []) (as := [.inl what, .inl (0 : Int), .inl (1 : Int)]) k77_17 (x_104 what (0 : Int) (1 : Int)) rfl rfl rfl rfl rfl (fun h17 => ?_) (fun h17 => ?_)
      · refine tw_zneT k77_20 (by decide) ?_
        refine tw_iload k77_25 rfl ?_
        refine tw_const k77_26 ?_
        refine tw_const k77_27 ?_
        refine tw_callbT (by omega) (S' := []) (as := [.inl ((q : Nat) : Int), .inl (0 : Int), .inl (20 : Int)]) k77_29 (x_104 ((q : Nat) : Int) (0 : Int) (20 : Int)) rfl rfl rfl rfl rfl hpp_ ?_
        refine tw_zneT k77_32 (by decide) ?_
        refine tw_aload k77_38 rfl ?_
        refine tw_call (by omega) (S' := []) (as := [.inr (.inr (.inl 0))]) k77_39 (x_106 (M := M) (N := N) (by omega) hK s im kp tx ln so it ce hI0 hV) rfl rfl rfl rfl rfl (fun r39 Z39 hq39 => ?_)
        obtain ⟨rfl, M3, N3, rfl, hIM3, hPM3, hFM3, hGM3⟩ := hq39
        have hS3 : cSV 2 M3 s := hIM3.1.1
        have hP0 := hPM3
        obtain ⟨⟨p11, p12, p13, p14, p15, hpp, hpg, hpd⟩, hu, hl, hd, hv, hn⟩ := hPM3
        have hpg : gRel (M3 44 3) (M3 45) (M3 46) (M3 47) (wG s) := hpg
        refine tw_as (S := [.inr (.inr (.inl 35))]) (M := M3) (N := N3) rfl rfl ?_
        refine tw_getr k77_42 f35_0 ?_
        refine tw_astore k77_45 rfl (L' := [some (.inr (.inr (.inl 0))), some (.inl ((k : Nat) : Int)), some (.inl ((q : Nat) : Int)), some (.inl what), some (.inr (.inr (.inl 36)))]) rfl ?_
        refine tw_iload k77_47 rfl ?_
        refine tw_zne k77_48 (fun h48 => ?_) (fun h48 => ?_)
        · refine tw_aload k77_62 rfl ?_
          refine tw_iload k77_64 rfl ?_
          refine tw_iload k77_65 rfl ?_
          refine tw_iload k77_66 rfl ?_
          refine tw_callp (v := .inl (pLo s q k)) (by omega) (S' := []) (as := [.inr (.inr (.inl 36)), .inl ((k : Nat) : Int), .inl ((k : Nat) : Int), .inl ((q : Nat) : Int)]) k77_67 (x_2_35' (M := M3) (N := N3) (by omega) s hs hpd k q (by omega) (by omega)) rfl rfl rfl rfl rfl ?_
          exact tw_ri k77_70 (⟨by unfold qAt; (try simp only [Int.toNat_natCast]); (repeat' split) <;> first | rfl | omega, M3, N3, rfl, hIM3, hFM3⟩)
        · refine tw_aload k77_51 rfl ?_
          refine tw_iload k77_53 rfl ?_
          refine tw_iload k77_54 rfl ?_
          refine tw_iload k77_55 rfl ?_
          refine tw_callp (v := .inl (pEm s k ((q : Nat) : Int))) (by omega) (S' := []) (as := [.inr (.inr (.inl 36)), .inl ((k : Nat) : Int), .inl ((k : Nat) : Int), .inl ((q : Nat) : Int)]) k77_56 (x_3_35' (M := M3) (N := N3) (by omega) s hs hpd k q (by omega) (by omega)) rfl rfl rfl rfl rfl ?_
          refine tw_goto k77_59 ?_
          exact tw_ri k77_70 (⟨by unfold qAt; (try simp only [Int.toNat_natCast]); (repeat' split) <;> first | rfl | omega, M3, N3, rfl, hIM3, hFM3⟩)
      · refine tw_zneF k77_20 (by decide) ?_
        refine tw_const k77_23 ?_
        exact tw_ri k77_24 (⟨by unfold qAt; (try simp only [Int.toNat_natCast]); (repeat' split) <;> first | rfl | omega, M, N, rfl, hI0, fun c _ => ⟨rfl, rfl⟩⟩)
    · refine tw_aload k77_0 rfl ?_
      refine tw_getr k77_1 f0_0 ?_
      refine tw_getr k77_4 f1_0 ?_
      refine tw_iload k77_7 rfl ?_
      refine tw_callbT (by omega) (S' := []) (as := [.inr (.inr (.inl 2)), .inl y]) k77_8 (x_47_2 (M := M) (N := N) (by omega) s (hs.1 0 (by omega)) hS y) rfl rfl rfl rfl rfl hyy ?_
      refine tw_zeqF k77_11 (by decide) ?_
      refine tw_iload k77_14 rfl ?_
      refine tw_const k77_15 ?_
      refine tw_const k77_16 ?_
      refine tw_callb (by omega) (S' := []) (as := [.inl what, .inl (0 : Int), .inl (1 : Int)]) k77_17 (x_104 what (0 : Int) (1 : Int)) rfl rfl rfl rfl rfl (fun h17 => ?_) (fun h17 => ?_)
      · refine tw_zneT k77_20 (by decide) ?_
        refine tw_iload k77_25 rfl ?_
        refine tw_const k77_26 ?_
        refine tw_const k77_27 ?_
        refine tw_callbF (by omega) (S' := []) (as := [.inl p, .inl (0 : Int), .inl (20 : Int)]) k77_29 (x_104 p (0 : Int) (20 : Int)) rfl rfl rfl rfl rfl hpp_ ?_
        refine tw_zneF k77_32 (by decide) ?_
        refine tw_const k77_35 ?_
        exact tw_ri k77_37 (⟨by unfold qAt; (try simp only [Int.toNat_natCast]); (repeat' split) <;> first | rfl | omega, M, N, rfl, hI0, fun c _ => ⟨rfl, rfl⟩⟩)
      · refine tw_zneF k77_20 (by decide) ?_
        refine tw_const k77_23 ?_
        exact tw_ri k77_24 (⟨by unfold qAt; (try simp only [Int.toNat_natCast]); (repeat' split) <;> first | rfl | omega, M, N, rfl, hI0, fun c _ => ⟨rfl, rfl⟩⟩)
  · refine tw_aload k77_0 rfl ?_
    refine tw_getr k77_1 f0_0 ?_
    refine tw_getr k77_4 f1_0 ?_
    refine tw_iload k77_7 rfl ?_
    refine tw_callbF (by omega) (S' := []) (as := [.inr (.inr (.inl 2)), .inl y]) k77_8 (x_47_2 (M := M) (N := N) (by omega) s (hs.1 0 (by omega)) hS y) rfl rfl rfl rfl rfl hyy ?_
    refine tw_zeqT k77_11 (by decide) ?_
    refine tw_const k77_23 ?_
    exact tw_ri k77_24 (⟨by unfold qAt; (try simp only [Int.toNat_natCast]); (repeat' split) <;> first | rfl | omega, M, N, rfl, hI0, fun c _ => ⟨rfl, rfl⟩⟩)
theorem x_78 {K : mj_C} {d : Nat} {M : Nat → Nat → Int} {N : Nat → Nat → Int64} (hD : 6 ≤ d) (hK : kOk K) (s im : Nat → Int) (kp : Int) (tx : Nat → Int) (ln : Int) (so it : Nat → Int) (ce : Nat → Int64) (hI : IC s im kp tx ln so it ce M N) (hV : VI s im kp tx ln so it) (y what : Int) : mj_X K d 78 [.inr (.inr (.inl 0)), .inl y, .inl what] (mj_Sh, M, N) (fun r Z => r = some (.inl (qGroup s y what)) ∧ ∃ M1 N1, Z = (mj_Sh, M1, N1) ∧ IC s im kp tx ln so it ce M1 N1 ∧ fr6 M N M1 N1) := by
  show mj_T K d 78 0 [some (.inr (.inr (.inl 0))), some (.inl y), some (.inl what), none, none] [] (mj_Sh, M, N) _
  have hVs := hV.1
  have hs := hVs.1
  have h0 := hs.1 0 (by omega)
  have h5 := hs.2.1
  have h11 := hs.1 11 (by omega)
  have hc11 := hs.2.2.1
  have hI0 := hI
  obtain ⟨⟨hS, hse, hev, hbo⟩, hkp, hkim, hfs, hzz, htxt, htp⟩ := hI
  have hGk : gOk (s 0).toNat (wG s) := wGr_ok s (wB s)
  have hG1 : (wG s).1 ≤ (s 0).toNat := hGk.1
  by_cases hyy : 0 ≤ y ∧ y < ((wG s).1 : Int)
  · obtain ⟨k, rfl⟩ : ∃ k : Nat, y = (k : Int) := ⟨y.toNat, by omega⟩
    refine tw_aload k78_0 rfl ?_
    refine tw_call (by omega) (S' := []) (as := [.inr (.inr (.inl 0))]) k78_1 (x_106 (M := M) (N := N) (by omega) hK s im kp tx ln so it ce hI0 hV) rfl rfl rfl rfl rfl (fun r1 Z1 hq1 => ?_)
    obtain ⟨rfl, M3, N3, rfl, hIM3, hPM3, hFM3, hGM3⟩ := hq1
    have hS3 : cSV 2 M3 s := hIM3.1.1
    have hP0 := hPM3
    obtain ⟨⟨p11, p12, p13, p14, p15, hpp, hpg, hpd⟩, hu, hl, hd, hv, hn⟩ := hPM3
    have hpg : gRel (M3 44 3) (M3 45) (M3 46) (M3 47) (wG s) := hpg
    refine tw_as (S := [.inr (.inr (.inl 35))]) (M := M3) (N := N3) rfl rfl ?_
    refine tw_astore k78_4 rfl (L' := [some (.inr (.inr (.inl 0))), some (.inl ((k : Nat) : Int)), some (.inl what), some (.inr (.inr (.inl 35))), none]) rfl ?_
    refine tw_aload k78_5 rfl ?_
    refine tw_getr k78_6 f35_1 ?_
    refine tw_astore k78_9 rfl (L' := [some (.inr (.inr (.inl 0))), some (.inl ((k : Nat) : Int)), some (.inl what), some (.inr (.inr (.inl 35))), some (.inr (.inr (.inl 44)))]) rfl ?_
    refine tw_iload k78_11 rfl ?_
    refine tw_const k78_12 ?_
    refine tw_aload k78_13 rfl ?_
    refine tw_geti k78_15 f44_3 rfl (v := (((wG s).1 : Nat) : Int)) hpg.1 ?_
    refine tw_const k78_18 ?_
    refine tw_isub k78_19 (v := ((((wG s).1 : Nat) : Int) - (1 : Int))) rfl (by omega) ?_
    refine tw_callbT (by omega) (S' := []) (as := [.inl ((k : Nat) : Int), .inl (0 : Int), .inl ((((wG s).1 : Nat) : Int) - (1 : Int))]) k78_20 (x_104 ((k : Nat) : Int) (0 : Int) ((((wG s).1 : Nat) : Int) - (1 : Int))) rfl rfl rfl rfl rfl (by omega) ?_
    refine tw_zneT k78_23 (by decide) ?_
    refine tw_iload k78_28 rfl ?_
    refine tw_sw k78_29 ?_
    refine tw_pk (fun h29_0 => ?_) (fun h29_0 => ?_)
    · refine tw_aload k78_68 rfl ?_
      refine tw_getr k78_70 f44_0 ?_
      refine tw_iload k78_73 rfl ?_
      refine tw_iald (j := k) (v := ((((wG s).2.1 k) : Nat) : Int)) k78_74 al45 rfl (by omega) (hpg.2 k (by omega)).1 ?_
      exact tw_ri k78_75 (⟨by unfold qGroup; rw [if_pos hyy]; (try simp only [Int.toNat_natCast]); all_goals ((repeat' split) <;> first | rfl | omega), M3, N3, rfl, hIM3, hFM3⟩)
    · skip
      refine tw_pk (fun h29_1 => ?_) (fun h29_1 => ?_)
      · refine tw_aload k78_76 rfl ?_
        refine tw_getr k78_78 f44_1 ?_
        refine tw_iload k78_81 rfl ?_
        refine tw_iald (j := k) (v := ((((wG s).2.2.1 k) : Nat) : Int)) k78_82 al46 rfl (by omega) (hpg.2 k (by omega)).2.1 ?_
        exact tw_ri k78_83 (⟨by unfold qGroup; rw [if_pos hyy]; (try simp only [Int.toNat_natCast]); all_goals ((repeat' split) <;> first | rfl | omega), M3, N3, rfl, hIM3, hFM3⟩)
      · skip
        refine tw_pk (fun h29_2 => ?_) (fun h29_2 => ?_)
        · refine tw_aload k78_84 rfl ?_
          refine tw_getr k78_86 f44_2 ?_
          refine tw_iload k78_89 rfl ?_
          refine tw_iald (j := k) (v := ((((wG s).2.2.2 k) : Nat) : Int)) k78_90 al47 rfl (by omega) (hpg.2 k (by omega)).2.2 ?_
          exact tw_ri k78_91 (⟨by unfold qGroup; rw [if_pos hyy]; (try simp only [Int.toNat_natCast]); all_goals ((repeat' split) <;> first | rfl | omega), M3, N3, rfl, hIM3, hFM3⟩)
        · skip
          refine tw_pk (fun h29_3 => ?_) (fun h29_3 => ?_)
          · refine tw_aload k78_92 rfl ?_
            refine tw_aload k78_93 rfl ?_
            refine tw_getr k78_94 f35_2 ?_
            refine tw_iload k78_97 rfl ?_
            refine tw_callp (v := .inl (gTot (wB s).1 (wG s) k)) (by omega) (S' := []) (as := [.inr (.inr (.inl 35)), .inr (.inr (.inl 48)), .inl ((k : Nat) : Int)]) k78_98 (x_14 (M := M3) (N := N3) (by omega) s hs hP0 k (by omega)) rfl rfl rfl rfl rfl ?_
            exact tw_ri k78_101 (⟨by unfold qGroup; rw [if_pos hyy]; (try simp only [Int.toNat_natCast]); all_goals ((repeat' split) <;> first | rfl | omega), M3, N3, rfl, hIM3, hFM3⟩)
          · skip
            refine tw_pk (fun h29_4 => ?_) (fun h29_4 => ?_)
            · refine tw_aload k78_102 rfl ?_
              refine tw_getr k78_103 f35_7 ?_
              refine tw_iload k78_106 rfl ?_
              refine tw_iald (j := k) (v := (wLk s (wB s).1 (wG s) k)) k78_107 al53 rfl (by omega) (hl k (by omega)) ?_
              exact tw_ri k78_108 (⟨by unfold qGroup; rw [if_pos hyy]; (try simp only [Int.toNat_natCast]); all_goals ((repeat' split) <;> first | rfl | omega), M3, N3, rfl, hIM3, hFM3⟩)
            · skip
              refine tw_pk (fun h29_5 => ?_) (fun h29_5 => ?_)
              · refine tw_aload k78_109 rfl ?_
                refine tw_aload k78_110 rfl ?_
                refine tw_getr k78_111 f35_5 ?_
                refine tw_iload k78_114 rfl ?_
                refine tw_callp (v := .inl (gTot (wU s (wB s).1 (wG s)) (wG s) k)) (by omega) (S' := []) (as := [.inr (.inr (.inl 35)), .inr (.inr (.inl 51)), .inl ((k : Nat) : Int)]) k78_115 (x_14u (M := M3) (N := N3) (by omega) s hs hP0 k (by omega)) rfl rfl rfl rfl rfl ?_
                exact tw_ri k78_118 (⟨by unfold qGroup; rw [if_pos hyy]; (try simp only [Int.toNat_natCast]); all_goals ((repeat' split) <;> first | rfl | omega), M3, N3, rfl, hIM3, hFM3⟩)
              · skip
                refine tw_pk0 ?_
                refine tw_const k78_119 ?_
                exact tw_ri k78_120 (⟨by unfold qGroup; rw [if_pos hyy]; (try simp only [Int.toNat_natCast]); all_goals ((repeat' split) <;> first | rfl | omega), M3, N3, rfl, hIM3, hFM3⟩)
  · refine tw_aload k78_0 rfl ?_
    refine tw_call (by omega) (S' := []) (as := [.inr (.inr (.inl 0))]) k78_1 (x_106 (M := M) (N := N) (by omega) hK s im kp tx ln so it ce hI0 hV) rfl rfl rfl rfl rfl (fun r1 Z1 hq1 => ?_)
    obtain ⟨rfl, M3, N3, rfl, hIM3, hPM3, hFM3, hGM3⟩ := hq1
    have hS3 : cSV 2 M3 s := hIM3.1.1
    have hP0 := hPM3
    obtain ⟨⟨p11, p12, p13, p14, p15, hpp, hpg, hpd⟩, hu, hl, hd, hv, hn⟩ := hPM3
    have hpg : gRel (M3 44 3) (M3 45) (M3 46) (M3 47) (wG s) := hpg
    refine tw_as (S := [.inr (.inr (.inl 35))]) (M := M3) (N := N3) rfl rfl ?_
    refine tw_astore k78_4 rfl (L' := [some (.inr (.inr (.inl 0))), some (.inl y), some (.inl what), some (.inr (.inr (.inl 35))), none]) rfl ?_
    refine tw_aload k78_5 rfl ?_
    refine tw_getr k78_6 f35_1 ?_
    refine tw_astore k78_9 rfl (L' := [some (.inr (.inr (.inl 0))), some (.inl y), some (.inl what), some (.inr (.inr (.inl 35))), some (.inr (.inr (.inl 44)))]) rfl ?_
    refine tw_iload k78_11 rfl ?_
    refine tw_const k78_12 ?_
    refine tw_aload k78_13 rfl ?_
    refine tw_geti k78_15 f44_3 rfl (v := (((wG s).1 : Nat) : Int)) hpg.1 ?_
    refine tw_const k78_18 ?_
    refine tw_isub k78_19 (v := ((((wG s).1 : Nat) : Int) - (1 : Int))) rfl (by omega) ?_
    refine tw_callbF (by omega) (S' := []) (as := [.inl y, .inl (0 : Int), .inl ((((wG s).1 : Nat) : Int) - (1 : Int))]) k78_20 (x_104 y (0 : Int) ((((wG s).1 : Nat) : Int) - (1 : Int))) rfl rfl rfl rfl rfl (by omega) ?_
    refine tw_zneF k78_23 (by decide) ?_
    refine tw_const k78_26 ?_
    exact tw_ri k78_27 (⟨by unfold qGroup; rw [if_neg hyy], M3, N3, rfl, hIM3, hFM3⟩)
theorem x_79 {K : mj_C} {d : Nat} {M : Nat → Nat → Int} {N : Nat → Nat → Int64} (hD : 6 ≤ d) (hK : kOk K) (s im : Nat → Int) (kp : Int) (tx : Nat → Int) (ln : Int) (so it : Nat → Int) (ce : Nat → Int64) (hI : IC s im kp tx ln so it ce M N) (hV : VI s im kp tx ln so it) (what : Int) : mj_X K d 79 [.inr (.inr (.inl 0)), .inl what] (mj_Sh, M, N) (fun r Z => r = some (.inl (qTold s what)) ∧ ∃ M1 N1, Z = (mj_Sh, M1, N1) ∧ IC s im kp tx ln so it ce M1 N1 ∧ fr6 M N M1 N1) := by
  show mj_T K d 79 0 [some (.inr (.inr (.inl 0))), some (.inl what), none, none] [] (mj_Sh, M, N) _
  have hVs := hV.1
  have hs := hVs.1
  have h0 := hs.1 0 (by omega)
  have h5 := hs.2.1
  have h11 := hs.1 11 (by omega)
  have hc11 := hs.2.2.1
  have hI0 := hI
  obtain ⟨⟨hS, hse, hev, hbo⟩, hkp, hkim, hfs, hzz, htxt, htp⟩ := hI
  have hGk : gOk (s 0).toNat (wG s) := wGr_ok s (wB s)
  have hG1 : (wG s).1 ≤ (s 0).toNat := hGk.1
  refine tw_aload k79_0 rfl ?_
  refine tw_getr k79_1 f0_0 ?_
  refine tw_getr k79_4 f1_0 ?_
  refine tw_astore k79_7 rfl (L' := [some (.inr (.inr (.inl 0))), some (.inl what), some (.inr (.inr (.inl 2))), none]) rfl ?_
  refine tw_aload k79_8 rfl ?_
  refine tw_call (by omega) (S' := []) (as := [.inr (.inr (.inl 0))]) k79_9 (x_106 (M := M) (N := N) (by omega) hK s im kp tx ln so it ce hI0 hV) rfl rfl rfl rfl rfl (fun r9 Z9 hq9 => ?_)
  obtain ⟨rfl, M3, N3, rfl, hIM3, hPM3, hFM3, hGM3⟩ := hq9
  have hS3 : cSV 2 M3 s := hIM3.1.1
  have hP0 := hPM3
  obtain ⟨⟨p11, p12, p13, p14, p15, hpp, hpg, hpd⟩, hu, hl, hd, hv, hn⟩ := hPM3
  have hpg : gRel (M3 44 3) (M3 45) (M3 46) (M3 47) (wG s) := hpg
  refine tw_as (S := [.inr (.inr (.inl 35))]) (M := M3) (N := N3) rfl rfl ?_
  refine tw_astore k79_12 rfl (L' := [some (.inr (.inr (.inl 0))), some (.inl what), some (.inr (.inr (.inl 2))), some (.inr (.inr (.inl 35)))]) rfl ?_
  refine tw_iload k79_13 rfl ?_
  refine tw_sw k79_14 ?_
  refine tw_pk (fun h14_0 => ?_) (fun h14_0 => ?_)
  · refine tw_aload k79_80 rfl ?_
    refine tw_geti k79_81 f2_6 rfl (v := (s 0)) hS3.1 ?_
    exact tw_ri k79_84 (⟨by unfold qTold; rw [if_pos (by omega)], M3, N3, rfl, hIM3, hFM3⟩)
  · skip
    refine tw_pk (fun h14_1 => ?_) (fun h14_1 => ?_)
    · refine tw_aload k79_85 rfl ?_
      refine tw_geti k79_86 f2_7 rfl (v := (s 11)) hS3.2.1 ?_
      exact tw_ri k79_89 (⟨by unfold qTold; rw [if_neg (by omega), if_pos (by omega)], M3, N3, rfl, hIM3, hFM3⟩)
    · skip
      refine tw_pk (fun h14_2 => ?_) (fun h14_2 => ?_)
      · refine tw_aload k79_90 rfl ?_
        refine tw_getr k79_91 f2_5 ?_
        refine tw_const k79_94 ?_
        refine tw_iald (j := 0) (v := (s 42)) k79_95 al8 rfl (by decide) (hS3.2.2.2.2 0 (by omega)) ?_
        exact tw_ri k79_96 (⟨by unfold qTold; rw [if_neg (by omega), if_neg (by omega), if_pos (by omega)], M3, N3, rfl, hIM3, hFM3⟩)
      · skip
        refine tw_pk (fun h14_3 => ?_) (fun h14_3 => ?_)
        · refine tw_aload k79_97 rfl ?_
          refine tw_getr k79_98 f2_5 ?_
          refine tw_const k79_101 ?_
          refine tw_iald (j := 1) (v := (s 43)) k79_102 al8 rfl (by decide) (hS3.2.2.2.2 1 (by omega)) ?_
          exact tw_ri k79_103 (⟨by unfold qTold; rw [if_neg (by omega), if_neg (by omega), if_neg (by omega), if_pos (by omega)], M3, N3, rfl, hIM3, hFM3⟩)
        · skip
          refine tw_pk (fun h14_4 => ?_) (fun h14_4 => ?_)
          · refine tw_aload k79_104 rfl ?_
            refine tw_getr k79_105 f2_5 ?_
            refine tw_const k79_108 ?_
            refine tw_iald (j := 2) (v := (s 44)) k79_109 al8 rfl (by decide) (hS3.2.2.2.2 2 (by omega)) ?_
            exact tw_ri k79_110 (⟨by unfold qTold; rw [if_neg (by omega), if_neg (by omega), if_neg (by omega), if_neg (by omega), if_pos (by omega)], M3, N3, rfl, hIM3, hFM3⟩)
          · skip
            refine tw_pk (fun h14_5 => ?_) (fun h14_5 => ?_)
            · refine tw_aload k79_111 rfl ?_
              refine tw_getr k79_112 f2_5 ?_
              refine tw_const k79_115 ?_
              refine tw_iald (j := 3) (v := (s 45)) k79_116 al8 rfl (by decide) (hS3.2.2.2.2 3 (by omega)) ?_
              exact tw_ri k79_117 (⟨by unfold qTold; rw [if_neg (by omega), if_neg (by omega), if_neg (by omega), if_neg (by omega), if_neg (by omega), if_pos (by omega)], M3, N3, rfl, hIM3, hFM3⟩)
            · skip
              refine tw_pk (fun h14_6 => ?_) (fun h14_6 => ?_)
              · refine tw_aload k79_118 rfl ?_
                refine tw_getr k79_119 f35_1 ?_
                refine tw_geti k79_122 f44_3 rfl (v := (((wG s).1 : Nat) : Int)) hpg.1 ?_
                exact tw_ri k79_125 (⟨by unfold qTold; rw [if_neg (by omega), if_neg (by omega), if_neg (by omega), if_neg (by omega), if_neg (by omega), if_neg (by omega), if_pos (by omega)], M3, N3, rfl, hIM3, hFM3⟩)
              · skip
                refine tw_pk (fun h14_7 => ?_) (fun h14_7 => ?_)
                · refine tw_aload k79_126 rfl ?_
                  refine tw_geti k79_127 f35_12 rfl (v := (wB s).2.2.1) p12 ?_
                  exact tw_ri k79_130 (⟨by unfold qTold; rw [if_neg (by omega), if_neg (by omega), if_neg (by omega), if_neg (by omega), if_neg (by omega), if_neg (by omega), if_neg (by omega), if_pos (by omega)], M3, N3, rfl, hIM3, hFM3⟩)
                · skip
                  refine tw_pk (fun h14_8 => ?_) (fun h14_8 => ?_)
                  · refine tw_aload k79_131 rfl ?_
                    refine tw_geti k79_132 f35_13 rfl (v := (wB s).2.2.2.1) p13 ?_
                    exact tw_ri k79_135 (⟨by unfold qTold; rw [if_neg (by omega), if_neg (by omega), if_neg (by omega), if_neg (by omega), if_neg (by omega), if_neg (by omega), if_neg (by omega), if_neg (by omega), if_pos (by omega)], M3, N3, rfl, hIM3, hFM3⟩)
                  · skip
                    refine tw_pk (fun h14_9 => ?_) (fun h14_9 => ?_)
                    · refine tw_aload k79_136 rfl ?_
                      refine tw_geti k79_137 f35_14 rfl (v := (wB s).2.2.2.2) p14 ?_
                      exact tw_ri k79_140 (⟨by unfold qTold; rw [if_neg (by omega), if_neg (by omega), if_neg (by omega), if_neg (by omega), if_neg (by omega), if_neg (by omega), if_neg (by omega), if_neg (by omega), if_neg (by omega), if_pos (by omega)], M3, N3, rfl, hIM3, hFM3⟩)
                    · skip
                      refine tw_pk (fun h14_10 => ?_) (fun h14_10 => ?_)
                      · refine tw_aload k79_141 rfl ?_
                        refine tw_geti k79_142 f35_15 rfl (v := (pS (wB s).2.1 0 (s 0).toNat)) p15 ?_
                        exact tw_ri k79_145 (⟨by unfold qTold; rw [if_neg (by omega), if_neg (by omega), if_neg (by omega), if_neg (by omega), if_neg (by omega), if_neg (by omega), if_neg (by omega), if_neg (by omega), if_neg (by omega), if_neg (by omega), if_pos (by omega)], M3, N3, rfl, hIM3, hFM3⟩)
                      · skip
                        refine tw_pk (fun h14_11 => ?_) (fun h14_11 => ?_)
                        · refine tw_aload k79_146 rfl ?_
                          refine tw_callp (v := .inl (wSh s)) (by omega) (S' := []) (as := [.inr (.inr (.inl 35))]) k79_147 (x_15_35 (M := M3) (N := N3) (wG s) (by omega) hpg (wLk s (wB s).1 (wG s)) (fun g hg => ⟨hl g hg, wLk_rg hs hGk (wI_p (wB_I hs)) hg⟩)) rfl rfl rfl rfl rfl ?_
                          exact tw_ri k79_150 (⟨by unfold qTold; rw [if_neg (by omega), if_neg (by omega), if_neg (by omega), if_neg (by omega), if_neg (by omega), if_neg (by omega), if_neg (by omega), if_neg (by omega), if_neg (by omega), if_neg (by omega), if_neg (by omega), if_pos (by omega)], M3, N3, rfl, hIM3, hFM3⟩)
                        · skip
                          refine tw_pk (fun h14_12 => ?_) (fun h14_12 => ?_)
                          · refine tw_aload k79_151 rfl ?_
                            refine tw_callp (v := .inl (uN (wG s))) (by omega) (S' := []) (as := [.inr (.inr (.inl 35))]) k79_152 (x_16 (M := M3) (N := N3) (by omega) s hs hP0) rfl rfl rfl rfl rfl ?_
                            exact tw_ri k79_155 (⟨by unfold qTold; rw [if_neg (by omega), if_neg (by omega), if_neg (by omega), if_neg (by omega), if_neg (by omega), if_neg (by omega), if_neg (by omega), if_neg (by omega), if_neg (by omega), if_neg (by omega), if_neg (by omega), if_neg (by omega), if_pos (by omega)], M3, N3, rfl, hIM3, hFM3⟩)
                          · skip
                            refine tw_pk0 ?_
                            refine tw_const k79_156 ?_
                            exact tw_ri k79_157 (⟨by unfold qTold; rw [if_neg (by omega), if_neg (by omega), if_neg (by omega), if_neg (by omega), if_neg (by omega), if_neg (by omega), if_neg (by omega), if_neg (by omega), if_neg (by omega), if_neg (by omega), if_neg (by omega), if_neg (by omega), if_neg (by omega)], M3, N3, rfl, hIM3, hFM3⟩)
theorem x_80 {K : mj_C} {d : Nat} {M : Nat → Nat → Int} {N : Nat → Nat → Int64} (hD : 6 ≤ d) (hK : kOk K) (s im : Nat → Int) (kp : Int) (tx : Nat → Int) (ln : Int) (so it : Nat → Int) (ce : Nat → Int64) (hI : IC s im kp tx ln so it ce M N) (hV : VI s im kp tx ln so it) : mj_X K d 80 [.inr (.inr (.inl 0))] (mj_Sh, M, N) (fun r Z => r = some (.inr (.inl (wTt s))) ∧ ∃ M1 N1, Z = (mj_Sh, M1, N1) ∧ IC s im kp tx ln so it ce M1 N1 ∧ fr6 M N M1 N1) := by
  show mj_T K d 80 0 [some (.inr (.inr (.inl 0)))] [] (mj_Sh, M, N) _
  have hVs := hV.1
  have hs := hVs.1
  have h0 := hs.1 0 (by omega)
  have h5 := hs.2.1
  have h11 := hs.1 11 (by omega)
  have hc11 := hs.2.2.1
  have hI0 := hI
  obtain ⟨⟨hS, hse, hev, hbo⟩, hkp, hkim, hfs, hzz, htxt, htp⟩ := hI
  refine tw_aload k80_0 rfl ?_
  refine tw_call (by omega) (S' := []) (as := [.inr (.inr (.inl 0))]) k80_1 (x_106 (M := M) (N := N) (by omega) hK s im kp tx ln so it ce hI0 hV) rfl rfl rfl rfl rfl (fun r1 Z1 hq1 => ?_)
  obtain ⟨rfl, M3, N3, rfl, hIM3, hPM3, hFM3, hGM3⟩ := hq1
  have hS3 : cSV 2 M3 s := hIM3.1.1
  have hP0 := hPM3
  obtain ⟨⟨p11, p12, p13, p14, p15, hpp, hpg, hpd⟩, hu, hl, hd, hv, hn⟩ := hPM3
  have hpg : gRel (M3 44 3) (M3 45) (M3 46) (M3 47) (wG s) := hpg
  refine tw_as (S := [.inr (.inr (.inl 35))]) (M := M3) (N := N3) rfl rfl ?_
  refine tw_getl k80_4 f35_16 (v := (N3 35 16)) rfl ?_
  exact tw_rl k80_7 (⟨by rw [hn], M3, N3, rfl, hIM3, hFM3⟩)
theorem x_81 {K : mj_C} {d : Nat} {M : Nat → Nat → Int} {N : Nat → Nat → Int64} (hD : 6 ≤ d) (hK : kOk K) (s im : Nat → Int) (kp : Int) (tx : Nat → Int) (ln : Int) (so it : Nat → Int) (ce : Nat → Int64) (hI : IC s im kp tx ln so it ce M N) (hV : VI s im kp tx ln so it) (y : Int) : mj_X K d 81 [.inr (.inr (.inl 0)), .inl y] (mj_Sh, M, N) (fun r Z => r = some (.inl (qAlone s y)) ∧ ∃ M1 N1, Z = (mj_Sh, M1, N1) ∧ IC s im kp tx ln so it ce M1 N1 ∧ fr6 M N M1 N1) := by
  show mj_T K d 81 0 [some (.inr (.inr (.inl 0))), some (.inl y), none] [] (mj_Sh, M, N) _
  have hVs := hV.1
  have hs := hVs.1
  have h0 := hs.1 0 (by omega)
  have h5 := hs.2.1
  have h11 := hs.1 11 (by omega)
  have hc11 := hs.2.2.1
  have hI0 := hI
  obtain ⟨⟨hS, hse, hev, hbo⟩, hkp, hkim, hfs, hzz, htxt, htp⟩ := hI
  have hGk : gOk (s 0).toNat (wG s) := wGr_ok s (wB s)
  have hG1 : (wG s).1 ≤ (s 0).toNat := hGk.1
  by_cases hyy : 0 ≤ y ∧ y < s 0
  · obtain ⟨k, rfl⟩ : ∃ k : Nat, y = (k : Int) := ⟨y.toNat, by omega⟩
    refine tw_aload k81_0 rfl ?_
    refine tw_getr k81_1 f0_0 ?_
    refine tw_getr k81_4 f1_0 ?_
    refine tw_astore k81_7 rfl (L' := [some (.inr (.inr (.inl 0))), some (.inl ((k : Nat) : Int)), some (.inr (.inr (.inl 2)))]) rfl ?_
    refine tw_aload k81_8 rfl ?_
    refine tw_iload k81_9 rfl ?_
    refine tw_callbT (by omega) (S' := []) (as := [.inr (.inr (.inl 2)), .inl ((k : Nat) : Int)]) k81_10 (x_47_2 (M := M) (N := N) (by omega) s (hs.1 0 (by omega)) hS ((k : Nat) : Int)) rfl rfl rfl rfl rfl hyy ?_
    refine tw_zneT k81_13 (by decide) ?_
    refine tw_aload k81_18 rfl ?_
    refine tw_call (by omega) (S' := []) (as := [.inr (.inr (.inl 0))]) k81_19 (x_106 (M := M) (N := N) (by omega) hK s im kp tx ln so it ce hI0 hV) rfl rfl rfl rfl rfl (fun r19 Z19 hq19 => ?_)
    obtain ⟨rfl, M3, N3, rfl, hIM3, hPM3, hFM3, hGM3⟩ := hq19
    have hS3 : cSV 2 M3 s := hIM3.1.1
    have hP0 := hPM3
    obtain ⟨⟨p11, p12, p13, p14, p15, hpp, hpg, hpd⟩, hu, hl, hd, hv, hn⟩ := hPM3
    have hpg : gRel (M3 44 3) (M3 45) (M3 46) (M3 47) (wG s) := hpg
    refine tw_as (S := [.inr (.inr (.inl 35))]) (M := M3) (N := N3) rfl rfl ?_
    refine tw_getr k81_22 f35_0 ?_
    refine tw_iload k81_25 rfl ?_
    refine tw_iload k81_26 rfl ?_
    refine tw_aload k81_27 rfl ?_
    refine tw_getr k81_28 f2_0 ?_
    refine tw_iload k81_31 rfl ?_
    refine tw_iald (j := k) (v := (s (1 + k))) k81_32 al3 rfl (by omega) (hS3.2.2.1 k (by omega)).1 ?_
    refine tw_callp (v := .inl (((pPr s k (k + 1 - k) (s (1 + k))) : Nat) : Int)) (by omega) (S' := []) (as := [.inr (.inr (.inl 36)), .inl ((k : Nat) : Int), .inl ((k : Nat) : Int), .inl (s (1 + k))]) k81_33 (x_4_35 (M := M3) (N := N3) (by omega) s hs hpd k k (by omega) (by omega) (s (1 + k))) rfl rfl rfl rfl rfl ?_
    exact tw_ri k81_36 (⟨by unfold qAlone; rw [if_pos hyy]; (try simp only [Int.toNat_natCast]); all_goals ((repeat' split) <;> first | rfl | omega), M3, N3, rfl, hIM3, hFM3⟩)
  · refine tw_aload k81_0 rfl ?_
    refine tw_getr k81_1 f0_0 ?_
    refine tw_getr k81_4 f1_0 ?_
    refine tw_astore k81_7 rfl (L' := [some (.inr (.inr (.inl 0))), some (.inl y), some (.inr (.inr (.inl 2)))]) rfl ?_
    refine tw_aload k81_8 rfl ?_
    refine tw_iload k81_9 rfl ?_
    refine tw_callbF (by omega) (S' := []) (as := [.inr (.inr (.inl 2)), .inl y]) k81_10 (x_47_2 (M := M) (N := N) (by omega) s (hs.1 0 (by omega)) hS y) rfl rfl rfl rfl rfl hyy ?_
    refine tw_zneF k81_13 (by decide) ?_
    refine tw_const k81_16 ?_
    exact tw_ri k81_17 (⟨by unfold qAlone; rw [if_neg hyy], M, N, rfl, hI0, fun c _ => ⟨rfl, rfl⟩⟩)
theorem x_82 {K : mj_C} {d : Nat} {M : Nat → Nat → Int} {N : Nat → Nat → Int64} (hD : 6 ≤ d) (hK : kOk K) (s im : Nat → Int) (kp : Int) (tx : Nat → Int) (ln : Int) (so it : Nat → Int) (ce : Nat → Int64) (hI : IC s im kp tx ln so it ce M N) (hV : VI s im kp tx ln so it) (i j : Int) : mj_X K d 82 [.inr (.inr (.inl 0)), .inl i, .inl j] (mj_Sh, M, N) (fun r Z => r = some (.inl (qWay s i j)) ∧ ∃ M1 N1, Z = (mj_Sh, M1, N1) ∧ IC s im kp tx ln so it ce M1 N1 ∧ fr6 M N M1 N1) := by
  show mj_T K d 82 0 [some (.inr (.inr (.inl 0))), some (.inl i), some (.inl j), none] [] (mj_Sh, M, N) _
  have hVs := hV.1
  have hs := hVs.1
  have h0 := hs.1 0 (by omega)
  have h5 := hs.2.1
  have h11 := hs.1 11 (by omega)
  have hc11 := hs.2.2.1
  have hI0 := hI
  obtain ⟨⟨hS, hse, hev, hbo⟩, hkp, hkim, hfs, hzz, htxt, htp⟩ := hI
  by_cases hyy : (0 ≤ i ∧ i < s 0) ∧ 0 ≤ j ∧ j < s 0
  · obtain ⟨a, rfl⟩ : ∃ a : Nat, i = (a : Int) := ⟨i.toNat, by omega⟩
    obtain ⟨b, rfl⟩ : ∃ b : Nat, j = (b : Int) := ⟨j.toNat, by omega⟩
    refine tw_aload k82_0 rfl ?_
    refine tw_getr k82_1 f0_0 ?_
    refine tw_getr k82_4 f1_0 ?_
    refine tw_astore k82_7 rfl (L' := [some (.inr (.inr (.inl 0))), some (.inl ((a : Nat) : Int)), some (.inl ((b : Nat) : Int)), some (.inr (.inr (.inl 2)))]) rfl ?_
    refine tw_aload k82_8 rfl ?_
    refine tw_iload k82_9 rfl ?_
    refine tw_callbT (by omega) (S' := []) (as := [.inr (.inr (.inl 2)), .inl ((a : Nat) : Int)]) k82_10 (x_47_2 (M := M) (N := N) (by omega) s (hs.1 0 (by omega)) hS ((a : Nat) : Int)) rfl rfl rfl rfl rfl hyy.1 ?_
    refine tw_zeqF k82_13 (by decide) ?_
    refine tw_aload k82_16 rfl ?_
    refine tw_iload k82_17 rfl ?_
    refine tw_callbT (by omega) (S' := []) (as := [.inr (.inr (.inl 2)), .inl ((b : Nat) : Int)]) k82_18 (x_47_2 (M := M) (N := N) (by omega) s (hs.1 0 (by omega)) hS ((b : Nat) : Int)) rfl rfl rfl rfl rfl hyy.2 ?_
    refine tw_zneT k82_21 (by decide) ?_
    refine tw_aload k82_26 rfl ?_
    refine tw_call (by omega) (S' := []) (as := [.inr (.inr (.inl 0))]) k82_27 (x_106 (M := M) (N := N) (by omega) hK s im kp tx ln so it ce hI0 hV) rfl rfl rfl rfl rfl (fun r27 Z27 hq27 => ?_)
    obtain ⟨rfl, M3, N3, rfl, hIM3, hPM3, hFM3, hGM3⟩ := hq27
    have hS3 : cSV 2 M3 s := hIM3.1.1
    have hP0 := hPM3
    obtain ⟨⟨p11, p12, p13, p14, p15, hpp, hpg, hpd⟩, hu, hl, hd, hv, hn⟩ := hPM3
    have hpg : gRel (M3 44 3) (M3 45) (M3 46) (M3 47) (wG s) := hpg
    refine tw_as (S := [.inr (.inr (.inl 35))]) (M := M3) (N := N3) rfl rfl ?_
    refine tw_getr k82_30 f35_9 ?_
    refine tw_iload k82_33 rfl ?_
    refine tw_aald (j := a) (u := (56 + a)) k82_34 rfl (rr55 (by omega)) ?_
    refine tw_iload k82_35 rfl ?_
    refine tw_iald (j := b) (v := (wFl s (wB s).1 (wG s) a b)) k82_36 (alF (by omega)) rfl (by omega) (by
        by_cases hab : a ≤ b
        · exact hv a b hab (by omega)
        · rw [hIM3.2.2.2.2.1.2.2 a b (by omega) (by omega)]; exact (wFl_0 (by omega)).symm) ?_
    exact tw_ri k82_37 (⟨by unfold qWay; rw [if_pos hyy]; (try simp only [Int.toNat_natCast]); all_goals ((repeat' split) <;> first | rfl | omega), M3, N3, rfl, hIM3, hFM3⟩)
  · by_cases hy1 : 0 ≤ i ∧ i < s 0
    · refine tw_aload k82_0 rfl ?_
      refine tw_getr k82_1 f0_0 ?_
      refine tw_getr k82_4 f1_0 ?_
      refine tw_astore k82_7 rfl (L' := [some (.inr (.inr (.inl 0))), some (.inl i), some (.inl j), some (.inr (.inr (.inl 2)))]) rfl ?_
      refine tw_aload k82_8 rfl ?_
      refine tw_iload k82_9 rfl ?_
      refine tw_callbT (by omega) (S' := []) (as := [.inr (.inr (.inl 2)), .inl i]) k82_10 (x_47_2 (M := M) (N := N) (by omega) s (hs.1 0 (by omega)) hS i) rfl rfl rfl rfl rfl hy1 ?_
      refine tw_zeqF k82_13 (by decide) ?_
      refine tw_aload k82_16 rfl ?_
      refine tw_iload k82_17 rfl ?_
      refine tw_callbF (by omega) (S' := []) (as := [.inr (.inr (.inl 2)), .inl j]) k82_18 (x_47_2 (M := M) (N := N) (by omega) s (hs.1 0 (by omega)) hS j) rfl rfl rfl rfl rfl (fun q => hyy ⟨hy1, q⟩) ?_
      refine tw_zneF k82_21 (by decide) ?_
      refine tw_const k82_24 ?_
      exact tw_ri k82_25 (⟨by unfold qWay; rw [if_neg hyy], M, N, rfl, hI0, fun c _ => ⟨rfl, rfl⟩⟩)
    · refine tw_aload k82_0 rfl ?_
      refine tw_getr k82_1 f0_0 ?_
      refine tw_getr k82_4 f1_0 ?_
      refine tw_astore k82_7 rfl (L' := [some (.inr (.inr (.inl 0))), some (.inl i), some (.inl j), some (.inr (.inr (.inl 2)))]) rfl ?_
      refine tw_aload k82_8 rfl ?_
      refine tw_iload k82_9 rfl ?_
      refine tw_callbF (by omega) (S' := []) (as := [.inr (.inr (.inl 2)), .inl i]) k82_10 (x_47_2 (M := M) (N := N) (by omega) s (hs.1 0 (by omega)) hS i) rfl rfl rfl rfl rfl hy1 ?_
      refine tw_zeqT k82_13 (by decide) ?_
      refine tw_const k82_24 ?_
      exact tw_ri k82_25 (⟨by unfold qWay; rw [if_neg hyy], M, N, rfl, hI0, fun c _ => ⟨rfl, rfl⟩⟩)
theorem x_83 {K : mj_C} {d : Nat} {M : Nat → Nat → Int} {N : Nat → Nat → Int64} (hD : 6 ≤ d) (hK : kOk K) (s im : Nat → Int) (kp : Int) (tx : Nat → Int) (ln : Int) (so it : Nat → Int) (ce : Nat → Int64) (hI : IC s im kp tx ln so it ce M N) (hV : VI s im kp tx ln so it) (k what : Int) : mj_X K d 83 [.inr (.inr (.inl 0)), .inl k, .inl what] (mj_Sh, M, N) (fun r Z => r = some (.inl (qWays s k what)) ∧ ∃ M1 N1, Z = (mj_Sh, M1, N1) ∧ IC s im kp tx ln so it ce M1 N1 ∧ fr6 M N M1 N1) := by
  show mj_T K d 83 0 [some (.inr (.inr (.inl 0))), some (.inl k), some (.inl what), none] [] (mj_Sh, M, N) _
  have hVs := hV.1
  have hs := hVs.1
  have h0 := hs.1 0 (by omega)
  have h5 := hs.2.1
  have h11 := hs.1 11 (by omega)
  have hc11 := hs.2.2.1
  have hI0 := hI
  obtain ⟨⟨hS, hse, hev, hbo⟩, hkp, hkim, hfs, hzz, htxt, htp⟩ := hI
  refine tw_aload k83_0 rfl ?_
  refine tw_call (by omega) (S' := []) (as := [.inr (.inr (.inl 0))]) k83_1 (x_106 (M := M) (N := N) (by omega) hK s im kp tx ln so it ce hI0 hV) rfl rfl rfl rfl rfl (fun r1 Z1 hq1 => ?_)
  obtain ⟨rfl, M3, N3, rfl, hIM3, hPM3, hFM3, hGM3⟩ := hq1
  have hS3 : cSV 2 M3 s := hIM3.1.1
  have hP0 := hPM3
  obtain ⟨⟨p11, p12, p13, p14, p15, hpp, hpg, hpd⟩, hu, hl, hd, hv, hn⟩ := hPM3
  have hpg : gRel (M3 44 3) (M3 45) (M3 46) (M3 47) (wG s) := hpg
  refine tw_as (S := [.inr (.inr (.inl 35))]) (M := M3) (N := N3) rfl rfl ?_
  refine tw_astore k83_4 rfl (L' := [some (.inr (.inr (.inl 0))), some (.inl k), some (.inl what), some (.inr (.inr (.inl 35)))]) rfl ?_
  refine tw_iload k83_5 rfl ?_
  refine tw_const k83_6 ?_
  refine tw_cne k83_7 (fun h7 => ?_) (fun h7 => ?_)
  · refine tw_iload k83_15 rfl ?_
    refine tw_const k83_16 ?_
    refine tw_clt k83_17 (fun h17 => ?_) (fun h17 => ?_)
    · refine tw_const k83_29 ?_
      exact tw_ri k83_30 (⟨by unfold qWays; (repeat' split) <;> first | rfl | omega, M3, N3, rfl, hIM3, hFM3⟩)
    · refine tw_iload k83_20 rfl ?_
      refine tw_const k83_21 ?_
      refine tw_const k83_22 ?_
      refine tw_callb (by omega) (S' := []) (as := [.inl what, .inl (0 : Int), .inl (2 : Int)]) k83_23 (x_104 what (0 : Int) (2 : Int)) rfl rfl rfl rfl rfl (fun h23 => ?_) (fun h23 => ?_)
      · refine tw_zneT k83_26 (by decide) ?_
        refine tw_aload k83_31 rfl ?_
        refine tw_iload k83_32 rfl ?_
        refine tw_iload k83_33 rfl ?_
        refine tw_callp (v := .inl (fPt (wFl s (wB s).1 (wG s)) (s 0).toNat k what)) (by omega) (S' := []) (as := [.inr (.inr (.inl 35)), .inl k, .inl what]) k83_34 (x_18 (M := M3) (N := N3) s hs hP0 k what (by omega) (by omega)) rfl rfl rfl rfl rfl ?_
        exact tw_ri k83_37 (⟨by unfold qWays; (repeat' split) <;> first | rfl | omega, M3, N3, rfl, hIM3, hFM3⟩)
      · refine tw_zneF k83_26 (by decide) ?_
        refine tw_const k83_29 ?_
        exact tw_ri k83_30 (⟨by unfold qWays; (repeat' split) <;> first | rfl | omega, M3, N3, rfl, hIM3, hFM3⟩)
  · refine tw_aload k83_10 rfl ?_
    refine tw_callp (v := .inl (fcJ (wFl s (wB s).1 (wG s)) (s 0).toNat)) (by omega) (S' := []) (as := [.inr (.inr (.inl 35))]) k83_11 (x_17 (M := M3) (N := N3) s hs hP0) rfl rfl rfl rfl rfl ?_
    exact tw_ri k83_14 (⟨by unfold qWays; (repeat' split) <;> first | rfl | omega, M3, N3, rfl, hIM3, hFM3⟩)
theorem x_84 {K : mj_C} {d : Nat} {M : Nat → Nat → Int} {N : Nat → Nat → Int64} (hD : 6 ≤ d) (hK : kOk K) (s im : Nat → Int) (kp : Int) (tx : Nat → Int) (ln : Int) (so it : Nat → Int) (ce : Nat → Int64) (hI : IC s im kp tx ln so it ce M N) (hV : VI s im kp tx ln so it) (k : Int) : mj_X K d 84 [.inr (.inr (.inl 0)), .inl k] (mj_Sh, M, N) (fun r Z => r = some (.inl (qRank s k)) ∧ ∃ M1 N1, Z = (mj_Sh, M1, N1) ∧ IC s im kp tx ln so it ce M1 N1 ∧ fr6 M N M1 N1) := by
  show mj_T K d 84 0 [some (.inr (.inr (.inl 0))), some (.inl k), none, none, none] [] (mj_Sh, M, N) _
  have hVs := hV.1
  have hs := hVs.1
  have h0 := hs.1 0 (by omega)
  have h5 := hs.2.1
  have h11 := hs.1 11 (by omega)
  have hc11 := hs.2.2.1
  have hI0 := hI
  obtain ⟨⟨hS, hse, hev, hbo⟩, hkp, hkim, hfs, hzz, htxt, htp⟩ := hI
  refine tw_aload k84_0 rfl ?_
  refine tw_getr k84_1 f0_0 ?_
  refine tw_getr k84_4 f1_0 ?_
  refine tw_astore k84_7 rfl (L' := [some (.inr (.inr (.inl 0))), some (.inl k), some (.inr (.inr (.inl 2))), none, none]) rfl ?_
  refine tw_aload k84_8 rfl ?_
  refine tw_call (by omega) (S' := []) (as := [.inr (.inr (.inl 0))]) k84_9 (x_106 (M := M) (N := N) (by omega) hK s im kp tx ln so it ce hI0 hV) rfl rfl rfl rfl rfl (fun r9 Z9 hq9 => ?_)
  obtain ⟨rfl, M3, N3, rfl, hIM3, hPM3, hFM3, hGM3⟩ := hq9
  have hS3 : cSV 2 M3 s := hIM3.1.1
  have hP0 := hPM3
  obtain ⟨⟨p11, p12, p13, p14, p15, hpp, hpg, hpd⟩, hu, hl, hd, hv, hn⟩ := hPM3
  have hpg : gRel (M3 44 3) (M3 45) (M3 46) (M3 47) (wG s) := hpg
  refine tw_as (S := [.inr (.inr (.inl 35))]) (M := M3) (N := N3) rfl rfl ?_
  refine tw_astore k84_12 rfl (L' := [some (.inr (.inr (.inl 0))), some (.inl k), some (.inr (.inr (.inl 2))), some (.inr (.inr (.inl 35))), none]) rfl ?_
  refine tw_const k84_13 ?_
  refine tw_istore k84_14 rfl (L' := [some (.inr (.inr (.inl 0))), some (.inl k), some (.inr (.inr (.inl 2))), some (.inr (.inr (.inl 35))), some (.inl (0 : Int))]) rfl ?_
  have key : ∀ i : Nat, i ≤ (s 11).toNat → (∀ j, j < i → ¬ rkN s (wDv s) j = k) → mj_T K d 84 16 [some (.inr (.inr (.inl 0))), some (.inl k), some (.inr (.inr (.inl 2))), some (.inr (.inr (.inl 35))), some (.inl ((i : Nat) : Int))] [] (mj_Sh, M3, N3) (fun r Z => r = some (.inl (qRank s k)) ∧ ∃ M1 N1, Z = (mj_Sh, M1, N1) ∧ IC s im kp tx ln so it ce M1 N1 ∧ fr6 M N M1 N1) := by
    refine up_to (s 11).toNat ?_ ?_
    · show (∀ j, j < (s 11).toNat → ¬ rkN s (wDv s) j = k) → mj_T K d 84 16 [some (.inr (.inr (.inl 0))), some (.inl k), some (.inr (.inr (.inl 2))), some (.inr (.inr (.inl 35))), some (.inl (((s 11).toNat : Nat) : Int))] [] (mj_Sh, M3, N3) (fun r Z => r = some (.inl (qRank s k)) ∧ ∃ M1 N1, Z = (mj_Sh, M1, N1) ∧ IC s im kp tx ln so it ce M1 N1 ∧ fr6 M N M1 N1)
      intro hN
      refine tw_iload k84_16 rfl ?_
      refine tw_aload k84_18 rfl ?_
      refine tw_geti k84_19 f2_7 rfl (v := (s 11)) hS3.2.1 ?_
      refine tw_cgeT k84_22 (by omega) ?_
      refine tw_const k84_45 ?_
      exact tw_ri k84_46 (⟨by unfold qRank; rw [pFd_no _ 0 (fun j _ hj => hN j (by omega)), if_neg (by omega)], M3, N3, rfl, hIM3, hFM3⟩)
    · intro i hmi ih
      have ih : (∀ j, j < (i + 1) → ¬ rkN s (wDv s) j = k) → mj_T K d 84 16 [some (.inr (.inr (.inl 0))), some (.inl k), some (.inr (.inr (.inl 2))), some (.inr (.inr (.inl 35))), some (.inl (((i + 1) : Nat) : Int))] [] (mj_Sh, M3, N3) (fun r Z => r = some (.inl (qRank s k)) ∧ ∃ M1 N1, Z = (mj_Sh, M1, N1) ∧ IC s im kp tx ln so it ce M1 N1 ∧ fr6 M N M1 N1) := ih
      show (∀ j, j < i → ¬ rkN s (wDv s) j = k) → mj_T K d 84 16 [some (.inr (.inr (.inl 0))), some (.inl k), some (.inr (.inr (.inl 2))), some (.inr (.inr (.inl 35))), some (.inl ((i : Nat) : Int))] [] (mj_Sh, M3, N3) (fun r Z => r = some (.inl (qRank s k)) ∧ ∃ M1 N1, Z = (mj_Sh, M1, N1) ∧ IC s im kp tx ln so it ce M1 N1 ∧ fr6 M N M1 N1)
      intro hN
      refine tw_iload k84_16 rfl ?_
      refine tw_aload k84_18 rfl ?_
      refine tw_geti k84_19 f2_7 rfl (v := (s 11)) hS3.2.1 ?_
      refine tw_cgeF k84_22 (by omega) ?_
      refine tw_aload k84_25 rfl ?_
      refine tw_aload k84_26 rfl ?_
      refine tw_iload k84_27 rfl ?_
      refine tw_callp (v := .inl (rkN s (wDv s) i)) (by omega) (S' := []) (as := [.inr (.inr (.inl 35)), .inr (.inr (.inl 2)), .inl ((i : Nat) : Int)]) k84_29 (x_19 (M := M3) (N := N3) (by omega) s hs hP0 hS3 i (by omega)) rfl rfl rfl rfl rfl ?_
      refine tw_iload k84_32 rfl ?_
      refine tw_cne k84_33 (fun h33 => ?_) (fun h33 => ?_)
      · refine tw_iinc k84_39 rfl (v := ((i + 1 : Nat) : Int)) rfl (by omega) rfl (L' := [some (.inr (.inr (.inl 0))), some (.inl k), some (.inr (.inr (.inl 2))), some (.inr (.inr (.inl 35))), some (.inl ((i + 1 : Nat) : Int))]) rfl ?_
        refine tw_goto k84_42 ?_
        exact ih (fun j hj => by
          by_cases e : j = i
          · subst e; exact h33
          · exact hN j (by omega))
      · refine tw_iload k84_36 rfl ?_
        exact tw_ri k84_38 (⟨by unfold qRank; rw [pFd_eq _ 0 i (by omega) (by omega) (by omega) (fun j _ hj => hN j hj), if_pos (by omega)], M3, N3, rfl, hIM3, hFM3⟩)
  exact key 0 (by omega) (fun j hj => by omega)
theorem x_85 {K : mj_C} {d : Nat} {M : Nat → Nat → Int} {N : Nat → Nat → Int64} (hD : 4 ≤ d) (hK : kOk K) (s im : Nat → Int) (kp : Int) (tx : Nat → Int) (ln : Int) (so it : Nat → Int) (ce : Nat → Int64) (hI : IC s im kp tx ln so it ce M N) (hV : VI s im kp tx ln so it) (y k : Int) : mj_X K d 85 [.inr (.inr (.inl 0)), .inl y, .inl k] (mj_Sh, M, N) (fun r Z => r = some (.inl (qMerit s y k)) ∧ ∃ M1 N1, Z = (mj_Sh, M1, N1) ∧ IC s im kp tx ln so it ce M1 N1 ∧ fr6 M N M1 N1) := by
  show mj_T K d 85 0 [some (.inr (.inr (.inl 0))), some (.inl y), some (.inl k), none] [] (mj_Sh, M, N) _
  have hVs := hV.1
  have hs := hVs.1
  have h0 := hs.1 0 (by omega)
  have h5 := hs.2.1
  have h11 := hs.1 11 (by omega)
  have hc11 := hs.2.2.1
  have hI0 := hI
  obtain ⟨⟨hS, hse, hev, hbo⟩, hkp, hkim, hfs, hzz, htxt, htp⟩ := hI
  refine tw_aload k85_0 rfl ?_
  refine tw_getr k85_1 f0_0 ?_
  refine tw_getr k85_4 f1_0 ?_
  refine tw_astore k85_7 rfl (L' := [some (.inr (.inr (.inl 0))), some (.inl y), some (.inl k), some (.inr (.inr (.inl 2)))]) rfl ?_
  refine tw_aload k85_8 rfl ?_
  refine tw_iload k85_9 rfl ?_
  refine tw_callb (by omega) (S' := []) (as := [.inr (.inr (.inl 2)), .inl y]) k85_10 (x_47_2 (M := M) (N := N) (by omega) s (hs.1 0 (by omega)) hS y) rfl rfl rfl rfl rfl (fun h10 => ?_) (fun h10 => ?_)
  · refine tw_zeqF k85_13 (by decide) ?_
    refine tw_iload k85_16 rfl ?_
    refine tw_zge k85_17 (fun h17 => ?_) (fun h17 => ?_)
    · refine tw_aload k85_22 rfl ?_
      refine tw_iload k85_23 rfl ?_
      refine tw_iload k85_24 rfl ?_
      refine tw_callp (v := .inl (byM s y k)) (by omega) (S' := []) (as := [.inr (.inr (.inl 2)), .inl y, .inl k]) k85_25 (x_56 (M := M) (N := N) (by omega) s hs hS y k) rfl rfl rfl rfl rfl ?_
      exact tw_ri k85_28 (⟨by unfold qMerit; (repeat' split) <;> first | rfl | omega, M, N, rfl, hI0, fun c _ => ⟨rfl, rfl⟩⟩)
    · refine tw_const k85_20 ?_
      exact tw_ri k85_21 (⟨by unfold qMerit; (repeat' split) <;> first | rfl | omega, M, N, rfl, hI0, fun c _ => ⟨rfl, rfl⟩⟩)
  · refine tw_zeqT k85_13 (by decide) ?_
    refine tw_const k85_20 ?_
    exact tw_ri k85_21 (⟨by unfold qMerit; (repeat' split) <;> first | rfl | omega, M, N, rfl, hI0, fun c _ => ⟨rfl, rfl⟩⟩)
theorem x_95 {K : mj_C} {d : Nat} {M : Nat → Nat → Int} {N : Nat → Nat → Int64} (hD : 6 ≤ d) (hK : kOk K) (s im : Nat → Int) (kp : Int) (tx : Nat → Int) (ln : Int) (so it : Nat → Int) (ce : Nat → Int64) (hI : IC s im kp tx ln so it ce M N) (hV : VI s im kp tx ln so it) : mj_X K d 95 [.inr (.inr (.inl 0))] (mj_Sh, M, N) (fun r Z => r = some (.inl (qFirst s 74)) ∧ ∃ M1 N1, Z = (mj_Sh, M1, N1) ∧ IC s im kp tx ln so it ce M1 N1 ∧ fr6 M N M1 N1) := by
  show mj_T K d 95 0 [some (.inr (.inr (.inl 0)))] [] (mj_Sh, M, N) _
  have hVs := hV.1
  have hs := hVs.1
  have h0 := hs.1 0 (by omega)
  have h5 := hs.2.1
  have h11 := hs.1 11 (by omega)
  have hc11 := hs.2.2.1
  have hI0 := hI
  obtain ⟨⟨hS, hse, hev, hbo⟩, hkp, hkim, hfs, hzz, htxt, htp⟩ := hI
  refine tw_aload k95_0 rfl ?_
  refine tw_call (by omega) (S' := []) (as := [.inr (.inr (.inl 0))]) k95_1 (x_106 (M := M) (N := N) (by omega) hK s im kp tx ln so it ce hI0 hV) rfl rfl rfl rfl rfl (fun r1 Z1 hq1 => ?_)
  obtain ⟨rfl, M3, N3, rfl, hIM3, hPM3, hFM3, hGM3⟩ := hq1
  have hS3 : cSV 2 M3 s := hIM3.1.1
  have hP0 := hPM3
  obtain ⟨⟨p11, p12, p13, p14, p15, hpp, hpg, hpd⟩, hu, hl, hd, hv, hn⟩ := hPM3
  have hpg : gRel (M3 44 3) (M3 45) (M3 46) (M3 47) (wG s) := hpg
  refine tw_as (S := [.inr (.inr (.inl 35))]) (M := M3) (N := N3) rfl rfl ?_
  refine tw_aload k95_4 rfl ?_
  refine tw_getr k95_5 f0_0 ?_
  refine tw_getr k95_8 f1_3 ?_
  refine tw_callp (v := .inl (qFirst s 74)) (by omega) (S' := []) (as := [.inr (.inr (.inl 35)), .inr (.inr (.inl 15))]) k95_11 (x_20_35 (M := M3) (N := N3) (by omega) s hs hP0 hIM3.1.2.2.2 hVs.2.2.2.1) rfl rfl rfl rfl rfl ?_
  exact tw_ri k95_14 (⟨by rfl, M3, N3, rfl, hIM3, hFM3⟩)
theorem x_99 {K : mj_C} {d : Nat} {M : Nat → Nat → Int} {N : Nat → Nat → Int64} (hK : kOk K) (s im : Nat → Int) (kp : Int) (tx : Nat → Int) (ln : Int) (so it : Nat → Int) (ce : Nat → Int64) (hI : IC s im kp tx ln so it ce M N) (hV : VI s im kp tx ln so it) (what : Int) : mj_X K d 99 [.inr (.inr (.inl 0)), .inl what] (mj_Sh, M, N) (fun r Z => r = some (.inl (qCount s ln what)) ∧ ∃ M1 N1, Z = (mj_Sh, M1, N1) ∧ IC s im kp tx ln so it ce M1 N1 ∧ fr6 M N M1 N1) := by
  show mj_T K d 99 0 [some (.inr (.inr (.inl 0))), some (.inl what)] [] (mj_Sh, M, N) _
  have hVs := hV.1
  have hs := hVs.1
  have h0 := hs.1 0 (by omega)
  have h5 := hs.2.1
  have h11 := hs.1 11 (by omega)
  have hc11 := hs.2.2.1
  have hI0 := hI
  obtain ⟨⟨hS, hse, hev, hbo⟩, hkp, hkim, hfs, hzz, htxt, htp⟩ := hI
  refine tw_iload k99_0 rfl ?_
  refine tw_sw k99_1 ?_
  refine tw_pk (fun h1_0 => ?_) (fun h1_0 => ?_)
  · refine tw_aload k99_32 rfl ?_
    refine tw_getr k99_33 f0_0 ?_
    refine tw_getr k99_36 f1_1 ?_
    refine tw_geti k99_39 f9_2 rfl (v := (s 46)) hse.1 ?_
    exact tw_ri k99_42 (⟨by unfold qCount; (repeat' split) <;> first | rfl | omega, M, N, rfl, hI0, fun c _ => ⟨rfl, rfl⟩⟩)
  · skip
    refine tw_pk (fun h1_1 => ?_) (fun h1_1 => ?_)
    · refine tw_aload k99_43 rfl ?_
      refine tw_getr k99_44 f0_0 ?_
      refine tw_getr k99_47 f1_2 ?_
      refine tw_geti k99_50 f12_2 rfl (v := (s 57)) hev.1 ?_
      exact tw_ri k99_53 (⟨by unfold qCount; (repeat' split) <;> first | rfl | omega, M, N, rfl, hI0, fun c _ => ⟨rfl, rfl⟩⟩)
    · skip
      refine tw_pk (fun h1_2 => ?_) (fun h1_2 => ?_)
      · refine tw_aload k99_54 rfl ?_
        refine tw_getr k99_55 f0_0 ?_
        refine tw_getr k99_58 f1_3 ?_
        refine tw_geti k99_61 f15_2 rfl (v := (s 74)) hbo.1 ?_
        exact tw_ri k99_64 (⟨by unfold qCount; (repeat' split) <;> first | rfl | omega, M, N, rfl, hI0, fun c _ => ⟨rfl, rfl⟩⟩)
      · skip
        refine tw_pk (fun h1_3 => ?_) (fun h1_3 => ?_)
        · refine tw_aload k99_65 rfl ?_
          refine tw_getr k99_66 f0_7 ?_
          refine tw_geti k99_69 f96_3 rfl (v := ln) htxt.1 ?_
          exact tw_ri k99_72 (⟨by unfold qCount; (repeat' split) <;> first | rfl | omega, M, N, rfl, hI0, fun c _ => ⟨rfl, rfl⟩⟩)
        · skip
          refine tw_pk0 ?_
          refine tw_const k99_73 ?_
          exact tw_ri k99_75 (⟨by unfold qCount; (repeat' split) <;> first | rfl | omega, M, N, rfl, hI0, fun c _ => ⟨rfl, rfl⟩⟩)
theorem x_110 {K : mj_C} {d : Nat} {Z : mj_Z} (x y : Nat) (hx : x < 101) (hy : y < 11) (hy0 : ¬ y = 0) (part : Int) : mj_X K d 110 [.inl ((x : Nat) : Int), .inl ((y : Nat) : Int), .inl part] Z (fun r Z' => r = some (.inr (.inl (qPart x y part))) ∧ Z' = Z) := by
  show mj_T K d 110 0 [some (.inl ((x : Nat) : Int)), some (.inl ((y : Nat) : Int)), some (.inl part), none, none] [] Z _
  have key : ∀ i : Nat, i ≤ (y - 1) → mj_T K d 110 5 [some (.inl ((x : Nat) : Int)), some (.inl ((y : Nat) : Int)), some (.inl part), some (.inl (((lD x y (1 + i)) : Nat) : Int)), some (.inl (((2 + i) : Nat) : Int))] [] Z (fun r Z' => r = some (.inr (.inl (qPart x y part))) ∧ Z' = Z) := by
    refine up_to (y - 1) ?_ ?_
    · show mj_T K d 110 5 [some (.inl ((x : Nat) : Int)), some (.inl ((y : Nat) : Int)), some (.inl part), some (.inl (((lD x y (1 + (y - 1))) : Nat) : Int)), some (.inl (((2 + (y - 1)) : Nat) : Int))] [] Z (fun r Z' => r = some (.inr (.inl (qPart x y part))) ∧ Z' = Z)
      have hg : (lD x y (1 + (y - 1))) = Nat.gcd x y := by rw [show 1 + (y - 1) = y by omega]; exact lD_g x hx y hy hy0
      have hg1 := lD_1 (x := x) (y := y) (1 + (y - 1))
      by_cases hpt : part = 0
      · refine tw_iload k110_5 rfl ?_
        refine tw_iload k110_7 rfl ?_
        refine tw_cgtT k110_8 (by omega) ?_
        refine tw_iload k110_34 rfl ?_
        refine tw_zneF k110_35 hpt ?_
        refine tw_iload k110_38 rfl ?_
        refine tw_iload k110_39 rfl ?_
        refine tw_idiv k110_40 (by omega) (v := (((x / (lD x y (1 + (y - 1)))) : Nat) : Int)) rfl ?_
        refine tw_i2l k110_41 ?_
        refine tw_goto k110_42 ?_
        exact tw_rl k110_49 (⟨by rw [fI _ (by have := Nat.div_le_self x (lD x y (1 + (y - 1))); omega)]; unfold qPart; rw [if_pos (by omega), hg], rfl⟩)
      · refine tw_iload k110_5 rfl ?_
        refine tw_iload k110_7 rfl ?_
        refine tw_cgtT k110_8 (by omega) ?_
        refine tw_iload k110_34 rfl ?_
        refine tw_zneT k110_35 hpt ?_
        refine tw_iload k110_45 rfl ?_
        refine tw_iload k110_46 rfl ?_
        refine tw_idiv k110_47 (by omega) (v := (((y / (lD x y (1 + (y - 1)))) : Nat) : Int)) rfl ?_
        refine tw_i2l k110_48 ?_
        exact tw_rl k110_49 (⟨by rw [fI _ (by have := Nat.div_le_self y (lD x y (1 + (y - 1))); omega)]; unfold qPart; rw [if_neg (by omega), hg], rfl⟩)
    · intro i hmi ih
      have ih : mj_T K d 110 5 [some (.inl ((x : Nat) : Int)), some (.inl ((y : Nat) : Int)), some (.inl part), some (.inl (((lD x y (1 + (i + 1))) : Nat) : Int)), some (.inl (((2 + (i + 1)) : Nat) : Int))] [] Z (fun r Z' => r = some (.inr (.inl (qPart x y part))) ∧ Z' = Z) := ih
      show mj_T K d 110 5 [some (.inl ((x : Nat) : Int)), some (.inl ((y : Nat) : Int)), some (.inl part), some (.inl (((lD x y (1 + i)) : Nat) : Int)), some (.inl (((2 + i) : Nat) : Int))] [] Z (fun r Z' => r = some (.inr (.inl (qPart x y part))) ∧ Z' = Z)
      refine tw_iload k110_5 rfl ?_
      refine tw_iload k110_7 rfl ?_
      refine tw_cgtF k110_8 (by omega) ?_
      refine tw_iload k110_11 rfl ?_
      refine tw_iload k110_12 rfl ?_
      refine tw_irem k110_14 (by omega) (v := (((x % (2 + i)) : Nat) : Int)) rfl ?_
      refine tw_zne k110_15 (fun h15 => ?_) (fun h15 => ?_)
      · refine tw_iinc k110_28 rfl (v := (((2 + i) + 1 : Nat) : Int)) rfl (by omega) rfl (L' := [some (.inl ((x : Nat) : Int)), some (.inl ((y : Nat) : Int)), some (.inl part), some (.inl (((lD x y (1 + i)) : Nat) : Int)), some (.inl (((2 + i) + 1 : Nat) : Int))]) rfl ?_
        refine tw_goto k110_31 ?_
        refine tw_eqL (L' := [some (.inl ((x : Nat) : Int)), some (.inl ((y : Nat) : Int)), some (.inl part), some (.inl (((lD x y (1 + (i + 1))) : Nat) : Int)), some (.inl (((2 + (i + 1)) : Nat) : Int))]) (e_c rfl (e_c rfl (e_c rfl (e_c (e_i (by rw [show 1 + (i + 1) = (1 + i) + 1 by omega, lD, if_neg (by rw [show 1 + i + 1 = 2 + i by omega]; omega)])) (e_c (e_i (by omega)) rfl))))) ?_
        exact ih
      · refine tw_iload k110_18 rfl ?_
        refine tw_iload k110_19 rfl ?_
        refine tw_irem k110_21 (by omega) (v := (((y % (2 + i)) : Nat) : Int)) rfl ?_
        refine tw_zne k110_22 (fun h22 => ?_) (fun h22 => ?_)
        · refine tw_iinc k110_28 rfl (v := (((2 + i) + 1 : Nat) : Int)) rfl (by omega) rfl (L' := [some (.inl ((x : Nat) : Int)), some (.inl ((y : Nat) : Int)), some (.inl part), some (.inl (((lD x y (1 + i)) : Nat) : Int)), some (.inl (((2 + i) + 1 : Nat) : Int))]) rfl ?_
          refine tw_goto k110_31 ?_
          refine tw_eqL (L' := [some (.inl ((x : Nat) : Int)), some (.inl ((y : Nat) : Int)), some (.inl part), some (.inl (((lD x y (1 + (i + 1))) : Nat) : Int)), some (.inl (((2 + (i + 1)) : Nat) : Int))]) (e_c rfl (e_c rfl (e_c rfl (e_c (e_i (by rw [show 1 + (i + 1) = (1 + i) + 1 by omega, lD, if_neg (by rw [show 1 + i + 1 = 2 + i by omega]; omega)])) (e_c (e_i (by omega)) rfl))))) ?_
          exact ih
        · refine tw_iload k110_25 rfl ?_
          refine tw_istore k110_27 rfl (L' := [some (.inl ((x : Nat) : Int)), some (.inl ((y : Nat) : Int)), some (.inl part), some (.inl (((2 + i) : Nat) : Int)), some (.inl (((2 + i) : Nat) : Int))]) rfl ?_
          refine tw_iinc k110_28 rfl (v := (((2 + i) + 1 : Nat) : Int)) rfl (by omega) rfl (L' := [some (.inl ((x : Nat) : Int)), some (.inl ((y : Nat) : Int)), some (.inl part), some (.inl (((2 + i) : Nat) : Int)), some (.inl (((2 + i) + 1 : Nat) : Int))]) rfl ?_
          refine tw_goto k110_31 ?_
          refine tw_eqL (L' := [some (.inl ((x : Nat) : Int)), some (.inl ((y : Nat) : Int)), some (.inl part), some (.inl (((lD x y (1 + (i + 1))) : Nat) : Int)), some (.inl (((2 + (i + 1)) : Nat) : Int))]) (e_c rfl (e_c rfl (e_c rfl (e_c (e_i (by rw [show 1 + (i + 1) = (1 + i) + 1 by omega, lD, if_pos ⟨by rw [show 1 + i + 1 = 2 + i by omega]; omega, by rw [show 1 + i + 1 = 2 + i by omega]; omega⟩]; omega)) (e_c (e_i (by omega)) rfl))))) ?_
          exact ih
  refine tw_const k110_0 ?_
  refine tw_istore k110_1 rfl (L' := [some (.inl ((x : Nat) : Int)), some (.inl ((y : Nat) : Int)), some (.inl part), some (.inl (1 : Int)), none]) rfl ?_
  refine tw_const k110_2 ?_
  refine tw_istore k110_3 rfl (L' := [some (.inl ((x : Nat) : Int)), some (.inl ((y : Nat) : Int)), some (.inl part), some (.inl (1 : Int)), some (.inl (2 : Int))]) rfl ?_
  refine tw_eqL (L' := [some (.inl ((x : Nat) : Int)), some (.inl ((y : Nat) : Int)), some (.inl part), some (.inl (((lD x y (1 + 0)) : Nat) : Int)), some (.inl (((2 + 0) : Nat) : Int))]) (e_c rfl (e_c rfl (e_c rfl (e_c (e_i (by rw [lD]; split <;> rfl)) (e_c (e_i rfl) rfl))))) ?_
  exact key 0 (by omega)
theorem x_91 {K : mj_C} {d : Nat} {M : Nat → Nat → Int} {N : Nat → Nat → Int64} (hD : 6 ≤ d) (hK : kOk K) (s im : Nat → Int) (kp : Int) (tx : Nat → Int) (ln : Int) (so it : Nat → Int) (ce : Nat → Int64) (hI : IC s im kp tx ln so it ce M N) (hV : VI s im kp tx ln so it) (part : Int) : mj_X K d 91 [.inr (.inr (.inl 0)), .inl part] (mj_Sh, M, N) (fun r Z => r = some (.inr (.inl (qMean s part))) ∧ ∃ M1 N1, Z = (mj_Sh, M1, N1) ∧ IC s im kp tx ln so it ce M1 N1 ∧ fr6 M N M1 N1) := by
  show mj_T K d 91 0 [some (.inr (.inr (.inl 0))), some (.inl part), none, none, none, none] [] (mj_Sh, M, N) _
  have hVs := hV.1
  have hs := hVs.1
  have h0 := hs.1 0 (by omega)
  have h5 := hs.2.1
  have h11 := hs.1 11 (by omega)
  have hc11 := hs.2.2.1
  have hI0 := hI
  obtain ⟨⟨hS, hse, hev, hbo⟩, hkp, hkim, hfs, hzz, htxt, htp⟩ := hI
  obtain ⟨Y, hYe⟩ : ∃ Y : Nat, Y = (s 0).toNat := ⟨_, rfl⟩
  have hY0 : s 0 = (Y : Int) := by omega
  by_cases hyy : ¬ s 0 = 0 ∧ 0 ≤ part ∧ part ≤ 1
  · refine tw_aload k91_0 rfl ?_
    refine tw_getr k91_1 f0_0 ?_
    refine tw_getr k91_4 f1_0 ?_
    refine tw_geti k91_7 f2_6 rfl (v := ((Y : Nat) : Int)) (hS.1.trans hY0) ?_
    refine tw_istore k91_10 rfl (L' := [some (.inr (.inr (.inl 0))), some (.inl part), some (.inl ((Y : Nat) : Int)), none, none, none]) rfl ?_
    refine tw_iload k91_11 rfl ?_
    refine tw_zeqF k91_12 (by omega) ?_
    refine tw_iload k91_15 rfl ?_
    refine tw_const k91_16 ?_
    refine tw_const k91_17 ?_
    refine tw_callbT (by omega) (S' := []) (as := [.inl part, .inl (0 : Int), .inl (1 : Int)]) k91_18 (x_104 part (0 : Int) (1 : Int)) rfl rfl rfl rfl rfl hyy.2 ?_
    refine tw_zneT k91_21 (by decide) ?_
    refine tw_aload k91_28 rfl ?_
    refine tw_call (by omega) (S' := []) (as := [.inr (.inr (.inl 0))]) k91_29 (x_106 (M := M) (N := N) (by omega) hK s im kp tx ln so it ce hI0 hV) rfl rfl rfl rfl rfl (fun r29 Z29 hq29 => ?_)
    obtain ⟨rfl, M3, N3, rfl, hIM3, hPM3, hFM3, hGM3⟩ := hq29
    have hS3 : cSV 2 M3 s := hIM3.1.1
    have hP0 := hPM3
    obtain ⟨⟨p11, p12, p13, p14, p15, hpp, hpg, hpd⟩, hu, hl, hd, hv, hn⟩ := hPM3
    have hpg : gRel (M3 44 3) (M3 45) (M3 46) (M3 47) (wG s) := hpg
    refine tw_as (S := [.inr (.inr (.inl 35))]) (M := M3) (N := N3) rfl rfl ?_
    refine tw_astore k91_32 rfl (L' := [some (.inr (.inr (.inl 0))), some (.inl part), some (.inl ((Y : Nat) : Int)), some (.inr (.inr (.inl 35))), none, none]) rfl ?_
    refine tw_const k91_33 ?_
    refine tw_istore k91_34 rfl (L' := [some (.inr (.inr (.inl 0))), some (.inl part), some (.inl ((Y : Nat) : Int)), some (.inr (.inr (.inl 35))), some (.inl (0 : Int)), none]) rfl ?_
    refine tw_const k91_36 ?_
    refine tw_istore k91_37 rfl (L' := [some (.inr (.inr (.inl 0))), some (.inl part), some (.inl ((Y : Nat) : Int)), some (.inr (.inr (.inl 35))), some (.inl (0 : Int)), some (.inl (0 : Int))]) rfl ?_
    have key : ∀ i : Nat, i ≤ Y → mj_T K d 91 39 [some (.inr (.inr (.inl 0))), some (.inl part), some (.inl ((Y : Nat) : Int)), some (.inr (.inr (.inl 35))), some (.inl (pS (wPr s) 0 i)), some (.inl ((i : Nat) : Int))] [] (mj_Sh, M3, N3) (fun r Z => r = some (.inr (.inl (qMean s part))) ∧ ∃ M1 N1, Z = (mj_Sh, M1, N1) ∧ IC s im kp tx ln so it ce M1 N1 ∧ fr6 M N M1 N1) := by
      refine up_to Y ?_ ?_
      · show mj_T K d 91 39 [some (.inr (.inr (.inl 0))), some (.inl part), some (.inl ((Y : Nat) : Int)), some (.inr (.inr (.inl 35))), some (.inl (pS (wPr s) 0 Y)), some (.inl ((Y : Nat) : Int))] [] (mj_Sh, M3, N3) (fun r Z => r = some (.inr (.inl (qMean s part))) ∧ ∃ M1 N1, Z = (mj_Sh, M1, N1) ∧ IC s im kp tx ln so it ce M1 N1 ∧ fr6 M N M1 N1)
        have hpr := pS_rg (f := wPr s) (a := 0) (B := 20) Y (fun i _ _ => wPr_rg _ _)
        obtain ⟨x, hx⟩ : ∃ x : Nat, pS (wPr s) 0 Y = (x : Int) := ⟨(pS (wPr s) 0 Y).toNat, by omega⟩
        refine tw_iload k91_39 rfl ?_
        refine tw_iload k91_41 rfl ?_
        refine tw_cgeT k91_42 (by omega) ?_
        refine tw_iload k91_62 rfl ?_
        refine tw_iload k91_64 rfl ?_
        refine tw_iload k91_65 rfl ?_
        refine tw_callp (v := .inr (.inl (qPart x Y part))) (by omega) (S' := []) (as := [.inl (pS (wPr s) 0 Y), .inl ((Y : Nat) : Int), .inl part]) k91_66 (show mj_X K (d - 1) 110 [.inl (pS (wPr s) 0 Y), .inl ((Y : Nat) : Int), .inl part] _ (fun r Z' => r = some (.inr (.inl (qPart x Y part))) ∧ Z' = (mj_Sh, M3, N3)) by rw [hx]; exact x_110 x Y (by omega) (by omega) (by omega) part) rfl rfl rfl rfl rfl ?_
        exact tw_rl k91_69 (⟨by unfold qMean; rw [if_pos hyy, ← hYe, hx]; rfl, M3, N3, rfl, hIM3, hFM3⟩)
      · intro i hmi ih
        have ih : mj_T K d 91 39 [some (.inr (.inr (.inl 0))), some (.inl part), some (.inl ((Y : Nat) : Int)), some (.inr (.inr (.inl 35))), some (.inl (pS (wPr s) 0 (i + 1))), some (.inl (((i + 1) : Nat) : Int))] [] (mj_Sh, M3, N3) (fun r Z => r = some (.inr (.inl (qMean s part))) ∧ ∃ M1 N1, Z = (mj_Sh, M1, N1) ∧ IC s im kp tx ln so it ce M1 N1 ∧ fr6 M N M1 N1) := ih
        show mj_T K d 91 39 [some (.inr (.inr (.inl 0))), some (.inl part), some (.inl ((Y : Nat) : Int)), some (.inr (.inr (.inl 35))), some (.inl (pS (wPr s) 0 i)), some (.inl ((i : Nat) : Int))] [] (mj_Sh, M3, N3) (fun r Z => r = some (.inr (.inl (qMean s part))) ∧ ∃ M1 N1, Z = (mj_Sh, M1, N1) ∧ IC s im kp tx ln so it ce M1 N1 ∧ fr6 M N M1 N1)
        have hpr := pS_rg (f := wPr s) (a := 0) (B := 20) i (fun i _ _ => wPr_rg _ _)
        have hpi := wPr_rg s i
        refine tw_iload k91_39 rfl ?_
        refine tw_iload k91_41 rfl ?_
        refine tw_cgeF k91_42 (by omega) ?_
        refine tw_iload k91_45 rfl ?_
        refine tw_aload k91_47 rfl ?_
        refine tw_iload k91_48 rfl ?_
        refine tw_callp (v := .inl (wPr s i)) (by omega) (S' := [.inl (pS (wPr s) 0 i)]) (as := [.inr (.inr (.inl 35)), .inl ((i : Nat) : Int)]) k91_50 (x_13_35 (M := M3) (N := N3) s hs hP0 i (by omega)) rfl rfl rfl rfl rfl ?_
        refine tw_iadd k91_53 (v := ((pS (wPr s) 0 i) + (wPr s i))) rfl (by omega) ?_
        refine tw_istore k91_54 rfl (L' := [some (.inr (.inr (.inl 0))), some (.inl part), some (.inl ((Y : Nat) : Int)), some (.inr (.inr (.inl 35))), some (.inl ((pS (wPr s) 0 i) + (wPr s i))), some (.inl ((i : Nat) : Int))]) rfl ?_
        refine tw_iinc k91_56 rfl (v := ((i + 1 : Nat) : Int)) rfl (by omega) rfl (L' := [some (.inr (.inr (.inl 0))), some (.inl part), some (.inl ((Y : Nat) : Int)), some (.inr (.inr (.inl 35))), some (.inl ((pS (wPr s) 0 i) + (wPr s i))), some (.inl ((i + 1 : Nat) : Int))]) rfl ?_
        refine tw_goto k91_59 ?_
        refine tw_eqL (L' := [some (.inr (.inr (.inl 0))), some (.inl part), some (.inl ((Y : Nat) : Int)), some (.inr (.inr (.inl 35))), some (.inl (pS (wPr s) 0 (i + 1))), some (.inl (((i + 1) : Nat) : Int))]) (e_c rfl (e_c rfl (e_c rfl (e_c rfl (e_c (e_i (by rw [pS, Nat.zero_add])) (e_c rfl rfl)))))) ?_
        exact ih
    refine tw_eqL (L' := [some (.inr (.inr (.inl 0))), some (.inl part), some (.inl ((Y : Nat) : Int)), some (.inr (.inr (.inl 35))), some (.inl (pS (wPr s) 0 0)), some (.inl ((0 : Nat) : Int))]) (e_c rfl (e_c rfl (e_c rfl (e_c rfl (e_c (e_i rfl) (e_c (e_i rfl) rfl)))))) ?_
    exact key 0 (by omega)
  · refine tw_aload k91_0 rfl ?_
    refine tw_getr k91_1 f0_0 ?_
    refine tw_getr k91_4 f1_0 ?_
    refine tw_geti k91_7 f2_6 rfl (v := ((Y : Nat) : Int)) (hS.1.trans hY0) ?_
    refine tw_istore k91_10 rfl (L' := [some (.inr (.inr (.inl 0))), some (.inl part), some (.inl ((Y : Nat) : Int)), none, none, none]) rfl ?_
    refine tw_iload k91_11 rfl ?_
    refine tw_zeq k91_12 (fun h12 => ?_) (fun h12 => ?_)
    · refine tw_lconst k91_24 ?_
      exact tw_rl k91_27 (⟨by unfold qMean; rw [if_neg hyy]; rfl, M, N, rfl, hI0, fun c _ => ⟨rfl, rfl⟩⟩)
    · refine tw_iload k91_15 rfl ?_
      refine tw_const k91_16 ?_
      refine tw_const k91_17 ?_
      refine tw_callbF (by omega) (S' := []) (as := [.inl part, .inl (0 : Int), .inl (1 : Int)]) k91_18 (x_104 part (0 : Int) (1 : Int)) rfl rfl rfl rfl rfl (fun q => hyy ⟨by omega, q⟩) ?_
      refine tw_zneF k91_21 (by decide) ?_
      refine tw_lconst k91_24 ?_
      exact tw_rl k91_27 (⟨by unfold qMean; rw [if_neg hyy]; rfl, M, N, rfl, hI0, fun c _ => ⟨rfl, rfl⟩⟩)
