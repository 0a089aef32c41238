-- the model: a clause read
theorem aO_tr {f g h : Nat → Int} {p q a b : Int} (h1 : aO f g p a) (h2 : aO g h q b) : aO f h p a := ⟨h1.1, h1.2.1, fun j a b => (h1.2.2 j a b).trans (h2.2.2 j a b)⟩
theorem aO_at {f g : Nat → Int} {p a q : Int} (h1 : aO f g p a) : aO (pU f 24 q) g q a := ⟨pU_eq, by rw [pU_ne (by omega)]; exact h1.2.1, fun j a b => by rw [pU_ne a]; exact h1.2.2 j a b⟩
theorem x_144 {K : mj_C} {d : Nat} {M : Nat → Nat → Int} {N : Nat → Nat → Int64} (hD : 3 ≤ d) (L : Nat) (hL : M 126 23 = (L : Int)) (h100 : L ≤ 100) (htx : ∀ i, i < 100 → 0 ≤ M 143 i ∧ M 143 i ≤ 127) (p : Nat) (hp : p ≤ L) (hat : M 126 24 = (p : Int)) (hft : M 126 25 = -1) (b : Nat) (hb : b + 3 < 56) : mj_X K d 144 [.inr (.inr (.inl 126)), .inl ((b : Nat) : Int)] (mj_Sh, M, N) (fun r Z => r = none ∧ ∃ f g, Z = (mj_Sh, st M [(126, f), (144, g)], N) ∧ aO f (M 126) ((clR (M 143) L p).2 : Int) (if (clR (M 143) L p).1 = true then -1 else ((clR (M 143) L p).2 : Int)) ∧ ((clR (M 143) L p).1 = true → rdV (M 143) L p (g b) (g (b + 1)) (g (b + 2)) (g (b + 3))) ∧ ∀ j, ¬ (b ≤ j ∧ j ≤ b + 3) → g j = M 144 j) := by
  show mj_T K d 144 0 [some (.inr (.inr (.inl 126))), some (.inl ((b : Nat) : Int)), none] [] (mj_Sh, M, N) _
  have ho0 : aO (M 126) (M 126) (p : Int) (-1) := ⟨hat, hft, fun _ _ _ => rfl⟩
  refine tw_pad (M := M) (N := N) (l := []) (l' := [(126, M 126), (144, M 144)]) [126, 144] rfl ?_
  refine tw_aload k144_0 rfl ?_
  refine tw_geti k144_1 f126_25 rfl (v := (-1 : Int)) (show M 126 25 = _ from ho0.2.1) ?_
  refine tw_zgeF k144_4 (by omega) ?_
  refine tw_aload k144_7 rfl ?_
  refine tw_geti k144_8 f126_24 rfl (v := ((p : Nat) : Int)) (show M 126 24 = _ from ho0.1) ?_
  refine tw_aload k144_11 rfl ?_
  refine tw_geti k144_12 f126_23 rfl (v := ((L : Nat) : Int)) (show M 126 23 = _ from (by rw [ho0.2.2 23 (by omega) (by omega)]; exact hL)) ?_
  refine tw_cge k144_15 (fun h15 => ?_) (fun h15 => ?_)
  · refine tw_const k144_30 ?_
    refine tw_istore k144_31 rfl (L' := [some (.inr (.inr (.inl 126))), some (.inl ((b : Nat) : Int)), some (.inl (0 : Int))]) rfl ?_
    refine tw_aload k144_32 rfl ?_
    refine tw_getr k144_33 f126_22 ?_
    refine tw_iload k144_36 rfl ?_
    refine tw_iload k144_37 rfl ?_
    refine tw_iast (M := M) (N := N) (l := [(126, M 126), (144, M 144)]) (l' := [(126, M 126), (144, (pU (M 144) b (0 : Int)))]) (j := b) k144_38 al144 rfl (by omega) rfl ?_
    refine tw_iload k144_39 rfl ?_
    refine tw_const k144_40 ?_
    refine tw_ceqF k144_42 (by decide) ?_
    refine tw_iload k144_45 rfl ?_
    refine tw_const k144_46 ?_
    refine tw_ceqF k144_48 (by decide) ?_
    refine tw_iload k144_51 rfl ?_
    refine tw_const k144_52 ?_
    refine tw_ceqF k144_54 (by decide) ?_
    refine tw_iload k144_57 rfl ?_
    refine tw_const k144_58 ?_
    refine tw_ceqF k144_60 (by decide) ?_
    refine tw_iload k144_63 rfl ?_
    refine tw_const k144_64 ?_
    refine tw_ceqF k144_66 (by decide) ?_
    refine tw_iload k144_69 rfl ?_
    refine tw_const k144_70 ?_
    refine tw_ceqF k144_72 (by decide) ?_
    refine tw_aload k144_75 rfl ?_
    refine tw_call (by omega) (S' := []) (as := [.inr (.inr (.inl 126))]) k144_76 (x_141 (M := (st M [(126, M 126), (144, (pU (M 144) b (0 : Int)))])) (N := N) p (show M 126 24 = ((p : Nat) : Int) from ho0.1) (-1) (show M 126 25 = (-1) from ho0.2.1)) rfl rfl rfl rfl rfl (fun r76 Z76 hq76 => ?_)
    obtain ⟨rfl, f1, rfl, ho1⟩ := hq76
    have ho1 := aO_tr ho1 ho0
    rw [if_pos (by omega)] at ho1
    refine tw_as (S := []) (M := (st M [(126, f1), (144, (pU (M 144) b (0 : Int)))])) (N := N) (by rw [st_mg]; rfl) rfl ?_
    exact tw_rv k144_79 (by have hcl : clR (M 143) L p = (false, p) := (by unfold clR; (repeat' split) <;> first | rfl | (exfalso; omega)); (try dsimp only); rw [hcl]; exact ⟨rfl, _, _, rfl, ⟨ho1.1, by rw [if_neg (by simp)]; exact ho1.2.1, ho1.2.2⟩, fun h => absurd h (by simp), fun j hj => by rw [pU_ne (by omega)]⟩)
  · refine tw_aload k144_18 rfl ?_
    refine tw_getr k144_19 f126_21 ?_
    refine tw_aload k144_22 rfl ?_
    refine tw_geti k144_23 f126_24 rfl (v := ((p : Nat) : Int)) (show M 126 24 = _ from ho0.1) ?_
    refine tw_iald (j := p) (v := (M 143 p)) k144_26 al143 rfl (by omega) rfl ?_
    refine tw_goto k144_27 ?_
    refine tw_istore k144_31 rfl (L' := [some (.inr (.inr (.inl 126))), some (.inl ((b : Nat) : Int)), some (.inl (M 143 p))]) rfl ?_
    refine tw_aload k144_32 rfl ?_
    refine tw_getr k144_33 f126_22 ?_
    refine tw_iload k144_36 rfl ?_
    refine tw_iload k144_37 rfl ?_
    refine tw_iast (M := M) (N := N) (l := [(126, M 126), (144, M 144)]) (l' := [(126, M 126), (144, (pU (M 144) b (M 143 p)))]) (j := b) k144_38 al144 rfl (by omega) rfl ?_
    refine tw_iload k144_39 rfl ?_
    refine tw_const k144_40 ?_
    refine tw_ceq k144_42 (fun h42 => ?_) (fun h42 => ?_)
    · refine tw_aload k144_80 rfl ?_
      refine tw_dupr k144_81 ?_
      refine tw_geti k144_82 f126_24 rfl (v := ((p : Nat) : Int)) (show M 126 24 = _ from ho0.1) ?_
      refine tw_const k144_85 ?_
      refine tw_iadd k144_86 (v := ((p + 1 : Nat) : Int)) rfl (by omega) ?_
      refine tw_puti (M := M) (N := N) (l := [(126, M 126), (144, (pU (M 144) b (M 143 p)))]) (l' := [(126, (pU (M 126) 24 ((p + 1 : Nat) : Int))), (144, (pU (M 144) b (M 143 p)))]) k144_87 f126_24 rfl ?_
      have ho2 : aO (pU (M 126) 24 ((p + 1 : Nat) : Int)) (M 126) ((p + 1 : Nat) : Int) (-1) := aO_at ho0
      refine tw_iload k144_90 rfl ?_
      refine tw_const k144_91 ?_
      refine tw_cneT k144_93 (by omega) ?_
      refine tw_aload k144_109 rfl ?_
      refine tw_getr k144_110 f126_22 ?_
      refine tw_iload k144_113 rfl ?_
      refine tw_const k144_114 ?_
      refine tw_iadd k144_115 (v := ((b + 1 : Nat) : Int)) rfl (by omega) ?_
      refine tw_aload k144_116 rfl ?_
      refine tw_iload k144_117 rfl ?_
      refine tw_const k144_118 ?_
      refine tw_cneT k144_120 (by omega) ?_
      refine tw_const k144_127 ?_
      refine tw_call (by omega) (S' := [.inl ((b + 1 : Nat) : Int), .inr (.inr (.inl 144))]) (as := [.inr (.inr (.inl 126)), .inl (2 : Int)]) k144_128 (x_142 (M := (st M [(126, (pU (M 126) 24 ((p + 1 : Nat) : Int))), (144, (pU (M 144) b (M 143 p)))])) (N := N) (by omega) L (show (pU (M 126) 24 ((p + 1 : Nat) : Int)) 23 = (L : Int) from by rw [ho2.2.2 23 (by omega) (by omega)]; exact hL) h100 htx (p + 1) (by omega) (show (pU (M 126) 24 ((p + 1 : Nat) : Int)) 24 = (((p + 1) : Nat) : Int) from ho2.1) (-1) (show (pU (M 126) 24 ((p + 1 : Nat) : Int)) 25 = (-1) from ho2.2.1) (by omega) 2 (by omega)) rfl rfl rfl rfl rfl (fun r128 Z128 hq128 => ?_)
      obtain ⟨rfl, f3, rfl, ho3⟩ := hq128.1 (by omega)
      have ho3 := aO_tr ho3 ho2
      have ho3 : aO f3 (M 126) ((nP (M 143) L 2 (p + 1)) : Int) (if (nP (M 143) L 2 (p + 1)) = (p + 1) then (((p + 1) : Nat) : Int) else -1) := ho3
      have hnp3 := nP_rg (tx := M 143) (L := L) 2 (p + 1) (by omega)
      by_cases hnq3 : (nP (M 143) L 2 (p + 1)) = (p + 1)
      · rw [if_pos hnq3, hnq3] at ho3
        refine tw_as (S := [.inl (nV (M 143) L 2 (p + 1) 0), .inl ((b + 1 : Nat) : Int), .inr (.inr (.inl 144))]) (M := (st M [(126, f3), (144, (pU (M 144) b (M 143 p)))])) (N := N) (by rw [st_mg]; rfl) rfl ?_
        refine tw_iast (M := M) (N := N) (l := [(126, f3), (144, (pU (M 144) b (M 143 p)))]) (l' := [(126, f3), (144, (pU (pU (M 144) b (M 143 p)) (b + 1) (nV (M 143) L 2 (p + 1) 0)))]) (j := b + 1) k144_131 al144 rfl (by omega) rfl ?_
        refine tw_iload k144_132 rfl ?_
        refine tw_const k144_133 ?_
        refine tw_ceqT k144_135 (by omega) ?_
        refine tw_aload k144_144 rfl ?_
        refine tw_call (by omega) (S' := []) (as := [.inr (.inr (.inl 126))]) k144_145 (x_143 (M := (st M [(126, f3), (144, (pU (pU (M 144) b (M 143 p)) (b + 1) (nV (M 143) L 2 (p + 1) 0)))])) (N := N) (by omega) L (show f3 23 = (L : Int) from by rw [ho3.2.2 23 (by omega) (by omega)]; exact hL) h100 htx (p + 1) (by omega) (show f3 24 = (((p + 1) : Nat) : Int) from ho3.1) (((p + 1) : Nat) : Int) (show f3 25 = (((p + 1) : Nat) : Int) from ho3.2.1)) rfl rfl rfl rfl rfl (fun r145 Z145 hq145 => ?_)
        obtain ⟨rfl, f4, rfl, ho4⟩ := hq145
        have ho4 := aO_tr ho4 ho3
        have ho4 : aO f4 (M 126) (if (((p + 1) : Nat) : Int) < 0 ∧ (p + 1) < L ∧ M 143 (p + 1) = 44 then (((p + 1) + 1 : Nat) : Int) else (((p + 1) : Nat) : Int)) (if (((p + 1) : Nat) : Int) < 0 ∧ ¬ ((p + 1) < L ∧ M 143 (p + 1) = 44) then (((p + 1) : Nat) : Int) else (((p + 1) : Nat) : Int)) := ho4
        rw [if_neg (by omega), if_neg (by omega)] at ho4
        refine tw_as (S := []) (M := (st M [(126, f4), (144, (pU (pU (M 144) b (M 143 p)) (b + 1) (nV (M 143) L 2 (p + 1) 0)))])) (N := N) (by rw [st_mg]; rfl) rfl ?_
        refine tw_aload k144_148 rfl ?_
        refine tw_getr k144_149 f126_22 ?_
        refine tw_iload k144_152 rfl ?_
        refine tw_const k144_153 ?_
        refine tw_iadd k144_154 (v := ((b + 2 : Nat) : Int)) rfl (by omega) ?_
        refine tw_aload k144_155 rfl ?_
        refine tw_iload k144_156 rfl ?_
        refine tw_const k144_157 ?_
        refine tw_cneT k144_159 (by omega) ?_
        refine tw_const k144_166 ?_
        refine tw_call (by omega) (S' := [.inl ((b + 2 : Nat) : Int), .inr (.inr (.inl 144))]) (as := [.inr (.inr (.inl 126)), .inl (2 : Int)]) k144_167 (x_142 (M := (st M [(126, f4), (144, (pU (pU (M 144) b (M 143 p)) (b + 1) (nV (M 143) L 2 (p + 1) 0)))])) (N := N) (by omega) L (show f4 23 = (L : Int) from by rw [ho4.2.2 23 (by omega) (by omega)]; exact hL) h100 htx (p + 1) (by omega) (show f4 24 = (((p + 1) : Nat) : Int) from ho4.1) (((p + 1) : Nat) : Int) (show f4 25 = (((p + 1) : Nat) : Int) from ho4.2.1) (by omega) 2 (by omega)) rfl rfl rfl rfl rfl (fun r167 Z167 hq167 => ?_)
        obtain ⟨v5, rfl, hv5a, hv5b, f5, rfl, ho5⟩ := hq167.2 (by omega)
        have ho5 := aO_tr ho5 ho4
        refine tw_as (S := [.inl v5, .inl ((b + 2 : Nat) : Int), .inr (.inr (.inl 144))]) (M := (st M [(126, f5), (144, (pU (pU (M 144) b (M 143 p)) (b + 1) (nV (M 143) L 2 (p + 1) 0)))])) (N := N) (by rw [st_mg]; rfl) rfl ?_
        refine tw_iast (M := M) (N := N) (l := [(126, f5), (144, (pU (pU (M 144) b (M 143 p)) (b + 1) (nV (M 143) L 2 (p + 1) 0)))]) (l' := [(126, f5), (144, (pU (pU (pU (M 144) b (M 143 p)) (b + 1) (nV (M 143) L 2 (p + 1) 0)) (b + 2) v5))]) (j := b + 2) k144_170 al144 rfl (by omega) rfl ?_
        exact tw_rv k144_171 (by have hcl : clR (M 143) L p = (false, (p + 1)) := (by unfold clR; (repeat' split) <;> first | rfl | (exfalso; omega)); (try dsimp only); rw [hcl]; exact ⟨rfl, _, _, rfl, ⟨ho5.1, by rw [if_neg (by simp)]; exact ho5.2.1, ho5.2.2⟩, fun h => absurd h (by simp), fun j hj => by rw [pU_ne (by omega), pU_ne (by omega), pU_ne (by omega)]⟩)
      · rw [if_neg hnq3] at ho3
        refine tw_as (S := [.inl (nV (M 143) L 2 (p + 1) 0), .inl ((b + 1 : Nat) : Int), .inr (.inr (.inl 144))]) (M := (st M [(126, f3), (144, (pU (M 144) b (M 143 p)))])) (N := N) (by rw [st_mg]; rfl) rfl ?_
        refine tw_iast (M := M) (N := N) (l := [(126, f3), (144, (pU (M 144) b (M 143 p)))]) (l' := [(126, f3), (144, (pU (pU (M 144) b (M 143 p)) (b + 1) (nV (M 143) L 2 (p + 1) 0)))]) (j := b + 1) k144_131 al144 rfl (by omega) rfl ?_
        refine tw_iload k144_132 rfl ?_
        refine tw_const k144_133 ?_
        refine tw_ceqT k144_135 (by omega) ?_
        refine tw_aload k144_144 rfl ?_
        refine tw_call (by omega) (S' := []) (as := [.inr (.inr (.inl 126))]) k144_145 (x_143 (M := (st M [(126, f3), (144, (pU (pU (M 144) b (M 143 p)) (b + 1) (nV (M 143) L 2 (p + 1) 0)))])) (N := N) (by omega) L (show f3 23 = (L : Int) from by rw [ho3.2.2 23 (by omega) (by omega)]; exact hL) h100 htx (nP (M 143) L 2 (p + 1)) (by omega) (show f3 24 = (((nP (M 143) L 2 (p + 1)) : Nat) : Int) from ho3.1) (-1) (show f3 25 = (-1) from ho3.2.1)) rfl rfl rfl rfl rfl (fun r145 Z145 hq145 => ?_)
        obtain ⟨rfl, f6, rfl, ho6⟩ := hq145
        have ho6 := aO_tr ho6 ho3
        have ho6 : aO f6 (M 126) (if (-1) < 0 ∧ (nP (M 143) L 2 (p + 1)) < L ∧ M 143 (nP (M 143) L 2 (p + 1)) = 44 then (((nP (M 143) L 2 (p + 1)) + 1 : Nat) : Int) else (((nP (M 143) L 2 (p + 1)) : Nat) : Int)) (if (-1) < 0 ∧ ¬ ((nP (M 143) L 2 (p + 1)) < L ∧ M 143 (nP (M 143) L 2 (p + 1)) = 44) then (((nP (M 143) L 2 (p + 1)) : Nat) : Int) else (-1)) := ho6
        by_cases hcm6 : (nP (M 143) L 2 (p + 1)) < L ∧ M 143 (nP (M 143) L 2 (p + 1)) = 44
        · rw [if_pos ⟨by omega, hcm6⟩, if_neg (fun q => q.2 hcm6)] at ho6
          refine tw_as (S := []) (M := (st M [(126, f6), (144, (pU (pU (M 144) b (M 143 p)) (b + 1) (nV (M 143) L 2 (p + 1) 0)))])) (N := N) (by rw [st_mg]; rfl) rfl ?_
          refine tw_aload k144_148 rfl ?_
          refine tw_getr k144_149 f126_22 ?_
          refine tw_iload k144_152 rfl ?_
          refine tw_const k144_153 ?_
          refine tw_iadd k144_154 (v := ((b + 2 : Nat) : Int)) rfl (by omega) ?_
          refine tw_aload k144_155 rfl ?_
          refine tw_iload k144_156 rfl ?_
          refine tw_const k144_157 ?_
          refine tw_cneT k144_159 (by omega) ?_
          refine tw_const k144_166 ?_
          refine tw_call (by omega) (S' := [.inl ((b + 2 : Nat) : Int), .inr (.inr (.inl 144))]) (as := [.inr (.inr (.inl 126)), .inl (2 : Int)]) k144_167 (x_142 (M := (st M [(126, f6), (144, (pU (pU (M 144) b (M 143 p)) (b + 1) (nV (M 143) L 2 (p + 1) 0)))])) (N := N) (by omega) L (show f6 23 = (L : Int) from by rw [ho6.2.2 23 (by omega) (by omega)]; exact hL) h100 htx ((nP (M 143) L 2 (p + 1)) + 1) (by omega) (show f6 24 = ((((nP (M 143) L 2 (p + 1)) + 1) : Nat) : Int) from ho6.1) (-1) (show f6 25 = (-1) from ho6.2.1) (by omega) 2 (by omega)) rfl rfl rfl rfl rfl (fun r167 Z167 hq167 => ?_)
          obtain ⟨rfl, f7, rfl, ho7⟩ := hq167.1 (by omega)
          have ho7 := aO_tr ho7 ho6
          have ho7 : aO f7 (M 126) ((nP (M 143) L 2 ((nP (M 143) L 2 (p + 1)) + 1)) : Int) (if (nP (M 143) L 2 ((nP (M 143) L 2 (p + 1)) + 1)) = ((nP (M 143) L 2 (p + 1)) + 1) then ((((nP (M 143) L 2 (p + 1)) + 1) : Nat) : Int) else -1) := ho7
          have hnp7 := nP_rg (tx := M 143) (L := L) 2 ((nP (M 143) L 2 (p + 1)) + 1) (by omega)
          by_cases hnq7 : (nP (M 143) L 2 ((nP (M 143) L 2 (p + 1)) + 1)) = ((nP (M 143) L 2 (p + 1)) + 1)
          · rw [if_pos hnq7, hnq7] at ho7
            refine tw_as (S := [.inl (nV (M 143) L 2 ((nP (M 143) L 2 (p + 1)) + 1) 0), .inl ((b + 2 : Nat) : Int), .inr (.inr (.inl 144))]) (M := (st M [(126, f7), (144, (pU (pU (M 144) b (M 143 p)) (b + 1) (nV (M 143) L 2 (p + 1) 0)))])) (N := N) (by rw [st_mg]; rfl) rfl ?_
            refine tw_iast (M := M) (N := N) (l := [(126, f7), (144, (pU (pU (M 144) b (M 143 p)) (b + 1) (nV (M 143) L 2 (p + 1) 0)))]) (l' := [(126, f7), (144, (pU (pU (pU (M 144) b (M 143 p)) (b + 1) (nV (M 143) L 2 (p + 1) 0)) (b + 2) (nV (M 143) L 2 ((nP (M 143) L 2 (p + 1)) + 1) 0)))]) (j := b + 2) k144_170 al144 rfl (by omega) rfl ?_
            exact tw_rv k144_171 (by have hcl : clR (M 143) L p = (false, ((nP (M 143) L 2 (p + 1)) + 1)) := (by unfold clR; (repeat' split) <;> first | rfl | (exfalso; omega)); (try dsimp only); rw [hcl]; exact ⟨rfl, _, _, rfl, ⟨ho7.1, by rw [if_neg (by simp)]; exact ho7.2.1, ho7.2.2⟩, fun h => absurd h (by simp), fun j hj => by rw [pU_ne (by omega), pU_ne (by omega), pU_ne (by omega)]⟩)
          · rw [if_neg hnq7] at ho7
            refine tw_as (S := [.inl (nV (M 143) L 2 ((nP (M 143) L 2 (p + 1)) + 1) 0), .inl ((b + 2 : Nat) : Int), .inr (.inr (.inl 144))]) (M := (st M [(126, f7), (144, (pU (pU (M 144) b (M 143 p)) (b + 1) (nV (M 143) L 2 (p + 1) 0)))])) (N := N) (by rw [st_mg]; rfl) rfl ?_
            refine tw_iast (M := M) (N := N) (l := [(126, f7), (144, (pU (pU (M 144) b (M 143 p)) (b + 1) (nV (M 143) L 2 (p + 1) 0)))]) (l' := [(126, f7), (144, (pU (pU (pU (M 144) b (M 143 p)) (b + 1) (nV (M 143) L 2 (p + 1) 0)) (b + 2) (nV (M 143) L 2 ((nP (M 143) L 2 (p + 1)) + 1) 0)))]) (j := b + 2) k144_170 al144 rfl (by omega) rfl ?_
            exact tw_rv k144_171 (by have hcl : clR (M 143) L p = (true, (nP (M 143) L 2 ((nP (M 143) L 2 (p + 1)) + 1))) := (by unfold clR; (repeat' split) <;> first | rfl | (exfalso; omega)); (try dsimp only); rw [hcl]; exact ⟨rfl, _, _, rfl, ⟨ho7.1, by rw [if_pos rfl]; exact ho7.2.1, ho7.2.2⟩, fun _ => ⟨(by rw [pU_ne (by omega), pU_ne (by omega), pU_eq]), fun _ => ⟨(by rw [pU_ne (by omega), pU_eq]), (by rw [pU_eq])⟩, (fun q => by exfalso; omega), (fun q => by exfalso; omega), (fun q => by exfalso; omega), by omega⟩, fun j hj => by rw [pU_ne (by omega), pU_ne (by omega), pU_ne (by omega)]⟩)
        · rw [if_neg (fun q => hcm6 q.2), if_pos ⟨by omega, hcm6⟩] at ho6
          refine tw_as (S := []) (M := (st M [(126, f6), (144, (pU (pU (M 144) b (M 143 p)) (b + 1) (nV (M 143) L 2 (p + 1) 0)))])) (N := N) (by rw [st_mg]; rfl) rfl ?_
          refine tw_aload k144_148 rfl ?_
          refine tw_getr k144_149 f126_22 ?_
          refine tw_iload k144_152 rfl ?_
          refine tw_const k144_153 ?_
          refine tw_iadd k144_154 (v := ((b + 2 : Nat) : Int)) rfl (by omega) ?_
          refine tw_aload k144_155 rfl ?_
          refine tw_iload k144_156 rfl ?_
          refine tw_const k144_157 ?_
          refine tw_cneT k144_159 (by omega) ?_
          refine tw_const k144_166 ?_
          refine tw_call (by omega) (S' := [.inl ((b + 2 : Nat) : Int), .inr (.inr (.inl 144))]) (as := [.inr (.inr (.inl 126)), .inl (2 : Int)]) k144_167 (x_142 (M := (st M [(126, f6), (144, (pU (pU (M 144) b (M 143 p)) (b + 1) (nV (M 143) L 2 (p + 1) 0)))])) (N := N) (by omega) L (show f6 23 = (L : Int) from by rw [ho6.2.2 23 (by omega) (by omega)]; exact hL) h100 htx (nP (M 143) L 2 (p + 1)) (by omega) (show f6 24 = (((nP (M 143) L 2 (p + 1)) : Nat) : Int) from ho6.1) (((nP (M 143) L 2 (p + 1)) : Nat) : Int) (show f6 25 = (((nP (M 143) L 2 (p + 1)) : Nat) : Int) from ho6.2.1) (by omega) 2 (by omega)) rfl rfl rfl rfl rfl (fun r167 Z167 hq167 => ?_)
          obtain ⟨v8, rfl, hv8a, hv8b, f8, rfl, ho8⟩ := hq167.2 (by omega)
          have ho8 := aO_tr ho8 ho6
          refine tw_as (S := [.inl v8, .inl ((b + 2 : Nat) : Int), .inr (.inr (.inl 144))]) (M := (st M [(126, f8), (144, (pU (pU (M 144) b (M 143 p)) (b + 1) (nV (M 143) L 2 (p + 1) 0)))])) (N := N) (by rw [st_mg]; rfl) rfl ?_
          refine tw_iast (M := M) (N := N) (l := [(126, f8), (144, (pU (pU (M 144) b (M 143 p)) (b + 1) (nV (M 143) L 2 (p + 1) 0)))]) (l' := [(126, f8), (144, (pU (pU (pU (M 144) b (M 143 p)) (b + 1) (nV (M 143) L 2 (p + 1) 0)) (b + 2) v8))]) (j := b + 2) k144_170 al144 rfl (by omega) rfl ?_
          exact tw_rv k144_171 (by have hcl : clR (M 143) L p = (false, (nP (M 143) L 2 (p + 1))) := (by unfold clR; (repeat' split) <;> first | rfl | (exfalso; omega)); (try dsimp only); rw [hcl]; exact ⟨rfl, _, _, rfl, ⟨ho8.1, by rw [if_neg (by simp)]; exact ho8.2.1, ho8.2.2⟩, fun h => absurd h (by simp), fun j hj => by rw [pU_ne (by omega), pU_ne (by omega), pU_ne (by omega)]⟩)
    · refine tw_iload k144_45 rfl ?_
      refine tw_const k144_46 ?_
      refine tw_ceq k144_48 (fun h48 => ?_) (fun h48 => ?_)
      · refine tw_aload k144_80 rfl ?_
        refine tw_dupr k144_81 ?_
        refine tw_geti k144_82 f126_24 rfl (v := ((p : Nat) : Int)) (show M 126 24 = _ from ho0.1) ?_
        refine tw_const k144_85 ?_
        refine tw_iadd k144_86 (v := ((p + 1 : Nat) : Int)) rfl (by omega) ?_
        refine tw_puti (M := M) (N := N) (l := [(126, M 126), (144, (pU (M 144) b (M 143 p)))]) (l' := [(126, (pU (M 126) 24 ((p + 1 : Nat) : Int))), (144, (pU (M 144) b (M 143 p)))]) k144_87 f126_24 rfl ?_
        have ho9 : aO (pU (M 126) 24 ((p + 1 : Nat) : Int)) (M 126) ((p + 1 : Nat) : Int) (-1) := aO_at ho0
        refine tw_iload k144_90 rfl ?_
        refine tw_const k144_91 ?_
        refine tw_cneF k144_93 (by omega) ?_
        refine tw_aload k144_96 rfl ?_
        refine tw_getr k144_97 f126_22 ?_
        refine tw_iload k144_100 rfl ?_
        refine tw_const k144_101 ?_
        refine tw_iadd k144_102 (v := ((b + 3 : Nat) : Int)) rfl (by omega) ?_
        refine tw_aload k144_103 rfl ?_
        refine tw_const k144_104 ?_
        refine tw_call (by omega) (S' := [.inl ((b + 3 : Nat) : Int), .inr (.inr (.inl 144))]) (as := [.inr (.inr (.inl 126)), .inl (1 : Int)]) k144_105 (x_142 (M := (st M [(126, (pU (M 126) 24 ((p + 1 : Nat) : Int))), (144, (pU (M 144) b (M 143 p)))])) (N := N) (by omega) L (show (pU (M 126) 24 ((p + 1 : Nat) : Int)) 23 = (L : Int) from by rw [ho9.2.2 23 (by omega) (by omega)]; exact hL) h100 htx (p + 1) (by omega) (show (pU (M 126) 24 ((p + 1 : Nat) : Int)) 24 = (((p + 1) : Nat) : Int) from ho9.1) (-1) (show (pU (M 126) 24 ((p + 1 : Nat) : Int)) 25 = (-1) from ho9.2.1) (by omega) 1 (by omega)) rfl rfl rfl rfl rfl (fun r105 Z105 hq105 => ?_)
        obtain ⟨rfl, f10, rfl, ho10⟩ := hq105.1 (by omega)
        have ho10 := aO_tr ho10 ho9
        have ho10 : aO f10 (M 126) ((nP (M 143) L 1 (p + 1)) : Int) (if (nP (M 143) L 1 (p + 1)) = (p + 1) then (((p + 1) : Nat) : Int) else -1) := ho10
        have hnp10 := nP_rg (tx := M 143) (L := L) 1 (p + 1) (by omega)
        by_cases hnq10 : (nP (M 143) L 1 (p + 1)) = (p + 1)
        · rw [if_pos hnq10, hnq10] at ho10
          refine tw_as (S := [.inl (nV (M 143) L 1 (p + 1) 0), .inl ((b + 3 : Nat) : Int), .inr (.inr (.inl 144))]) (M := (st M [(126, f10), (144, (pU (M 144) b (M 143 p)))])) (N := N) (by rw [st_mg]; rfl) rfl ?_
          refine tw_iast (M := M) (N := N) (l := [(126, f10), (144, (pU (M 144) b (M 143 p)))]) (l' := [(126, f10), (144, (pU (pU (M 144) b (M 143 p)) (b + 3) (nV (M 143) L 1 (p + 1) 0)))]) (j := b + 3) k144_108 al144 rfl (by omega) rfl ?_
          refine tw_aload k144_109 rfl ?_
          refine tw_getr k144_110 f126_22 ?_
          refine tw_iload k144_113 rfl ?_
          refine tw_const k144_114 ?_
          refine tw_iadd k144_115 (v := ((b + 1 : Nat) : Int)) rfl (by omega) ?_
          refine tw_aload k144_116 rfl ?_
          refine tw_iload k144_117 rfl ?_
          refine tw_const k144_118 ?_
          refine tw_cneT k144_120 (by omega) ?_
          refine tw_const k144_127 ?_
          refine tw_call (by omega) (S' := [.inl ((b + 1 : Nat) : Int), .inr (.inr (.inl 144))]) (as := [.inr (.inr (.inl 126)), .inl (2 : Int)]) k144_128 (x_142 (M := (st M [(126, f10), (144, (pU (pU (M 144) b (M 143 p)) (b + 3) (nV (M 143) L 1 (p + 1) 0)))])) (N := N) (by omega) L (show f10 23 = (L : Int) from by rw [ho10.2.2 23 (by omega) (by omega)]; exact hL) h100 htx (p + 1) (by omega) (show f10 24 = (((p + 1) : Nat) : Int) from ho10.1) (((p + 1) : Nat) : Int) (show f10 25 = (((p + 1) : Nat) : Int) from ho10.2.1) (by omega) 2 (by omega)) rfl rfl rfl rfl rfl (fun r128 Z128 hq128 => ?_)
          obtain ⟨v11, rfl, hv11a, hv11b, f11, rfl, ho11⟩ := hq128.2 (by omega)
          have ho11 := aO_tr ho11 ho10
          refine tw_as (S := [.inl v11, .inl ((b + 1 : Nat) : Int), .inr (.inr (.inl 144))]) (M := (st M [(126, f11), (144, (pU (pU (M 144) b (M 143 p)) (b + 3) (nV (M 143) L 1 (p + 1) 0)))])) (N := N) (by rw [st_mg]; rfl) rfl ?_
          refine tw_iast (M := M) (N := N) (l := [(126, f11), (144, (pU (pU (M 144) b (M 143 p)) (b + 3) (nV (M 143) L 1 (p + 1) 0)))]) (l' := [(126, f11), (144, (pU (pU (pU (M 144) b (M 143 p)) (b + 3) (nV (M 143) L 1 (p + 1) 0)) (b + 1) v11))]) (j := b + 1) k144_131 al144 rfl (by omega) rfl ?_
          refine tw_iload k144_132 rfl ?_
          refine tw_const k144_133 ?_
          refine tw_ceqF k144_135 (by omega) ?_
          refine tw_iload k144_138 rfl ?_
          refine tw_const k144_139 ?_
          refine tw_cneF k144_141 (by omega) ?_
          refine tw_aload k144_144 rfl ?_
          refine tw_call (by omega) (S' := []) (as := [.inr (.inr (.inl 126))]) k144_145 (x_143 (M := (st M [(126, f11), (144, (pU (pU (pU (M 144) b (M 143 p)) (b + 3) (nV (M 143) L 1 (p + 1) 0)) (b + 1) v11))])) (N := N) (by omega) L (show f11 23 = (L : Int) from by rw [ho11.2.2 23 (by omega) (by omega)]; exact hL) h100 htx (p + 1) (by omega) (show f11 24 = (((p + 1) : Nat) : Int) from ho11.1) (((p + 1) : Nat) : Int) (show f11 25 = (((p + 1) : Nat) : Int) from ho11.2.1)) rfl rfl rfl rfl rfl (fun r145 Z145 hq145 => ?_)
          obtain ⟨rfl, f12, rfl, ho12⟩ := hq145
          have ho12 := aO_tr ho12 ho11
          have ho12 : aO f12 (M 126) (if (((p + 1) : Nat) : Int) < 0 ∧ (p + 1) < L ∧ M 143 (p + 1) = 44 then (((p + 1) + 1 : Nat) : Int) else (((p + 1) : Nat) : Int)) (if (((p + 1) : Nat) : Int) < 0 ∧ ¬ ((p + 1) < L ∧ M 143 (p + 1) = 44) then (((p + 1) : Nat) : Int) else (((p + 1) : Nat) : Int)) := ho12
          rw [if_neg (by omega), if_neg (by omega)] at ho12
          refine tw_as (S := []) (M := (st M [(126, f12), (144, (pU (pU (pU (M 144) b (M 143 p)) (b + 3) (nV (M 143) L 1 (p + 1) 0)) (b + 1) v11))])) (N := N) (by rw [st_mg]; rfl) rfl ?_
          refine tw_aload k144_148 rfl ?_
          refine tw_getr k144_149 f126_22 ?_
          refine tw_iload k144_152 rfl ?_
          refine tw_const k144_153 ?_
          refine tw_iadd k144_154 (v := ((b + 2 : Nat) : Int)) rfl (by omega) ?_
          refine tw_aload k144_155 rfl ?_
          refine tw_iload k144_156 rfl ?_
          refine tw_const k144_157 ?_
          refine tw_cneF k144_159 (by omega) ?_
          refine tw_const k144_162 ?_
          refine tw_goto k144_163 ?_
          refine tw_call (by omega) (S' := [.inl ((b + 2 : Nat) : Int), .inr (.inr (.inl 144))]) (as := [.inr (.inr (.inl 126)), .inl (1 : Int)]) k144_167 (x_142 (M := (st M [(126, f12), (144, (pU (pU (pU (M 144) b (M 143 p)) (b + 3) (nV (M 143) L 1 (p + 1) 0)) (b + 1) v11))])) (N := N) (by omega) L (show f12 23 = (L : Int) from by rw [ho12.2.2 23 (by omega) (by omega)]; exact hL) h100 htx (p + 1) (by omega) (show f12 24 = (((p + 1) : Nat) : Int) from ho12.1) (((p + 1) : Nat) : Int) (show f12 25 = (((p + 1) : Nat) : Int) from ho12.2.1) (by omega) 1 (by omega)) rfl rfl rfl rfl rfl (fun r167 Z167 hq167 => ?_)
          obtain ⟨v13, rfl, hv13a, hv13b, f13, rfl, ho13⟩ := hq167.2 (by omega)
          have ho13 := aO_tr ho13 ho12
          refine tw_as (S := [.inl v13, .inl ((b + 2 : Nat) : Int), .inr (.inr (.inl 144))]) (M := (st M [(126, f13), (144, (pU (pU (pU (M 144) b (M 143 p)) (b + 3) (nV (M 143) L 1 (p + 1) 0)) (b + 1) v11))])) (N := N) (by rw [st_mg]; rfl) rfl ?_
          refine tw_iast (M := M) (N := N) (l := [(126, f13), (144, (pU (pU (pU (M 144) b (M 143 p)) (b + 3) (nV (M 143) L 1 (p + 1) 0)) (b + 1) v11))]) (l' := [(126, f13), (144, (pU (pU (pU (pU (M 144) b (M 143 p)) (b + 3) (nV (M 143) L 1 (p + 1) 0)) (b + 1) v11) (b + 2) v13))]) (j := b + 2) k144_170 al144 rfl (by omega) rfl ?_
          exact tw_rv k144_171 (by have hcl : clR (M 143) L p = (false, (p + 1)) := (by unfold clR; (repeat' split) <;> first | rfl | (exfalso; omega)); (try dsimp only); rw [hcl]; exact ⟨rfl, _, _, rfl, ⟨ho13.1, by rw [if_neg (by simp)]; exact ho13.2.1, ho13.2.2⟩, fun h => absurd h (by simp), fun j hj => by rw [pU_ne (by omega), pU_ne (by omega), pU_ne (by omega), pU_ne (by omega)]⟩)
        · rw [if_neg hnq10] at ho10
          refine tw_as (S := [.inl (nV (M 143) L 1 (p + 1) 0), .inl ((b + 3 : Nat) : Int), .inr (.inr (.inl 144))]) (M := (st M [(126, f10), (144, (pU (M 144) b (M 143 p)))])) (N := N) (by rw [st_mg]; rfl) rfl ?_
          refine tw_iast (M := M) (N := N) (l := [(126, f10), (144, (pU (M 144) b (M 143 p)))]) (l' := [(126, f10), (144, (pU (pU (M 144) b (M 143 p)) (b + 3) (nV (M 143) L 1 (p + 1) 0)))]) (j := b + 3) k144_108 al144 rfl (by omega) rfl ?_
          refine tw_aload k144_109 rfl ?_
          refine tw_getr k144_110 f126_22 ?_
          refine tw_iload k144_113 rfl ?_
          refine tw_const k144_114 ?_
          refine tw_iadd k144_115 (v := ((b + 1 : Nat) : Int)) rfl (by omega) ?_
          refine tw_aload k144_116 rfl ?_
          refine tw_iload k144_117 rfl ?_
          refine tw_const k144_118 ?_
          refine tw_cneT k144_120 (by omega) ?_
          refine tw_const k144_127 ?_
          refine tw_call (by omega) (S' := [.inl ((b + 1 : Nat) : Int), .inr (.inr (.inl 144))]) (as := [.inr (.inr (.inl 126)), .inl (2 : Int)]) k144_128 (x_142 (M := (st M [(126, f10), (144, (pU (pU (M 144) b (M 143 p)) (b + 3) (nV (M 143) L 1 (p + 1) 0)))])) (N := N) (by omega) L (show f10 23 = (L : Int) from by rw [ho10.2.2 23 (by omega) (by omega)]; exact hL) h100 htx (nP (M 143) L 1 (p + 1)) (by omega) (show f10 24 = (((nP (M 143) L 1 (p + 1)) : Nat) : Int) from ho10.1) (-1) (show f10 25 = (-1) from ho10.2.1) (by omega) 2 (by omega)) rfl rfl rfl rfl rfl (fun r128 Z128 hq128 => ?_)
          obtain ⟨rfl, f14, rfl, ho14⟩ := hq128.1 (by omega)
          have ho14 := aO_tr ho14 ho10
          have ho14 : aO f14 (M 126) ((nP (M 143) L 2 (nP (M 143) L 1 (p + 1))) : Int) (if (nP (M 143) L 2 (nP (M 143) L 1 (p + 1))) = (nP (M 143) L 1 (p + 1)) then (((nP (M 143) L 1 (p + 1)) : Nat) : Int) else -1) := ho14
          have hnp14 := nP_rg (tx := M 143) (L := L) 2 (nP (M 143) L 1 (p + 1)) (by omega)
          by_cases hnq14 : (nP (M 143) L 2 (nP (M 143) L 1 (p + 1))) = (nP (M 143) L 1 (p + 1))
          · rw [if_pos hnq14, hnq14] at ho14
            refine tw_as (S := [.inl (nV (M 143) L 2 (nP (M 143) L 1 (p + 1)) 0), .inl ((b + 1 : Nat) : Int), .inr (.inr (.inl 144))]) (M := (st M [(126, f14), (144, (pU (pU (M 144) b (M 143 p)) (b + 3) (nV (M 143) L 1 (p + 1) 0)))])) (N := N) (by rw [st_mg]; rfl) rfl ?_
            refine tw_iast (M := M) (N := N) (l := [(126, f14), (144, (pU (pU (M 144) b (M 143 p)) (b + 3) (nV (M 143) L 1 (p + 1) 0)))]) (l' := [(126, f14), (144, (pU (pU (pU (M 144) b (M 143 p)) (b + 3) (nV (M 143) L 1 (p + 1) 0)) (b + 1) (nV (M 143) L 2 (nP (M 143) L 1 (p + 1)) 0)))]) (j := b + 1) k144_131 al144 rfl (by omega) rfl ?_
            refine tw_iload k144_132 rfl ?_
            refine tw_const k144_133 ?_
            refine tw_ceqF k144_135 (by omega) ?_
            refine tw_iload k144_138 rfl ?_
            refine tw_const k144_139 ?_
            refine tw_cneF k144_141 (by omega) ?_
            refine tw_aload k144_144 rfl ?_
            refine tw_call (by omega) (S' := []) (as := [.inr (.inr (.inl 126))]) k144_145 (x_143 (M := (st M [(126, f14), (144, (pU (pU (pU (M 144) b (M 143 p)) (b + 3) (nV (M 143) L 1 (p + 1) 0)) (b + 1) (nV (M 143) L 2 (nP (M 143) L 1 (p + 1)) 0)))])) (N := N) (by omega) L (show f14 23 = (L : Int) from by rw [ho14.2.2 23 (by omega) (by omega)]; exact hL) h100 htx (nP (M 143) L 1 (p + 1)) (by omega) (show f14 24 = (((nP (M 143) L 1 (p + 1)) : Nat) : Int) from ho14.1) (((nP (M 143) L 1 (p + 1)) : Nat) : Int) (show f14 25 = (((nP (M 143) L 1 (p + 1)) : Nat) : Int) from ho14.2.1)) rfl rfl rfl rfl rfl (fun r145 Z145 hq145 => ?_)
            obtain ⟨rfl, f15, rfl, ho15⟩ := hq145
            have ho15 := aO_tr ho15 ho14
            have ho15 : aO f15 (M 126) (if (((nP (M 143) L 1 (p + 1)) : Nat) : Int) < 0 ∧ (nP (M 143) L 1 (p + 1)) < L ∧ M 143 (nP (M 143) L 1 (p + 1)) = 44 then (((nP (M 143) L 1 (p + 1)) + 1 : Nat) : Int) else (((nP (M 143) L 1 (p + 1)) : Nat) : Int)) (if (((nP (M 143) L 1 (p + 1)) : Nat) : Int) < 0 ∧ ¬ ((nP (M 143) L 1 (p + 1)) < L ∧ M 143 (nP (M 143) L 1 (p + 1)) = 44) then (((nP (M 143) L 1 (p + 1)) : Nat) : Int) else (((nP (M 143) L 1 (p + 1)) : Nat) : Int)) := ho15
            rw [if_neg (by omega), if_neg (by omega)] at ho15
            refine tw_as (S := []) (M := (st M [(126, f15), (144, (pU (pU (pU (M 144) b (M 143 p)) (b + 3) (nV (M 143) L 1 (p + 1) 0)) (b + 1) (nV (M 143) L 2 (nP (M 143) L 1 (p + 1)) 0)))])) (N := N) (by rw [st_mg]; rfl) rfl ?_
            refine tw_aload k144_148 rfl ?_
            refine tw_getr k144_149 f126_22 ?_
            refine tw_iload k144_152 rfl ?_
            refine tw_const k144_153 ?_
            refine tw_iadd k144_154 (v := ((b + 2 : Nat) : Int)) rfl (by omega) ?_
            refine tw_aload k144_155 rfl ?_
            refine tw_iload k144_156 rfl ?_
            refine tw_const k144_157 ?_
            refine tw_cneF k144_159 (by omega) ?_
            refine tw_const k144_162 ?_
            refine tw_goto k144_163 ?_
            refine tw_call (by omega) (S' := [.inl ((b + 2 : Nat) : Int), .inr (.inr (.inl 144))]) (as := [.inr (.inr (.inl 126)), .inl (1 : Int)]) k144_167 (x_142 (M := (st M [(126, f15), (144, (pU (pU (pU (M 144) b (M 143 p)) (b + 3) (nV (M 143) L 1 (p + 1) 0)) (b + 1) (nV (M 143) L 2 (nP (M 143) L 1 (p + 1)) 0)))])) (N := N) (by omega) L (show f15 23 = (L : Int) from by rw [ho15.2.2 23 (by omega) (by omega)]; exact hL) h100 htx (nP (M 143) L 1 (p + 1)) (by omega) (show f15 24 = (((nP (M 143) L 1 (p + 1)) : Nat) : Int) from ho15.1) (((nP (M 143) L 1 (p + 1)) : Nat) : Int) (show f15 25 = (((nP (M 143) L 1 (p + 1)) : Nat) : Int) from ho15.2.1) (by omega) 1 (by omega)) rfl rfl rfl rfl rfl (fun r167 Z167 hq167 => ?_)
            obtain ⟨v16, rfl, hv16a, hv16b, f16, rfl, ho16⟩ := hq167.2 (by omega)
            have ho16 := aO_tr ho16 ho15
            refine tw_as (S := [.inl v16, .inl ((b + 2 : Nat) : Int), .inr (.inr (.inl 144))]) (M := (st M [(126, f16), (144, (pU (pU (pU (M 144) b (M 143 p)) (b + 3) (nV (M 143) L 1 (p + 1) 0)) (b + 1) (nV (M 143) L 2 (nP (M 143) L 1 (p + 1)) 0)))])) (N := N) (by rw [st_mg]; rfl) rfl ?_
            refine tw_iast (M := M) (N := N) (l := [(126, f16), (144, (pU (pU (pU (M 144) b (M 143 p)) (b + 3) (nV (M 143) L 1 (p + 1) 0)) (b + 1) (nV (M 143) L 2 (nP (M 143) L 1 (p + 1)) 0)))]) (l' := [(126, f16), (144, (pU (pU (pU (pU (M 144) b (M 143 p)) (b + 3) (nV (M 143) L 1 (p + 1) 0)) (b + 1) (nV (M 143) L 2 (nP (M 143) L 1 (p + 1)) 0)) (b + 2) v16))]) (j := b + 2) k144_170 al144 rfl (by omega) rfl ?_
            exact tw_rv k144_171 (by have hcl : clR (M 143) L p = (false, (nP (M 143) L 1 (p + 1))) := (by unfold clR; (repeat' split) <;> first | rfl | (exfalso; omega)); (try dsimp only); rw [hcl]; exact ⟨rfl, _, _, rfl, ⟨ho16.1, by rw [if_neg (by simp)]; exact ho16.2.1, ho16.2.2⟩, fun h => absurd h (by simp), fun j hj => by rw [pU_ne (by omega), pU_ne (by omega), pU_ne (by omega), pU_ne (by omega)]⟩)
          · rw [if_neg hnq14] at ho14
            refine tw_as (S := [.inl (nV (M 143) L 2 (nP (M 143) L 1 (p + 1)) 0), .inl ((b + 1 : Nat) : Int), .inr (.inr (.inl 144))]) (M := (st M [(126, f14), (144, (pU (pU (M 144) b (M 143 p)) (b + 3) (nV (M 143) L 1 (p + 1) 0)))])) (N := N) (by rw [st_mg]; rfl) rfl ?_
            refine tw_iast (M := M) (N := N) (l := [(126, f14), (144, (pU (pU (M 144) b (M 143 p)) (b + 3) (nV (M 143) L 1 (p + 1) 0)))]) (l' := [(126, f14), (144, (pU (pU (pU (M 144) b (M 143 p)) (b + 3) (nV (M 143) L 1 (p + 1) 0)) (b + 1) (nV (M 143) L 2 (nP (M 143) L 1 (p + 1)) 0)))]) (j := b + 1) k144_131 al144 rfl (by omega) rfl ?_
            refine tw_iload k144_132 rfl ?_
            refine tw_const k144_133 ?_
            refine tw_ceqF k144_135 (by omega) ?_
            refine tw_iload k144_138 rfl ?_
            refine tw_const k144_139 ?_
            refine tw_cneF k144_141 (by omega) ?_
            refine tw_aload k144_144 rfl ?_
            refine tw_call (by omega) (S' := []) (as := [.inr (.inr (.inl 126))]) k144_145 (x_143 (M := (st M [(126, f14), (144, (pU (pU (pU (M 144) b (M 143 p)) (b + 3) (nV (M 143) L 1 (p + 1) 0)) (b + 1) (nV (M 143) L 2 (nP (M 143) L 1 (p + 1)) 0)))])) (N := N) (by omega) L (show f14 23 = (L : Int) from by rw [ho14.2.2 23 (by omega) (by omega)]; exact hL) h100 htx (nP (M 143) L 2 (nP (M 143) L 1 (p + 1))) (by omega) (show f14 24 = (((nP (M 143) L 2 (nP (M 143) L 1 (p + 1))) : Nat) : Int) from ho14.1) (-1) (show f14 25 = (-1) from ho14.2.1)) rfl rfl rfl rfl rfl (fun r145 Z145 hq145 => ?_)
            obtain ⟨rfl, f17, rfl, ho17⟩ := hq145
            have ho17 := aO_tr ho17 ho14
            have ho17 : aO f17 (M 126) (if (-1) < 0 ∧ (nP (M 143) L 2 (nP (M 143) L 1 (p + 1))) < L ∧ M 143 (nP (M 143) L 2 (nP (M 143) L 1 (p + 1))) = 44 then (((nP (M 143) L 2 (nP (M 143) L 1 (p + 1))) + 1 : Nat) : Int) else (((nP (M 143) L 2 (nP (M 143) L 1 (p + 1))) : Nat) : Int)) (if (-1) < 0 ∧ ¬ ((nP (M 143) L 2 (nP (M 143) L 1 (p + 1))) < L ∧ M 143 (nP (M 143) L 2 (nP (M 143) L 1 (p + 1))) = 44) then (((nP (M 143) L 2 (nP (M 143) L 1 (p + 1))) : Nat) : Int) else (-1)) := ho17
            by_cases hcm17 : (nP (M 143) L 2 (nP (M 143) L 1 (p + 1))) < L ∧ M 143 (nP (M 143) L 2 (nP (M 143) L 1 (p + 1))) = 44
            · rw [if_pos ⟨by omega, hcm17⟩, if_neg (fun q => q.2 hcm17)] at ho17
              refine tw_as (S := []) (M := (st M [(126, f17), (144, (pU (pU (pU (M 144) b (M 143 p)) (b + 3) (nV (M 143) L 1 (p + 1) 0)) (b + 1) (nV (M 143) L 2 (nP (M 143) L 1 (p + 1)) 0)))])) (N := N) (by rw [st_mg]; rfl) rfl ?_
              refine tw_aload k144_148 rfl ?_
              refine tw_getr k144_149 f126_22 ?_
              refine tw_iload k144_152 rfl ?_
              refine tw_const k144_153 ?_
              refine tw_iadd k144_154 (v := ((b + 2 : Nat) : Int)) rfl (by omega) ?_
              refine tw_aload k144_155 rfl ?_
              refine tw_iload k144_156 rfl ?_
              refine tw_const k144_157 ?_
              refine tw_cneF k144_159 (by omega) ?_
              refine tw_const k144_162 ?_
              refine tw_goto k144_163 ?_
              refine tw_call (by omega) (S' := [.inl ((b + 2 : Nat) : Int), .inr (.inr (.inl 144))]) (as := [.inr (.inr (.inl 126)), .inl (1 : Int)]) k144_167 (x_142 (M := (st M [(126, f17), (144, (pU (pU (pU (M 144) b (M 143 p)) (b + 3) (nV (M 143) L 1 (p + 1) 0)) (b + 1) (nV (M 143) L 2 (nP (M 143) L 1 (p + 1)) 0)))])) (N := N) (by omega) L (show f17 23 = (L : Int) from by rw [ho17.2.2 23 (by omega) (by omega)]; exact hL) h100 htx ((nP (M 143) L 2 (nP (M 143) L 1 (p + 1))) + 1) (by omega) (show f17 24 = ((((nP (M 143) L 2 (nP (M 143) L 1 (p + 1))) + 1) : Nat) : Int) from ho17.1) (-1) (show f17 25 = (-1) from ho17.2.1) (by omega) 1 (by omega)) rfl rfl rfl rfl rfl (fun r167 Z167 hq167 => ?_)
              obtain ⟨rfl, f18, rfl, ho18⟩ := hq167.1 (by omega)
              have ho18 := aO_tr ho18 ho17
              have ho18 : aO f18 (M 126) ((nP (M 143) L 1 ((nP (M 143) L 2 (nP (M 143) L 1 (p + 1))) + 1)) : Int) (if (nP (M 143) L 1 ((nP (M 143) L 2 (nP (M 143) L 1 (p + 1))) + 1)) = ((nP (M 143) L 2 (nP (M 143) L 1 (p + 1))) + 1) then ((((nP (M 143) L 2 (nP (M 143) L 1 (p + 1))) + 1) : Nat) : Int) else -1) := ho18
              have hnp18 := nP_rg (tx := M 143) (L := L) 1 ((nP (M 143) L 2 (nP (M 143) L 1 (p + 1))) + 1) (by omega)
              by_cases hnq18 : (nP (M 143) L 1 ((nP (M 143) L 2 (nP (M 143) L 1 (p + 1))) + 1)) = ((nP (M 143) L 2 (nP (M 143) L 1 (p + 1))) + 1)
              · rw [if_pos hnq18, hnq18] at ho18
                refine tw_as (S := [.inl (nV (M 143) L 1 ((nP (M 143) L 2 (nP (M 143) L 1 (p + 1))) + 1) 0), .inl ((b + 2 : Nat) : Int), .inr (.inr (.inl 144))]) (M := (st M [(126, f18), (144, (pU (pU (pU (M 144) b (M 143 p)) (b + 3) (nV (M 143) L 1 (p + 1) 0)) (b + 1) (nV (M 143) L 2 (nP (M 143) L 1 (p + 1)) 0)))])) (N := N) (by rw [st_mg]; rfl) rfl ?_
                refine tw_iast (M := M) (N := N) (l := [(126, f18), (144, (pU (pU (pU (M 144) b (M 143 p)) (b + 3) (nV (M 143) L 1 (p + 1) 0)) (b + 1) (nV (M 143) L 2 (nP (M 143) L 1 (p + 1)) 0)))]) (l' := [(126, f18), (144, (pU (pU (pU (pU (M 144) b (M 143 p)) (b + 3) (nV (M 143) L 1 (p + 1) 0)) (b + 1) (nV (M 143) L 2 (nP (M 143) L 1 (p + 1)) 0)) (b + 2) (nV (M 143) L 1 ((nP (M 143) L 2 (nP (M 143) L 1 (p + 1))) + 1) 0)))]) (j := b + 2) k144_170 al144 rfl (by omega) rfl ?_
                exact tw_rv k144_171 (by have hcl : clR (M 143) L p = (false, ((nP (M 143) L 2 (nP (M 143) L 1 (p + 1))) + 1)) := (by unfold clR; (repeat' split) <;> first | rfl | (exfalso; omega)); (try dsimp only); rw [hcl]; exact ⟨rfl, _, _, rfl, ⟨ho18.1, by rw [if_neg (by simp)]; exact ho18.2.1, ho18.2.2⟩, fun h => absurd h (by simp), fun j hj => by rw [pU_ne (by omega), pU_ne (by omega), pU_ne (by omega), pU_ne (by omega)]⟩)
              · rw [if_neg hnq18] at ho18
                refine tw_as (S := [.inl (nV (M 143) L 1 ((nP (M 143) L 2 (nP (M 143) L 1 (p + 1))) + 1) 0), .inl ((b + 2 : Nat) : Int), .inr (.inr (.inl 144))]) (M := (st M [(126, f18), (144, (pU (pU (pU (M 144) b (M 143 p)) (b + 3) (nV (M 143) L 1 (p + 1) 0)) (b + 1) (nV (M 143) L 2 (nP (M 143) L 1 (p + 1)) 0)))])) (N := N) (by rw [st_mg]; rfl) rfl ?_
                refine tw_iast (M := M) (N := N) (l := [(126, f18), (144, (pU (pU (pU (M 144) b (M 143 p)) (b + 3) (nV (M 143) L 1 (p + 1) 0)) (b + 1) (nV (M 143) L 2 (nP (M 143) L 1 (p + 1)) 0)))]) (l' := [(126, f18), (144, (pU (pU (pU (pU (M 144) b (M 143 p)) (b + 3) (nV (M 143) L 1 (p + 1) 0)) (b + 1) (nV (M 143) L 2 (nP (M 143) L 1 (p + 1)) 0)) (b + 2) (nV (M 143) L 1 ((nP (M 143) L 2 (nP (M 143) L 1 (p + 1))) + 1) 0)))]) (j := b + 2) k144_170 al144 rfl (by omega) rfl ?_
                exact tw_rv k144_171 (by have hcl : clR (M 143) L p = (true, (nP (M 143) L 1 ((nP (M 143) L 2 (nP (M 143) L 1 (p + 1))) + 1))) := (by unfold clR; (repeat' split) <;> first | rfl | (exfalso; omega)); (try dsimp only); rw [hcl]; exact ⟨rfl, _, _, rfl, ⟨ho18.1, by rw [if_pos rfl]; exact ho18.2.1, ho18.2.2⟩, fun _ => ⟨(by rw [pU_ne (by omega), pU_ne (by omega), pU_ne (by omega), pU_eq]), (fun q => by exfalso; omega), fun _ => ⟨(by rw [pU_ne (by omega), pU_ne (by omega), pU_eq]), (by rw [pU_ne (by omega), pU_eq]), (by rw [pU_eq])⟩, (fun q => by exfalso; omega), (fun q => by exfalso; omega), by omega⟩, fun j hj => by rw [pU_ne (by omega), pU_ne (by omega), pU_ne (by omega), pU_ne (by omega)]⟩)
            · rw [if_neg (fun q => hcm17 q.2), if_pos ⟨by omega, hcm17⟩] at ho17
              refine tw_as (S := []) (M := (st M [(126, f17), (144, (pU (pU (pU (M 144) b (M 143 p)) (b + 3) (nV (M 143) L 1 (p + 1) 0)) (b + 1) (nV (M 143) L 2 (nP (M 143) L 1 (p + 1)) 0)))])) (N := N) (by rw [st_mg]; rfl) rfl ?_
              refine tw_aload k144_148 rfl ?_
              refine tw_getr k144_149 f126_22 ?_
              refine tw_iload k144_152 rfl ?_
              refine tw_const k144_153 ?_
              refine tw_iadd k144_154 (v := ((b + 2 : Nat) : Int)) rfl (by omega) ?_
              refine tw_aload k144_155 rfl ?_
              refine tw_iload k144_156 rfl ?_
              refine tw_const k144_157 ?_
              refine tw_cneF k144_159 (by omega) ?_
              refine tw_const k144_162 ?_
              refine tw_goto k144_163 ?_
              refine tw_call (by omega) (S' := [.inl ((b + 2 : Nat) : Int), .inr (.inr (.inl 144))]) (as := [.inr (.inr (.inl 126)), .inl (1 : Int)]) k144_167 (x_142 (M := (st M [(126, f17), (144, (pU (pU (pU (M 144) b (M 143 p)) (b + 3) (nV (M 143) L 1 (p + 1) 0)) (b + 1) (nV (M 143) L 2 (nP (M 143) L 1 (p + 1)) 0)))])) (N := N) (by omega) L (show f17 23 = (L : Int) from by rw [ho17.2.2 23 (by omega) (by omega)]; exact hL) h100 htx (nP (M 143) L 2 (nP (M 143) L 1 (p + 1))) (by omega) (show f17 24 = (((nP (M 143) L 2 (nP (M 143) L 1 (p + 1))) : Nat) : Int) from ho17.1) (((nP (M 143) L 2 (nP (M 143) L 1 (p + 1))) : Nat) : Int) (show f17 25 = (((nP (M 143) L 2 (nP (M 143) L 1 (p + 1))) : Nat) : Int) from ho17.2.1) (by omega) 1 (by omega)) rfl rfl rfl rfl rfl (fun r167 Z167 hq167 => ?_)
              obtain ⟨v19, rfl, hv19a, hv19b, f19, rfl, ho19⟩ := hq167.2 (by omega)
              have ho19 := aO_tr ho19 ho17
              refine tw_as (S := [.inl v19, .inl ((b + 2 : Nat) : Int), .inr (.inr (.inl 144))]) (M := (st M [(126, f19), (144, (pU (pU (pU (M 144) b (M 143 p)) (b + 3) (nV (M 143) L 1 (p + 1) 0)) (b + 1) (nV (M 143) L 2 (nP (M 143) L 1 (p + 1)) 0)))])) (N := N) (by rw [st_mg]; rfl) rfl ?_
              refine tw_iast (M := M) (N := N) (l := [(126, f19), (144, (pU (pU (pU (M 144) b (M 143 p)) (b + 3) (nV (M 143) L 1 (p + 1) 0)) (b + 1) (nV (M 143) L 2 (nP (M 143) L 1 (p + 1)) 0)))]) (l' := [(126, f19), (144, (pU (pU (pU (pU (M 144) b (M 143 p)) (b + 3) (nV (M 143) L 1 (p + 1) 0)) (b + 1) (nV (M 143) L 2 (nP (M 143) L 1 (p + 1)) 0)) (b + 2) v19))]) (j := b + 2) k144_170 al144 rfl (by omega) rfl ?_
              exact tw_rv k144_171 (by have hcl : clR (M 143) L p = (false, (nP (M 143) L 2 (nP (M 143) L 1 (p + 1)))) := (by unfold clR; (repeat' split) <;> first | rfl | (exfalso; omega)); (try dsimp only); rw [hcl]; exact ⟨rfl, _, _, rfl, ⟨ho19.1, by rw [if_neg (by simp)]; exact ho19.2.1, ho19.2.2⟩, fun h => absurd h (by simp), fun j hj => by rw [pU_ne (by omega), pU_ne (by omega), pU_ne (by omega), pU_ne (by omega)]⟩)
      · refine tw_iload k144_51 rfl ?_
        refine tw_const k144_52 ?_
        refine tw_ceq k144_54 (fun h54 => ?_) (fun h54 => ?_)
        · refine tw_aload k144_80 rfl ?_
          refine tw_dupr k144_81 ?_
          refine tw_geti k144_82 f126_24 rfl (v := ((p : Nat) : Int)) (show M 126 24 = _ from ho0.1) ?_
          refine tw_const k144_85 ?_
          refine tw_iadd k144_86 (v := ((p + 1 : Nat) : Int)) rfl (by omega) ?_
          refine tw_puti (M := M) (N := N) (l := [(126, M 126), (144, (pU (M 144) b (M 143 p)))]) (l' := [(126, (pU (M 126) 24 ((p + 1 : Nat) : Int))), (144, (pU (M 144) b (M 143 p)))]) k144_87 f126_24 rfl ?_
          have ho20 : aO (pU (M 126) 24 ((p + 1 : Nat) : Int)) (M 126) ((p + 1 : Nat) : Int) (-1) := aO_at ho0
          refine tw_iload k144_90 rfl ?_
          refine tw_const k144_91 ?_
          refine tw_cneT k144_93 (by omega) ?_
          refine tw_aload k144_109 rfl ?_
          refine tw_getr k144_110 f126_22 ?_
          refine tw_iload k144_113 rfl ?_
          refine tw_const k144_114 ?_
          refine tw_iadd k144_115 (v := ((b + 1 : Nat) : Int)) rfl (by omega) ?_
          refine tw_aload k144_116 rfl ?_
          refine tw_iload k144_117 rfl ?_
          refine tw_const k144_118 ?_
          refine tw_cneT k144_120 (by omega) ?_
          refine tw_const k144_127 ?_
          refine tw_call (by omega) (S' := [.inl ((b + 1 : Nat) : Int), .inr (.inr (.inl 144))]) (as := [.inr (.inr (.inl 126)), .inl (2 : Int)]) k144_128 (x_142 (M := (st M [(126, (pU (M 126) 24 ((p + 1 : Nat) : Int))), (144, (pU (M 144) b (M 143 p)))])) (N := N) (by omega) L (show (pU (M 126) 24 ((p + 1 : Nat) : Int)) 23 = (L : Int) from by rw [ho20.2.2 23 (by omega) (by omega)]; exact hL) h100 htx (p + 1) (by omega) (show (pU (M 126) 24 ((p + 1 : Nat) : Int)) 24 = (((p + 1) : Nat) : Int) from ho20.1) (-1) (show (pU (M 126) 24 ((p + 1 : Nat) : Int)) 25 = (-1) from ho20.2.1) (by omega) 2 (by omega)) rfl rfl rfl rfl rfl (fun r128 Z128 hq128 => ?_)
          obtain ⟨rfl, f21, rfl, ho21⟩ := hq128.1 (by omega)
          have ho21 := aO_tr ho21 ho20
          have ho21 : aO f21 (M 126) ((nP (M 143) L 2 (p + 1)) : Int) (if (nP (M 143) L 2 (p + 1)) = (p + 1) then (((p + 1) : Nat) : Int) else -1) := ho21
          have hnp21 := nP_rg (tx := M 143) (L := L) 2 (p + 1) (by omega)
          by_cases hnq21 : (nP (M 143) L 2 (p + 1)) = (p + 1)
          · rw [if_pos hnq21, hnq21] at ho21
            refine tw_as (S := [.inl (nV (M 143) L 2 (p + 1) 0), .inl ((b + 1 : Nat) : Int), .inr (.inr (.inl 144))]) (M := (st M [(126, f21), (144, (pU (M 144) b (M 143 p)))])) (N := N) (by rw [st_mg]; rfl) rfl ?_
            refine tw_iast (M := M) (N := N) (l := [(126, f21), (144, (pU (M 144) b (M 143 p)))]) (l' := [(126, f21), (144, (pU (pU (M 144) b (M 143 p)) (b + 1) (nV (M 143) L 2 (p + 1) 0)))]) (j := b + 1) k144_131 al144 rfl (by omega) rfl ?_
            refine tw_iload k144_132 rfl ?_
            refine tw_const k144_133 ?_
            refine tw_ceqF k144_135 (by omega) ?_
            refine tw_iload k144_138 rfl ?_
            refine tw_const k144_139 ?_
            refine tw_cneT k144_141 (by omega) ?_
            exact tw_rv k144_171 (by have hcl : clR (M 143) L p = (false, (p + 1)) := (by unfold clR; (repeat' split) <;> first | rfl | (exfalso; omega)); (try dsimp only); rw [hcl]; exact ⟨rfl, _, _, rfl, ⟨ho21.1, by rw [if_neg (by simp)]; exact ho21.2.1, ho21.2.2⟩, fun h => absurd h (by simp), fun j hj => by rw [pU_ne (by omega), pU_ne (by omega)]⟩)
          · rw [if_neg hnq21] at ho21
            refine tw_as (S := [.inl (nV (M 143) L 2 (p + 1) 0), .inl ((b + 1 : Nat) : Int), .inr (.inr (.inl 144))]) (M := (st M [(126, f21), (144, (pU (M 144) b (M 143 p)))])) (N := N) (by rw [st_mg]; rfl) rfl ?_
            refine tw_iast (M := M) (N := N) (l := [(126, f21), (144, (pU (M 144) b (M 143 p)))]) (l' := [(126, f21), (144, (pU (pU (M 144) b (M 143 p)) (b + 1) (nV (M 143) L 2 (p + 1) 0)))]) (j := b + 1) k144_131 al144 rfl (by omega) rfl ?_
            refine tw_iload k144_132 rfl ?_
            refine tw_const k144_133 ?_
            refine tw_ceqF k144_135 (by omega) ?_
            refine tw_iload k144_138 rfl ?_
            refine tw_const k144_139 ?_
            refine tw_cneT k144_141 (by omega) ?_
            exact tw_rv k144_171 (by have hcl : clR (M 143) L p = (true, (nP (M 143) L 2 (p + 1))) := (by unfold clR; (repeat' split) <;> first | rfl | (exfalso; omega)); (try dsimp only); rw [hcl]; exact ⟨rfl, _, _, rfl, ⟨ho21.1, by rw [if_pos rfl]; exact ho21.2.1, ho21.2.2⟩, fun _ => ⟨(by rw [pU_ne (by omega), pU_eq]), (fun q => by exfalso; omega), (fun q => by exfalso; omega), fun _ => (by rw [pU_eq]), (fun q => by exfalso; omega), by omega⟩, fun j hj => by rw [pU_ne (by omega), pU_ne (by omega)]⟩)
        · refine tw_iload k144_57 rfl ?_
          refine tw_const k144_58 ?_
          refine tw_ceq k144_60 (fun h60 => ?_) (fun h60 => ?_)
          · refine tw_aload k144_80 rfl ?_
            refine tw_dupr k144_81 ?_
            refine tw_geti k144_82 f126_24 rfl (v := ((p : Nat) : Int)) (show M 126 24 = _ from ho0.1) ?_
            refine tw_const k144_85 ?_
            refine tw_iadd k144_86 (v := ((p + 1 : Nat) : Int)) rfl (by omega) ?_
            refine tw_puti (M := M) (N := N) (l := [(126, M 126), (144, (pU (M 144) b (M 143 p)))]) (l' := [(126, (pU (M 126) 24 ((p + 1 : Nat) : Int))), (144, (pU (M 144) b (M 143 p)))]) k144_87 f126_24 rfl ?_
            have ho22 : aO (pU (M 126) 24 ((p + 1 : Nat) : Int)) (M 126) ((p + 1 : Nat) : Int) (-1) := aO_at ho0
            refine tw_iload k144_90 rfl ?_
            refine tw_const k144_91 ?_
            refine tw_cneT k144_93 (by omega) ?_
            refine tw_aload k144_109 rfl ?_
            refine tw_getr k144_110 f126_22 ?_
            refine tw_iload k144_113 rfl ?_
            refine tw_const k144_114 ?_
            refine tw_iadd k144_115 (v := ((b + 1 : Nat) : Int)) rfl (by omega) ?_
            refine tw_aload k144_116 rfl ?_
            refine tw_iload k144_117 rfl ?_
            refine tw_const k144_118 ?_
            refine tw_cneT k144_120 (by omega) ?_
            refine tw_const k144_127 ?_
            refine tw_call (by omega) (S' := [.inl ((b + 1 : Nat) : Int), .inr (.inr (.inl 144))]) (as := [.inr (.inr (.inl 126)), .inl (2 : Int)]) k144_128 (x_142 (M := (st M [(126, (pU (M 126) 24 ((p + 1 : Nat) : Int))), (144, (pU (M 144) b (M 143 p)))])) (N := N) (by omega) L (show (pU (M 126) 24 ((p + 1 : Nat) : Int)) 23 = (L : Int) from by rw [ho22.2.2 23 (by omega) (by omega)]; exact hL) h100 htx (p + 1) (by omega) (show (pU (M 126) 24 ((p + 1 : Nat) : Int)) 24 = (((p + 1) : Nat) : Int) from ho22.1) (-1) (show (pU (M 126) 24 ((p + 1 : Nat) : Int)) 25 = (-1) from ho22.2.1) (by omega) 2 (by omega)) rfl rfl rfl rfl rfl (fun r128 Z128 hq128 => ?_)
            obtain ⟨rfl, f23, rfl, ho23⟩ := hq128.1 (by omega)
            have ho23 := aO_tr ho23 ho22
            have ho23 : aO f23 (M 126) ((nP (M 143) L 2 (p + 1)) : Int) (if (nP (M 143) L 2 (p + 1)) = (p + 1) then (((p + 1) : Nat) : Int) else -1) := ho23
            have hnp23 := nP_rg (tx := M 143) (L := L) 2 (p + 1) (by omega)
            by_cases hnq23 : (nP (M 143) L 2 (p + 1)) = (p + 1)
            · rw [if_pos hnq23, hnq23] at ho23
              refine tw_as (S := [.inl (nV (M 143) L 2 (p + 1) 0), .inl ((b + 1 : Nat) : Int), .inr (.inr (.inl 144))]) (M := (st M [(126, f23), (144, (pU (M 144) b (M 143 p)))])) (N := N) (by rw [st_mg]; rfl) rfl ?_
              refine tw_iast (M := M) (N := N) (l := [(126, f23), (144, (pU (M 144) b (M 143 p)))]) (l' := [(126, f23), (144, (pU (pU (M 144) b (M 143 p)) (b + 1) (nV (M 143) L 2 (p + 1) 0)))]) (j := b + 1) k144_131 al144 rfl (by omega) rfl ?_
              refine tw_iload k144_132 rfl ?_
              refine tw_const k144_133 ?_
              refine tw_ceqF k144_135 (by omega) ?_
              refine tw_iload k144_138 rfl ?_
              refine tw_const k144_139 ?_
              refine tw_cneT k144_141 (by omega) ?_
              exact tw_rv k144_171 (by have hcl : clR (M 143) L p = (false, (p + 1)) := (by unfold clR; (repeat' split) <;> first | rfl | (exfalso; omega)); (try dsimp only); rw [hcl]; exact ⟨rfl, _, _, rfl, ⟨ho23.1, by rw [if_neg (by simp)]; exact ho23.2.1, ho23.2.2⟩, fun h => absurd h (by simp), fun j hj => by rw [pU_ne (by omega), pU_ne (by omega)]⟩)
            · rw [if_neg hnq23] at ho23
              refine tw_as (S := [.inl (nV (M 143) L 2 (p + 1) 0), .inl ((b + 1 : Nat) : Int), .inr (.inr (.inl 144))]) (M := (st M [(126, f23), (144, (pU (M 144) b (M 143 p)))])) (N := N) (by rw [st_mg]; rfl) rfl ?_
              refine tw_iast (M := M) (N := N) (l := [(126, f23), (144, (pU (M 144) b (M 143 p)))]) (l' := [(126, f23), (144, (pU (pU (M 144) b (M 143 p)) (b + 1) (nV (M 143) L 2 (p + 1) 0)))]) (j := b + 1) k144_131 al144 rfl (by omega) rfl ?_
              refine tw_iload k144_132 rfl ?_
              refine tw_const k144_133 ?_
              refine tw_ceqF k144_135 (by omega) ?_
              refine tw_iload k144_138 rfl ?_
              refine tw_const k144_139 ?_
              refine tw_cneT k144_141 (by omega) ?_
              exact tw_rv k144_171 (by have hcl : clR (M 143) L p = (true, (nP (M 143) L 2 (p + 1))) := (by unfold clR; (repeat' split) <;> first | rfl | (exfalso; omega)); (try dsimp only); rw [hcl]; exact ⟨rfl, _, _, rfl, ⟨ho23.1, by rw [if_pos rfl]; exact ho23.2.1, ho23.2.2⟩, fun _ => ⟨(by rw [pU_ne (by omega), pU_eq]), (fun q => by exfalso; omega), (fun q => by exfalso; omega), fun _ => (by rw [pU_eq]), (fun q => by exfalso; omega), by omega⟩, fun j hj => by rw [pU_ne (by omega), pU_ne (by omega)]⟩)
          · refine tw_iload k144_63 rfl ?_
            refine tw_const k144_64 ?_
            refine tw_ceq k144_66 (fun h66 => ?_) (fun h66 => ?_)
            · refine tw_aload k144_80 rfl ?_
              refine tw_dupr k144_81 ?_
              refine tw_geti k144_82 f126_24 rfl (v := ((p : Nat) : Int)) (show M 126 24 = _ from ho0.1) ?_
              refine tw_const k144_85 ?_
              refine tw_iadd k144_86 (v := ((p + 1 : Nat) : Int)) rfl (by omega) ?_
              refine tw_puti (M := M) (N := N) (l := [(126, M 126), (144, (pU (M 144) b (M 143 p)))]) (l' := [(126, (pU (M 126) 24 ((p + 1 : Nat) : Int))), (144, (pU (M 144) b (M 143 p)))]) k144_87 f126_24 rfl ?_
              have ho24 : aO (pU (M 126) 24 ((p + 1 : Nat) : Int)) (M 126) ((p + 1 : Nat) : Int) (-1) := aO_at ho0
              refine tw_iload k144_90 rfl ?_
              refine tw_const k144_91 ?_
              refine tw_cneT k144_93 (by omega) ?_
              refine tw_aload k144_109 rfl ?_
              refine tw_getr k144_110 f126_22 ?_
              refine tw_iload k144_113 rfl ?_
              refine tw_const k144_114 ?_
              refine tw_iadd k144_115 (v := ((b + 1 : Nat) : Int)) rfl (by omega) ?_
              refine tw_aload k144_116 rfl ?_
              refine tw_iload k144_117 rfl ?_
              refine tw_const k144_118 ?_
              refine tw_cneT k144_120 (by omega) ?_
              refine tw_const k144_127 ?_
              refine tw_call (by omega) (S' := [.inl ((b + 1 : Nat) : Int), .inr (.inr (.inl 144))]) (as := [.inr (.inr (.inl 126)), .inl (2 : Int)]) k144_128 (x_142 (M := (st M [(126, (pU (M 126) 24 ((p + 1 : Nat) : Int))), (144, (pU (M 144) b (M 143 p)))])) (N := N) (by omega) L (show (pU (M 126) 24 ((p + 1 : Nat) : Int)) 23 = (L : Int) from by rw [ho24.2.2 23 (by omega) (by omega)]; exact hL) h100 htx (p + 1) (by omega) (show (pU (M 126) 24 ((p + 1 : Nat) : Int)) 24 = (((p + 1) : Nat) : Int) from ho24.1) (-1) (show (pU (M 126) 24 ((p + 1 : Nat) : Int)) 25 = (-1) from ho24.2.1) (by omega) 2 (by omega)) rfl rfl rfl rfl rfl (fun r128 Z128 hq128 => ?_)
              obtain ⟨rfl, f25, rfl, ho25⟩ := hq128.1 (by omega)
              have ho25 := aO_tr ho25 ho24
              have ho25 : aO f25 (M 126) ((nP (M 143) L 2 (p + 1)) : Int) (if (nP (M 143) L 2 (p + 1)) = (p + 1) then (((p + 1) : Nat) : Int) else -1) := ho25
              have hnp25 := nP_rg (tx := M 143) (L := L) 2 (p + 1) (by omega)
              by_cases hnq25 : (nP (M 143) L 2 (p + 1)) = (p + 1)
              · rw [if_pos hnq25, hnq25] at ho25
                refine tw_as (S := [.inl (nV (M 143) L 2 (p + 1) 0), .inl ((b + 1 : Nat) : Int), .inr (.inr (.inl 144))]) (M := (st M [(126, f25), (144, (pU (M 144) b (M 143 p)))])) (N := N) (by rw [st_mg]; rfl) rfl ?_
                refine tw_iast (M := M) (N := N) (l := [(126, f25), (144, (pU (M 144) b (M 143 p)))]) (l' := [(126, f25), (144, (pU (pU (M 144) b (M 143 p)) (b + 1) (nV (M 143) L 2 (p + 1) 0)))]) (j := b + 1) k144_131 al144 rfl (by omega) rfl ?_
                refine tw_iload k144_132 rfl ?_
                refine tw_const k144_133 ?_
                refine tw_ceqF k144_135 (by omega) ?_
                refine tw_iload k144_138 rfl ?_
                refine tw_const k144_139 ?_
                refine tw_cneT k144_141 (by omega) ?_
                exact tw_rv k144_171 (by have hcl : clR (M 143) L p = (false, (p + 1)) := (by unfold clR; (repeat' split) <;> first | rfl | (exfalso; omega)); (try dsimp only); rw [hcl]; exact ⟨rfl, _, _, rfl, ⟨ho25.1, by rw [if_neg (by simp)]; exact ho25.2.1, ho25.2.2⟩, fun h => absurd h (by simp), fun j hj => by rw [pU_ne (by omega), pU_ne (by omega)]⟩)
              · rw [if_neg hnq25] at ho25
                refine tw_as (S := [.inl (nV (M 143) L 2 (p + 1) 0), .inl ((b + 1 : Nat) : Int), .inr (.inr (.inl 144))]) (M := (st M [(126, f25), (144, (pU (M 144) b (M 143 p)))])) (N := N) (by rw [st_mg]; rfl) rfl ?_
                refine tw_iast (M := M) (N := N) (l := [(126, f25), (144, (pU (M 144) b (M 143 p)))]) (l' := [(126, f25), (144, (pU (pU (M 144) b (M 143 p)) (b + 1) (nV (M 143) L 2 (p + 1) 0)))]) (j := b + 1) k144_131 al144 rfl (by omega) rfl ?_
                refine tw_iload k144_132 rfl ?_
                refine tw_const k144_133 ?_
                refine tw_ceqF k144_135 (by omega) ?_
                refine tw_iload k144_138 rfl ?_
                refine tw_const k144_139 ?_
                refine tw_cneT k144_141 (by omega) ?_
                exact tw_rv k144_171 (by have hcl : clR (M 143) L p = (true, (nP (M 143) L 2 (p + 1))) := (by unfold clR; (repeat' split) <;> first | rfl | (exfalso; omega)); (try dsimp only); rw [hcl]; exact ⟨rfl, _, _, rfl, ⟨ho25.1, by rw [if_pos rfl]; exact ho25.2.1, ho25.2.2⟩, fun _ => ⟨(by rw [pU_ne (by omega), pU_eq]), (fun q => by exfalso; omega), (fun q => by exfalso; omega), fun _ => (by rw [pU_eq]), (fun q => by exfalso; omega), by omega⟩, fun j hj => by rw [pU_ne (by omega), pU_ne (by omega)]⟩)
            · refine tw_iload k144_69 rfl ?_
              refine tw_const k144_70 ?_
              refine tw_ceq k144_72 (fun h72 => ?_) (fun h72 => ?_)
              · refine tw_aload k144_80 rfl ?_
                refine tw_dupr k144_81 ?_
                refine tw_geti k144_82 f126_24 rfl (v := ((p : Nat) : Int)) (show M 126 24 = _ from ho0.1) ?_
                refine tw_const k144_85 ?_
                refine tw_iadd k144_86 (v := ((p + 1 : Nat) : Int)) rfl (by omega) ?_
                refine tw_puti (M := M) (N := N) (l := [(126, M 126), (144, (pU (M 144) b (M 143 p)))]) (l' := [(126, (pU (M 126) 24 ((p + 1 : Nat) : Int))), (144, (pU (M 144) b (M 143 p)))]) k144_87 f126_24 rfl ?_
                have ho26 : aO (pU (M 126) 24 ((p + 1 : Nat) : Int)) (M 126) ((p + 1 : Nat) : Int) (-1) := aO_at ho0
                refine tw_iload k144_90 rfl ?_
                refine tw_const k144_91 ?_
                refine tw_cneT k144_93 (by omega) ?_
                refine tw_aload k144_109 rfl ?_
                refine tw_getr k144_110 f126_22 ?_
                refine tw_iload k144_113 rfl ?_
                refine tw_const k144_114 ?_
                refine tw_iadd k144_115 (v := ((b + 1 : Nat) : Int)) rfl (by omega) ?_
                refine tw_aload k144_116 rfl ?_
                refine tw_iload k144_117 rfl ?_
                refine tw_const k144_118 ?_
                refine tw_cneF k144_120 (by omega) ?_
                refine tw_const k144_123 ?_
                refine tw_goto k144_124 ?_
                refine tw_call (by omega) (S' := [.inl ((b + 1 : Nat) : Int), .inr (.inr (.inl 144))]) (as := [.inr (.inr (.inl 126)), .inl (1 : Int)]) k144_128 (x_142 (M := (st M [(126, (pU (M 126) 24 ((p + 1 : Nat) : Int))), (144, (pU (M 144) b (M 143 p)))])) (N := N) (by omega) L (show (pU (M 126) 24 ((p + 1 : Nat) : Int)) 23 = (L : Int) from by rw [ho26.2.2 23 (by omega) (by omega)]; exact hL) h100 htx (p + 1) (by omega) (show (pU (M 126) 24 ((p + 1 : Nat) : Int)) 24 = (((p + 1) : Nat) : Int) from ho26.1) (-1) (show (pU (M 126) 24 ((p + 1 : Nat) : Int)) 25 = (-1) from ho26.2.1) (by omega) 1 (by omega)) rfl rfl rfl rfl rfl (fun r128 Z128 hq128 => ?_)
                obtain ⟨rfl, f27, rfl, ho27⟩ := hq128.1 (by omega)
                have ho27 := aO_tr ho27 ho26
                have ho27 : aO f27 (M 126) ((nP (M 143) L 1 (p + 1)) : Int) (if (nP (M 143) L 1 (p + 1)) = (p + 1) then (((p + 1) : Nat) : Int) else -1) := ho27
                have hnp27 := nP_rg (tx := M 143) (L := L) 1 (p + 1) (by omega)
                by_cases hnq27 : (nP (M 143) L 1 (p + 1)) = (p + 1)
                · rw [if_pos hnq27, hnq27] at ho27
                  refine tw_as (S := [.inl (nV (M 143) L 1 (p + 1) 0), .inl ((b + 1 : Nat) : Int), .inr (.inr (.inl 144))]) (M := (st M [(126, f27), (144, (pU (M 144) b (M 143 p)))])) (N := N) (by rw [st_mg]; rfl) rfl ?_
                  refine tw_iast (M := M) (N := N) (l := [(126, f27), (144, (pU (M 144) b (M 143 p)))]) (l' := [(126, f27), (144, (pU (pU (M 144) b (M 143 p)) (b + 1) (nV (M 143) L 1 (p + 1) 0)))]) (j := b + 1) k144_131 al144 rfl (by omega) rfl ?_
                  refine tw_iload k144_132 rfl ?_
                  refine tw_const k144_133 ?_
                  refine tw_ceqF k144_135 (by omega) ?_
                  refine tw_iload k144_138 rfl ?_
                  refine tw_const k144_139 ?_
                  refine tw_cneT k144_141 (by omega) ?_
                  exact tw_rv k144_171 (by have hcl : clR (M 143) L p = (false, (p + 1)) := (by unfold clR; (repeat' split) <;> first | rfl | (exfalso; omega)); (try dsimp only); rw [hcl]; exact ⟨rfl, _, _, rfl, ⟨ho27.1, by rw [if_neg (by simp)]; exact ho27.2.1, ho27.2.2⟩, fun h => absurd h (by simp), fun j hj => by rw [pU_ne (by omega), pU_ne (by omega)]⟩)
                · rw [if_neg hnq27] at ho27
                  refine tw_as (S := [.inl (nV (M 143) L 1 (p + 1) 0), .inl ((b + 1 : Nat) : Int), .inr (.inr (.inl 144))]) (M := (st M [(126, f27), (144, (pU (M 144) b (M 143 p)))])) (N := N) (by rw [st_mg]; rfl) rfl ?_
                  refine tw_iast (M := M) (N := N) (l := [(126, f27), (144, (pU (M 144) b (M 143 p)))]) (l' := [(126, f27), (144, (pU (pU (M 144) b (M 143 p)) (b + 1) (nV (M 143) L 1 (p + 1) 0)))]) (j := b + 1) k144_131 al144 rfl (by omega) rfl ?_
                  refine tw_iload k144_132 rfl ?_
                  refine tw_const k144_133 ?_
                  refine tw_ceqF k144_135 (by omega) ?_
                  refine tw_iload k144_138 rfl ?_
                  refine tw_const k144_139 ?_
                  refine tw_cneT k144_141 (by omega) ?_
                  exact tw_rv k144_171 (by have hcl : clR (M 143) L p = (true, (nP (M 143) L 1 (p + 1))) := (by unfold clR; (repeat' split) <;> first | rfl | (exfalso; omega)); (try dsimp only); rw [hcl]; exact ⟨rfl, _, _, rfl, ⟨ho27.1, by rw [if_pos rfl]; exact ho27.2.1, ho27.2.2⟩, fun _ => ⟨(by rw [pU_ne (by omega), pU_eq]), (fun q => by exfalso; omega), (fun q => by exfalso; omega), (fun q => by exfalso; omega), fun _ => (by rw [pU_eq]), by omega⟩, fun j hj => by rw [pU_ne (by omega), pU_ne (by omega)]⟩)
              · refine tw_aload k144_75 rfl ?_
                refine tw_call (by omega) (S' := []) (as := [.inr (.inr (.inl 126))]) k144_76 (x_141 (M := (st M [(126, M 126), (144, (pU (M 144) b (M 143 p)))])) (N := N) p (show M 126 24 = ((p : Nat) : Int) from ho0.1) (-1) (show M 126 25 = (-1) from ho0.2.1)) rfl rfl rfl rfl rfl (fun r76 Z76 hq76 => ?_)
                obtain ⟨rfl, f28, rfl, ho28⟩ := hq76
                have ho28 := aO_tr ho28 ho0
                rw [if_pos (by omega)] at ho28
                refine tw_as (S := []) (M := (st M [(126, f28), (144, (pU (M 144) b (M 143 p)))])) (N := N) (by rw [st_mg]; rfl) rfl ?_
                exact tw_rv k144_79 (by have hcl : clR (M 143) L p = (false, p) := (by unfold clR; (repeat' split) <;> first | rfl | (exfalso; omega)); (try dsimp only); rw [hcl]; exact ⟨rfl, _, _, rfl, ⟨ho28.1, by rw [if_neg (by simp)]; exact ho28.2.1, ho28.2.2⟩, fun h => absurd h (by simp), fun j hj => by rw [pU_ne (by omega)]⟩)
