-- the class: a text scanned, performed
def rdW (tx : Nat → Int) (L p : Nat) (v0 v1 v2 v3 : Int) : Prop := v0 = tx p ∧ (tx p = 121 → v1 = nV tx L 2 (p + 1) 0 ∧ v2 = nV tx L 2 (nP tx L 2 (p + 1) + 1) 0) ∧ (tx p = 109 → v1 = nV tx L 1 (p + 1) 0 ∧ v2 = nV tx L 2 (nP tx L 1 (p + 1)) 0 ∧ v3 = nV tx L 1 (nP tx L 2 (nP tx L 1 (p + 1)) + 1) 0) ∧ (tx p = 102 ∨ tx p = 99 ∨ tx p = 115 → v1 = nV tx L 2 (p + 1) 0) ∧ (tx p = 108 → v1 = nV tx L 1 (p + 1) 0) ∧ (tx p = 121 ∨ tx p = 109 ∨ (tx p = 102 ∨ tx p = 99 ∨ tx p = 115) ∨ tx p = 108)
theorem x_43 {K : mj_C} {d : Nat} {M : Nat → Nat → Int} {N : Nat → Nat → Int64} (hD : 2 ≤ d) (tx : Nat → Int) (L : Nat) (hL : M 96 3 = (L : Int)) (h100 : L ≤ 100) (htx : ∀ i, i < L → M 97 i = tx i ∧ 0 ≤ tx i ∧ tx i ≤ 127) (p : Nat) (hp : p ≤ L) (hat : M 96 4 = (p : Int)) (q : Nat) (hq : 99 ≤ q ∧ q ≤ 112) : mj_X K d 43 [.inr (.inr (.inl 96)), .inr (.inr (.inl q))] (mj_Sh, M, N) (fun r Z => r = some (.inl (if (clR tx L p).1 = true then 1 else 0)) ∧ ∃ M1, Z = (mj_Sh, M1, N) ∧ M1 96 4 = ((clR tx L p).2 : Int) ∧ (∀ j, j ≠ 4 → M1 96 j = M 96 j) ∧ ((clR tx L p).1 = true → rdW tx L p (M1 q 0) (M1 q 1) (M1 q 2) (M1 q 3)) ∧ ∀ x, x ≠ 96 → x ≠ q → M1 x = M x) := by
  show mj_T K d 43 0 [some (.inr (.inr (.inl 96))), some (.inr (.inr (.inl q)))] [] (mj_Sh, M, N) _
  refine tw_aload k43_0 rfl ?_
  refine tw_const k43_1 ?_
  refine tw_aload k43_2 rfl ?_
  refine tw_geti k43_3 f96_4 rfl (v := ((p : Nat) : Int)) (hat) ?_
  refine tw_aload k43_6 rfl ?_
  refine tw_geti k43_7 f96_3 rfl (v := ((L : Nat) : Int)) (hL) ?_
  refine tw_cge k43_10 (fun h10 => ?_) (fun h10 => ?_)
  · refine tw_const k43_25 ?_
    refine tw_iastu (j := 0) k43_26 (alC hq) rfl (by decide) ?_
    refine tw_aload k43_27 rfl ?_
    refine tw_const k43_28 ?_
    refine tw_iald (j := 0) (v := (-1 : Int)) k43_29 (alC hq) rfl (by decide) (by rw [mu_c, if_pos ⟨rfl, rfl⟩]) ?_
    refine tw_sw k43_30 ?_
    refine tw_pkF (by decide) ?_
    refine tw_pkF (by decide) ?_
    refine tw_pkF (by decide) ?_
    refine tw_pkF (by decide) ?_
    refine tw_pkF (by decide) ?_
    refine tw_pkF (by decide) ?_
    refine tw_pk0 ?_
    refine tw_const k43_224 ?_
    exact tw_rb k43_225 (by decide) (by have hcl : clR tx L p = (false, p) := (by unfold clR; (repeat' split) <;> first | rfl | (exfalso; omega)); (try dsimp only); rw [hcl]; exact ⟨rfl, _, rfl, (show (mj_u M q 0 (-1 : Int)) 96 4 = _ by rw [mu_c, if_neg (by omega)]; exact hat), (fun j hj => by rw [mu_c, if_neg (by omega)]), fun h => absurd h (by simp), (fun x h1 h2 => by rw [tu_row h2])⟩)
  · refine tw_aload k43_13 rfl ?_
    refine tw_getr k43_14 f96_0 ?_
    refine tw_aload k43_17 rfl ?_
    refine tw_geti k43_18 f96_4 rfl (v := ((p : Nat) : Int)) (hat) ?_
    refine tw_iald (j := p) (v := (tx p)) k43_21 al97 rfl (by omega) (htx p (by omega)).1 ?_
    refine tw_goto k43_22 ?_
    refine tw_iastu (j := 0) k43_26 (alC hq) rfl (by decide) ?_
    refine tw_aload k43_27 rfl ?_
    refine tw_const k43_28 ?_
    refine tw_iald (j := 0) (v := (tx p)) k43_29 (alC hq) rfl (by decide) (by rw [mu_c, if_pos ⟨rfl, rfl⟩]) ?_
    refine tw_sw k43_30 ?_
    refine tw_pk (fun h30_99 => ?_) (fun h30_99 => ?_)
    · refine tw_aload k43_188 rfl ?_
      refine tw_dupr k43_189 ?_
      refine tw_geti k43_190 f96_4 rfl (v := ((p : Nat) : Int)) ((show (mj_u M q 0 (tx p)) 96 4 = _ by rw [mu_c, if_neg (by omega)]; exact hat)) ?_
      refine tw_const k43_193 ?_
      refine tw_iadd k43_194 (v := ((p + 1 : Nat) : Int)) rfl (by omega) ?_
      refine tw_puti (M := (mj_u M q 0 (tx p))) (N := N) (l := []) (l' := [(96, (pU ((mj_u M q 0 (tx p)) 96) 4 ((p + 1 : Nat) : Int)))]) k43_195 f96_4 rfl ?_
      obtain ⟨M1, hM1⟩ : ∃ X : Nat → Nat → Int, X = st (mj_u M q 0 (tx p)) [(96, (pU ((mj_u M q 0 (tx p)) 96) 4 ((p + 1 : Nat) : Int)))] := ⟨_, rfl⟩
      refine tw_as (M := M1) (N := N) hM1.symm rfl ?_
      have hA1 : M1 96 4 = ((p + 1 : Nat) : Int) := by rw [hM1, st_c, if_pos rfl, pU_eq]
      have hB1 : ∀ j, j ≠ 4 → M1 96 j = M 96 j := fun j hj => by rw [hM1, st_c, if_pos rfl, pU_ne hj, mu_c, if_neg (by omega)]
      have hC1 : ∀ x, x ≠ 96 → x ≠ q → M1 x = M x := fun x h1 h2 => by rw [hM1, st_c, if_neg h1, st_nil, tu_row h2]
      have hV1 : M1 q 0 = tx p := by rw [hM1, st_c, if_neg (by omega), st_nil, mu_c, if_pos ⟨rfl, rfl⟩]
      refine tw_aload k43_198 rfl ?_
      refine tw_aload k43_199 rfl ?_
      refine tw_const k43_200 ?_
      refine tw_const k43_201 ?_
      refine tw_call (by omega) (S' := []) (as := [.inr (.inr (.inl 96)), .inr (.inr (.inl q)), .inl (1 : Int), .inl (2 : Int)]) k43_202 (x_44 (M := M1) (N := N) (by omega) tx L ((hB1 3 (by omega)).trans hL) h100 (fun i hi => ⟨(congrFun (hC1 97 (by omega) (by omega)) i).trans (htx i hi).1, (htx i hi).2⟩) (p + 1) (by omega) (hA1) q hq 1 (by omega) 2 (by omega)) rfl rfl rfl rfl rfl (fun r202 Z202 hq202 => ?_)
      obtain ⟨rfl, M2, rfl, a2, b2, c2, e2, f2⟩ := hq202
      have hB2 : ∀ j, j ≠ 4 → M2 96 j = M 96 j := fun j hj => (b2 j hj).trans (hB1 j hj)
      have hC2 : ∀ x, x ≠ 96 → x ≠ q → M2 x = M x := fun x h1 h2 => (f2 x h1 h2).trans (hC1 x h1 h2)
      have hnp2 := nP_rg (tx := tx) (L := L) 2 (p + 1) (by omega)
      by_cases hnq2 : (nP tx L 2 (p + 1)) = (p + 1)
      · rw [if_pos hnq2]
        refine tw_as (S := [.inl (0 : Int)]) (M := M2) (N := N) rfl rfl ?_
        exact tw_rb k43_205 (by decide) (by have hcl : clR tx L p = (false, (p + 1)) := (by unfold clR; (repeat' split) <;> first | rfl | (exfalso; omega)); (try dsimp only); rw [hcl]; exact ⟨rfl, _, rfl, (a2.trans (congrArg Nat.cast hnq2)), hB2, fun h => absurd h (by simp), hC2⟩)
      · rw [if_neg hnq2]
        refine tw_as (S := [.inl (1 : Int)]) (M := M2) (N := N) rfl rfl ?_
        exact tw_rb k43_205 (by decide) (by have hcl : clR tx L p = (true, (nP tx L 2 (p + 1))) := (by unfold clR; (repeat' split) <;> first | rfl | (exfalso; omega)); (try dsimp only); rw [hcl]; exact ⟨rfl, _, rfl, a2, hB2, fun _ => ⟨((e2 0 (by omega)).trans hV1), (fun q => by exfalso; omega), (fun q => by exfalso; omega), fun _ => c2, (fun q => by exfalso; omega), by omega⟩, hC2⟩)
    · skip
      refine tw_pk (fun h30_102 => ?_) (fun h30_102 => ?_)
      · refine tw_aload k43_188 rfl ?_
        refine tw_dupr k43_189 ?_
        refine tw_geti k43_190 f96_4 rfl (v := ((p : Nat) : Int)) ((show (mj_u M q 0 (tx p)) 96 4 = _ by rw [mu_c, if_neg (by omega)]; exact hat)) ?_
        refine tw_const k43_193 ?_
        refine tw_iadd k43_194 (v := ((p + 1 : Nat) : Int)) rfl (by omega) ?_
        refine tw_puti (M := (mj_u M q 0 (tx p))) (N := N) (l := []) (l' := [(96, (pU ((mj_u M q 0 (tx p)) 96) 4 ((p + 1 : Nat) : Int)))]) k43_195 f96_4 rfl ?_
        obtain ⟨M3, hM3⟩ : ∃ X : Nat → Nat → Int, X = st (mj_u M q 0 (tx p)) [(96, (pU ((mj_u M q 0 (tx p)) 96) 4 ((p + 1 : Nat) : Int)))] := ⟨_, rfl⟩
        refine tw_as (M := M3) (N := N) hM3.symm rfl ?_
        have hA3 : M3 96 4 = ((p + 1 : Nat) : Int) := by rw [hM3, st_c, if_pos rfl, pU_eq]
        have hB3 : ∀ j, j ≠ 4 → M3 96 j = M 96 j := fun j hj => by rw [hM3, st_c, if_pos rfl, pU_ne hj, mu_c, if_neg (by omega)]
        have hC3 : ∀ x, x ≠ 96 → x ≠ q → M3 x = M x := fun x h1 h2 => by rw [hM3, st_c, if_neg h1, st_nil, tu_row h2]
        have hV3 : M3 q 0 = tx p := by rw [hM3, st_c, if_neg (by omega), st_nil, mu_c, if_pos ⟨rfl, rfl⟩]
        refine tw_aload k43_198 rfl ?_
        refine tw_aload k43_199 rfl ?_
        refine tw_const k43_200 ?_
        refine tw_const k43_201 ?_
        refine tw_call (by omega) (S' := []) (as := [.inr (.inr (.inl 96)), .inr (.inr (.inl q)), .inl (1 : Int), .inl (2 : Int)]) k43_202 (x_44 (M := M3) (N := N) (by omega) tx L ((hB3 3 (by omega)).trans hL) h100 (fun i hi => ⟨(congrFun (hC3 97 (by omega) (by omega)) i).trans (htx i hi).1, (htx i hi).2⟩) (p + 1) (by omega) (hA3) q hq 1 (by omega) 2 (by omega)) rfl rfl rfl rfl rfl (fun r202 Z202 hq202 => ?_)
        obtain ⟨rfl, M4, rfl, a4, b4, c4, e4, f4⟩ := hq202
        have hB4 : ∀ j, j ≠ 4 → M4 96 j = M 96 j := fun j hj => (b4 j hj).trans (hB3 j hj)
        have hC4 : ∀ x, x ≠ 96 → x ≠ q → M4 x = M x := fun x h1 h2 => (f4 x h1 h2).trans (hC3 x h1 h2)
        have hnp4 := nP_rg (tx := tx) (L := L) 2 (p + 1) (by omega)
        by_cases hnq4 : (nP tx L 2 (p + 1)) = (p + 1)
        · rw [if_pos hnq4]
          refine tw_as (S := [.inl (0 : Int)]) (M := M4) (N := N) rfl rfl ?_
          exact tw_rb k43_205 (by decide) (by have hcl : clR tx L p = (false, (p + 1)) := (by unfold clR; (repeat' split) <;> first | rfl | (exfalso; omega)); (try dsimp only); rw [hcl]; exact ⟨rfl, _, rfl, (a4.trans (congrArg Nat.cast hnq4)), hB4, fun h => absurd h (by simp), hC4⟩)
        · rw [if_neg hnq4]
          refine tw_as (S := [.inl (1 : Int)]) (M := M4) (N := N) rfl rfl ?_
          exact tw_rb k43_205 (by decide) (by have hcl : clR tx L p = (true, (nP tx L 2 (p + 1))) := (by unfold clR; (repeat' split) <;> first | rfl | (exfalso; omega)); (try dsimp only); rw [hcl]; exact ⟨rfl, _, rfl, a4, hB4, fun _ => ⟨((e4 0 (by omega)).trans hV3), (fun q => by exfalso; omega), (fun q => by exfalso; omega), fun _ => c4, (fun q => by exfalso; omega), by omega⟩, hC4⟩)
      · skip
        refine tw_pk (fun h30_108 => ?_) (fun h30_108 => ?_)
        · refine tw_aload k43_206 rfl ?_
          refine tw_dupr k43_207 ?_
          refine tw_geti k43_208 f96_4 rfl (v := ((p : Nat) : Int)) ((show (mj_u M q 0 (tx p)) 96 4 = _ by rw [mu_c, if_neg (by omega)]; exact hat)) ?_
          refine tw_const k43_211 ?_
          refine tw_iadd k43_212 (v := ((p + 1 : Nat) : Int)) rfl (by omega) ?_
          refine tw_puti (M := (mj_u M q 0 (tx p))) (N := N) (l := []) (l' := [(96, (pU ((mj_u M q 0 (tx p)) 96) 4 ((p + 1 : Nat) : Int)))]) k43_213 f96_4 rfl ?_
          obtain ⟨M5, hM5⟩ : ∃ X : Nat → Nat → Int, X = st (mj_u M q 0 (tx p)) [(96, (pU ((mj_u M q 0 (tx p)) 96) 4 ((p + 1 : Nat) : Int)))] := ⟨_, rfl⟩
          refine tw_as (M := M5) (N := N) hM5.symm rfl ?_
          have hA5 : M5 96 4 = ((p + 1 : Nat) : Int) := by rw [hM5, st_c, if_pos rfl, pU_eq]
          have hB5 : ∀ j, j ≠ 4 → M5 96 j = M 96 j := fun j hj => by rw [hM5, st_c, if_pos rfl, pU_ne hj, mu_c, if_neg (by omega)]
          have hC5 : ∀ x, x ≠ 96 → x ≠ q → M5 x = M x := fun x h1 h2 => by rw [hM5, st_c, if_neg h1, st_nil, tu_row h2]
          have hV5 : M5 q 0 = tx p := by rw [hM5, st_c, if_neg (by omega), st_nil, mu_c, if_pos ⟨rfl, rfl⟩]
          refine tw_aload k43_216 rfl ?_
          refine tw_aload k43_217 rfl ?_
          refine tw_const k43_218 ?_
          refine tw_const k43_219 ?_
          refine tw_call (by omega) (S' := []) (as := [.inr (.inr (.inl 96)), .inr (.inr (.inl q)), .inl (1 : Int), .inl (1 : Int)]) k43_220 (x_44 (M := M5) (N := N) (by omega) tx L ((hB5 3 (by omega)).trans hL) h100 (fun i hi => ⟨(congrFun (hC5 97 (by omega) (by omega)) i).trans (htx i hi).1, (htx i hi).2⟩) (p + 1) (by omega) (hA5) q hq 1 (by omega) 1 (by omega)) rfl rfl rfl rfl rfl (fun r220 Z220 hq220 => ?_)
          obtain ⟨rfl, M6, rfl, a6, b6, c6, e6, f6⟩ := hq220
          have hB6 : ∀ j, j ≠ 4 → M6 96 j = M 96 j := fun j hj => (b6 j hj).trans (hB5 j hj)
          have hC6 : ∀ x, x ≠ 96 → x ≠ q → M6 x = M x := fun x h1 h2 => (f6 x h1 h2).trans (hC5 x h1 h2)
          have hnp6 := nP_rg (tx := tx) (L := L) 1 (p + 1) (by omega)
          by_cases hnq6 : (nP tx L 1 (p + 1)) = (p + 1)
          · rw [if_pos hnq6]
            refine tw_as (S := [.inl (0 : Int)]) (M := M6) (N := N) rfl rfl ?_
            exact tw_rb k43_223 (by decide) (by have hcl : clR tx L p = (false, (p + 1)) := (by unfold clR; (repeat' split) <;> first | rfl | (exfalso; omega)); (try dsimp only); rw [hcl]; exact ⟨rfl, _, rfl, (a6.trans (congrArg Nat.cast hnq6)), hB6, fun h => absurd h (by simp), hC6⟩)
          · rw [if_neg hnq6]
            refine tw_as (S := [.inl (1 : Int)]) (M := M6) (N := N) rfl rfl ?_
            exact tw_rb k43_223 (by decide) (by have hcl : clR tx L p = (true, (nP tx L 1 (p + 1))) := (by unfold clR; (repeat' split) <;> first | rfl | (exfalso; omega)); (try dsimp only); rw [hcl]; exact ⟨rfl, _, rfl, a6, hB6, fun _ => ⟨((e6 0 (by omega)).trans hV5), (fun q => by exfalso; omega), (fun q => by exfalso; omega), (fun q => by exfalso; omega), fun _ => c6, by omega⟩, hC6⟩)
        · skip
          refine tw_pk (fun h30_109 => ?_) (fun h30_109 => ?_)
          · refine tw_aload k43_133 rfl ?_
            refine tw_dupr k43_134 ?_
            refine tw_geti k43_135 f96_4 rfl (v := ((p : Nat) : Int)) ((show (mj_u M q 0 (tx p)) 96 4 = _ by rw [mu_c, if_neg (by omega)]; exact hat)) ?_
            refine tw_const k43_138 ?_
            refine tw_iadd k43_139 (v := ((p + 1 : Nat) : Int)) rfl (by omega) ?_
            refine tw_puti (M := (mj_u M q 0 (tx p))) (N := N) (l := []) (l' := [(96, (pU ((mj_u M q 0 (tx p)) 96) 4 ((p + 1 : Nat) : Int)))]) k43_140 f96_4 rfl ?_
            obtain ⟨M7, hM7⟩ : ∃ X : Nat → Nat → Int, X = st (mj_u M q 0 (tx p)) [(96, (pU ((mj_u M q 0 (tx p)) 96) 4 ((p + 1 : Nat) : Int)))] := ⟨_, rfl⟩
            refine tw_as (M := M7) (N := N) hM7.symm rfl ?_
            have hA7 : M7 96 4 = ((p + 1 : Nat) : Int) := by rw [hM7, st_c, if_pos rfl, pU_eq]
            have hB7 : ∀ j, j ≠ 4 → M7 96 j = M 96 j := fun j hj => by rw [hM7, st_c, if_pos rfl, pU_ne hj, mu_c, if_neg (by omega)]
            have hC7 : ∀ x, x ≠ 96 → x ≠ q → M7 x = M x := fun x h1 h2 => by rw [hM7, st_c, if_neg h1, st_nil, tu_row h2]
            have hV7 : M7 q 0 = tx p := by rw [hM7, st_c, if_neg (by omega), st_nil, mu_c, if_pos ⟨rfl, rfl⟩]
            refine tw_aload k43_143 rfl ?_
            refine tw_aload k43_144 rfl ?_
            refine tw_const k43_145 ?_
            refine tw_const k43_146 ?_
            refine tw_call (by omega) (S' := []) (as := [.inr (.inr (.inl 96)), .inr (.inr (.inl q)), .inl (1 : Int), .inl (1 : Int)]) k43_147 (x_44 (M := M7) (N := N) (by omega) tx L ((hB7 3 (by omega)).trans hL) h100 (fun i hi => ⟨(congrFun (hC7 97 (by omega) (by omega)) i).trans (htx i hi).1, (htx i hi).2⟩) (p + 1) (by omega) (hA7) q hq 1 (by omega) 1 (by omega)) rfl rfl rfl rfl rfl (fun r147 Z147 hq147 => ?_)
            obtain ⟨rfl, M8, rfl, a8, b8, c8, e8, f8⟩ := hq147
            have hB8 : ∀ j, j ≠ 4 → M8 96 j = M 96 j := fun j hj => (b8 j hj).trans (hB7 j hj)
            have hC8 : ∀ x, x ≠ 96 → x ≠ q → M8 x = M x := fun x h1 h2 => (f8 x h1 h2).trans (hC7 x h1 h2)
            have hnp8 := nP_rg (tx := tx) (L := L) 1 (p + 1) (by omega)
            by_cases hnq8 : (nP tx L 1 (p + 1)) = (p + 1)
            · rw [if_pos hnq8]
              refine tw_as (S := [.inl (0 : Int)]) (M := M8) (N := N) rfl rfl ?_
              refine tw_zeqT k43_150 (by decide) ?_
              refine tw_const k43_186 ?_
              exact tw_rb k43_187 (by decide) (by have hcl : clR tx L p = (false, (p + 1)) := (by unfold clR; (repeat' split) <;> first | rfl | (exfalso; omega)); (try dsimp only); rw [hcl]; exact ⟨rfl, _, rfl, (a8.trans (congrArg Nat.cast hnq8)), hB8, fun h => absurd h (by simp), hC8⟩)
            · rw [if_neg hnq8]
              refine tw_as (S := [.inl (1 : Int)]) (M := M8) (N := N) rfl rfl ?_
              refine tw_zeqF k43_150 (by decide) ?_
              refine tw_aload k43_153 rfl ?_
              refine tw_aload k43_154 rfl ?_
              refine tw_const k43_155 ?_
              refine tw_const k43_156 ?_
              refine tw_call (by omega) (S' := []) (as := [.inr (.inr (.inl 96)), .inr (.inr (.inl q)), .inl (2 : Int), .inl (2 : Int)]) k43_157 (x_44 (M := M8) (N := N) (by omega) tx L ((hB8 3 (by omega)).trans hL) h100 (fun i hi => ⟨(congrFun (hC8 97 (by omega) (by omega)) i).trans (htx i hi).1, (htx i hi).2⟩) (nP tx L 1 (p + 1)) (by omega) (a8) q hq 2 (by omega) 2 (by omega)) rfl rfl rfl rfl rfl (fun r157 Z157 hq157 => ?_)
              obtain ⟨rfl, M9, rfl, a9, b9, c9, e9, f9⟩ := hq157
              have hB9 : ∀ j, j ≠ 4 → M9 96 j = M 96 j := fun j hj => (b9 j hj).trans (hB8 j hj)
              have hC9 : ∀ x, x ≠ 96 → x ≠ q → M9 x = M x := fun x h1 h2 => (f9 x h1 h2).trans (hC8 x h1 h2)
              have hnp9 := nP_rg (tx := tx) (L := L) 2 (nP tx L 1 (p + 1)) (by omega)
              by_cases hnq9 : (nP tx L 2 (nP tx L 1 (p + 1))) = (nP tx L 1 (p + 1))
              · rw [if_pos hnq9]
                refine tw_as (S := [.inl (0 : Int)]) (M := M9) (N := N) rfl rfl ?_
                refine tw_zeqT k43_160 (by decide) ?_
                refine tw_const k43_186 ?_
                exact tw_rb k43_187 (by decide) (by have hcl : clR tx L p = (false, (nP tx L 1 (p + 1))) := (by unfold clR; (repeat' split) <;> first | rfl | (exfalso; omega)); (try dsimp only); rw [hcl]; exact ⟨rfl, _, rfl, (a9.trans (congrArg Nat.cast hnq9)), hB9, fun h => absurd h (by simp), hC9⟩)
              · rw [if_neg hnq9]
                refine tw_as (S := [.inl (1 : Int)]) (M := M9) (N := N) rfl rfl ?_
                refine tw_zeqF k43_160 (by decide) ?_
                refine tw_aload k43_163 rfl ?_
                refine tw_const k43_164 ?_
                refine tw_call (by omega) (S' := []) (as := [.inr (.inr (.inl 96)), .inl (44 : Int)]) k43_166 (x_45 (M := M9) (N := N) tx L ((hB9 3 (by omega)).trans hL) h100 (fun i hi => ⟨(congrFun (hC9 97 (by omega) (by omega)) i).trans (htx i hi).1, (htx i hi).2⟩) (nP tx L 2 (nP tx L 1 (p + 1))) (by omega) (a9) 44) rfl rfl rfl rfl rfl (fun r166 Z166 hq166 => ?_)
                obtain ⟨rfl, M10, rfl, a10, b10, f10⟩ := hq166
                have hB10 : ∀ j, j ≠ 4 → M10 96 j = M 96 j := fun j hj => (b10 j hj).trans (hB9 j hj)
                have hC10 : ∀ x, x ≠ 96 → x ≠ q → M10 x = M x := fun x h1 h2 => (f10 x h1).trans (hC9 x h1 h2)
                by_cases hcm10 : (nP tx L 2 (nP tx L 1 (p + 1))) < L ∧ tx (nP tx L 2 (nP tx L 1 (p + 1))) = 44
                · rw [if_pos hcm10]
                  refine tw_as (S := [.inl (1 : Int)]) (M := M10) (N := N) rfl rfl ?_
                  refine tw_zeqF k43_169 (by decide) ?_
                  refine tw_aload k43_172 rfl ?_
                  refine tw_aload k43_173 rfl ?_
                  refine tw_const k43_174 ?_
                  refine tw_const k43_175 ?_
                  refine tw_call (by omega) (S' := []) (as := [.inr (.inr (.inl 96)), .inr (.inr (.inl q)), .inl (3 : Int), .inl (1 : Int)]) k43_176 (x_44 (M := M10) (N := N) (by omega) tx L ((hB10 3 (by omega)).trans hL) h100 (fun i hi => ⟨(congrFun (hC10 97 (by omega) (by omega)) i).trans (htx i hi).1, (htx i hi).2⟩) ((nP tx L 2 (nP tx L 1 (p + 1))) + 1) (by omega) ((a10.trans (if_pos hcm10))) q hq 3 (by omega) 1 (by omega)) rfl rfl rfl rfl rfl (fun r176 Z176 hq176 => ?_)
                  obtain ⟨rfl, M11, rfl, a11, b11, c11, e11, f11⟩ := hq176
                  have hB11 : ∀ j, j ≠ 4 → M11 96 j = M 96 j := fun j hj => (b11 j hj).trans (hB10 j hj)
                  have hC11 : ∀ x, x ≠ 96 → x ≠ q → M11 x = M x := fun x h1 h2 => (f11 x h1 h2).trans (hC10 x h1 h2)
                  have hnp11 := nP_rg (tx := tx) (L := L) 1 ((nP tx L 2 (nP tx L 1 (p + 1))) + 1) (by omega)
                  by_cases hnq11 : (nP tx L 1 ((nP tx L 2 (nP tx L 1 (p + 1))) + 1)) = ((nP tx L 2 (nP tx L 1 (p + 1))) + 1)
                  · rw [if_pos hnq11]
                    refine tw_as (S := [.inl (0 : Int)]) (M := M11) (N := N) rfl rfl ?_
                    refine tw_zeqT k43_179 (by decide) ?_
                    refine tw_const k43_186 ?_
                    exact tw_rb k43_187 (by decide) (by have hcl : clR tx L p = (false, ((nP tx L 2 (nP tx L 1 (p + 1))) + 1)) := (by unfold clR; (repeat' split) <;> first | rfl | (exfalso; omega)); (try dsimp only); rw [hcl]; exact ⟨rfl, _, rfl, (a11.trans (congrArg Nat.cast hnq11)), hB11, fun h => absurd h (by simp), hC11⟩)
                  · rw [if_neg hnq11]
                    refine tw_as (S := [.inl (1 : Int)]) (M := M11) (N := N) rfl rfl ?_
                    refine tw_zeqF k43_179 (by decide) ?_
                    refine tw_const k43_182 ?_
                    refine tw_goto k43_183 ?_
                    exact tw_rb k43_187 (by decide) (by have hcl : clR tx L p = (true, (nP tx L 1 ((nP tx L 2 (nP tx L 1 (p + 1))) + 1))) := (by unfold clR; (repeat' split) <;> first | rfl | (exfalso; omega)); (try dsimp only); rw [hcl]; exact ⟨rfl, _, rfl, a11, hB11, fun _ => ⟨((e11 0 (by omega)).trans ((congrFun (f10 q (by omega)) 0).trans ((e9 0 (by omega)).trans ((e8 0 (by omega)).trans hV7)))), (fun q => by exfalso; omega), fun _ => ⟨((e11 1 (by omega)).trans ((congrFun (f10 q (by omega)) 1).trans ((e9 1 (by omega)).trans c8))), ((e11 2 (by omega)).trans ((congrFun (f10 q (by omega)) 2).trans c9)), c11⟩, (fun q => by exfalso; omega), (fun q => by exfalso; omega), by omega⟩, hC11⟩)
                · rw [if_neg hcm10]
                  refine tw_as (S := [.inl (0 : Int)]) (M := M10) (N := N) rfl rfl ?_
                  refine tw_zeqT k43_169 (by decide) ?_
                  refine tw_const k43_186 ?_
                  exact tw_rb k43_187 (by decide) (by have hcl : clR tx L p = (false, (nP tx L 2 (nP tx L 1 (p + 1)))) := (by unfold clR; (repeat' split) <;> first | rfl | (exfalso; omega)); (try dsimp only); rw [hcl]; exact ⟨rfl, _, rfl, (a10.trans (if_neg hcm10)), hB10, fun h => absurd h (by simp), hC10⟩)
          · skip
            refine tw_pk (fun h30_115 => ?_) (fun h30_115 => ?_)
            · refine tw_aload k43_188 rfl ?_
              refine tw_dupr k43_189 ?_
              refine tw_geti k43_190 f96_4 rfl (v := ((p : Nat) : Int)) ((show (mj_u M q 0 (tx p)) 96 4 = _ by rw [mu_c, if_neg (by omega)]; exact hat)) ?_
              refine tw_const k43_193 ?_
              refine tw_iadd k43_194 (v := ((p + 1 : Nat) : Int)) rfl (by omega) ?_
              refine tw_puti (M := (mj_u M q 0 (tx p))) (N := N) (l := []) (l' := [(96, (pU ((mj_u M q 0 (tx p)) 96) 4 ((p + 1 : Nat) : Int)))]) k43_195 f96_4 rfl ?_
              obtain ⟨M12, hM12⟩ : ∃ X : Nat → Nat → Int, X = st (mj_u M q 0 (tx p)) [(96, (pU ((mj_u M q 0 (tx p)) 96) 4 ((p + 1 : Nat) : Int)))] := ⟨_, rfl⟩
              refine tw_as (M := M12) (N := N) hM12.symm rfl ?_
              have hA12 : M12 96 4 = ((p + 1 : Nat) : Int) := by rw [hM12, st_c, if_pos rfl, pU_eq]
              have hB12 : ∀ j, j ≠ 4 → M12 96 j = M 96 j := fun j hj => by rw [hM12, st_c, if_pos rfl, pU_ne hj, mu_c, if_neg (by omega)]
              have hC12 : ∀ x, x ≠ 96 → x ≠ q → M12 x = M x := fun x h1 h2 => by rw [hM12, st_c, if_neg h1, st_nil, tu_row h2]
              have hV12 : M12 q 0 = tx p := by rw [hM12, st_c, if_neg (by omega), st_nil, mu_c, if_pos ⟨rfl, rfl⟩]
              refine tw_aload k43_198 rfl ?_
              refine tw_aload k43_199 rfl ?_
              refine tw_const k43_200 ?_
              refine tw_const k43_201 ?_
              refine tw_call (by omega) (S' := []) (as := [.inr (.inr (.inl 96)), .inr (.inr (.inl q)), .inl (1 : Int), .inl (2 : Int)]) k43_202 (x_44 (M := M12) (N := N) (by omega) tx L ((hB12 3 (by omega)).trans hL) h100 (fun i hi => ⟨(congrFun (hC12 97 (by omega) (by omega)) i).trans (htx i hi).1, (htx i hi).2⟩) (p + 1) (by omega) (hA12) q hq 1 (by omega) 2 (by omega)) rfl rfl rfl rfl rfl (fun r202 Z202 hq202 => ?_)
              obtain ⟨rfl, M13, rfl, a13, b13, c13, e13, f13⟩ := hq202
              have hB13 : ∀ j, j ≠ 4 → M13 96 j = M 96 j := fun j hj => (b13 j hj).trans (hB12 j hj)
              have hC13 : ∀ x, x ≠ 96 → x ≠ q → M13 x = M x := fun x h1 h2 => (f13 x h1 h2).trans (hC12 x h1 h2)
              have hnp13 := nP_rg (tx := tx) (L := L) 2 (p + 1) (by omega)
              by_cases hnq13 : (nP tx L 2 (p + 1)) = (p + 1)
              · rw [if_pos hnq13]
                refine tw_as (S := [.inl (0 : Int)]) (M := M13) (N := N) rfl rfl ?_
                exact tw_rb k43_205 (by decide) (by have hcl : clR tx L p = (false, (p + 1)) := (by unfold clR; (repeat' split) <;> first | rfl | (exfalso; omega)); (try dsimp only); rw [hcl]; exact ⟨rfl, _, rfl, (a13.trans (congrArg Nat.cast hnq13)), hB13, fun h => absurd h (by simp), hC13⟩)
              · rw [if_neg hnq13]
                refine tw_as (S := [.inl (1 : Int)]) (M := M13) (N := N) rfl rfl ?_
                exact tw_rb k43_205 (by decide) (by have hcl : clR tx L p = (true, (nP tx L 2 (p + 1))) := (by unfold clR; (repeat' split) <;> first | rfl | (exfalso; omega)); (try dsimp only); rw [hcl]; exact ⟨rfl, _, rfl, a13, hB13, fun _ => ⟨((e13 0 (by omega)).trans hV12), (fun q => by exfalso; omega), (fun q => by exfalso; omega), fun _ => c13, (fun q => by exfalso; omega), by omega⟩, hC13⟩)
            · skip
              refine tw_pk (fun h30_121 => ?_) (fun h30_121 => ?_)
              · refine tw_aload k43_88 rfl ?_
                refine tw_dupr k43_89 ?_
                refine tw_geti k43_90 f96_4 rfl (v := ((p : Nat) : Int)) ((show (mj_u M q 0 (tx p)) 96 4 = _ by rw [mu_c, if_neg (by omega)]; exact hat)) ?_
                refine tw_const k43_93 ?_
                refine tw_iadd k43_94 (v := ((p + 1 : Nat) : Int)) rfl (by omega) ?_
                refine tw_puti (M := (mj_u M q 0 (tx p))) (N := N) (l := []) (l' := [(96, (pU ((mj_u M q 0 (tx p)) 96) 4 ((p + 1 : Nat) : Int)))]) k43_95 f96_4 rfl ?_
                obtain ⟨M14, hM14⟩ : ∃ X : Nat → Nat → Int, X = st (mj_u M q 0 (tx p)) [(96, (pU ((mj_u M q 0 (tx p)) 96) 4 ((p + 1 : Nat) : Int)))] := ⟨_, rfl⟩
                refine tw_as (M := M14) (N := N) hM14.symm rfl ?_
                have hA14 : M14 96 4 = ((p + 1 : Nat) : Int) := by rw [hM14, st_c, if_pos rfl, pU_eq]
                have hB14 : ∀ j, j ≠ 4 → M14 96 j = M 96 j := fun j hj => by rw [hM14, st_c, if_pos rfl, pU_ne hj, mu_c, if_neg (by omega)]
                have hC14 : ∀ x, x ≠ 96 → x ≠ q → M14 x = M x := fun x h1 h2 => by rw [hM14, st_c, if_neg h1, st_nil, tu_row h2]
                have hV14 : M14 q 0 = tx p := by rw [hM14, st_c, if_neg (by omega), st_nil, mu_c, if_pos ⟨rfl, rfl⟩]
                refine tw_aload k43_98 rfl ?_
                refine tw_aload k43_99 rfl ?_
                refine tw_const k43_100 ?_
                refine tw_const k43_101 ?_
                refine tw_call (by omega) (S' := []) (as := [.inr (.inr (.inl 96)), .inr (.inr (.inl q)), .inl (1 : Int), .inl (2 : Int)]) k43_102 (x_44 (M := M14) (N := N) (by omega) tx L ((hB14 3 (by omega)).trans hL) h100 (fun i hi => ⟨(congrFun (hC14 97 (by omega) (by omega)) i).trans (htx i hi).1, (htx i hi).2⟩) (p + 1) (by omega) (hA14) q hq 1 (by omega) 2 (by omega)) rfl rfl rfl rfl rfl (fun r102 Z102 hq102 => ?_)
                obtain ⟨rfl, M15, rfl, a15, b15, c15, e15, f15⟩ := hq102
                have hB15 : ∀ j, j ≠ 4 → M15 96 j = M 96 j := fun j hj => (b15 j hj).trans (hB14 j hj)
                have hC15 : ∀ x, x ≠ 96 → x ≠ q → M15 x = M x := fun x h1 h2 => (f15 x h1 h2).trans (hC14 x h1 h2)
                have hnp15 := nP_rg (tx := tx) (L := L) 2 (p + 1) (by omega)
                by_cases hnq15 : (nP tx L 2 (p + 1)) = (p + 1)
                · rw [if_pos hnq15]
                  refine tw_as (S := [.inl (0 : Int)]) (M := M15) (N := N) rfl rfl ?_
                  refine tw_zeqT k43_105 (by decide) ?_
                  refine tw_const k43_131 ?_
                  exact tw_rb k43_132 (by decide) (by have hcl : clR tx L p = (false, (p + 1)) := (by unfold clR; (repeat' split) <;> first | rfl | (exfalso; omega)); (try dsimp only); rw [hcl]; exact ⟨rfl, _, rfl, (a15.trans (congrArg Nat.cast hnq15)), hB15, fun h => absurd h (by simp), hC15⟩)
                · rw [if_neg hnq15]
                  refine tw_as (S := [.inl (1 : Int)]) (M := M15) (N := N) rfl rfl ?_
                  refine tw_zeqF k43_105 (by decide) ?_
                  refine tw_aload k43_108 rfl ?_
                  refine tw_const k43_109 ?_
                  refine tw_call (by omega) (S' := []) (as := [.inr (.inr (.inl 96)), .inl (44 : Int)]) k43_111 (x_45 (M := M15) (N := N) tx L ((hB15 3 (by omega)).trans hL) h100 (fun i hi => ⟨(congrFun (hC15 97 (by omega) (by omega)) i).trans (htx i hi).1, (htx i hi).2⟩) (nP tx L 2 (p + 1)) (by omega) (a15) 44) rfl rfl rfl rfl rfl (fun r111 Z111 hq111 => ?_)
                  obtain ⟨rfl, M16, rfl, a16, b16, f16⟩ := hq111
                  have hB16 : ∀ j, j ≠ 4 → M16 96 j = M 96 j := fun j hj => (b16 j hj).trans (hB15 j hj)
                  have hC16 : ∀ x, x ≠ 96 → x ≠ q → M16 x = M x := fun x h1 h2 => (f16 x h1).trans (hC15 x h1 h2)
                  by_cases hcm16 : (nP tx L 2 (p + 1)) < L ∧ tx (nP tx L 2 (p + 1)) = 44
                  · rw [if_pos hcm16]
                    refine tw_as (S := [.inl (1 : Int)]) (M := M16) (N := N) rfl rfl ?_
                    refine tw_zeqF k43_114 (by decide) ?_
                    refine tw_aload k43_117 rfl ?_
                    refine tw_aload k43_118 rfl ?_
                    refine tw_const k43_119 ?_
                    refine tw_const k43_120 ?_
                    refine tw_call (by omega) (S' := []) (as := [.inr (.inr (.inl 96)), .inr (.inr (.inl q)), .inl (2 : Int), .inl (2 : Int)]) k43_121 (x_44 (M := M16) (N := N) (by omega) tx L ((hB16 3 (by omega)).trans hL) h100 (fun i hi => ⟨(congrFun (hC16 97 (by omega) (by omega)) i).trans (htx i hi).1, (htx i hi).2⟩) ((nP tx L 2 (p + 1)) + 1) (by omega) ((a16.trans (if_pos hcm16))) q hq 2 (by omega) 2 (by omega)) rfl rfl rfl rfl rfl (fun r121 Z121 hq121 => ?_)
                    obtain ⟨rfl, M17, rfl, a17, b17, c17, e17, f17⟩ := hq121
                    have hB17 : ∀ j, j ≠ 4 → M17 96 j = M 96 j := fun j hj => (b17 j hj).trans (hB16 j hj)
                    have hC17 : ∀ x, x ≠ 96 → x ≠ q → M17 x = M x := fun x h1 h2 => (f17 x h1 h2).trans (hC16 x h1 h2)
                    have hnp17 := nP_rg (tx := tx) (L := L) 2 ((nP tx L 2 (p + 1)) + 1) (by omega)
                    by_cases hnq17 : (nP tx L 2 ((nP tx L 2 (p + 1)) + 1)) = ((nP tx L 2 (p + 1)) + 1)
                    · rw [if_pos hnq17]
                      refine tw_as (S := [.inl (0 : Int)]) (M := M17) (N := N) rfl rfl ?_
                      refine tw_zeqT k43_124 (by decide) ?_
                      refine tw_const k43_131 ?_
                      exact tw_rb k43_132 (by decide) (by have hcl : clR tx L p = (false, ((nP tx L 2 (p + 1)) + 1)) := (by unfold clR; (repeat' split) <;> first | rfl | (exfalso; omega)); (try dsimp only); rw [hcl]; exact ⟨rfl, _, rfl, (a17.trans (congrArg Nat.cast hnq17)), hB17, fun h => absurd h (by simp), hC17⟩)
                    · rw [if_neg hnq17]
                      refine tw_as (S := [.inl (1 : Int)]) (M := M17) (N := N) rfl rfl ?_
                      refine tw_zeqF k43_124 (by decide) ?_
                      refine tw_const k43_127 ?_
                      refine tw_goto k43_128 ?_
                      exact tw_rb k43_132 (by decide) (by have hcl : clR tx L p = (true, (nP tx L 2 ((nP tx L 2 (p + 1)) + 1))) := (by unfold clR; (repeat' split) <;> first | rfl | (exfalso; omega)); (try dsimp only); rw [hcl]; exact ⟨rfl, _, rfl, a17, hB17, fun _ => ⟨((e17 0 (by omega)).trans ((congrFun (f16 q (by omega)) 0).trans ((e15 0 (by omega)).trans hV14))), fun _ => ⟨((e17 1 (by omega)).trans ((congrFun (f16 q (by omega)) 1).trans c15)), c17⟩, (fun q => by exfalso; omega), (fun q => by exfalso; omega), (fun q => by exfalso; omega), by omega⟩, hC17⟩)
                  · rw [if_neg hcm16]
                    refine tw_as (S := [.inl (0 : Int)]) (M := M16) (N := N) rfl rfl ?_
                    refine tw_zeqT k43_114 (by decide) ?_
                    refine tw_const k43_131 ?_
                    exact tw_rb k43_132 (by decide) (by have hcl : clR tx L p = (false, (nP tx L 2 (p + 1))) := (by unfold clR; (repeat' split) <;> first | rfl | (exfalso; omega)); (try dsimp only); rw [hcl]; exact ⟨rfl, _, rfl, (a16.trans (if_neg hcm16)), hB16, fun h => absurd h (by simp), hC16⟩)
              · skip
                refine tw_pk0 ?_
                refine tw_const k43_224 ?_
                exact tw_rb k43_225 (by decide) (by have hcl : clR tx L p = (false, p) := (by unfold clR; (repeat' split) <;> first | rfl | (exfalso; omega)); (try dsimp only); rw [hcl]; exact ⟨rfl, _, rfl, (show (mj_u M q 0 (tx p)) 96 4 = _ by rw [mu_c, if_neg (by omega)]; exact hat), (fun j hj => by rw [mu_c, if_neg (by omega)]), fun h => absurd h (by simp), (fun x h1 h2 => by rw [tu_row h2])⟩)
theorem x_42 {K : mj_C} {d : Nat} {M : Nat → Nat → Int} {N : Nat → Nat → Int64} (hD : 3 ≤ d) (hK : kOk K) (s : Nat → Int) (hV : pVI s) (hS : cSV 2 M s) (tx : Nat → Int) (L p q : Nat) (hq : 99 ≤ q ∧ q ≤ 112) (hv : rdW tx L p (M q 0) (M q 1) (M q 2) (M q 3)) : mj_X K d 42 [.inr (.inr (.inl 2)), .inr (.inr (.inl q))] (mj_Sh, M, N) (fun r Z => r = some (.inl (apQ tx L s p)) ∧ ∃ M1, Z = (mj_Sh, M1, N) ∧ cSV 2 M1 (apS tx L s p) ∧ ∀ c, c < 2 ∨ 8 < c → M1 c = M c) := by
  show mj_T K d 42 0 [some (.inr (.inr (.inl 2))), some (.inr (.inr (.inl q)))] [] (mj_Sh, M, N) _
  obtain ⟨e0, ey, em, ef, el, eo⟩ := hv
  by_cases hc : tx p = 121
  · refine tw_aload k42_0 rfl ?_
    refine tw_const k42_1 ?_
    refine tw_iald (j := 0) (v := (121 : Int)) k42_2 (alC hq) rfl (by decide) (e0.trans hc) ?_
    refine tw_sw k42_3 ?_
    refine tw_pkF (by decide) ?_
    refine tw_pkF (by decide) ?_
    refine tw_pkF (by decide) ?_
    refine tw_pkF (by decide) ?_
    refine tw_pkT (by decide) ?_
    refine tw_aload k42_52 rfl ?_
    refine tw_aload k42_53 rfl ?_
    refine tw_const k42_54 ?_
    refine tw_iald (j := 1) (v := (nV tx L 2 (p + 1) 0)) k42_55 (alC hq) rfl (by decide) (ey hc).1 ?_
    refine tw_aload k42_56 rfl ?_
    refine tw_const k42_57 ?_
    refine tw_iald (j := 2) (v := (nV tx L 2 (nP tx L 2 (p + 1) + 1) 0)) k42_58 (alC hq) rfl (by decide) (ey hc).2 ?_
    refine tw_call (by omega) (S' := []) (as := [.inr (.inr (.inl 2)), .inl (nV tx L 2 (p + 1) 0), .inl (nV tx L 2 (nP tx L 2 (p + 1) + 1) 0)]) k42_59 (x_49 (M := M) (N := N) (by omega) hK s hV hS (nV tx L 2 (p + 1) 0) (nV tx L 2 (nP tx L 2 (p + 1) + 1) 0)) rfl rfl rfl rfl rfl (fun r59 Z59 hq59 => ?_)
    obtain ⟨rfl, M2, rfl, hb1, hb2⟩ := hq59
    refine tw_as (S := [.inl (qYear s (nV tx L 2 (p + 1) 0) (nV tx L 2 (nP tx L 2 (p + 1) + 1) 0))]) (M := M2) (N := N) rfl rfl ?_
    exact tw_ri k42_62 (⟨by unfold apQ; rw [if_pos hc], M2, rfl, by unfold apS; rw [if_pos hc]; exact hb1, hb2⟩)
  · by_cases hc : tx p = 109
    · refine tw_aload k42_0 rfl ?_
      refine tw_const k42_1 ?_
      refine tw_iald (j := 0) (v := (109 : Int)) k42_2 (alC hq) rfl (by decide) (e0.trans hc) ?_
      refine tw_sw k42_3 ?_
      refine tw_pkF (by decide) ?_
      refine tw_pkF (by decide) ?_
      refine tw_pkT (by decide) ?_
      refine tw_aload k42_63 rfl ?_
      refine tw_aload k42_64 rfl ?_
      refine tw_const k42_65 ?_
      refine tw_iald (j := 1) (v := (nV tx L 1 (p + 1) 0)) k42_66 (alC hq) rfl (by decide) (em hc).1 ?_
      refine tw_aload k42_67 rfl ?_
      refine tw_const k42_68 ?_
      refine tw_iald (j := 2) (v := (nV tx L 2 (nP tx L 1 (p + 1)) 0)) k42_69 (alC hq) rfl (by decide) (em hc).2.1 ?_
      refine tw_aload k42_70 rfl ?_
      refine tw_const k42_71 ?_
      refine tw_iald (j := 3) (v := (nV tx L 1 (nP tx L 2 (nP tx L 1 (p + 1)) + 1) 0)) k42_72 (alC hq) rfl (by decide) (em hc).2.2 ?_
      refine tw_call (by omega) (S' := []) (as := [.inr (.inr (.inl 2)), .inl (nV tx L 1 (p + 1) 0), .inl (nV tx L 2 (nP tx L 1 (p + 1)) 0), .inl (nV tx L 1 (nP tx L 2 (nP tx L 1 (p + 1)) + 1) 0)]) k42_73 (x_50 (M := M) (N := N) (by omega) hK s hV hS (nV tx L 1 (p + 1) 0) (nV tx L 2 (nP tx L 1 (p + 1)) 0) (nV tx L 1 (nP tx L 2 (nP tx L 1 (p + 1)) + 1) 0)) rfl rfl rfl rfl rfl (fun r73 Z73 hq73 => ?_)
      obtain ⟨rfl, M2, rfl, hb1, hb2⟩ := hq73
      refine tw_as (S := [.inl (qMeas s (nV tx L 1 (p + 1) 0) (nV tx L 2 (nP tx L 1 (p + 1)) 0) (nV tx L 1 (nP tx L 2 (nP tx L 1 (p + 1)) + 1) 0))]) (M := M2) (N := N) rfl rfl ?_
      exact tw_ri k42_76 (⟨by unfold apQ; rw [if_neg (by omega), if_pos hc], M2, rfl, by unfold apS; rw [if_neg (by omega), if_pos hc]; exact hb1, hb2⟩)
    · by_cases hc : tx p = 102
      · refine tw_aload k42_0 rfl ?_
        refine tw_const k42_1 ?_
        refine tw_iald (j := 0) (v := (102 : Int)) k42_2 (alC hq) rfl (by decide) (e0.trans hc) ?_
        refine tw_sw k42_3 ?_
        refine tw_pkF (by decide) ?_
        refine tw_pkT (by decide) ?_
        refine tw_aload k42_77 rfl ?_
        refine tw_const k42_78 ?_
        refine tw_aload k42_79 rfl ?_
        refine tw_const k42_80 ?_
        refine tw_iald (j := 1) (v := (nV tx L 2 (p + 1) 0)) k42_81 (alC hq) rfl (by decide) (ef (by omega)) ?_
        refine tw_call (by omega) (S' := []) (as := [.inr (.inr (.inl 2)), .inl (0 : Int), .inl (nV tx L 2 (p + 1) 0)]) k42_82 (x_52 (M := M) (N := N) (by omega) hK s hV hS (0 : Int) (nV tx L 2 (p + 1) 0)) rfl rfl rfl rfl rfl (fun r82 Z82 hq82 => ?_)
        obtain ⟨rfl, M2, rfl, hb1, hb2⟩ := hq82
        refine tw_as (S := [.inl (qSet s (0 : Int) (nV tx L 2 (p + 1) 0))]) (M := M2) (N := N) rfl rfl ?_
        exact tw_ri k42_85 (⟨by unfold apQ; rw [if_neg (by omega), if_neg (by omega), if_pos hc], M2, rfl, by unfold apS; rw [if_neg (by omega), if_neg (by omega), if_pos hc]; exact hb1, hb2⟩)
      · by_cases hc : tx p = 99
        · refine tw_aload k42_0 rfl ?_
          refine tw_const k42_1 ?_
          refine tw_iald (j := 0) (v := (99 : Int)) k42_2 (alC hq) rfl (by decide) (e0.trans hc) ?_
          refine tw_sw k42_3 ?_
          refine tw_pkT (by decide) ?_
          refine tw_aload k42_86 rfl ?_
          refine tw_const k42_87 ?_
          refine tw_aload k42_88 rfl ?_
          refine tw_const k42_89 ?_
          refine tw_iald (j := 1) (v := (nV tx L 2 (p + 1) 0)) k42_90 (alC hq) rfl (by decide) (ef (by omega)) ?_
          refine tw_call (by omega) (S' := []) (as := [.inr (.inr (.inl 2)), .inl (1 : Int), .inl (nV tx L 2 (p + 1) 0)]) k42_91 (x_52 (M := M) (N := N) (by omega) hK s hV hS (1 : Int) (nV tx L 2 (p + 1) 0)) rfl rfl rfl rfl rfl (fun r91 Z91 hq91 => ?_)
          obtain ⟨rfl, M2, rfl, hb1, hb2⟩ := hq91
          refine tw_as (S := [.inl (qSet s (1 : Int) (nV tx L 2 (p + 1) 0))]) (M := M2) (N := N) rfl rfl ?_
          exact tw_ri k42_94 (⟨by unfold apQ; rw [if_neg (by omega), if_neg (by omega), if_neg (by omega), if_pos hc], M2, rfl, by unfold apS; rw [if_neg (by omega), if_neg (by omega), if_neg (by omega), if_pos hc]; exact hb1, hb2⟩)
        · by_cases hc : tx p = 115
          · refine tw_aload k42_0 rfl ?_
            refine tw_const k42_1 ?_
            refine tw_iald (j := 0) (v := (115 : Int)) k42_2 (alC hq) rfl (by decide) (e0.trans hc) ?_
            refine tw_sw k42_3 ?_
            refine tw_pkF (by decide) ?_
            refine tw_pkF (by decide) ?_
            refine tw_pkF (by decide) ?_
            refine tw_pkT (by decide) ?_
            refine tw_aload k42_95 rfl ?_
            refine tw_const k42_96 ?_
            refine tw_aload k42_97 rfl ?_
            refine tw_const k42_98 ?_
            refine tw_iald (j := 1) (v := (nV tx L 2 (p + 1) 0)) k42_99 (alC hq) rfl (by decide) (ef (by omega)) ?_
            refine tw_call (by omega) (S' := []) (as := [.inr (.inr (.inl 2)), .inl (2 : Int), .inl (nV tx L 2 (p + 1) 0)]) k42_100 (x_52 (M := M) (N := N) (by omega) hK s hV hS (2 : Int) (nV tx L 2 (p + 1) 0)) rfl rfl rfl rfl rfl (fun r100 Z100 hq100 => ?_)
            obtain ⟨rfl, M2, rfl, hb1, hb2⟩ := hq100
            refine tw_as (S := [.inl (qSet s (2 : Int) (nV tx L 2 (p + 1) 0))]) (M := M2) (N := N) rfl rfl ?_
            exact tw_ri k42_103 (⟨by unfold apQ; rw [if_neg (by omega), if_neg (by omega), if_neg (by omega), if_neg (by omega), if_pos hc], M2, rfl, by unfold apS; rw [if_neg (by omega), if_neg (by omega), if_neg (by omega), if_neg (by omega), if_pos hc]; exact hb1, hb2⟩)
          · have hc : tx p = 108 := by omega
            refine tw_aload k42_0 rfl ?_
            refine tw_const k42_1 ?_
            refine tw_iald (j := 0) (v := (108 : Int)) k42_2 (alC hq) rfl (by decide) (e0.trans hc) ?_
            refine tw_sw k42_3 ?_
            refine tw_pkF (by decide) ?_
            refine tw_pkF (by decide) ?_
            refine tw_pkF (by decide) ?_
            refine tw_pkF (by decide) ?_
            refine tw_pkF (by decide) ?_
            refine tw_pk0 ?_
            refine tw_aload k42_104 rfl ?_
            refine tw_const k42_105 ?_
            refine tw_aload k42_106 rfl ?_
            refine tw_const k42_107 ?_
            refine tw_iald (j := 1) (v := (nV tx L 1 (p + 1) 0)) k42_108 (alC hq) rfl (by decide) (el hc) ?_
            refine tw_call (by omega) (S' := []) (as := [.inr (.inr (.inl 2)), .inl (3 : Int), .inl (nV tx L 1 (p + 1) 0)]) k42_109 (x_52 (M := M) (N := N) (by omega) hK s hV hS (3 : Int) (nV tx L 1 (p + 1) 0)) rfl rfl rfl rfl rfl (fun r109 Z109 hq109 => ?_)
            obtain ⟨rfl, M2, rfl, hb1, hb2⟩ := hq109
            refine tw_as (S := [.inl (qSet s (3 : Int) (nV tx L 1 (p + 1) 0))]) (M := M2) (N := N) rfl rfl ?_
            exact tw_ri k42_112 (⟨by unfold apQ; rw [if_neg (by omega), if_neg (by omega), if_neg (by omega), if_neg (by omega), if_neg (by omega)], M2, rfl, by unfold apS; rw [if_neg (by omega), if_neg (by omega), if_neg (by omega), if_neg (by omega), if_neg (by omega)]; exact hb1, hb2⟩)
theorem x_41 {K : mj_C} {d : Nat} {M : Nat → Nat → Int} {N : Nat → Nat → Int64} (hD : 4 ≤ d) (hK : kOk K) (s : Nat → Int) (hV : pVI s) (hS : cSV 2 M s) (tx : Nat → Int) (L n : Nat) (hn : M 96 2 = (n : Int)) (hn14 : n ≤ 14) (hr : ∀ i, i < n → rdW tx L (stP tx L i) (M (99 + i) 0) (M (99 + i) 1) (M (99 + i) 2) (M (99 + i) 3)) : mj_X K d 41 [.inr (.inr (.inl 96)), .inr (.inr (.inl 2))] (mj_Sh, M, N) (fun r Z => r = some (.inl (rdC tx L s n)) ∧ ∃ M1, Z = (mj_Sh, M1, N) ∧ cSV 2 M1 (rdS tx L s n) ∧ ∀ c, c < 2 ∨ 8 < c → M1 c = M c) := by
  show mj_T K d 41 0 [some (.inr (.inr (.inl 96))), some (.inr (.inr (.inl 2))), none, none] [] (mj_Sh, M, N) _
  have key : ∀ i : Nat, i ≤ n → ∀ M1 : Nat → Nat → Int, cSV 2 M1 (rdS tx L s i) → (∀ c, c < 2 ∨ 8 < c → M1 c = M c) → mj_T K d 41 4 [some (.inr (.inr (.inl 96))), some (.inr (.inr (.inl 2))), some (.inl (rdC tx L s i)), some (.inl ((i : Nat) : Int))] [] (mj_Sh, M1, N) (fun r Z => r = some (.inl (rdC tx L s n)) ∧ ∃ M1, Z = (mj_Sh, M1, N) ∧ cSV 2 M1 (rdS tx L s n) ∧ ∀ c, c < 2 ∨ 8 < c → M1 c = M c) := by
    refine up_to n ?_ ?_
    · show ∀ M1 : Nat → Nat → Int, cSV 2 M1 (rdS tx L s n) → (∀ c, c < 2 ∨ 8 < c → M1 c = M c) → mj_T K d 41 4 [some (.inr (.inr (.inl 96))), some (.inr (.inr (.inl 2))), some (.inl (rdC tx L s n)), some (.inl ((n : Nat) : Int))] [] (mj_Sh, M1, N) (fun r Z => r = some (.inl (rdC tx L s n)) ∧ ∃ M1, Z = (mj_Sh, M1, N) ∧ cSV 2 M1 (rdS tx L s n) ∧ ∀ c, c < 2 ∨ 8 < c → M1 c = M c)
      intro M1 h1 h2
      refine tw_iload k41_4 rfl ?_
      refine tw_aload k41_5 rfl ?_
      refine tw_geti k41_6 f96_2 rfl (v := ((n : Nat) : Int)) (by rw [h2 _ (by omega)]; exact hn) ?_
      refine tw_cgeT k41_9 (by omega) ?_
      refine tw_iload k41_34 rfl ?_
      exact tw_ri k41_35 (⟨rfl, M1, rfl, h1, h2⟩)
    · intro i hmi ih
      have ih : ∀ M1 : Nat → Nat → Int, cSV 2 M1 (rdS tx L s (i + 1)) → (∀ c, c < 2 ∨ 8 < c → M1 c = M c) → mj_T K d 41 4 [some (.inr (.inr (.inl 96))), some (.inr (.inr (.inl 2))), some (.inl (rdC tx L s (i + 1))), some (.inl (((i + 1) : Nat) : Int))] [] (mj_Sh, M1, N) (fun r Z => r = some (.inl (rdC tx L s n)) ∧ ∃ M1, Z = (mj_Sh, M1, N) ∧ cSV 2 M1 (rdS tx L s n) ∧ ∀ c, c < 2 ∨ 8 < c → M1 c = M c) := ih
      show ∀ M1 : Nat → Nat → Int, cSV 2 M1 (rdS tx L s i) → (∀ c, c < 2 ∨ 8 < c → M1 c = M c) → mj_T K d 41 4 [some (.inr (.inr (.inl 96))), some (.inr (.inr (.inl 2))), some (.inl (rdC tx L s i)), some (.inl ((i : Nat) : Int))] [] (mj_Sh, M1, N) (fun r Z => r = some (.inl (rdC tx L s n)) ∧ ∃ M1, Z = (mj_Sh, M1, N) ∧ cSV 2 M1 (rdS tx L s n) ∧ ∀ c, c < 2 ∨ 8 < c → M1 c = M c)
      intro M1 h1 h2
      have hrc := rdC_rg (tx := tx) (L := L) (s := s) i
      refine tw_iload k41_4 rfl ?_
      refine tw_aload k41_5 rfl ?_
      refine tw_geti k41_6 f96_2 rfl (v := ((n : Nat) : Int)) (by rw [h2 _ (by omega)]; exact hn) ?_
      refine tw_cgeF k41_9 (by omega) ?_
      refine tw_aload k41_12 rfl ?_
      refine tw_aload k41_13 rfl ?_
      refine tw_getr k41_14 f96_1 ?_
      refine tw_iload k41_17 rfl ?_
      refine tw_aald (j := i) (u := (99 + i)) k41_18 rfl (rr98 (by omega)) ?_
      refine tw_call (by omega) (S' := []) (as := [.inr (.inr (.inl 2)), .inr (.inr (.inl (99 + i)))]) k41_19 (x_42 (M := M1) (N := N) (by omega) hK (rdS tx L s i) (rdS_VI hV i) h1 tx L (stP tx L i) (99 + i) (by omega) (by rw [h2 _ (by omega)]; exact hr i hmi)) rfl rfl rfl rfl rfl (fun r19 Z19 hq19 => ?_)
      obtain ⟨rfl, M2, rfl, hb1, hb2⟩ := hq19
      refine tw_as (S := [.inl (apQ tx L (rdS tx L s i) (stP tx L i))]) (M := M2) (N := N) rfl rfl ?_
      refine tw_zlt k41_22 (fun h22 => ?_) (fun h22 => ?_)
      · refine tw_iinc k41_28 rfl (v := ((i + 1 : Nat) : Int)) rfl (by omega) rfl (L' := [some (.inr (.inr (.inl 96))), some (.inr (.inr (.inl 2))), some (.inl (rdC tx L s i)), some (.inl ((i + 1 : Nat) : Int))]) rfl ?_
        refine tw_goto k41_31 ?_
        refine tw_eqL (L' := [some (.inr (.inr (.inl 96))), some (.inr (.inr (.inl 2))), some (.inl (rdC tx L s (i + 1))), some (.inl (((i + 1) : Nat) : Int))]) (e_c rfl (e_c rfl (e_c (e_i (by rw [rdC, if_neg (by omega)]; omega)) (e_c rfl rfl)))) ?_
        exact ih M2 hb1 (fun c hc => (hb2 c hc).trans (h2 c hc))
      · refine tw_iinc k41_25 rfl (v := ((rdC tx L s i) + (1 : Int))) rfl (by omega) rfl (L' := [some (.inr (.inr (.inl 96))), some (.inr (.inr (.inl 2))), some (.inl ((rdC tx L s i) + (1 : Int))), some (.inl ((i : Nat) : Int))]) rfl ?_
        refine tw_iinc k41_28 rfl (v := ((i + 1 : Nat) : Int)) rfl (by omega) rfl (L' := [some (.inr (.inr (.inl 96))), some (.inr (.inr (.inl 2))), some (.inl ((rdC tx L s i) + (1 : Int))), some (.inl ((i + 1 : Nat) : Int))]) rfl ?_
        refine tw_goto k41_31 ?_
        refine tw_eqL (L' := [some (.inr (.inr (.inl 96))), some (.inr (.inr (.inl 2))), some (.inl (rdC tx L s (i + 1))), some (.inl (((i + 1) : Nat) : Int))]) (e_c rfl (e_c rfl (e_c (e_i (by rw [rdC, if_pos (by omega)])) (e_c rfl rfl)))) ?_
        exact ih M2 hb1 (fun c hc => (hb2 c hc).trans (h2 c hc))
  refine tw_const k41_0 ?_
  refine tw_istore k41_1 rfl (L' := [some (.inr (.inr (.inl 96))), some (.inr (.inr (.inl 2))), some (.inl (0 : Int)), none]) rfl ?_
  refine tw_const k41_2 ?_
  refine tw_istore k41_3 rfl (L' := [some (.inr (.inr (.inl 96))), some (.inr (.inr (.inl 2))), some (.inl (0 : Int)), some (.inl (0 : Int))]) rfl ?_
  refine tw_eqL (L' := [some (.inr (.inr (.inl 96))), some (.inr (.inr (.inl 2))), some (.inl (rdC tx L s 0)), some (.inl ((0 : Nat) : Int))]) (e_c rfl (e_c rfl (e_c (e_i rfl) (e_c (e_i rfl) rfl)))) ?_
  exact key 0 (by omega) _ hS (fun c _ => rfl)
