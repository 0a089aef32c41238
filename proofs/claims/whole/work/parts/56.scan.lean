-- the class: scan
theorem x_40 {K : mj_C} {d : Nat} {M : Nat → Nat → Int} {N : Nat → Nat → Int64} (hD : 3 ≤ d) (tx : Nat → Int) (L : Nat) (hL : M 96 3 = (L : Int)) (h100 : L ≤ 100) (htx : ∀ i, i < L → M 97 i = tx i ∧ 0 ≤ tx i ∧ tx i ≤ 127) : mj_X K d 40 [.inr (.inr (.inl 96))] (mj_Sh, M, N) (fun r Z => r = some (.inl (if (scT tx L).1 = true then 1 else 0)) ∧ ∃ M1, Z = (mj_Sh, M1, N) ∧ M1 96 4 = ((scT tx L).2.1 : Int) ∧ ((scT tx L).1 = true → M1 96 2 = ((scT tx L).2.2 : Int) ∧ (scT tx L).2.2 ≤ 14 ∧ (∀ i, i < (scT tx L).2.2 → rdW tx L (stP tx L i) (M1 (99 + i) 0) (M1 (99 + i) 1) (M1 (99 + i) 2) (M1 (99 + i) 3))) ∧ M1 96 3 = (L : Int) ∧ (∀ x, x ≠ 96 → ¬ (99 ≤ x ∧ x ≤ 112) → M1 x = M x)) := by
  show mj_T K d 40 0 [some (.inr (.inr (.inl 96))), none] [] (mj_Sh, M, N) _
  have key : ∀ j k : Nat, k + j = 13 → ∀ (M2 : Nat → Nat → Int) (q : Nat), q < L → q = (clR tx L (stP tx L k)).2 → M2 96 4 = (q : Int) → M2 96 3 = (L : Int) → M2 96 2 = ((k + 1 : Nat) : Int) → (∀ i, i < k + 1 → rdW tx L (stP tx L i) (M2 (99 + i) 0) (M2 (99 + i) 1) (M2 (99 + i) 2) (M2 (99 + i) 3)) → (∀ x, x ≠ 96 → ¬ (99 ≤ x ∧ x ≤ 112) → M2 x = M x) → (if 14 - (k + 1) ≠ 0 ∧ tx q = 59 then scR tx L (14 - (k + 1)) (k + 1) else (false, q, k + 1)) = scT tx L → mj_T K d 40 12 [some (.inr (.inr (.inl 96))), some (.inl (((k + 1) : Nat) : Int))] [] (mj_Sh, M2, N) (fun r Z => r = some (.inl (if (scT tx L).1 = true then 1 else 0)) ∧ ∃ M1, Z = (mj_Sh, M1, N) ∧ M1 96 4 = ((scT tx L).2.1 : Int) ∧ ((scT tx L).1 = true → M1 96 2 = ((scT tx L).2.2 : Int) ∧ (scT tx L).2.2 ≤ 14 ∧ (∀ i, i < (scT tx L).2.2 → rdW tx L (stP tx L i) (M1 (99 + i) 0) (M1 (99 + i) 1) (M1 (99 + i) 2) (M1 (99 + i) 3))) ∧ M1 96 3 = (L : Int) ∧ (∀ x, x ≠ 96 → ¬ (99 ≤ x ∧ x ≤ 112) → M1 x = M x)) := by
    intro j
    induction j with
    | zero =>
      intro k hk13
      have hk13 : k = 13 := by omega
      subst hk13
      intro M2 q hlt hq hA hL2 hc hrd hfr hsc
      rw [if_neg (by omega)] at hsc
      refine tw_iload k40_12 rfl ?_
      refine tw_const k40_13 ?_
      refine tw_cgeT k40_15 (by omega) ?_
      refine tw_const k40_77 ?_
      exact tw_rb k40_78 (by decide) (⟨by rw [← hsc]; rfl, M2, rfl, by rw [← hsc]; exact hA, fun h => by rw [← hsc] at h; exact absurd h (by simp), hL2, hfr⟩)
    | succ j ihj =>
      intro k0 hk13
      intro M2 q hlt hq hA hL2 hc hrd hfr hsc
      obtain ⟨k, hke⟩ : ∃ k, k = k0 + 1 := ⟨_, rfl⟩
      rw [← hke]
      rw [← hke] at hc hrd hsc
      refine tw_iload k40_12 rfl ?_
      refine tw_const k40_13 ?_
      refine tw_cgeF k40_15 (by omega) ?_
      refine tw_iload k40_18 rfl ?_
      refine tw_zleF k40_19 (by omega) ?_
      refine tw_aload k40_22 rfl ?_
      refine tw_const k40_23 ?_
      refine tw_call (by omega) (S' := []) (as := [.inr (.inr (.inl 96)), .inl (59 : Int)]) k40_25 (x_45 (M := M2) (N := N) tx L hL2 h100 (fun i hi => ⟨(congrFun (hfr 97 (by omega) (by omega)) i).trans (htx i hi).1, (htx i hi).2⟩) q (by omega) hA 59) rfl rfl rfl rfl rfl (fun r9 Z9 hq9 => ?_)
      obtain ⟨rfl, M3, rfl, a3, b3, f3⟩ := hq9
      have hfr3 : (∀ x, x ≠ 96 → ¬ (99 ≤ x ∧ x ≤ 112) → M3 x = M x) := fun x h1 h2 => (f3 x h1).trans (hfr x h1 h2)
      have hL3 : M3 96 3 = (L : Int) := (b3 3 (by omega)).trans hL2
      have hc3 : M3 96 2 = ((k : Nat) : Int) := (b3 2 (by omega)).trans hc
      have hrd3 : (∀ i, i < k → rdW tx L (stP tx L i) (M3 (99 + i) 0) (M3 (99 + i) 1) (M3 (99 + i) 2) (M3 (99 + i) 3)) := fun i hi => by rw [f3 _ (by omega)]; exact hrd i hi
      by_cases h59 : tx q = 59
      · rw [if_pos ⟨hlt, h59⟩]
        rw [if_pos ⟨hlt, h59⟩] at a3
        have hstk : stP tx L k = q + 1 := by rw [hke, stP, ← hq]
        have a4 : M3 96 4 = ((stP tx L k : Nat) : Int) := by rw [hstk]; exact a3
        have hst : stP tx L k ≤ L := by rw [hstk]; exact hlt
        rw [if_pos ⟨by omega, h59⟩] at hsc
        clear hq hlt
        have hsc := hsc
        rw [show 14 - k = (14 - (k + 1)) + 1 by omega, scR] at hsc
        have nxt : ∀ (M2 : Nat → Nat → Int) (q : Nat), q < L → q = (clR tx L (stP tx L k)).2 → M2 96 4 = (q : Int) → M2 96 3 = (L : Int) → M2 96 2 = ((k + 1 : Nat) : Int) → (∀ i, i < k + 1 → rdW tx L (stP tx L i) (M2 (99 + i) 0) (M2 (99 + i) 1) (M2 (99 + i) 2) (M2 (99 + i) 3)) → (∀ x, x ≠ 96 → ¬ (99 ≤ x ∧ x ≤ 112) → M2 x = M x) → (if 14 - (k + 1) ≠ 0 ∧ tx q = 59 then scR tx L (14 - (k + 1)) (k + 1) else (false, q, k + 1)) = scT tx L → mj_T K d 40 12 [some (.inr (.inr (.inl 96))), some (.inl (((k + 1) : Nat) : Int))] [] (mj_Sh, M2, N) (fun r Z => r = some (.inl (if (scT tx L).1 = true then 1 else 0)) ∧ ∃ M1, Z = (mj_Sh, M1, N) ∧ M1 96 4 = ((scT tx L).2.1 : Int) ∧ ((scT tx L).1 = true → M1 96 2 = ((scT tx L).2.2 : Int) ∧ (scT tx L).2.2 ≤ 14 ∧ (∀ i, i < (scT tx L).2.2 → rdW tx L (stP tx L i) (M1 (99 + i) 0) (M1 (99 + i) 1) (M1 (99 + i) 2) (M1 (99 + i) 3))) ∧ M1 96 3 = (L : Int) ∧ (∀ x, x ≠ 96 → ¬ (99 ≤ x ∧ x ≤ 112) → M1 x = M x)) := ihj k (by omega)
        refine tw_as (S := [.inl (1 : Int)]) (M := M3) (N := N) rfl rfl ?_
        refine tw_zneT k40_28 (by decide) ?_
        refine tw_aload k40_33 rfl ?_
        refine tw_aload k40_34 rfl ?_
        refine tw_getr k40_35 f96_1 ?_
        refine tw_iload k40_38 rfl ?_
        refine tw_aald (j := k) (u := (99 + k)) k40_39 rfl (rr98 (by omega)) ?_
        refine tw_call (by omega) (S' := []) (as := [.inr (.inr (.inl 96)), .inr (.inr (.inl (99 + k)))]) k40_40 (x_43 (M := M3) (N := N) (by omega) tx L (hL3) h100 (fun i hi => ⟨(congrFun ((fun x h1 h2 => hfr3 x h1 h2) 97 (by omega) (by omega)) i).trans (htx i hi).1, (htx i hi).2⟩) (stP tx L k) hst (a4) (99 + k) (by omega)) rfl rfl rfl rfl rfl (fun r40 Z40 hq40 => ?_)
        obtain ⟨rfl, M1, rfl, a1, b1, w1, f1⟩ := hq40
        have hcr := clR_rg (tx := tx) hst
        obtain ⟨q, hq⟩ : ∃ q, q = (clR tx L (stP tx L k)).2 := ⟨_, rfl⟩
        rw [← hq] at a1 hcr
        have hLk : M1 96 3 = (L : Int) := (b1 3 (by omega)).trans (hL3)
        have hck : M1 96 2 = (((k : Nat) : Int) : Int) := (b1 2 (by omega)).trans (hc3)
        have hfr : (∀ x, x ≠ 96 → ¬ (99 ≤ x ∧ x ≤ 112) → M1 x = M x) := fun x h1 h2 => (f1 x h1 (by omega)).trans (hfr3 x h1 h2)
        by_cases hk : (clR tx L (stP tx L k)).1 = true
        · rw [if_pos hk]
          rw [if_pos hk, ← hq] at hsc
          have hrd3 : (∀ i, i < (k + 1) → rdW tx L (stP tx L i) (M1 (99 + i) 0) (M1 (99 + i) 1) (M1 (99 + i) 2) (M1 (99 + i) 3)) := fun i hi => by
            by_cases e : i = k
            · subst e; exact w1 hk
            · rw [f1 _ (by omega) (by omega)]; exact hrd3 i (by omega)
          by_cases hlt : q < L
          · rw [if_pos hlt] at hsc
            refine tw_as (S := [.inl (1 : Int)]) (M := M1) (N := N) rfl rfl ?_
            refine tw_zneT k40_43 (by decide) ?_
            refine tw_aload k40_48 rfl ?_
            refine tw_dupr k40_49 ?_
            refine tw_geti k40_50 f96_2 rfl (v := ((k : Nat) : Int)) (hck) ?_
            refine tw_const k40_53 ?_
            refine tw_iadd k40_54 (v := ((k + 1 : Nat) : Int)) rfl (by omega) ?_
            refine tw_puti (M := M1) (N := N) (l := []) (l' := [(96, (pU (M1 96) 2 ((k + 1 : Nat) : Int)))]) k40_55 f96_2 rfl ?_
            refine tw_aload k40_58 rfl ?_
            refine tw_geti k40_59 f96_4 rfl (v := ((q : Nat) : Int)) (show (pU (M1 96) 2 ((k + 1 : Nat) : Int)) 4 = _ from (by rw [pU_ne (by omega)]; exact a1)) ?_
            refine tw_aload k40_62 rfl ?_
            refine tw_geti k40_63 f96_3 rfl (v := ((L : Nat) : Int)) (show (pU (M1 96) 2 ((k + 1 : Nat) : Int)) 3 = _ from (by rw [pU_ne (by omega)]; exact hLk)) ?_
            refine tw_cltT k40_66 (by omega) ?_
            refine tw_iinc k40_71 rfl (v := ((k + 1 : Nat) : Int)) rfl (by omega) rfl (L' := [some (.inr (.inr (.inl 96))), some (.inl ((k + 1 : Nat) : Int))]) rfl ?_
            refine tw_goto k40_74 ?_
            exact nxt (st M1 [(96, (pU (M1 96) 2 ((k + 1 : Nat) : Int)))]) q hlt hq (by rw [st_c, if_pos rfl, pU_ne (by omega)]; exact a1) (by rw [st_c, if_pos rfl, pU_ne (by omega)]; exact hLk) (by rw [st_c, if_pos rfl, pU_eq]) (fun i hi => by rw [st_c, if_neg (by omega), st_nil]; exact hrd3 i hi) (fun x h1 h2 => by rw [st_c, if_neg h1, st_nil]; exact hfr x h1 h2) hsc
          · rw [if_neg hlt] at hsc
            have hE : scT tx L = (true, q, k + 1) := hsc.symm
            refine tw_as (S := [.inl (1 : Int)]) (M := M1) (N := N) rfl rfl ?_
            refine tw_zneT k40_43 (by decide) ?_
            refine tw_aload k40_48 rfl ?_
            refine tw_dupr k40_49 ?_
            refine tw_geti k40_50 f96_2 rfl (v := ((k : Nat) : Int)) (hck) ?_
            refine tw_const k40_53 ?_
            refine tw_iadd k40_54 (v := ((k + 1 : Nat) : Int)) rfl (by omega) ?_
            refine tw_puti (M := M1) (N := N) (l := []) (l' := [(96, (pU (M1 96) 2 ((k + 1 : Nat) : Int)))]) k40_55 f96_2 rfl ?_
            refine tw_aload k40_58 rfl ?_
            refine tw_geti k40_59 f96_4 rfl (v := ((q : Nat) : Int)) (show (pU (M1 96) 2 ((k + 1 : Nat) : Int)) 4 = _ from (by rw [pU_ne (by omega)]; exact a1)) ?_
            refine tw_aload k40_62 rfl ?_
            refine tw_geti k40_63 f96_3 rfl (v := ((L : Nat) : Int)) (show (pU (M1 96) 2 ((k + 1 : Nat) : Int)) 3 = _ from (by rw [pU_ne (by omega)]; exact hLk)) ?_
            refine tw_cltF k40_66 (by omega) ?_
            refine tw_const k40_69 ?_
            exact tw_rb k40_70 (by decide) (⟨by rw [hE]; rfl, _, rfl, by rw [hE]; show pU (M1 96) 2 ((k + 1 : Nat) : Int) 4 = _; rw [pU_ne (by omega)]; exact a1, fun _ => by rw [hE]; exact ⟨(show pU (M1 96) 2 ((k + 1 : Nat) : Int) 2 = ((k + 1 : Nat) : Int) from pU_eq), by show k + 1 ≤ 14; omega, fun i hi => by rw [st_c, if_neg (by omega), st_nil]; exact hrd3 i hi⟩, by show pU (M1 96) 2 ((k + 1 : Nat) : Int) 3 = _; rw [pU_ne (by omega)]; exact hLk, fun x h1 h2 => by rw [st_c, if_neg h1, st_nil]; exact hfr x h1 h2⟩)
        · rw [if_neg hk]
          rw [if_neg hk, ← hq] at hsc
          have hE1 : scT tx L = (false, q, k) := hsc.symm
          refine tw_as (S := [.inl (0 : Int)]) (M := M1) (N := N) rfl rfl ?_
          refine tw_zneF k40_43 (by decide) ?_
          refine tw_const k40_46 ?_
          exact tw_rb k40_47 (by decide) (⟨by rw [hE1]; rfl, M1, rfl, by rw [hE1]; exact a1, fun h => by rw [hE1] at h; exact absurd h (by simp), hLk, hfr⟩)
      · rw [if_neg (fun h => h59 h.2)]
        rw [if_neg (fun h => h59 h.2)] at a3 hsc
        refine tw_as (S := [.inl (0 : Int)]) (M := M3) (N := N) rfl rfl ?_
        refine tw_zneF k40_28 (by decide) ?_
        refine tw_const k40_31 ?_
        exact tw_rb k40_32 (by decide) (⟨by rw [← hsc]; rfl, M3, rfl, by rw [← hsc]; exact a3, fun h => by rw [← hsc] at h; exact absurd h (by simp), hL3, hfr3⟩)
  refine tw_aload k40_0 rfl ?_
  refine tw_const k40_1 ?_
  refine tw_puti (M := M) (N := N) (l := []) (l' := [(96, (pU (M 96) 4 (0 : Int)))]) k40_2 f96_4 rfl ?_
  refine tw_aload k40_5 rfl ?_
  refine tw_const k40_6 ?_
  refine tw_puti (M := M) (N := N) (l := [(96, (pU (M 96) 4 (0 : Int)))]) (l' := [(96, (pU (pU (M 96) 4 (0 : Int)) 2 (0 : Int)))]) k40_7 f96_2 rfl ?_
  refine tw_const k40_10 ?_
  refine tw_istore k40_11 rfl (L' := [some (.inr (.inr (.inl 96))), some (.inl (0 : Int))]) rfl ?_
  obtain ⟨M0, hM0⟩ : ∃ X : Nat → Nat → Int, X = st M [(96, (pU (pU (M 96) 4 (0 : Int)) 2 (0 : Int)))] := ⟨_, rfl⟩
  refine tw_as (M := M0) (N := N) hM0.symm rfl ?_
  obtain ⟨k, hke⟩ : ∃ k : Nat, k = 0 := ⟨_, rfl⟩
  have hA0 : M0 96 4 = ((stP tx L k : Nat) : Int) := by rw [hM0, hke, st_c, if_pos rfl, pU_ne (by omega), pU_eq]; rfl
  have hL0 : M0 96 3 = (L : Int) := by rw [hM0, st_c, if_pos rfl, pU_ne (by omega), pU_ne (by omega)]; exact hL
  have hc0 : M0 96 2 = ((k : Nat) : Int) := by rw [hM0, hke, st_c, if_pos rfl, pU_eq]; rfl
  have hfr0 : (∀ x, x ≠ 96 → ¬ (99 ≤ x ∧ x ≤ 112) → M0 x = M x) := fun x h1 h2 => by rw [hM0, st_c, if_neg h1, st_nil]
  have hst : stP tx L k ≤ L := by rw [hke, stP]; omega
  have hrd0 : (∀ i, i < k → rdW tx L (stP tx L i) (M0 (99 + i) 0) (M0 (99 + i) 1) (M0 (99 + i) 2) (M0 (99 + i) 3)) := fun i hi => by omega
  have hsc : scR tx L (14 - k) k = scT tx L := by rw [hke]; rfl
  rw [show 14 - k = (14 - (k + 1)) + 1 by omega, scR] at hsc
  have nxt : ∀ (M2 : Nat → Nat → Int) (q : Nat), q < L → q = (clR tx L (stP tx L k)).2 → M2 96 4 = (q : Int) → M2 96 3 = (L : Int) → M2 96 2 = ((k + 1 : Nat) : Int) → (∀ i, i < k + 1 → rdW tx L (stP tx L i) (M2 (99 + i) 0) (M2 (99 + i) 1) (M2 (99 + i) 2) (M2 (99 + i) 3)) → (∀ x, x ≠ 96 → ¬ (99 ≤ x ∧ x ≤ 112) → M2 x = M x) → (if 14 - (k + 1) ≠ 0 ∧ tx q = 59 then scR tx L (14 - (k + 1)) (k + 1) else (false, q, k + 1)) = scT tx L → mj_T K d 40 12 [some (.inr (.inr (.inl 96))), some (.inl (((k + 1) : Nat) : Int))] [] (mj_Sh, M2, N) (fun r Z => r = some (.inl (if (scT tx L).1 = true then 1 else 0)) ∧ ∃ M1, Z = (mj_Sh, M1, N) ∧ M1 96 4 = ((scT tx L).2.1 : Int) ∧ ((scT tx L).1 = true → M1 96 2 = ((scT tx L).2.2 : Int) ∧ (scT tx L).2.2 ≤ 14 ∧ (∀ i, i < (scT tx L).2.2 → rdW tx L (stP tx L i) (M1 (99 + i) 0) (M1 (99 + i) 1) (M1 (99 + i) 2) (M1 (99 + i) 3))) ∧ M1 96 3 = (L : Int) ∧ (∀ x, x ≠ 96 → ¬ (99 ≤ x ∧ x ≤ 112) → M1 x = M x)) := key 13 k (by omega)
  refine tw_eqL (L' := [some (.inr (.inr (.inl 96))), some (.inl ((k : Nat) : Int))]) (e_c rfl (e_c (e_i (by rw [hke]; rfl)) rfl)) ?_
  refine tw_iload k40_12 rfl ?_
  refine tw_const k40_13 ?_
  refine tw_cgeF k40_15 (by omega) ?_
  refine tw_iload k40_18 rfl ?_
  refine tw_zleT k40_19 (by omega) ?_
  refine tw_aload k40_33 rfl ?_
  refine tw_aload k40_34 rfl ?_
  refine tw_getr k40_35 f96_1 ?_
  refine tw_iload k40_38 rfl ?_
  refine tw_aald (j := k) (u := (99 + k)) k40_39 rfl (rr98 (by omega)) ?_
  refine tw_call (by omega) (S' := []) (as := [.inr (.inr (.inl 96)), .inr (.inr (.inl (99 + k)))]) k40_40 (x_43 (M := M0) (N := N) (by omega) tx L (hL0) h100 (fun i hi => ⟨(congrFun ((fun x h1 h2 => hfr0 x h1 h2) 97 (by omega) (by omega)) i).trans (htx i hi).1, (htx i hi).2⟩) (stP tx L k) hst (hA0) (99 + k) (by omega)) rfl rfl rfl rfl rfl (fun r40 Z40 hq40 => ?_)
  obtain ⟨rfl, M2, rfl, a2, b2, w2, f2⟩ := hq40
  have hcr := clR_rg (tx := tx) hst
  obtain ⟨q, hq⟩ : ∃ q, q = (clR tx L (stP tx L k)).2 := ⟨_, rfl⟩
  rw [← hq] at a2 hcr
  have hLk : M2 96 3 = (L : Int) := (b2 3 (by omega)).trans (hL0)
  have hck : M2 96 2 = (((k : Nat) : Int) : Int) := (b2 2 (by omega)).trans (hc0)
  have hfr : (∀ x, x ≠ 96 → ¬ (99 ≤ x ∧ x ≤ 112) → M2 x = M x) := fun x h1 h2 => (f2 x h1 (by omega)).trans (hfr0 x h1 h2)
  by_cases hk : (clR tx L (stP tx L k)).1 = true
  · rw [if_pos hk]
    rw [if_pos hk, ← hq] at hsc
    have hrd3 : (∀ i, i < (k + 1) → rdW tx L (stP tx L i) (M2 (99 + i) 0) (M2 (99 + i) 1) (M2 (99 + i) 2) (M2 (99 + i) 3)) := fun i hi => by
      by_cases e : i = k
      · subst e; exact w2 hk
      · rw [f2 _ (by omega) (by omega)]; exact hrd0 i (by omega)
    by_cases hlt : q < L
    · rw [if_pos hlt] at hsc
      refine tw_as (S := [.inl (1 : Int)]) (M := M2) (N := N) rfl rfl ?_
      refine tw_zneT k40_43 (by decide) ?_
      refine tw_aload k40_48 rfl ?_
      refine tw_dupr k40_49 ?_
      refine tw_geti k40_50 f96_2 rfl (v := ((k : Nat) : Int)) (hck) ?_
      refine tw_const k40_53 ?_
      refine tw_iadd k40_54 (v := ((k + 1 : Nat) : Int)) rfl (by omega) ?_
      refine tw_puti (M := M2) (N := N) (l := []) (l' := [(96, (pU (M2 96) 2 ((k + 1 : Nat) : Int)))]) k40_55 f96_2 rfl ?_
      refine tw_aload k40_58 rfl ?_
      refine tw_geti k40_59 f96_4 rfl (v := ((q : Nat) : Int)) (show (pU (M2 96) 2 ((k + 1 : Nat) : Int)) 4 = _ from (by rw [pU_ne (by omega)]; exact a2)) ?_
      refine tw_aload k40_62 rfl ?_
      refine tw_geti k40_63 f96_3 rfl (v := ((L : Nat) : Int)) (show (pU (M2 96) 2 ((k + 1 : Nat) : Int)) 3 = _ from (by rw [pU_ne (by omega)]; exact hLk)) ?_
      refine tw_cltT k40_66 (by omega) ?_
      refine tw_iinc k40_71 rfl (v := ((k + 1 : Nat) : Int)) rfl (by omega) rfl (L' := [some (.inr (.inr (.inl 96))), some (.inl ((k + 1 : Nat) : Int))]) rfl ?_
      refine tw_goto k40_74 ?_
      exact nxt (st M2 [(96, (pU (M2 96) 2 ((k + 1 : Nat) : Int)))]) q hlt hq (by rw [st_c, if_pos rfl, pU_ne (by omega)]; exact a2) (by rw [st_c, if_pos rfl, pU_ne (by omega)]; exact hLk) (by rw [st_c, if_pos rfl, pU_eq]) (fun i hi => by rw [st_c, if_neg (by omega), st_nil]; exact hrd3 i hi) (fun x h1 h2 => by rw [st_c, if_neg h1, st_nil]; exact hfr x h1 h2) hsc
    · rw [if_neg hlt] at hsc
      have hE : scT tx L = (true, q, k + 1) := hsc.symm
      refine tw_as (S := [.inl (1 : Int)]) (M := M2) (N := N) rfl rfl ?_
      refine tw_zneT k40_43 (by decide) ?_
      refine tw_aload k40_48 rfl ?_
      refine tw_dupr k40_49 ?_
      refine tw_geti k40_50 f96_2 rfl (v := ((k : Nat) : Int)) (hck) ?_
      refine tw_const k40_53 ?_
      refine tw_iadd k40_54 (v := ((k + 1 : Nat) : Int)) rfl (by omega) ?_
      refine tw_puti (M := M2) (N := N) (l := []) (l' := [(96, (pU (M2 96) 2 ((k + 1 : Nat) : Int)))]) k40_55 f96_2 rfl ?_
      refine tw_aload k40_58 rfl ?_
      refine tw_geti k40_59 f96_4 rfl (v := ((q : Nat) : Int)) (show (pU (M2 96) 2 ((k + 1 : Nat) : Int)) 4 = _ from (by rw [pU_ne (by omega)]; exact a2)) ?_
      refine tw_aload k40_62 rfl ?_
      refine tw_geti k40_63 f96_3 rfl (v := ((L : Nat) : Int)) (show (pU (M2 96) 2 ((k + 1 : Nat) : Int)) 3 = _ from (by rw [pU_ne (by omega)]; exact hLk)) ?_
      refine tw_cltF k40_66 (by omega) ?_
      refine tw_const k40_69 ?_
      exact tw_rb k40_70 (by decide) (⟨by rw [hE]; rfl, _, rfl, by rw [hE]; show pU (M2 96) 2 ((k + 1 : Nat) : Int) 4 = _; rw [pU_ne (by omega)]; exact a2, fun _ => by rw [hE]; exact ⟨(show pU (M2 96) 2 ((k + 1 : Nat) : Int) 2 = ((k + 1 : Nat) : Int) from pU_eq), by show k + 1 ≤ 14; omega, fun i hi => by rw [st_c, if_neg (by omega), st_nil]; exact hrd3 i hi⟩, by show pU (M2 96) 2 ((k + 1 : Nat) : Int) 3 = _; rw [pU_ne (by omega)]; exact hLk, fun x h1 h2 => by rw [st_c, if_neg h1, st_nil]; exact hfr x h1 h2⟩)
  · rw [if_neg hk]
    rw [if_neg hk, ← hq] at hsc
    have hE1 : scT tx L = (false, q, k) := hsc.symm
    refine tw_as (S := [.inl (0 : Int)]) (M := M2) (N := N) rfl rfl ?_
    refine tw_zneF k40_43 (by decide) ?_
    refine tw_const k40_46 ?_
    exact tw_rb k40_47 (by decide) (⟨by rw [hE1]; rfl, M2, rfl, by rw [hE1]; exact a2, fun h => by rw [hE1] at h; exact absurd h (by simp), hLk, hfr⟩)
