-- the model: what is told (its calls that change a set-up)
theorem aList_sQ {s : Nat → Int} {c most : Nat} (hc : 46 ≤ c) (y p : Int) : sQ s (aList s c most y p) := by
  intro i hi
  unfold aList sList
  (repeat' split)
  · rw [pU_ne (by omega)]
  · rw [pU_ne (by omega), pU_ne (by omega), pU_ne (by omega)]
  · rfl
theorem aEvent_sQ {s : Nat → Int} (what n : Int) : sQ s (aEvent s what n) := by
  intro i hi
  unfold aEvent sEv
  (repeat' split)
  · rw [pU_ne (by omega)]
  · rw [pU_ne (by omega), pU_ne (by omega), pU_ne (by omega)]
  · rfl
theorem aList_46 {s : Nat → Int} (hs : pVI s) (y p : Int) : pVI (aList s 46 5 y p) := by
  have hq := aList_sQ (s := s) (c := 46) (most := 5) (by omega) y p
  obtain ⟨h1, h2, h3, h4, h5⟩ := hs
  have hy := h1.2.1
  refine ⟨pRg_cg hq h1, fun k hk => by rw [hq _ (by omega), hq _ (by omega)]; exact h2 k hk, ?_, ?_, ?_⟩
  · have e0 := hq 0 (by omega)
    unfold pLs at h3 ⊢
    rw [e0]
    unfold aList sList
    (repeat' split)
    · rw [pU_eq]
      exact ⟨by omega, by omega, fun i hi => by omega⟩
    · rename_i h6 h7
      obtain ⟨n, hn⟩ : ∃ n : Nat, n = (s 46).toNat := ⟨_, rfl⟩
      rw [← hn, pU_eq]
      refine ⟨by omega, by omega, fun i hi => ?_⟩
      by_cases e : i = n
      · subst e
        rw [pU_ne (by omega), pU_ne (by omega), pU_eq, pU_ne (by omega), pU_eq]
        obtain ⟨⟨a, b⟩, _⟩ := h7
        omega
      · rw [pU_ne (by omega), pU_ne (by omega), pU_ne (by omega), pU_ne (by omega), pU_ne (by omega), pU_ne (by omega)]
        exact h3.2.2 i (by omega)
    · exact h3
  · have e0 := hq 0 (by omega)
    have e : ∀ i, 74 ≤ i → aList s 46 5 y p i = s i := by
      intro i hi
      unfold aList sList
      have := h3.2.1
      have := h3.1
      (repeat' split)
      · rw [pU_ne (by omega)]
      · rw [pU_ne (by omega), pU_ne (by omega), pU_ne (by omega)]
      · rfl
    unfold pLs at h4 ⊢
    rw [e0, e _ (by omega)]
    exact ⟨h4.1, h4.2.1, fun i hi => by rw [e _ (by omega), e _ (by omega)]; exact h4.2.2 i hi⟩
  · have e0 := hq 0 (by omega)
    have e : ∀ i, 57 ≤ i → aList s 46 5 y p i = s i := by
      intro i hi
      unfold aList sList
      have := h3.2.1
      have := h3.1
      (repeat' split)
      · rw [pU_ne (by omega)]
      · rw [pU_ne (by omega), pU_ne (by omega), pU_ne (by omega)]
      · rfl
    unfold pEv at h5 ⊢
    rw [e0, e _ (by omega)]
    exact ⟨h5.1, h5.2.1, fun i hi => by rw [e _ (by omega), e _ (by omega)]; exact h5.2.2 i hi⟩
theorem aList_74 {s : Nat → Int} (hs : pVI s) (y p : Int) : pVI (aList s 74 8 y p) := by
  have hq := aList_sQ (s := s) (c := 74) (most := 8) (by omega) y p
  obtain ⟨h1, h2, h3, h4, h5⟩ := hs
  have hy := h1.2.1
  have e : ∀ i, i < 74 → aList s 74 8 y p i = s i := by
    intro i hi
    unfold aList sList
    (repeat' split)
    · rw [pU_ne (by omega)]
    · rw [pU_ne (by omega), pU_ne (by omega), pU_ne (by omega)]
    · rfl
  refine ⟨pRg_cg hq h1, fun k hk => by rw [hq _ (by omega), hq _ (by omega)]; exact h2 k hk, ?_, ?_, ?_⟩
  · have e0 := hq 0 (by omega)
    unfold pLs at h3 ⊢
    rw [e0, e _ (by omega)]
    exact ⟨h3.1, h3.2.1, fun i hi => by rw [e _ (by omega), e _ (by omega)]; exact h3.2.2 i hi⟩
  · have e0 := hq 0 (by omega)
    unfold pLs at h4 ⊢
    rw [e0]
    unfold aList sList
    (repeat' split)
    · rw [pU_eq]
      exact ⟨by omega, by omega, fun i hi => by omega⟩
    · rename_i h6 h7
      obtain ⟨n, hn⟩ : ∃ n : Nat, n = (s 74).toNat := ⟨_, rfl⟩
      rw [← hn, pU_eq]
      refine ⟨by omega, by omega, fun i hi => ?_⟩
      by_cases e : i = n
      · subst e
        rw [pU_ne (by omega), pU_ne (by omega), pU_eq, pU_ne (by omega), pU_eq]
        obtain ⟨⟨a, b⟩, _⟩ := h7
        omega
      · rw [pU_ne (by omega), pU_ne (by omega), pU_ne (by omega), pU_ne (by omega), pU_ne (by omega), pU_ne (by omega)]
        exact h4.2.2 i (by omega)
    · exact h4
  · have e0 := hq 0 (by omega)
    unfold pEv at h5 ⊢
    rw [e0, e _ (by omega)]
    exact ⟨h5.1, h5.2.1, fun i hi => by rw [e _ (by omega), e _ (by omega)]; exact h5.2.2 i hi⟩
theorem aEvent_VI {s : Nat → Int} (hs : pVI s) (what v : Int) : pVI (aEvent s what v) := by
  have hq := aEvent_sQ (s := s) what v
  obtain ⟨h1, h2, h3, h4, h5⟩ := hs
  have hy := h1.2.1
  have e : ∀ i, i < 57 ∨ 74 ≤ i → aEvent s what v i = s i := by
    intro i hi
    unfold aEvent sEv
    have := h5.1
    have := h5.2.1
    (repeat' split)
    · rw [pU_ne (by omega)]
    · rw [pU_ne (by omega), pU_ne (by omega), pU_ne (by omega)]
    · rfl
  have e0 := hq 0 (by omega)
  refine ⟨pRg_cg hq h1, fun k hk => by rw [hq _ (by omega), hq _ (by omega)]; exact h2 k hk, ?_, ?_, ?_⟩
  · unfold pLs at h3 ⊢
    rw [e0, e _ (by omega)]
    exact ⟨h3.1, h3.2.1, fun i hi => by rw [e _ (by omega), e _ (by omega)]; exact h3.2.2 i hi⟩
  · unfold pLs at h4 ⊢
    rw [e0, e _ (by omega)]
    exact ⟨h4.1, h4.2.1, fun i hi => by rw [e _ (by omega), e _ (by omega)]; exact h4.2.2 i hi⟩
  · unfold pEv at h5 ⊢
    rw [e0]
    unfold aEvent sEv
    (repeat' split)
    · rw [pU_eq]
      exact ⟨by omega, by omega, fun i hi => by omega⟩
    · rename_i h6 h7
      obtain ⟨n, hn⟩ : ∃ n : Nat, n = (s 57).toNat := ⟨_, rfl⟩
      rw [← hn, pU_eq]
      refine ⟨by omega, by omega, fun i hi => ?_⟩
      by_cases e : i = n
      · subst e
        rw [pU_ne (by omega), pU_ne (by omega), pU_eq, pU_ne (by omega), pU_eq]
        obtain ⟨⟨a1, a2⟩, a3, a4⟩ := h7
        unfold eOk at a3
        refine ⟨a1, a2, fun q => ?_, fun q => ?_⟩
        · have := a3 (by omega); rw [if_pos q] at this; exact this
        · have := a3 (by omega); rw [if_neg (by omega)] at this; exact this
      · rw [pU_ne (by omega), pU_ne (by omega), pU_ne (by omega), pU_ne (by omega), pU_ne (by omega), pU_ne (by omega)]
        exact h5.2.2 i (by omega)
    · exact h5
def mKp (M M1 : Nat → Nat → Int) : Prop := (∀ c, c < 126 ∨ c = 128 ∨ c = 129 ∨ c = 143 ∨ 144 ≤ c → M1 c = M c) ∧ ∀ j, j = 3 ∨ 23 ≤ j → M1 126 j = M 126 j
def mKq (M M1 : Nat → Nat → Int) : Prop := (∀ c, c < 126 ∨ c = 128 ∨ c = 143 ∨ 144 ≤ c → M1 c = M c) ∧ ∀ j, j = 3 ∨ 23 ≤ j → M1 126 j = M 126 j
theorem mKp_refl (M : Nat → Nat → Int) : mKp M M := ⟨fun _ _ => rfl, fun _ _ => rfl⟩
theorem mKq_refl (M : Nat → Nat → Int) : mKq M M := ⟨fun _ _ => rfl, fun _ _ => rfl⟩
theorem mKp_q {M M1 : Nat → Nat → Int} (h : mKp M M1) : mKq M M1 := ⟨fun c hc => h.1 c (by omega), h.2⟩
theorem mKp_tr {M M1 M2 : Nat → Nat → Int} (h : mKp M M1) (h2 : mKp M1 M2) : mKp M M2 := ⟨fun c hc => (h2.1 c hc).trans (h.1 c hc), fun j hj => (h2.2 j hj).trans (h.2 j hj)⟩
theorem mKq_tr {M M1 M2 : Nat → Nat → Int} (h : mKq M M1) (h2 : mKq M1 M2) : mKq M M2 := ⟨fun c hc => (h2.1 c hc).trans (h.1 c hc), fun j hj => (h2.2 j hj).trans (h.2 j hj)⟩
theorem mFr_p {M M1 : Nat → Nat → Int} (h : mFr M M1) : mKp M M1 := ⟨fun c hc => h.1 c (by omega), fun j hj => h.2 j (by omega)⟩
theorem mKp_s {M M1 : Nat → Nat → Int} {f : Nat → Int} (h : mKp (st M [(127, f)]) M1) : mKp M M1 := ⟨fun c hc => (h.1 c hc).trans (by rw [st_c, if_neg (by omega), st_nil]), fun j hj => h.2 j hj⟩
theorem mKp_s0 {M : Nat → Nat → Int} {f : Nat → Int} : mKp M (st M [(127, f)]) := ⟨fun c hc => by rw [st_c, if_neg (by omega), st_nil], fun j hj => rfl⟩
theorem wk1 {M M1 : Nat → Nat → Int} (hs : pRg (M 127)) (hw : mWk M1 (M 127) (wB (M 127)) (wG (M 127))) (hf : mFr M M1) : mW M1 ∧ M1 127 = M 127 := by
  have e := hf.1 127 (by omega)
  unfold mW
  rw [e]
  exact ⟨⟨hs, hw⟩, rfl⟩
theorem mW_sQ {M : Nat → Nat → Int} {f : Nat → Int} (hM : mW M) (h : sQ (M 127) f) : mW (st M [(127, f)]) := ⟨pRg_cg h hM.1, mWk_cg h hM.1 hM.2⟩
def pC (f g : Nat → Int) : Nat → Int := fun i => if i < 91 then f i else g i
theorem x_134 {K : mj_C} {d : Nat} {M : Nat → Nat → Int} {N : Nat → Nat → Int64} (hD : 7 ≤ d) (hV : pVI (M 127)) (hM : mW M) (cap em : Int) : mj_X K d 134 [.inr (.inr (.inl 126)), .inl cap, .inl em] (mj_Sh, M, N) (fun r Z => r = some (.inl (qYear (M 127) cap em)) ∧ ∃ M1, Z = (mj_Sh, M1, N) ∧ M1 127 = aYear (M 127) cap em ∧ mW M1 ∧ mKp M M1) := by
  show mj_T K d 134 0 [some (.inr (.inr (.inl 126))), some (.inl cap), some (.inl em)] [] (mj_Sh, M, N) _
  have hs := hV.1
  have h0 := hs.1 0 (by omega)
  have h5 := hs.2.1
  have h11 := hs.1 11 (by omega)
  have hc11 := hs.2.2.1
  obtain ⟨n, hn⟩ : ∃ n : Nat, n = (M 127 0).toNat := ⟨_, rfl⟩
  have hn0 : M 127 0 = (n : Int) := by omega
  refine tw_iload k134_0 rfl ?_
  refine tw_const k134_1 ?_
  refine tw_const k134_2 ?_
  refine tw_callb (by omega) (S' := []) (as := [.inl cap, .inl (0 : Int), .inl (20 : Int)]) k134_4 (x_112 cap (0 : Int) (20 : Int)) rfl rfl rfl rfl rfl (fun h4 => ?_) (fun h4 => ?_)
  · refine tw_zeqF k134_7 (by decide) ?_
    refine tw_iload k134_10 rfl ?_
    refine tw_const k134_11 ?_
    refine tw_const k134_12 ?_
    refine tw_callb (by omega) (S' := []) (as := [.inl em, .inl (0 : Int), .inl (40 : Int)]) k134_14 (x_112 em (0 : Int) (40 : Int)) rfl rfl rfl rfl rfl (fun h14 => ?_) (fun h14 => ?_)
    · refine tw_zneT k134_17 (by decide) ?_
      refine tw_aload k134_23 rfl ?_
      refine tw_getr k134_24 f126_0 ?_
      refine tw_const k134_27 ?_
      refine tw_iald (j := 0) (v := ((n : Nat) : Int)) k134_28 al127 rfl (by decide) hn0 ?_
      refine tw_const k134_29 ?_
      refine tw_cne k134_30 (fun h30 => ?_) (fun h30 => ?_)
      · have hVn := pVI_year hV (show yOk cap em from ⟨h4, h14⟩) (by omega)
        have hrow : sYear (M 127) cap em = (pU (pU (pU (M 127) (1 + n) cap) (6 + n) em) 0 ((n + 1 : Nat) : Int)) := by unfold sYear; rw [← hn]
        rw [hrow] at hVn
        refine tw_aload k134_36 rfl ?_
        refine tw_getr k134_37 f126_0 ?_
        refine tw_const k134_40 ?_
        refine tw_aload k134_41 rfl ?_
        refine tw_getr k134_42 f126_0 ?_
        refine tw_const k134_45 ?_
        refine tw_iald (j := 0) (v := ((n : Nat) : Int)) k134_46 al127 rfl (by decide) hn0 ?_
        refine tw_iadd k134_47 (v := ((1 + n : Nat) : Int)) rfl (by omega) ?_
        refine tw_iload k134_48 rfl ?_
        refine tw_iast (M := M) (N := N) (l := []) (l' := [(127, (pU (M 127) (1 + n) cap))]) (j := 1 + n) k134_49 al127 rfl (by omega) rfl ?_
        refine tw_aload k134_50 rfl ?_
        refine tw_getr k134_51 f126_0 ?_
        refine tw_const k134_54 ?_
        refine tw_aload k134_56 rfl ?_
        refine tw_getr k134_57 f126_0 ?_
        refine tw_const k134_60 ?_
        refine tw_iald (j := 0) (v := ((n : Nat) : Int)) k134_61 al127 rfl (by decide) (show (pU (M 127) (1 + n) cap) 0 = _ from (by rw [pU_ne (by omega)]; exact hn0)) ?_
        refine tw_iadd k134_62 (v := ((6 + n : Nat) : Int)) rfl (by omega) ?_
        refine tw_iload k134_63 rfl ?_
        refine tw_iast (M := M) (N := N) (l := [(127, (pU (M 127) (1 + n) cap))]) (l' := [(127, (pU (pU (M 127) (1 + n) cap) (6 + n) em))]) (j := 6 + n) k134_64 al127 rfl (by omega) rfl ?_
        refine tw_aload k134_65 rfl ?_
        refine tw_getr k134_66 f126_0 ?_
        refine tw_const k134_69 ?_
        refine tw_dup2 k134_70 ?_
        refine tw_iald (j := 0) (v := ((n : Nat) : Int)) k134_71 al127 rfl (by decide) (show (pU (pU (M 127) (1 + n) cap) (6 + n) em) 0 = _ from (by rw [pU_ne (by omega)]; rw [pU_ne (by omega)]; exact hn0)) ?_
        refine tw_const k134_72 ?_
        refine tw_iadd k134_73 (v := ((n + 1 : Nat) : Int)) rfl (by omega) ?_
        refine tw_iast (M := M) (N := N) (l := [(127, (pU (pU (M 127) (1 + n) cap) (6 + n) em))]) (l' := [(127, (pU (pU (pU (M 127) (1 + n) cap) (6 + n) em) 0 ((n + 1 : Nat) : Int)))]) (j := 0) k134_74 al127 rfl (by decide) rfl ?_
        refine tw_aload k134_75 rfl ?_
        refine tw_call (by omega) (S' := []) (as := [.inr (.inr (.inl 126))]) k134_76 (x_133 (M := (st M [(127, (pU (pU (pU (M 127) (1 + n) cap) (6 + n) em) 0 ((n + 1 : Nat) : Int)))])) (N := N) (by omega) hVn.1) rfl rfl rfl rfl rfl (fun r76 Z76 hq76 => ?_)
        obtain ⟨rfl, M1, rfl, hw, hf⟩ := hq76
        have hk := wk1 (M := (st M [(127, (pU (pU (pU (M 127) (1 + n) cap) (6 + n) em) 0 ((n + 1 : Nat) : Int)))])) hVn.1 hw hf
        refine tw_as (S := []) (M := M1) (N := N) rfl rfl ?_
        refine tw_aload k134_79 rfl ?_
        refine tw_getr k134_80 f126_0 ?_
        refine tw_const k134_83 ?_
        refine tw_iald (j := 0) (v := (((n + 1) : Nat) : Int)) k134_84 al127 rfl (by decide) (by rw [hk.2, st_c, if_pos rfl, pU_eq]) ?_
        refine tw_const k134_85 ?_
        refine tw_isub k134_86 (v := ((((n + 1) : Nat) : Int) - (1 : Int))) rfl (by omega) ?_
        exact tw_ri k134_87 (⟨by unfold qYear yOk; rw [if_pos ⟨h4, h14⟩, if_pos (by omega)]; exact congrArg (fun x => some (Sum.inl x)) (by omega), M1, rfl, by rw [hk.2]; unfold aYear yOk; rw [if_pos ⟨⟨h4, h14⟩, by omega⟩, hrow]; rfl, hk.1, mKp_s (mFr_p hf)⟩)
      · refine tw_const k134_33 ?_
        exact tw_ri k134_35 (⟨by unfold qYear; (try unfold yOk); (try simp only [Int.toNat_natCast]); (repeat' split) <;> first | rfl | omega, M, rfl, by unfold aYear; (try unfold yOk); (try simp only [Int.toNat_natCast]); (repeat' split) <;> first | rfl | (exfalso; omega), hM, mKp_refl M⟩)
    · refine tw_zneF k134_17 (by decide) ?_
      refine tw_const k134_20 ?_
      exact tw_ri k134_22 (⟨by unfold qYear; (try unfold yOk); (try simp only [Int.toNat_natCast]); (repeat' split) <;> first | rfl | omega, M, rfl, by unfold aYear; (try unfold yOk); (try simp only [Int.toNat_natCast]); (repeat' split) <;> first | rfl | (exfalso; omega), hM, mKp_refl M⟩)
  · refine tw_zeqT k134_7 (by decide) ?_
    refine tw_const k134_20 ?_
    exact tw_ri k134_22 (⟨by unfold qYear; (try unfold yOk); (try simp only [Int.toNat_natCast]); (repeat' split) <;> first | rfl | omega, M, rfl, by unfold aYear; (try unfold yOk); (try simp only [Int.toNat_natCast]); (repeat' split) <;> first | rfl | (exfalso; omega), hM, mKp_refl M⟩)
theorem x_135 {K : mj_C} {d : Nat} {M : Nat → Nat → Int} {N : Nat → Nat → Int64} (hD : 7 ≤ d) (hV : pVI (M 127)) (hM : mW M) (y cost much : Int) : mj_X K d 135 [.inr (.inr (.inl 126)), .inl y, .inl cost, .inl much] (mj_Sh, M, N) (fun r Z => r = some (.inl (qMeas (M 127) y cost much)) ∧ ∃ M1, Z = (mj_Sh, M1, N) ∧ M1 127 = aMeas (M 127) y cost much ∧ mW M1 ∧ mKp M M1) := by
  show mj_T K d 135 0 [some (.inr (.inr (.inl 126))), some (.inl y), some (.inl cost), some (.inl much)] [] (mj_Sh, M, N) _
  have hs := hV.1
  have h0 := hs.1 0 (by omega)
  have h5 := hs.2.1
  have h11 := hs.1 11 (by omega)
  have hc11 := hs.2.2.1
  obtain ⟨n, hn⟩ : ∃ n : Nat, n = (M 127 11).toNat := ⟨_, rfl⟩
  have hn0 : M 127 11 = (n : Int) := by omega
  refine tw_aload k135_0 rfl ?_
  refine tw_iload k135_1 rfl ?_
  refine tw_callb (by omega) (S' := []) (as := [.inr (.inr (.inl 126)), .inl y]) k135_2 (x_113 (M := M) (N := N) (by omega) hs y) rfl rfl rfl rfl rfl (fun h2 => ?_) (fun h2 => ?_)
  · refine tw_zneT k135_5 (by decide) ?_
    refine tw_iload k135_10 rfl ?_
    refine tw_const k135_11 ?_
    refine tw_const k135_12 ?_
    refine tw_callb (by omega) (S' := []) (as := [.inl cost, .inl (1 : Int), .inl (20 : Int)]) k135_14 (x_112 cost (1 : Int) (20 : Int)) rfl rfl rfl rfl rfl (fun h14 => ?_) (fun h14 => ?_)
    · refine tw_zeqF k135_17 (by decide) ?_
      refine tw_iload k135_20 rfl ?_
      refine tw_const k135_21 ?_
      refine tw_const k135_22 ?_
      refine tw_callb (by omega) (S' := []) (as := [.inl much, .inl (1 : Int), .inl (9 : Int)]) k135_24 (x_112 much (1 : Int) (9 : Int)) rfl rfl rfl rfl rfl (fun h24 => ?_) (fun h24 => ?_)
      · refine tw_zneT k135_27 (by decide) ?_
        refine tw_aload k135_33 rfl ?_
        refine tw_getr k135_34 f126_0 ?_
        refine tw_const k135_37 ?_
        refine tw_iald (j := 11) (v := ((n : Nat) : Int)) k135_39 al127 rfl (by decide) hn0 ?_
        refine tw_const k135_40 ?_
        refine tw_cne k135_42 (fun h42 => ?_) (fun h42 => ?_)
        · have hVn := pVI_meas hV h2 (show mOk cost much from ⟨h14, h24⟩) (by omega)
          have hrow : sMeas (M 127) y cost much = (pU (pU (pU (pU (M 127) (12 + n) y) (22 + n) cost) (32 + n) much) 11 ((n + 1 : Nat) : Int)) := by unfold sMeas; rw [← hn]
          rw [hrow] at hVn
          refine tw_aload k135_48 rfl ?_
          refine tw_getr k135_49 f126_0 ?_
          refine tw_const k135_52 ?_
          refine tw_aload k135_54 rfl ?_
          refine tw_getr k135_55 f126_0 ?_
          refine tw_const k135_58 ?_
          refine tw_iald (j := 11) (v := ((n : Nat) : Int)) k135_60 al127 rfl (by decide) hn0 ?_
          refine tw_iadd k135_61 (v := ((12 + n : Nat) : Int)) rfl (by omega) ?_
          refine tw_iload k135_62 rfl ?_
          refine tw_iast (M := M) (N := N) (l := []) (l' := [(127, (pU (M 127) (12 + n) y))]) (j := 12 + n) k135_63 al127 rfl (by omega) rfl ?_
          refine tw_aload k135_64 rfl ?_
          refine tw_getr k135_65 f126_0 ?_
          refine tw_const k135_68 ?_
          refine tw_aload k135_70 rfl ?_
          refine tw_getr k135_71 f126_0 ?_
          refine tw_const k135_74 ?_
          refine tw_iald (j := 11) (v := ((n : Nat) : Int)) k135_76 al127 rfl (by decide) (show (pU (M 127) (12 + n) y) 11 = _ from (by rw [pU_ne (by omega)]; exact hn0)) ?_
          refine tw_iadd k135_77 (v := ((22 + n : Nat) : Int)) rfl (by omega) ?_
          refine tw_iload k135_78 rfl ?_
          refine tw_iast (M := M) (N := N) (l := [(127, (pU (M 127) (12 + n) y))]) (l' := [(127, (pU (pU (M 127) (12 + n) y) (22 + n) cost))]) (j := 22 + n) k135_79 al127 rfl (by omega) rfl ?_
          refine tw_aload k135_80 rfl ?_
          refine tw_getr k135_81 f126_0 ?_
          refine tw_const k135_84 ?_
          refine tw_aload k135_86 rfl ?_
          refine tw_getr k135_87 f126_0 ?_
          refine tw_const k135_90 ?_
          refine tw_iald (j := 11) (v := ((n : Nat) : Int)) k135_92 al127 rfl (by decide) (show (pU (pU (M 127) (12 + n) y) (22 + n) cost) 11 = _ from (by rw [pU_ne (by omega)]; rw [pU_ne (by omega)]; exact hn0)) ?_
          refine tw_iadd k135_93 (v := ((32 + n : Nat) : Int)) rfl (by omega) ?_
          refine tw_iload k135_94 rfl ?_
          refine tw_iast (M := M) (N := N) (l := [(127, (pU (pU (M 127) (12 + n) y) (22 + n) cost))]) (l' := [(127, (pU (pU (pU (M 127) (12 + n) y) (22 + n) cost) (32 + n) much))]) (j := 32 + n) k135_95 al127 rfl (by omega) rfl ?_
          refine tw_aload k135_96 rfl ?_
          refine tw_getr k135_97 f126_0 ?_
          refine tw_const k135_100 ?_
          refine tw_dup2 k135_102 ?_
          refine tw_iald (j := 11) (v := ((n : Nat) : Int)) k135_103 al127 rfl (by decide) (show (pU (pU (pU (M 127) (12 + n) y) (22 + n) cost) (32 + n) much) 11 = _ from (by rw [pU_ne (by omega)]; rw [pU_ne (by omega)]; rw [pU_ne (by omega)]; exact hn0)) ?_
          refine tw_const k135_104 ?_
          refine tw_iadd k135_105 (v := ((n + 1 : Nat) : Int)) rfl (by omega) ?_
          refine tw_iast (M := M) (N := N) (l := [(127, (pU (pU (pU (M 127) (12 + n) y) (22 + n) cost) (32 + n) much))]) (l' := [(127, (pU (pU (pU (pU (M 127) (12 + n) y) (22 + n) cost) (32 + n) much) 11 ((n + 1 : Nat) : Int)))]) (j := 11) k135_106 al127 rfl (by decide) rfl ?_
          refine tw_aload k135_107 rfl ?_
          refine tw_call (by omega) (S' := []) (as := [.inr (.inr (.inl 126))]) k135_108 (x_133 (M := (st M [(127, (pU (pU (pU (pU (M 127) (12 + n) y) (22 + n) cost) (32 + n) much) 11 ((n + 1 : Nat) : Int)))])) (N := N) (by omega) hVn.1) rfl rfl rfl rfl rfl (fun r108 Z108 hq108 => ?_)
          obtain ⟨rfl, M1, rfl, hw, hf⟩ := hq108
          have hk := wk1 (M := (st M [(127, (pU (pU (pU (pU (M 127) (12 + n) y) (22 + n) cost) (32 + n) much) 11 ((n + 1 : Nat) : Int)))])) hVn.1 hw hf
          refine tw_as (S := []) (M := M1) (N := N) rfl rfl ?_
          refine tw_aload k135_111 rfl ?_
          refine tw_getr k135_112 f126_0 ?_
          refine tw_const k135_115 ?_
          refine tw_iald (j := 11) (v := (((n + 1) : Nat) : Int)) k135_117 al127 rfl (by decide) (by rw [hk.2, st_c, if_pos rfl, pU_eq]) ?_
          refine tw_const k135_118 ?_
          refine tw_isub k135_119 (v := ((((n + 1) : Nat) : Int) - (1 : Int))) rfl (by omega) ?_
          exact tw_ri k135_120 (⟨by unfold qMeas mOk; rw [if_pos h2, if_pos ⟨h14, h24⟩, if_pos (by omega)]; exact congrArg (fun x => some (Sum.inl x)) (by omega), M1, rfl, by rw [hk.2]; unfold aMeas mOk; rw [if_pos ⟨h2, ⟨h14, h24⟩, by omega⟩, hrow]; rfl, hk.1, mKp_s (mFr_p hf)⟩)
        · refine tw_const k135_45 ?_
          exact tw_ri k135_47 (⟨by unfold qMeas; (try unfold mOk); (try simp only [Int.toNat_natCast]); (repeat' split) <;> first | rfl | omega, M, rfl, by unfold aMeas; (try unfold mOk); (try simp only [Int.toNat_natCast]); (repeat' split) <;> first | rfl | (exfalso; omega), hM, mKp_refl M⟩)
      · refine tw_zneF k135_27 (by decide) ?_
        refine tw_const k135_30 ?_
        exact tw_ri k135_32 (⟨by unfold qMeas; (try unfold mOk); (try simp only [Int.toNat_natCast]); (repeat' split) <;> first | rfl | omega, M, rfl, by unfold aMeas; (try unfold mOk); (try simp only [Int.toNat_natCast]); (repeat' split) <;> first | rfl | (exfalso; omega), hM, mKp_refl M⟩)
    · refine tw_zeqT k135_17 (by decide) ?_
      refine tw_const k135_30 ?_
      exact tw_ri k135_32 (⟨by unfold qMeas; (try unfold mOk); (try simp only [Int.toNat_natCast]); (repeat' split) <;> first | rfl | omega, M, rfl, by unfold aMeas; (try unfold mOk); (try simp only [Int.toNat_natCast]); (repeat' split) <;> first | rfl | (exfalso; omega), hM, mKp_refl M⟩)
  · refine tw_zneF k135_5 (by decide) ?_
    refine tw_const k135_8 ?_
    exact tw_ri k135_9 (⟨by unfold qMeas; (try unfold mOk); (try simp only [Int.toNat_natCast]); (repeat' split) <;> first | rfl | omega, M, rfl, by unfold aMeas; (try unfold mOk); (try simp only [Int.toNat_natCast]); (repeat' split) <;> first | rfl | (exfalso; omega), hM, mKp_refl M⟩)
theorem x_136 {K : mj_C} {d : Nat} {M : Nat → Nat → Int} {N : Nat → Nat → Int64} (hD : 7 ≤ d) (i : Nat) (hi : i < 91) (v : Int) (hp : pRg (pU (M 127) i v)) : mj_X K d 136 [.inr (.inr (.inl 126)), .inl ((i : Nat) : Int), .inl v] (mj_Sh, M, N) (fun r Z => r = some (.inl (M 127 i)) ∧ ∃ M1, Z = (mj_Sh, M1, N) ∧ M1 127 = pU (M 127) i v ∧ mW M1 ∧ mKp M M1) := by
  show mj_T K d 136 0 [some (.inr (.inr (.inl 126))), some (.inl ((i : Nat) : Int)), some (.inl v), none] [] (mj_Sh, M, N) _
  refine tw_aload k136_0 rfl ?_
  refine tw_getr k136_1 f126_0 ?_
  refine tw_iload k136_4 rfl ?_
  refine tw_iald (j := i) (v := (M 127 i)) k136_5 al127 rfl (by omega) rfl ?_
  refine tw_istore k136_6 rfl (L' := [some (.inr (.inr (.inl 126))), some (.inl ((i : Nat) : Int)), some (.inl v), some (.inl (M 127 i))]) rfl ?_
  refine tw_aload k136_7 rfl ?_
  refine tw_getr k136_8 f126_0 ?_
  refine tw_iload k136_11 rfl ?_
  refine tw_iload k136_12 rfl ?_
  refine tw_iast (M := M) (N := N) (l := []) (l' := [(127, (pU (M 127) i v))]) (j := i) k136_13 al127 rfl (by omega) rfl ?_
  refine tw_aload k136_14 rfl ?_
  refine tw_call (by omega) (S' := []) (as := [.inr (.inr (.inl 126))]) k136_15 (x_133 (M := (st M [(127, (pU (M 127) i v))])) (N := N) (by omega) hp) rfl rfl rfl rfl rfl (fun r15 Z15 hq15 => ?_)
  obtain ⟨rfl, M1, rfl, hw, hf⟩ := hq15
  have hk := wk1 (M := (st M [(127, (pU (M 127) i v))])) hp hw hf
  refine tw_as (S := []) (M := M1) (N := N) rfl rfl ?_
  refine tw_iload k136_18 rfl ?_
  exact tw_ri k136_19 (⟨rfl, M1, rfl, hk.2, hk.1, mKp_s (mFr_p hf)⟩)
theorem x_137 {K : mj_C} {d : Nat} {M : Nat → Nat → Int} {N : Nat → Nat → Int64} (hD : 8 ≤ d) (hV : pVI (M 127)) (hM : mW M) (what k v : Int) : mj_X K d 137 [.inr (.inr (.inl 126)), .inl what, .inl k, .inl v] (mj_Sh, M, N) (fun r Z => r = some (.inl (qRenew (M 127) what k v)) ∧ ∃ M1, Z = (mj_Sh, M1, N) ∧ M1 127 = aRenew (M 127) what k v ∧ mW M1 ∧ mKp M M1) := by
  show mj_T K d 137 0 [some (.inr (.inr (.inl 126))), some (.inl what), some (.inl k), some (.inl v)] [] (mj_Sh, M, N) _
  have hs := hV.1
  have h0 := hs.1 0 (by omega)
  have h5 := hs.2.1
  have h11 := hs.1 11 (by omega)
  have hc11 := hs.2.2.1
  by_cases hk0 : 0 ≤ k
  · obtain ⟨q, rfl⟩ : ∃ q : Nat, k = (q : Int) := ⟨k.toNat, by omega⟩
    refine tw_iload k137_0 rfl ?_
    refine tw_const k137_1 ?_
    refine tw_const k137_2 ?_
    refine tw_callb (by omega) (S' := []) (as := [.inl what, .inl (0 : Int), .inl (3 : Int)]) k137_3 (x_112 what (0 : Int) (3 : Int)) rfl rfl rfl rfl rfl (fun h3 => ?_) (fun h3 => ?_)
    · refine tw_zeqF k137_6 (by decide) ?_
      refine tw_iload k137_9 rfl ?_
      refine tw_const k137_10 ?_
      refine tw_cge k137_11 (fun h11 => ?_) (fun h11 => ?_)
      · refine tw_aload k137_25 rfl ?_
        refine tw_iload k137_26 rfl ?_
        refine tw_callb (by omega) (S' := []) (as := [.inr (.inr (.inl 126)), .inl ((q : Nat) : Int)]) k137_27 (x_114 (M := M) (N := N) (by omega) hs ((q : Nat) : Int)) rfl rfl rfl rfl rfl (fun h27 => ?_) (fun h27 => ?_)
        · refine tw_zneT k137_30 (by decide) ?_
          refine tw_iload k137_35 rfl ?_
          refine tw_sw k137_36 ?_
          refine tw_pk (fun h36_0 => ?_) (fun h36_0 => ?_)
          · refine tw_iload k137_64 rfl ?_
            refine tw_const k137_65 ?_
            refine tw_const k137_66 ?_
            refine tw_callb (by omega) (S' := []) (as := [.inl v, .inl (0 : Int), .inl (20 : Int)]) k137_68 (x_112 v (0 : Int) (20 : Int)) rfl rfl rfl rfl rfl (fun h68 => ?_) (fun h68 => ?_)
            · refine tw_zeqF k137_71 (by decide) ?_
              refine tw_aload k137_74 rfl ?_
              refine tw_const k137_75 ?_
              refine tw_iload k137_76 rfl ?_
              refine tw_iadd k137_77 (v := ((1 + q : Nat) : Int)) rfl (by omega) ?_
              refine tw_iload k137_78 rfl ?_
              refine tw_call (by omega) (S' := []) (as := [.inr (.inr (.inl 126)), .inl ((1 + q : Nat) : Int), .inl v]) k137_79 (x_136 (M := M) (N := N) (by omega) (1 + q) (by omega) v (pRg_put hs (by omega) (by omega))) rfl rfl rfl rfl rfl (fun r79 Z79 hq79 => ?_)
              obtain ⟨rfl, M2, rfl, hb1, hb2, hb3⟩ := hq79
              refine tw_as (S := [.inl (M 127 (1 + q))]) (M := M2) (N := N) rfl rfl ?_
              refine tw_goto k137_82 ?_
              exact tw_ri k137_87 (⟨by unfold qRenew rK rLo rHi rBs; simp only [Int.toNat_natCast]; (repeat' split) <;> first | rfl | omega, M2, rfl, by rw [hb1]; unfold aRenew rK rLo rHi rBs; simp only [Int.toNat_natCast]; (repeat' split) <;> first | rfl | (exfalso; omega), hb2, hb3⟩)
            · refine tw_zeqT k137_71 (by decide) ?_
              refine tw_const k137_85 ?_
              exact tw_ri k137_87 (⟨by unfold qRenew; (try unfold rK); (try unfold rLo); (try unfold rHi); (try unfold rBs); (try simp only [Int.toNat_natCast]); (repeat' split) <;> first | rfl | omega, M, rfl, by unfold aRenew; (try unfold rK); (try unfold rLo); (try unfold rHi); (try unfold rBs); (try simp only [Int.toNat_natCast]); (repeat' split) <;> first | rfl | (exfalso; omega), hM, mKp_refl M⟩)
          · skip
            refine tw_pk (fun h36_1 => ?_) (fun h36_1 => ?_)
            · refine tw_iload k137_88 rfl ?_
              refine tw_const k137_89 ?_
              refine tw_const k137_90 ?_
              refine tw_callb (by omega) (S' := []) (as := [.inl v, .inl (0 : Int), .inl (40 : Int)]) k137_92 (x_112 v (0 : Int) (40 : Int)) rfl rfl rfl rfl rfl (fun h92 => ?_) (fun h92 => ?_)
              · refine tw_zeqF k137_95 (by decide) ?_
                refine tw_aload k137_98 rfl ?_
                refine tw_const k137_99 ?_
                refine tw_iload k137_101 rfl ?_
                refine tw_iadd k137_102 (v := ((6 + q : Nat) : Int)) rfl (by omega) ?_
                refine tw_iload k137_103 rfl ?_
                refine tw_call (by omega) (S' := []) (as := [.inr (.inr (.inl 126)), .inl ((6 + q : Nat) : Int), .inl v]) k137_104 (x_136 (M := M) (N := N) (by omega) (6 + q) (by omega) v (pRg_put hs (by omega) (by omega))) rfl rfl rfl rfl rfl (fun r104 Z104 hq104 => ?_)
                obtain ⟨rfl, M2, rfl, hb1, hb2, hb3⟩ := hq104
                refine tw_as (S := [.inl (M 127 (6 + q))]) (M := M2) (N := N) rfl rfl ?_
                refine tw_goto k137_107 ?_
                exact tw_ri k137_112 (⟨by unfold qRenew rK rLo rHi rBs; simp only [Int.toNat_natCast]; (repeat' split) <;> first | rfl | omega, M2, rfl, by rw [hb1]; unfold aRenew rK rLo rHi rBs; simp only [Int.toNat_natCast]; (repeat' split) <;> first | rfl | (exfalso; omega), hb2, hb3⟩)
              · refine tw_zeqT k137_95 (by decide) ?_
                refine tw_const k137_110 ?_
                exact tw_ri k137_112 (⟨by unfold qRenew; (try unfold rK); (try unfold rLo); (try unfold rHi); (try unfold rBs); (try simp only [Int.toNat_natCast]); (repeat' split) <;> first | rfl | omega, M, rfl, by unfold aRenew; (try unfold rK); (try unfold rLo); (try unfold rHi); (try unfold rBs); (try simp only [Int.toNat_natCast]); (repeat' split) <;> first | rfl | (exfalso; omega), hM, mKp_refl M⟩)
            · skip
              refine tw_pk (fun h36_2 => ?_) (fun h36_2 => ?_)
              · refine tw_iload k137_113 rfl ?_
                refine tw_const k137_114 ?_
                refine tw_const k137_115 ?_
                refine tw_callb (by omega) (S' := []) (as := [.inl v, .inl (1 : Int), .inl (20 : Int)]) k137_117 (x_112 v (1 : Int) (20 : Int)) rfl rfl rfl rfl rfl (fun h117 => ?_) (fun h117 => ?_)
                · refine tw_zeqF k137_120 (by decide) ?_
                  refine tw_aload k137_123 rfl ?_
                  refine tw_const k137_124 ?_
                  refine tw_iload k137_126 rfl ?_
                  refine tw_iadd k137_127 (v := ((22 + q : Nat) : Int)) rfl (by omega) ?_
                  refine tw_iload k137_128 rfl ?_
                  refine tw_call (by omega) (S' := []) (as := [.inr (.inr (.inl 126)), .inl ((22 + q : Nat) : Int), .inl v]) k137_129 (x_136 (M := M) (N := N) (by omega) (22 + q) (by omega) v (pRg_put hs (by omega) (by omega))) rfl rfl rfl rfl rfl (fun r129 Z129 hq129 => ?_)
                  obtain ⟨rfl, M2, rfl, hb1, hb2, hb3⟩ := hq129
                  refine tw_as (S := [.inl (M 127 (22 + q))]) (M := M2) (N := N) rfl rfl ?_
                  refine tw_goto k137_132 ?_
                  exact tw_ri k137_137 (⟨by unfold qRenew rK rLo rHi rBs; simp only [Int.toNat_natCast]; (repeat' split) <;> first | rfl | omega, M2, rfl, by rw [hb1]; unfold aRenew rK rLo rHi rBs; simp only [Int.toNat_natCast]; (repeat' split) <;> first | rfl | (exfalso; omega), hb2, hb3⟩)
                · refine tw_zeqT k137_120 (by decide) ?_
                  refine tw_const k137_135 ?_
                  exact tw_ri k137_137 (⟨by unfold qRenew; (try unfold rK); (try unfold rLo); (try unfold rHi); (try unfold rBs); (try simp only [Int.toNat_natCast]); (repeat' split) <;> first | rfl | omega, M, rfl, by unfold aRenew; (try unfold rK); (try unfold rLo); (try unfold rHi); (try unfold rBs); (try simp only [Int.toNat_natCast]); (repeat' split) <;> first | rfl | (exfalso; omega), hM, mKp_refl M⟩)
              · skip
                refine tw_pk0 ?_
                refine tw_iload k137_138 rfl ?_
                refine tw_const k137_139 ?_
                refine tw_const k137_140 ?_
                refine tw_callb (by omega) (S' := []) (as := [.inl v, .inl (1 : Int), .inl (9 : Int)]) k137_142 (x_112 v (1 : Int) (9 : Int)) rfl rfl rfl rfl rfl (fun h142 => ?_) (fun h142 => ?_)
                · refine tw_zeqF k137_145 (by decide) ?_
                  refine tw_aload k137_148 rfl ?_
                  refine tw_const k137_149 ?_
                  refine tw_iload k137_151 rfl ?_
                  refine tw_iadd k137_152 (v := ((32 + q : Nat) : Int)) rfl (by omega) ?_
                  refine tw_iload k137_153 rfl ?_
                  refine tw_call (by omega) (S' := []) (as := [.inr (.inr (.inl 126)), .inl ((32 + q : Nat) : Int), .inl v]) k137_154 (x_136 (M := M) (N := N) (by omega) (32 + q) (by omega) v (pRg_put hs (by omega) (by omega))) rfl rfl rfl rfl rfl (fun r154 Z154 hq154 => ?_)
                  obtain ⟨rfl, M2, rfl, hb1, hb2, hb3⟩ := hq154
                  refine tw_as (S := [.inl (M 127 (32 + q))]) (M := M2) (N := N) rfl rfl ?_
                  refine tw_goto k137_157 ?_
                  exact tw_ri k137_162 (⟨by unfold qRenew rK rLo rHi rBs; simp only [Int.toNat_natCast]; (repeat' split) <;> first | rfl | omega, M2, rfl, by rw [hb1]; unfold aRenew rK rLo rHi rBs; simp only [Int.toNat_natCast]; (repeat' split) <;> first | rfl | (exfalso; omega), hb2, hb3⟩)
                · refine tw_zeqT k137_145 (by decide) ?_
                  refine tw_const k137_160 ?_
                  exact tw_ri k137_162 (⟨by unfold qRenew; (try unfold rK); (try unfold rLo); (try unfold rHi); (try unfold rBs); (try simp only [Int.toNat_natCast]); (repeat' split) <;> first | rfl | omega, M, rfl, by unfold aRenew; (try unfold rK); (try unfold rLo); (try unfold rHi); (try unfold rBs); (try simp only [Int.toNat_natCast]); (repeat' split) <;> first | rfl | (exfalso; omega), hM, mKp_refl M⟩)
        · refine tw_zneF k137_30 (by decide) ?_
          refine tw_const k137_33 ?_
          exact tw_ri k137_34 (⟨by unfold qRenew; (try unfold rK); (try unfold rLo); (try unfold rHi); (try unfold rBs); (try simp only [Int.toNat_natCast]); (repeat' split) <;> first | rfl | omega, M, rfl, by unfold aRenew; (try unfold rK); (try unfold rLo); (try unfold rHi); (try unfold rBs); (try simp only [Int.toNat_natCast]); (repeat' split) <;> first | rfl | (exfalso; omega), hM, mKp_refl M⟩)
      · refine tw_aload k137_14 rfl ?_
        refine tw_iload k137_15 rfl ?_
        refine tw_callb (by omega) (S' := []) (as := [.inr (.inr (.inl 126)), .inl ((q : Nat) : Int)]) k137_16 (x_113 (M := M) (N := N) (by omega) hs ((q : Nat) : Int)) rfl rfl rfl rfl rfl (fun h16 => ?_) (fun h16 => ?_)
        · refine tw_zneT k137_19 (by decide) ?_
          refine tw_iload k137_35 rfl ?_
          refine tw_sw k137_36 ?_
          refine tw_pk (fun h36_0 => ?_) (fun h36_0 => ?_)
          · refine tw_iload k137_64 rfl ?_
            refine tw_const k137_65 ?_
            refine tw_const k137_66 ?_
            refine tw_callb (by omega) (S' := []) (as := [.inl v, .inl (0 : Int), .inl (20 : Int)]) k137_68 (x_112 v (0 : Int) (20 : Int)) rfl rfl rfl rfl rfl (fun h68 => ?_) (fun h68 => ?_)
            · refine tw_zeqF k137_71 (by decide) ?_
              refine tw_aload k137_74 rfl ?_
              refine tw_const k137_75 ?_
              refine tw_iload k137_76 rfl ?_
              refine tw_iadd k137_77 (v := ((1 + q : Nat) : Int)) rfl (by omega) ?_
              refine tw_iload k137_78 rfl ?_
              refine tw_call (by omega) (S' := []) (as := [.inr (.inr (.inl 126)), .inl ((1 + q : Nat) : Int), .inl v]) k137_79 (x_136 (M := M) (N := N) (by omega) (1 + q) (by omega) v (pRg_put hs (by omega) (by omega))) rfl rfl rfl rfl rfl (fun r79 Z79 hq79 => ?_)
              obtain ⟨rfl, M2, rfl, hb1, hb2, hb3⟩ := hq79
              refine tw_as (S := [.inl (M 127 (1 + q))]) (M := M2) (N := N) rfl rfl ?_
              refine tw_goto k137_82 ?_
              exact tw_ri k137_87 (⟨by unfold qRenew rK rLo rHi rBs; simp only [Int.toNat_natCast]; (repeat' split) <;> first | rfl | omega, M2, rfl, by rw [hb1]; unfold aRenew rK rLo rHi rBs; simp only [Int.toNat_natCast]; (repeat' split) <;> first | rfl | (exfalso; omega), hb2, hb3⟩)
            · refine tw_zeqT k137_71 (by decide) ?_
              refine tw_const k137_85 ?_
              exact tw_ri k137_87 (⟨by unfold qRenew; (try unfold rK); (try unfold rLo); (try unfold rHi); (try unfold rBs); (try simp only [Int.toNat_natCast]); (repeat' split) <;> first | rfl | omega, M, rfl, by unfold aRenew; (try unfold rK); (try unfold rLo); (try unfold rHi); (try unfold rBs); (try simp only [Int.toNat_natCast]); (repeat' split) <;> first | rfl | (exfalso; omega), hM, mKp_refl M⟩)
          · skip
            refine tw_pk (fun h36_1 => ?_) (fun h36_1 => ?_)
            · refine tw_iload k137_88 rfl ?_
              refine tw_const k137_89 ?_
              refine tw_const k137_90 ?_
              refine tw_callb (by omega) (S' := []) (as := [.inl v, .inl (0 : Int), .inl (40 : Int)]) k137_92 (x_112 v (0 : Int) (40 : Int)) rfl rfl rfl rfl rfl (fun h92 => ?_) (fun h92 => ?_)
              · refine tw_zeqF k137_95 (by decide) ?_
                refine tw_aload k137_98 rfl ?_
                refine tw_const k137_99 ?_
                refine tw_iload k137_101 rfl ?_
                refine tw_iadd k137_102 (v := ((6 + q : Nat) : Int)) rfl (by omega) ?_
                refine tw_iload k137_103 rfl ?_
                refine tw_call (by omega) (S' := []) (as := [.inr (.inr (.inl 126)), .inl ((6 + q : Nat) : Int), .inl v]) k137_104 (x_136 (M := M) (N := N) (by omega) (6 + q) (by omega) v (pRg_put hs (by omega) (by omega))) rfl rfl rfl rfl rfl (fun r104 Z104 hq104 => ?_)
                obtain ⟨rfl, M2, rfl, hb1, hb2, hb3⟩ := hq104
                refine tw_as (S := [.inl (M 127 (6 + q))]) (M := M2) (N := N) rfl rfl ?_
                refine tw_goto k137_107 ?_
                exact tw_ri k137_112 (⟨by unfold qRenew rK rLo rHi rBs; simp only [Int.toNat_natCast]; (repeat' split) <;> first | rfl | omega, M2, rfl, by rw [hb1]; unfold aRenew rK rLo rHi rBs; simp only [Int.toNat_natCast]; (repeat' split) <;> first | rfl | (exfalso; omega), hb2, hb3⟩)
              · refine tw_zeqT k137_95 (by decide) ?_
                refine tw_const k137_110 ?_
                exact tw_ri k137_112 (⟨by unfold qRenew; (try unfold rK); (try unfold rLo); (try unfold rHi); (try unfold rBs); (try simp only [Int.toNat_natCast]); (repeat' split) <;> first | rfl | omega, M, rfl, by unfold aRenew; (try unfold rK); (try unfold rLo); (try unfold rHi); (try unfold rBs); (try simp only [Int.toNat_natCast]); (repeat' split) <;> first | rfl | (exfalso; omega), hM, mKp_refl M⟩)
            · skip
              refine tw_pk (fun h36_2 => ?_) (fun h36_2 => ?_)
              · refine tw_iload k137_113 rfl ?_
                refine tw_const k137_114 ?_
                refine tw_const k137_115 ?_
                refine tw_callb (by omega) (S' := []) (as := [.inl v, .inl (1 : Int), .inl (20 : Int)]) k137_117 (x_112 v (1 : Int) (20 : Int)) rfl rfl rfl rfl rfl (fun h117 => ?_) (fun h117 => ?_)
                · refine tw_zeqF k137_120 (by decide) ?_
                  refine tw_aload k137_123 rfl ?_
                  refine tw_const k137_124 ?_
                  refine tw_iload k137_126 rfl ?_
                  refine tw_iadd k137_127 (v := ((22 + q : Nat) : Int)) rfl (by omega) ?_
                  refine tw_iload k137_128 rfl ?_
                  refine tw_call (by omega) (S' := []) (as := [.inr (.inr (.inl 126)), .inl ((22 + q : Nat) : Int), .inl v]) k137_129 (x_136 (M := M) (N := N) (by omega) (22 + q) (by omega) v (pRg_put hs (by omega) (by omega))) rfl rfl rfl rfl rfl (fun r129 Z129 hq129 => ?_)
                  obtain ⟨rfl, M2, rfl, hb1, hb2, hb3⟩ := hq129
                  refine tw_as (S := [.inl (M 127 (22 + q))]) (M := M2) (N := N) rfl rfl ?_
                  refine tw_goto k137_132 ?_
                  exact tw_ri k137_137 (⟨by unfold qRenew rK rLo rHi rBs; simp only [Int.toNat_natCast]; (repeat' split) <;> first | rfl | omega, M2, rfl, by rw [hb1]; unfold aRenew rK rLo rHi rBs; simp only [Int.toNat_natCast]; (repeat' split) <;> first | rfl | (exfalso; omega), hb2, hb3⟩)
                · refine tw_zeqT k137_120 (by decide) ?_
                  refine tw_const k137_135 ?_
                  exact tw_ri k137_137 (⟨by unfold qRenew; (try unfold rK); (try unfold rLo); (try unfold rHi); (try unfold rBs); (try simp only [Int.toNat_natCast]); (repeat' split) <;> first | rfl | omega, M, rfl, by unfold aRenew; (try unfold rK); (try unfold rLo); (try unfold rHi); (try unfold rBs); (try simp only [Int.toNat_natCast]); (repeat' split) <;> first | rfl | (exfalso; omega), hM, mKp_refl M⟩)
              · skip
                refine tw_pk0 ?_
                refine tw_iload k137_138 rfl ?_
                refine tw_const k137_139 ?_
                refine tw_const k137_140 ?_
                refine tw_callb (by omega) (S' := []) (as := [.inl v, .inl (1 : Int), .inl (9 : Int)]) k137_142 (x_112 v (1 : Int) (9 : Int)) rfl rfl rfl rfl rfl (fun h142 => ?_) (fun h142 => ?_)
                · refine tw_zeqF k137_145 (by decide) ?_
                  refine tw_aload k137_148 rfl ?_
                  refine tw_const k137_149 ?_
                  refine tw_iload k137_151 rfl ?_
                  refine tw_iadd k137_152 (v := ((32 + q : Nat) : Int)) rfl (by omega) ?_
                  refine tw_iload k137_153 rfl ?_
                  refine tw_call (by omega) (S' := []) (as := [.inr (.inr (.inl 126)), .inl ((32 + q : Nat) : Int), .inl v]) k137_154 (x_136 (M := M) (N := N) (by omega) (32 + q) (by omega) v (pRg_put hs (by omega) (by omega))) rfl rfl rfl rfl rfl (fun r154 Z154 hq154 => ?_)
                  obtain ⟨rfl, M2, rfl, hb1, hb2, hb3⟩ := hq154
                  refine tw_as (S := [.inl (M 127 (32 + q))]) (M := M2) (N := N) rfl rfl ?_
                  refine tw_goto k137_157 ?_
                  exact tw_ri k137_162 (⟨by unfold qRenew rK rLo rHi rBs; simp only [Int.toNat_natCast]; (repeat' split) <;> first | rfl | omega, M2, rfl, by rw [hb1]; unfold aRenew rK rLo rHi rBs; simp only [Int.toNat_natCast]; (repeat' split) <;> first | rfl | (exfalso; omega), hb2, hb3⟩)
                · refine tw_zeqT k137_145 (by decide) ?_
                  refine tw_const k137_160 ?_
                  exact tw_ri k137_162 (⟨by unfold qRenew; (try unfold rK); (try unfold rLo); (try unfold rHi); (try unfold rBs); (try simp only [Int.toNat_natCast]); (repeat' split) <;> first | rfl | omega, M, rfl, by unfold aRenew; (try unfold rK); (try unfold rLo); (try unfold rHi); (try unfold rBs); (try simp only [Int.toNat_natCast]); (repeat' split) <;> first | rfl | (exfalso; omega), hM, mKp_refl M⟩)
        · refine tw_zneF k137_19 (by decide) ?_
          refine tw_goto k137_22 ?_
          refine tw_const k137_33 ?_
          exact tw_ri k137_34 (⟨by unfold qRenew; (try unfold rK); (try unfold rLo); (try unfold rHi); (try unfold rBs); (try simp only [Int.toNat_natCast]); (repeat' split) <;> first | rfl | omega, M, rfl, by unfold aRenew; (try unfold rK); (try unfold rLo); (try unfold rHi); (try unfold rBs); (try simp only [Int.toNat_natCast]); (repeat' split) <;> first | rfl | (exfalso; omega), hM, mKp_refl M⟩)
    · refine tw_zeqT k137_6 (by decide) ?_
      refine tw_const k137_33 ?_
      exact tw_ri k137_34 (⟨by unfold qRenew; (try unfold rK); (try unfold rLo); (try unfold rHi); (try unfold rBs); (try simp only [Int.toNat_natCast]); (repeat' split) <;> first | rfl | omega, M, rfl, by unfold aRenew; (try unfold rK); (try unfold rLo); (try unfold rHi); (try unfold rBs); (try simp only [Int.toNat_natCast]); (repeat' split) <;> first | rfl | (exfalso; omega), hM, mKp_refl M⟩)
  · refine tw_iload k137_0 rfl ?_
    refine tw_const k137_1 ?_
    refine tw_const k137_2 ?_
    refine tw_callb (by omega) (S' := []) (as := [.inl what, .inl (0 : Int), .inl (3 : Int)]) k137_3 (x_112 what (0 : Int) (3 : Int)) rfl rfl rfl rfl rfl (fun h3 => ?_) (fun h3 => ?_)
    · refine tw_zeqF k137_6 (by decide) ?_
      refine tw_iload k137_9 rfl ?_
      refine tw_const k137_10 ?_
      refine tw_cge k137_11 (fun h11 => ?_) (fun h11 => ?_)
      · refine tw_aload k137_25 rfl ?_
        refine tw_iload k137_26 rfl ?_
        refine tw_callbF (by omega) (S' := []) (as := [.inr (.inr (.inl 126)), .inl k]) k137_27 (x_114 (M := M) (N := N) (by omega) hs k) rfl rfl rfl rfl rfl (by omega) ?_
        refine tw_zneF k137_30 (by decide) ?_
        refine tw_const k137_33 ?_
        exact tw_ri k137_34 (⟨by unfold qRenew; (try unfold rK); (try unfold rLo); (try unfold rHi); (try unfold rBs); (try simp only [Int.toNat_natCast]); (repeat' split) <;> first | rfl | omega, M, rfl, by unfold aRenew; (try unfold rK); (try unfold rLo); (try unfold rHi); (try unfold rBs); (try simp only [Int.toNat_natCast]); (repeat' split) <;> first | rfl | (exfalso; omega), hM, mKp_refl M⟩)
      · refine tw_aload k137_14 rfl ?_
        refine tw_iload k137_15 rfl ?_
        refine tw_callbF (by omega) (S' := []) (as := [.inr (.inr (.inl 126)), .inl k]) k137_16 (x_113 (M := M) (N := N) (by omega) hs k) rfl rfl rfl rfl rfl (by omega) ?_
        refine tw_zneF k137_19 (by decide) ?_
        refine tw_goto k137_22 ?_
        refine tw_const k137_33 ?_
        exact tw_ri k137_34 (⟨by unfold qRenew; (try unfold rK); (try unfold rLo); (try unfold rHi); (try unfold rBs); (try simp only [Int.toNat_natCast]); (repeat' split) <;> first | rfl | omega, M, rfl, by unfold aRenew; (try unfold rK); (try unfold rLo); (try unfold rHi); (try unfold rBs); (try simp only [Int.toNat_natCast]); (repeat' split) <;> first | rfl | (exfalso; omega), hM, mKp_refl M⟩)
    · refine tw_zeqT k137_6 (by decide) ?_
      refine tw_const k137_33 ?_
      exact tw_ri k137_34 (⟨by unfold qRenew; (try unfold rK); (try unfold rLo); (try unfold rHi); (try unfold rBs); (try simp only [Int.toNat_natCast]); (repeat' split) <;> first | rfl | omega, M, rfl, by unfold aRenew; (try unfold rK); (try unfold rLo); (try unfold rHi); (try unfold rBs); (try simp only [Int.toNat_natCast]); (repeat' split) <;> first | rfl | (exfalso; omega), hM, mKp_refl M⟩)
theorem x_138 {K : mj_C} {d : Nat} {M : Nat → Nat → Int} {N : Nat → Nat → Int64} (hD : 8 ≤ d) (hV : pVI (M 127)) (hM : mW M) (what v : Int) : mj_X K d 138 [.inr (.inr (.inl 126)), .inl what, .inl v] (mj_Sh, M, N) (fun r Z => r = some (.inl (qSet (M 127) what v)) ∧ ∃ M1, Z = (mj_Sh, M1, N) ∧ M1 127 = aSet (M 127) what v ∧ mW M1 ∧ mKp M M1) := by
  show mj_T K d 138 0 [some (.inr (.inr (.inl 126))), some (.inl what), some (.inl v)] [] (mj_Sh, M, N) _
  have hs := hV.1
  have h0 := hs.1 0 (by omega)
  have h5 := hs.2.1
  have h11 := hs.1 11 (by omega)
  have hc11 := hs.2.2.1
  by_cases hk0 : 0 ≤ what
  · obtain ⟨q, rfl⟩ : ∃ q : Nat, what = (q : Int) := ⟨what.toNat, by omega⟩
    refine tw_iload k138_0 rfl ?_
    refine tw_const k138_1 ?_
    refine tw_const k138_2 ?_
    refine tw_callb (by omega) (S' := []) (as := [.inl ((q : Nat) : Int), .inl (0 : Int), .inl (3 : Int)]) k138_3 (x_112 ((q : Nat) : Int) (0 : Int) (3 : Int)) rfl rfl rfl rfl rfl (fun h3 => ?_) (fun h3 => ?_)
    · refine tw_zneT k138_6 (by decide) ?_
      refine tw_iload k138_11 rfl ?_
      refine tw_const k138_12 ?_
      refine tw_iload k138_13 rfl ?_
      refine tw_const k138_14 ?_
      refine tw_cne k138_15 (fun h15 => ?_) (fun h15 => ?_)
      · refine tw_const k138_22 ?_
        refine tw_callb (by omega) (S' := []) (as := [.inl v, .inl (0 : Int), .inl (20 : Int)]) k138_24 (x_112 v (0 : Int) (20 : Int)) rfl rfl rfl rfl rfl (fun h24 => ?_) (fun h24 => ?_)
        · refine tw_zeqF k138_27 (by decide) ?_
          refine tw_aload k138_30 rfl ?_
          refine tw_const k138_31 ?_
          refine tw_iload k138_33 rfl ?_
          refine tw_iadd k138_34 (v := ((42 + q : Nat) : Int)) rfl (by omega) ?_
          refine tw_iload k138_35 rfl ?_
          refine tw_call (by omega) (S' := []) (as := [.inr (.inr (.inl 126)), .inl ((42 + q : Nat) : Int), .inl v]) k138_36 (x_136 (M := M) (N := N) (by omega) (42 + q) (by omega) v (pRg_put hs (by omega) (by omega))) rfl rfl rfl rfl rfl (fun r36 Z36 hq36 => ?_)
          obtain ⟨rfl, M2, rfl, hb1, hb2, hb3⟩ := hq36
          refine tw_as (S := [.inl (M 127 (42 + q))]) (M := M2) (N := N) rfl rfl ?_
          refine tw_goto k138_39 ?_
          exact tw_ri k138_44 (⟨by unfold qSet sHi; (try simp only [Int.toNat_natCast]); (repeat' split) <;> first | rfl | omega, M2, rfl, by rw [hb1]; unfold aSet sHi; (try simp only [Int.toNat_natCast]); (repeat' split) <;> first | rfl | (exfalso; omega), hb2, hb3⟩)
        · refine tw_zeqT k138_27 (by decide) ?_
          refine tw_const k138_42 ?_
          exact tw_ri k138_44 (⟨by unfold qSet; (try unfold sHi); (try simp only [Int.toNat_natCast]); (repeat' split) <;> first | rfl | omega, M, rfl, by unfold aSet; (try unfold sHi); (try simp only [Int.toNat_natCast]); (repeat' split) <;> first | rfl | (exfalso; omega), hM, mKp_refl M⟩)
      · refine tw_const k138_18 ?_
        refine tw_goto k138_19 ?_
        refine tw_callb (by omega) (S' := []) (as := [.inl v, .inl (0 : Int), .inl (5 : Int)]) k138_24 (x_112 v (0 : Int) (5 : Int)) rfl rfl rfl rfl rfl (fun h24 => ?_) (fun h24 => ?_)
        · refine tw_zeqF k138_27 (by decide) ?_
          refine tw_aload k138_30 rfl ?_
          refine tw_const k138_31 ?_
          refine tw_iload k138_33 rfl ?_
          refine tw_iadd k138_34 (v := ((42 + q : Nat) : Int)) rfl (by omega) ?_
          refine tw_iload k138_35 rfl ?_
          refine tw_call (by omega) (S' := []) (as := [.inr (.inr (.inl 126)), .inl ((42 + q : Nat) : Int), .inl v]) k138_36 (x_136 (M := M) (N := N) (by omega) (42 + q) (by omega) v (pRg_put hs (by omega) (by omega))) rfl rfl rfl rfl rfl (fun r36 Z36 hq36 => ?_)
          obtain ⟨rfl, M2, rfl, hb1, hb2, hb3⟩ := hq36
          refine tw_as (S := [.inl (M 127 (42 + q))]) (M := M2) (N := N) rfl rfl ?_
          refine tw_goto k138_39 ?_
          exact tw_ri k138_44 (⟨by unfold qSet sHi; (try simp only [Int.toNat_natCast]); (repeat' split) <;> first | rfl | omega, M2, rfl, by rw [hb1]; unfold aSet sHi; (try simp only [Int.toNat_natCast]); (repeat' split) <;> first | rfl | (exfalso; omega), hb2, hb3⟩)
        · refine tw_zeqT k138_27 (by decide) ?_
          refine tw_const k138_42 ?_
          exact tw_ri k138_44 (⟨by unfold qSet; (try unfold sHi); (try simp only [Int.toNat_natCast]); (repeat' split) <;> first | rfl | omega, M, rfl, by unfold aSet; (try unfold sHi); (try simp only [Int.toNat_natCast]); (repeat' split) <;> first | rfl | (exfalso; omega), hM, mKp_refl M⟩)
    · refine tw_zneF k138_6 (by decide) ?_
      refine tw_const k138_9 ?_
      exact tw_ri k138_10 (⟨by unfold qSet; (try unfold sHi); (try simp only [Int.toNat_natCast]); (repeat' split) <;> first | rfl | omega, M, rfl, by unfold aSet; (try unfold sHi); (try simp only [Int.toNat_natCast]); (repeat' split) <;> first | rfl | (exfalso; omega), hM, mKp_refl M⟩)
  · refine tw_iload k138_0 rfl ?_
    refine tw_const k138_1 ?_
    refine tw_const k138_2 ?_
    refine tw_callbF (by omega) (S' := []) (as := [.inl what, .inl (0 : Int), .inl (3 : Int)]) k138_3 (x_112 what (0 : Int) (3 : Int)) rfl rfl rfl rfl rfl (by omega) ?_
    refine tw_zneF k138_6 (by decide) ?_
    refine tw_const k138_9 ?_
    exact tw_ri k138_10 (⟨by unfold qSet; (try unfold sHi); (try simp only [Int.toNat_natCast]); (repeat' split) <;> first | rfl | omega, M, rfl, by unfold aSet; (try unfold sHi); (try simp only [Int.toNat_natCast]); (repeat' split) <;> first | rfl | (exfalso; omega), hM, mKp_refl M⟩)
theorem x_166_46 {K : mj_C} {d : Nat} {M : Nat → Nat → Int} {N : Nat → Nat → Int64} (hD : 2 ≤ d) (hV : pVI (M 127)) (hM : mW M) (y p : Int) : mj_X K d 166 [.inr (.inr (.inl 126)), .inl (46 : Int), .inl (5 : Int), .inl y, .inl p] (mj_Sh, M, N) (fun r Z => r = some (.inl (qList (M 127) 46 5 y p)) ∧ ∃ M1, Z = (mj_Sh, M1, N) ∧ M1 127 = aList (M 127) 46 5 y p ∧ mW M1 ∧ mKp M M1) := by
  show mj_T K d 166 0 [some (.inr (.inr (.inl 126))), some (.inl (46 : Int)), some (.inl (5 : Int)), some (.inl y), some (.inl p)] [] (mj_Sh, M, N) _
  have hs := hV.1
  have h0 := hs.1 0 (by omega)
  have h5 := hs.2.1
  have h11 := hs.1 11 (by omega)
  have hc11 := hs.2.2.1
  have hl := hV.2.2.1
  have hl1 := hl.1
  have hl2 := hl.2.1
  obtain ⟨n, hn⟩ : ∃ n : Nat, n = (M 127 46).toNat := ⟨_, rfl⟩
  have hn0 : M 127 46 = (n : Int) := by omega
  refine tw_iload k166_0 rfl ?_
  refine tw_const k166_1 ?_
  refine tw_cne k166_2 (fun h2 => ?_) (fun h2 => ?_)
  · refine tw_aload k166_14 rfl ?_
    refine tw_iload k166_15 rfl ?_
    refine tw_callb (by omega) (S' := []) (as := [.inr (.inr (.inl 126)), .inl y]) k166_16 (x_113 (M := M) (N := N) (by omega) hs y) rfl rfl rfl rfl rfl (fun h16 => ?_) (fun h16 => ?_)
    · refine tw_zneT k166_19 (by decide) ?_
      refine tw_iload k166_24 rfl ?_
      refine tw_const k166_26 ?_
      refine tw_const k166_27 ?_
      refine tw_callb (by omega) (S' := []) (as := [.inl p, .inl (0 : Int), .inl (20 : Int)]) k166_29 (x_112 p (0 : Int) (20 : Int)) rfl rfl rfl rfl rfl (fun h29 => ?_) (fun h29 => ?_)
      · refine tw_zneT k166_32 (by decide) ?_
        refine tw_aload k166_38 rfl ?_
        refine tw_getr k166_39 f126_0 ?_
        refine tw_iload k166_42 rfl ?_
        refine tw_iald (j := 46) (v := ((n : Nat) : Int)) k166_43 al127 rfl (by decide) hn0 ?_
        refine tw_iload k166_44 rfl ?_
        refine tw_cne k166_45 (fun h45 => ?_) (fun h45 => ?_)
        · have hrow2 : (pU (pU (pU (M 127) (47 + 2 * n) y) (48 + 2 * n) p) 46 ((n + 1 : Nat) : Int)) = aList (M 127) 46 5 y p := by
            unfold aList lOk; rw [if_neg (by omega), if_pos ⟨⟨h16, h29⟩, by omega⟩]; unfold sList; rw [← hn]
          have hrow : st M [(127, (pU (pU (pU (M 127) (47 + 2 * n) y) (48 + 2 * n) p) 46 ((n + 1 : Nat) : Int)))] 127 = aList (M 127) 46 5 y p := hrow2
          refine tw_aload k166_51 rfl ?_
          refine tw_getr k166_52 f126_0 ?_
          refine tw_iload k166_55 rfl ?_
          refine tw_const k166_56 ?_
          refine tw_iadd k166_57 (v := (47 : Int)) rfl (by decide) ?_
          refine tw_const k166_58 ?_
          refine tw_aload k166_59 rfl ?_
          refine tw_getr k166_60 f126_0 ?_
          refine tw_iload k166_63 rfl ?_
          refine tw_iald (j := 46) (v := ((n : Nat) : Int)) k166_64 al127 rfl (by decide) hn0 ?_
          refine tw_imul k166_65 (v := ((2 * n : Nat) : Int)) rfl (by omega) ?_
          refine tw_iadd k166_66 (v := ((47 + (2 * n) : Nat) : Int)) rfl (by omega) ?_
          refine tw_iload k166_67 rfl ?_
          refine tw_iast (M := M) (N := N) (l := []) (l' := [(127, (pU (M 127) (47 + 2 * n) y))]) (j := (47 + 2 * n)) k166_68 al127 (by omega) (by omega) rfl ?_
          refine tw_aload k166_69 rfl ?_
          refine tw_getr k166_70 f126_0 ?_
          refine tw_iload k166_73 rfl ?_
          refine tw_const k166_74 ?_
          refine tw_iadd k166_75 (v := (48 : Int)) rfl (by decide) ?_
          refine tw_const k166_76 ?_
          refine tw_aload k166_77 rfl ?_
          refine tw_getr k166_78 f126_0 ?_
          refine tw_iload k166_81 rfl ?_
          refine tw_iald (j := 46) (v := ((n : Nat) : Int)) k166_82 al127 rfl (by decide) (show (pU (M 127) (47 + 2 * n) y) 46 = _ from (by rw [pU_ne (by omega)]; exact hn0)) ?_
          refine tw_imul k166_83 (v := ((2 * n : Nat) : Int)) rfl (by omega) ?_
          refine tw_iadd k166_84 (v := ((48 + (2 * n) : Nat) : Int)) rfl (by omega) ?_
          refine tw_iload k166_85 rfl ?_
          refine tw_iast (M := M) (N := N) (l := [(127, (pU (M 127) (47 + 2 * n) y))]) (l' := [(127, (pU (pU (M 127) (47 + 2 * n) y) (48 + 2 * n) p))]) (j := (48 + 2 * n)) k166_87 al127 (by omega) (by omega) rfl ?_
          refine tw_aload k166_88 rfl ?_
          refine tw_getr k166_89 f126_0 ?_
          refine tw_iload k166_92 rfl ?_
          refine tw_dup2 k166_93 ?_
          refine tw_iald (j := 46) (v := ((n : Nat) : Int)) k166_94 al127 rfl (by decide) (show (pU (pU (M 127) (47 + 2 * n) y) (48 + 2 * n) p) 46 = _ from (by rw [pU_ne (by omega)]; rw [pU_ne (by omega)]; exact hn0)) ?_
          refine tw_const k166_95 ?_
          refine tw_iadd k166_96 (v := ((n + 1 : Nat) : Int)) rfl (by omega) ?_
          refine tw_iast (M := M) (N := N) (l := [(127, (pU (pU (M 127) (47 + 2 * n) y) (48 + 2 * n) p))]) (l' := [(127, (pU (pU (pU (M 127) (47 + 2 * n) y) (48 + 2 * n) p) 46 ((n + 1 : Nat) : Int)))]) (j := 46) k166_97 al127 rfl (by decide) rfl ?_
          refine tw_aload k166_98 rfl ?_
          refine tw_getr k166_99 f126_0 ?_
          refine tw_iload k166_102 rfl ?_
          refine tw_iald (j := 46) (v := (((n + 1) : Nat) : Int)) k166_103 al127 rfl (by decide) (show (pU (pU (pU (M 127) (47 + 2 * n) y) (48 + 2 * n) p) 46 ((n + 1 : Nat) : Int)) 46 = _ from pU_eq) ?_
          exact tw_ri k166_104 (⟨by unfold qList; rw [if_neg (by omega), if_pos h16, if_pos h29, if_pos (by omega)]; exact congrArg (fun x => some (Sum.inl x)) (by omega), _, rfl, hrow, mW_sQ hM (by rw [hrow2]; exact aList_sQ (by omega) y p), mKp_s0⟩)
        · refine tw_const k166_48 ?_
          exact tw_ri k166_50 (⟨by unfold qList; (try unfold lOk); (try simp only [Int.toNat_natCast]); (repeat' split) <;> first | rfl | omega, M, rfl, by unfold aList; (try unfold lOk); (try simp only [Int.toNat_natCast]); (repeat' split) <;> first | rfl | (exfalso; omega), hM, mKp_refl M⟩)
      · refine tw_zneF k166_32 (by decide) ?_
        refine tw_const k166_35 ?_
        exact tw_ri k166_37 (⟨by unfold qList; (try unfold lOk); (try simp only [Int.toNat_natCast]); (repeat' split) <;> first | rfl | omega, M, rfl, by unfold aList; (try unfold lOk); (try simp only [Int.toNat_natCast]); (repeat' split) <;> first | rfl | (exfalso; omega), hM, mKp_refl M⟩)
    · refine tw_zneF k166_19 (by decide) ?_
      refine tw_const k166_22 ?_
      exact tw_ri k166_23 (⟨by unfold qList; (try unfold lOk); (try simp only [Int.toNat_natCast]); (repeat' split) <;> first | rfl | omega, M, rfl, by unfold aList; (try unfold lOk); (try simp only [Int.toNat_natCast]); (repeat' split) <;> first | rfl | (exfalso; omega), hM, mKp_refl M⟩)
  · refine tw_aload k166_5 rfl ?_
    refine tw_getr k166_6 f126_0 ?_
    refine tw_iload k166_9 rfl ?_
    refine tw_const k166_10 ?_
    refine tw_iast (M := M) (N := N) (l := []) (l' := [(127, (pU (M 127) 46 (0 : Int)))]) (j := 46) k166_11 al127 rfl (by decide) rfl ?_
    refine tw_const k166_12 ?_
    exact tw_ri k166_13 (⟨by unfold qList; rw [if_pos (by omega)], _, rfl, by unfold aList; rw [if_pos (by omega)]; rfl, mW_sQ hM (fun i hi => pU_ne (by omega)), mKp_s0⟩)
theorem x_168 {K : mj_C} {d : Nat} {M : Nat → Nat → Int} {N : Nat → Nat → Int64} (hD : 3 ≤ d) (hV : pVI (M 127)) (hM : mW M) (y p : Int) : mj_X K d 168 [.inr (.inr (.inl 126)), .inl y, .inl p] (mj_Sh, M, N) (fun r Z => r = some (.inl (qList (M 127) 46 5 y p)) ∧ ∃ M1, Z = (mj_Sh, M1, N) ∧ M1 127 = aList (M 127) 46 5 y p ∧ mW M1 ∧ mKp M M1) := by
  show mj_T K d 168 0 [some (.inr (.inr (.inl 126))), some (.inl y), some (.inl p)] [] (mj_Sh, M, N) _
  refine tw_aload k168_0 rfl ?_
  refine tw_const k168_1 ?_
  refine tw_const k168_3 ?_
  refine tw_iload k168_4 rfl ?_
  refine tw_iload k168_5 rfl ?_
  refine tw_call (by omega) (S' := []) (as := [.inr (.inr (.inl 126)), .inl (46 : Int), .inl (5 : Int), .inl y, .inl p]) k168_6 (x_166_46 (M := M) (N := N) (by omega) hV hM y p) rfl rfl rfl rfl rfl (fun r6 Z6 hq6 => ?_)
  obtain ⟨rfl, M2, rfl, hb1, hb2, hb3⟩ := hq6
  refine tw_as (S := [.inl (qList (M 127) 46 5 y p)]) (M := M2) (N := N) rfl rfl ?_
  exact tw_ri k168_9 (⟨rfl, M2, rfl, hb1, hb2, hb3⟩)
theorem x_166_74 {K : mj_C} {d : Nat} {M : Nat → Nat → Int} {N : Nat → Nat → Int64} (hD : 2 ≤ d) (hV : pVI (M 127)) (hM : mW M) (y p : Int) : mj_X K d 166 [.inr (.inr (.inl 126)), .inl (74 : Int), .inl (8 : Int), .inl y, .inl p] (mj_Sh, M, N) (fun r Z => r = some (.inl (qList (M 127) 74 8 y p)) ∧ ∃ M1, Z = (mj_Sh, M1, N) ∧ M1 127 = aList (M 127) 74 8 y p ∧ mW M1 ∧ mKp M M1) := by
  show mj_T K d 166 0 [some (.inr (.inr (.inl 126))), some (.inl (74 : Int)), some (.inl (8 : Int)), some (.inl y), some (.inl p)] [] (mj_Sh, M, N) _
  have hs := hV.1
  have h0 := hs.1 0 (by omega)
  have h5 := hs.2.1
  have h11 := hs.1 11 (by omega)
  have hc11 := hs.2.2.1
  have hl := hV.2.2.2.1
  have hl1 := hl.1
  have hl2 := hl.2.1
  obtain ⟨n, hn⟩ : ∃ n : Nat, n = (M 127 74).toNat := ⟨_, rfl⟩
  have hn0 : M 127 74 = (n : Int) := by omega
  refine tw_iload k166_0 rfl ?_
  refine tw_const k166_1 ?_
  refine tw_cne k166_2 (fun h2 => ?_) (fun h2 => ?_)
  · refine tw_aload k166_14 rfl ?_
    refine tw_iload k166_15 rfl ?_
    refine tw_callb (by omega) (S' := []) (as := [.inr (.inr (.inl 126)), .inl y]) k166_16 (x_113 (M := M) (N := N) (by omega) hs y) rfl rfl rfl rfl rfl (fun h16 => ?_) (fun h16 => ?_)
    · refine tw_zneT k166_19 (by decide) ?_
      refine tw_iload k166_24 rfl ?_
      refine tw_const k166_26 ?_
      refine tw_const k166_27 ?_
      refine tw_callb (by omega) (S' := []) (as := [.inl p, .inl (0 : Int), .inl (20 : Int)]) k166_29 (x_112 p (0 : Int) (20 : Int)) rfl rfl rfl rfl rfl (fun h29 => ?_) (fun h29 => ?_)
      · refine tw_zneT k166_32 (by decide) ?_
        refine tw_aload k166_38 rfl ?_
        refine tw_getr k166_39 f126_0 ?_
        refine tw_iload k166_42 rfl ?_
        refine tw_iald (j := 74) (v := ((n : Nat) : Int)) k166_43 al127 rfl (by decide) hn0 ?_
        refine tw_iload k166_44 rfl ?_
        refine tw_cne k166_45 (fun h45 => ?_) (fun h45 => ?_)
        · have hrow2 : (pU (pU (pU (M 127) (75 + 2 * n) y) (76 + 2 * n) p) 74 ((n + 1 : Nat) : Int)) = aList (M 127) 74 8 y p := by
            unfold aList lOk; rw [if_neg (by omega), if_pos ⟨⟨h16, h29⟩, by omega⟩]; unfold sList; rw [← hn]
          have hrow : st M [(127, (pU (pU (pU (M 127) (75 + 2 * n) y) (76 + 2 * n) p) 74 ((n + 1 : Nat) : Int)))] 127 = aList (M 127) 74 8 y p := hrow2
          refine tw_aload k166_51 rfl ?_
          refine tw_getr k166_52 f126_0 ?_
          refine tw_iload k166_55 rfl ?_
          refine tw_const k166_56 ?_
          refine tw_iadd k166_57 (v := (75 : Int)) rfl (by decide) ?_
          refine tw_const k166_58 ?_
          refine tw_aload k166_59 rfl ?_
          refine tw_getr k166_60 f126_0 ?_
          refine tw_iload k166_63 rfl ?_
          refine tw_iald (j := 74) (v := ((n : Nat) : Int)) k166_64 al127 rfl (by decide) hn0 ?_
          refine tw_imul k166_65 (v := ((2 * n : Nat) : Int)) rfl (by omega) ?_
          refine tw_iadd k166_66 (v := ((75 + (2 * n) : Nat) : Int)) rfl (by omega) ?_
          refine tw_iload k166_67 rfl ?_
          refine tw_iast (M := M) (N := N) (l := []) (l' := [(127, (pU (M 127) (75 + 2 * n) y))]) (j := (75 + 2 * n)) k166_68 al127 (by omega) (by omega) rfl ?_
          refine tw_aload k166_69 rfl ?_
          refine tw_getr k166_70 f126_0 ?_
          refine tw_iload k166_73 rfl ?_
          refine tw_const k166_74 ?_
          refine tw_iadd k166_75 (v := (76 : Int)) rfl (by decide) ?_
          refine tw_const k166_76 ?_
          refine tw_aload k166_77 rfl ?_
          refine tw_getr k166_78 f126_0 ?_
          refine tw_iload k166_81 rfl ?_
          refine tw_iald (j := 74) (v := ((n : Nat) : Int)) k166_82 al127 rfl (by decide) (show (pU (M 127) (75 + 2 * n) y) 74 = _ from (by rw [pU_ne (by omega)]; exact hn0)) ?_
          refine tw_imul k166_83 (v := ((2 * n : Nat) : Int)) rfl (by omega) ?_
          refine tw_iadd k166_84 (v := ((76 + (2 * n) : Nat) : Int)) rfl (by omega) ?_
          refine tw_iload k166_85 rfl ?_
          refine tw_iast (M := M) (N := N) (l := [(127, (pU (M 127) (75 + 2 * n) y))]) (l' := [(127, (pU (pU (M 127) (75 + 2 * n) y) (76 + 2 * n) p))]) (j := (76 + 2 * n)) k166_87 al127 (by omega) (by omega) rfl ?_
          refine tw_aload k166_88 rfl ?_
          refine tw_getr k166_89 f126_0 ?_
          refine tw_iload k166_92 rfl ?_
          refine tw_dup2 k166_93 ?_
          refine tw_iald (j := 74) (v := ((n : Nat) : Int)) k166_94 al127 rfl (by decide) (show (pU (pU (M 127) (75 + 2 * n) y) (76 + 2 * n) p) 74 = _ from (by rw [pU_ne (by omega)]; rw [pU_ne (by omega)]; exact hn0)) ?_
          refine tw_const k166_95 ?_
          refine tw_iadd k166_96 (v := ((n + 1 : Nat) : Int)) rfl (by omega) ?_
          refine tw_iast (M := M) (N := N) (l := [(127, (pU (pU (M 127) (75 + 2 * n) y) (76 + 2 * n) p))]) (l' := [(127, (pU (pU (pU (M 127) (75 + 2 * n) y) (76 + 2 * n) p) 74 ((n + 1 : Nat) : Int)))]) (j := 74) k166_97 al127 rfl (by decide) rfl ?_
          refine tw_aload k166_98 rfl ?_
          refine tw_getr k166_99 f126_0 ?_
          refine tw_iload k166_102 rfl ?_
          refine tw_iald (j := 74) (v := (((n + 1) : Nat) : Int)) k166_103 al127 rfl (by decide) (show (pU (pU (pU (M 127) (75 + 2 * n) y) (76 + 2 * n) p) 74 ((n + 1 : Nat) : Int)) 74 = _ from pU_eq) ?_
          exact tw_ri k166_104 (⟨by unfold qList; rw [if_neg (by omega), if_pos h16, if_pos h29, if_pos (by omega)]; exact congrArg (fun x => some (Sum.inl x)) (by omega), _, rfl, hrow, mW_sQ hM (by rw [hrow2]; exact aList_sQ (by omega) y p), mKp_s0⟩)
        · refine tw_const k166_48 ?_
          exact tw_ri k166_50 (⟨by unfold qList; (try unfold lOk); (try simp only [Int.toNat_natCast]); (repeat' split) <;> first | rfl | omega, M, rfl, by unfold aList; (try unfold lOk); (try simp only [Int.toNat_natCast]); (repeat' split) <;> first | rfl | (exfalso; omega), hM, mKp_refl M⟩)
      · refine tw_zneF k166_32 (by decide) ?_
        refine tw_const k166_35 ?_
        exact tw_ri k166_37 (⟨by unfold qList; (try unfold lOk); (try simp only [Int.toNat_natCast]); (repeat' split) <;> first | rfl | omega, M, rfl, by unfold aList; (try unfold lOk); (try simp only [Int.toNat_natCast]); (repeat' split) <;> first | rfl | (exfalso; omega), hM, mKp_refl M⟩)
    · refine tw_zneF k166_19 (by decide) ?_
      refine tw_const k166_22 ?_
      exact tw_ri k166_23 (⟨by unfold qList; (try unfold lOk); (try simp only [Int.toNat_natCast]); (repeat' split) <;> first | rfl | omega, M, rfl, by unfold aList; (try unfold lOk); (try simp only [Int.toNat_natCast]); (repeat' split) <;> first | rfl | (exfalso; omega), hM, mKp_refl M⟩)
  · refine tw_aload k166_5 rfl ?_
    refine tw_getr k166_6 f126_0 ?_
    refine tw_iload k166_9 rfl ?_
    refine tw_const k166_10 ?_
    refine tw_iast (M := M) (N := N) (l := []) (l' := [(127, (pU (M 127) 74 (0 : Int)))]) (j := 74) k166_11 al127 rfl (by decide) rfl ?_
    refine tw_const k166_12 ?_
    exact tw_ri k166_13 (⟨by unfold qList; rw [if_pos (by omega)], _, rfl, by unfold aList; rw [if_pos (by omega)]; rfl, mW_sQ hM (fun i hi => pU_ne (by omega)), mKp_s0⟩)
theorem x_176 {K : mj_C} {d : Nat} {M : Nat → Nat → Int} {N : Nat → Nat → Int64} (hD : 3 ≤ d) (hV : pVI (M 127)) (hM : mW M) (y p : Int) : mj_X K d 176 [.inr (.inr (.inl 126)), .inl y, .inl p] (mj_Sh, M, N) (fun r Z => r = some (.inl (qList (M 127) 74 8 y p)) ∧ ∃ M1, Z = (mj_Sh, M1, N) ∧ M1 127 = aList (M 127) 74 8 y p ∧ mW M1 ∧ mKp M M1) := by
  show mj_T K d 176 0 [some (.inr (.inr (.inl 126))), some (.inl y), some (.inl p)] [] (mj_Sh, M, N) _
  refine tw_aload k176_0 rfl ?_
  refine tw_const k176_1 ?_
  refine tw_const k176_3 ?_
  refine tw_iload k176_5 rfl ?_
  refine tw_iload k176_6 rfl ?_
  refine tw_call (by omega) (S' := []) (as := [.inr (.inr (.inl 126)), .inl (74 : Int), .inl (8 : Int), .inl y, .inl p]) k176_7 (x_166_74 (M := M) (N := N) (by omega) hV hM y p) rfl rfl rfl rfl rfl (fun r7 Z7 hq7 => ?_)
  obtain ⟨rfl, M2, rfl, hb1, hb2, hb3⟩ := hq7
  refine tw_as (S := [.inl (qList (M 127) 74 8 y p)]) (M := M2) (N := N) rfl rfl ?_
  exact tw_ri k176_10 (⟨rfl, M2, rfl, hb1, hb2, hb3⟩)
theorem x_174 {K : mj_C} {d : Nat} {M : Nat → Nat → Int} {N : Nat → Nat → Int64} (hD : 2 ≤ d) (hV : pVI (M 127)) (hM : mW M) (what v : Int) : mj_X K d 174 [.inr (.inr (.inl 126)), .inl what, .inl v] (mj_Sh, M, N) (fun r Z => r = some (.inl (qEvent (M 127) what v)) ∧ ∃ M1, Z = (mj_Sh, M1, N) ∧ M1 127 = aEvent (M 127) what v ∧ mW M1 ∧ mKp M M1) := by
  show mj_T K d 174 0 [some (.inr (.inr (.inl 126))), some (.inl what), some (.inl v)] [] (mj_Sh, M, N) _
  have hs := hV.1
  have h0 := hs.1 0 (by omega)
  have h5 := hs.2.1
  have h11 := hs.1 11 (by omega)
  have hc11 := hs.2.2.1
  have hl := hV.2.2.2.2
  have hl1 := hl.1
  have hl2 := hl.2.1
  obtain ⟨n, hn⟩ : ∃ n : Nat, n = (M 127 57).toNat := ⟨_, rfl⟩
  have hn0 : M 127 57 = (n : Int) := by omega
  refine tw_iload k174_0 rfl ?_
  refine tw_const k174_1 ?_
  refine tw_cne k174_2 (fun h2 => ?_) (fun h2 => ?_)
  · refine tw_iload k174_15 rfl ?_
    refine tw_const k174_16 ?_
    refine tw_const k174_17 ?_
    refine tw_callb (by omega) (S' := []) (as := [.inl what, .inl (0 : Int), .inl (3 : Int)]) k174_18 (x_112 what (0 : Int) (3 : Int)) rfl rfl rfl rfl rfl (fun h18 => ?_) (fun h18 => ?_)
    · refine tw_zeqF k174_21 (by decide) ?_
      refine tw_iload k174_24 rfl ?_
      refine tw_const k174_25 ?_
      refine tw_cge k174_26 (fun h26 => ?_) (fun h26 => ?_)
      · refine tw_iload k174_39 rfl ?_
        refine tw_const k174_40 ?_
        refine tw_cle k174_41 (fun h41 => ?_) (fun h41 => ?_)
        · refine tw_aload k174_66 rfl ?_
          refine tw_getr k174_67 f126_0 ?_
          refine tw_const k174_70 ?_
          refine tw_iald (j := 57) (v := ((n : Nat) : Int)) k174_72 al127 rfl (by decide) hn0 ?_
          refine tw_const k174_73 ?_
          refine tw_cne k174_75 (fun h75 => ?_) (fun h75 => ?_)
          · have hrow2 : (pU (pU (pU (M 127) (58 + 2 * n) what) (59 + 2 * n) v) 57 ((n + 1 : Nat) : Int)) = aEvent (M 127) what v := by
              unfold aEvent eK eOk; (repeat' split) <;> first | (unfold sEv; rw [← hn]; done) | (exfalso; omega)
            have hrow : st M [(127, (pU (pU (pU (M 127) (58 + 2 * n) what) (59 + 2 * n) v) 57 ((n + 1 : Nat) : Int)))] 127 = aEvent (M 127) what v := hrow2
            refine tw_aload k174_81 rfl ?_
            refine tw_getr k174_82 f126_0 ?_
            refine tw_const k174_85 ?_
            refine tw_const k174_87 ?_
            refine tw_aload k174_88 rfl ?_
            refine tw_getr k174_89 f126_0 ?_
            refine tw_const k174_92 ?_
            refine tw_iald (j := 57) (v := ((n : Nat) : Int)) k174_94 al127 rfl (by decide) hn0 ?_
            refine tw_imul k174_95 (v := ((2 * n : Nat) : Int)) rfl (by omega) ?_
            refine tw_iadd k174_96 (v := ((58 + (2 * n) : Nat) : Int)) rfl (by omega) ?_
            refine tw_iload k174_97 rfl ?_
            refine tw_iast (M := M) (N := N) (l := []) (l' := [(127, (pU (M 127) (58 + 2 * n) what))]) (j := (58 + 2 * n)) k174_98 al127 (by omega) (by omega) rfl ?_
            refine tw_aload k174_99 rfl ?_
            refine tw_getr k174_100 f126_0 ?_
            refine tw_const k174_103 ?_
            refine tw_const k174_105 ?_
            refine tw_aload k174_106 rfl ?_
            refine tw_getr k174_107 f126_0 ?_
            refine tw_const k174_110 ?_
            refine tw_iald (j := 57) (v := ((n : Nat) : Int)) k174_112 al127 rfl (by decide) (show (pU (M 127) (58 + 2 * n) what) 57 = _ from (by rw [pU_ne (by omega)]; exact hn0)) ?_
            refine tw_imul k174_113 (v := ((2 * n : Nat) : Int)) rfl (by omega) ?_
            refine tw_iadd k174_114 (v := ((58 + (2 * n) : Nat) : Int)) rfl (by omega) ?_
            refine tw_const k174_115 ?_
            refine tw_iadd k174_116 (v := (((58 + (2 * n)) + 1 : Nat) : Int)) rfl (by omega) ?_
            refine tw_iload k174_117 rfl ?_
            refine tw_iast (M := M) (N := N) (l := [(127, (pU (M 127) (58 + 2 * n) what))]) (l' := [(127, (pU (pU (M 127) (58 + 2 * n) what) (59 + 2 * n) v))]) (j := (59 + 2 * n)) k174_118 al127 (by omega) (by omega) rfl ?_
            refine tw_aload k174_119 rfl ?_
            refine tw_getr k174_120 f126_0 ?_
            refine tw_const k174_123 ?_
            refine tw_dup2 k174_125 ?_
            refine tw_iald (j := 57) (v := ((n : Nat) : Int)) k174_126 al127 rfl (by decide) (show (pU (pU (M 127) (58 + 2 * n) what) (59 + 2 * n) v) 57 = _ from (by rw [pU_ne (by omega)]; rw [pU_ne (by omega)]; exact hn0)) ?_
            refine tw_const k174_127 ?_
            refine tw_iadd k174_128 (v := ((n + 1 : Nat) : Int)) rfl (by omega) ?_
            refine tw_iast (M := M) (N := N) (l := [(127, (pU (pU (M 127) (58 + 2 * n) what) (59 + 2 * n) v))]) (l' := [(127, (pU (pU (pU (M 127) (58 + 2 * n) what) (59 + 2 * n) v) 57 ((n + 1 : Nat) : Int)))]) (j := 57) k174_129 al127 rfl (by decide) rfl ?_
            refine tw_aload k174_130 rfl ?_
            refine tw_getr k174_131 f126_0 ?_
            refine tw_const k174_134 ?_
            refine tw_iald (j := 57) (v := (((n + 1) : Nat) : Int)) k174_136 al127 rfl (by decide) (show (pU (pU (pU (M 127) (58 + 2 * n) what) (59 + 2 * n) v) 57 ((n + 1 : Nat) : Int)) 57 = _ from pU_eq) ?_
            exact tw_ri k174_137 (⟨by unfold qEvent eK eOk; (repeat' split) <;> first | exact congrArg (fun x => some (Sum.inl x)) (by omega) | omega, _, rfl, hrow, mW_sQ hM (by rw [hrow2]; exact aEvent_sQ what v), mKp_s0⟩)
          · refine tw_const k174_78 ?_
            exact tw_ri k174_80 (⟨by unfold qEvent; (try unfold eK); (try unfold eOk); (try simp only [Int.toNat_natCast]); (repeat' split) <;> first | rfl | omega, M, rfl, by unfold aEvent; (try unfold eK); (try unfold eOk); (try simp only [Int.toNat_natCast]); (repeat' split) <;> first | rfl | (exfalso; omega), hM, mKp_refl M⟩)
        · refine tw_iload k174_44 rfl ?_
          refine tw_const k174_45 ?_
          refine tw_iload k174_46 rfl ?_
          refine tw_const k174_47 ?_
          refine tw_cne k174_48 (fun h48 => ?_) (fun h48 => ?_)
          · refine tw_const k174_55 ?_
            refine tw_callb (by omega) (S' := []) (as := [.inl v, .inl (0 : Int), .inl (20 : Int)]) k174_57 (x_112 v (0 : Int) (20 : Int)) rfl rfl rfl rfl rfl (fun h57 => ?_) (fun h57 => ?_)
            · refine tw_zneT k174_60 (by decide) ?_
              refine tw_aload k174_66 rfl ?_
              refine tw_getr k174_67 f126_0 ?_
              refine tw_const k174_70 ?_
              refine tw_iald (j := 57) (v := ((n : Nat) : Int)) k174_72 al127 rfl (by decide) hn0 ?_
              refine tw_const k174_73 ?_
              refine tw_cne k174_75 (fun h75 => ?_) (fun h75 => ?_)
              · have hrow2 : (pU (pU (pU (M 127) (58 + 2 * n) what) (59 + 2 * n) v) 57 ((n + 1 : Nat) : Int)) = aEvent (M 127) what v := by
                  unfold aEvent eK eOk; (repeat' split) <;> first | (unfold sEv; rw [← hn]; done) | (exfalso; omega)
                have hrow : st M [(127, (pU (pU (pU (M 127) (58 + 2 * n) what) (59 + 2 * n) v) 57 ((n + 1 : Nat) : Int)))] 127 = aEvent (M 127) what v := hrow2
                refine tw_aload k174_81 rfl ?_
                refine tw_getr k174_82 f126_0 ?_
                refine tw_const k174_85 ?_
                refine tw_const k174_87 ?_
                refine tw_aload k174_88 rfl ?_
                refine tw_getr k174_89 f126_0 ?_
                refine tw_const k174_92 ?_
                refine tw_iald (j := 57) (v := ((n : Nat) : Int)) k174_94 al127 rfl (by decide) hn0 ?_
                refine tw_imul k174_95 (v := ((2 * n : Nat) : Int)) rfl (by omega) ?_
                refine tw_iadd k174_96 (v := ((58 + (2 * n) : Nat) : Int)) rfl (by omega) ?_
                refine tw_iload k174_97 rfl ?_
                refine tw_iast (M := M) (N := N) (l := []) (l' := [(127, (pU (M 127) (58 + 2 * n) what))]) (j := (58 + 2 * n)) k174_98 al127 (by omega) (by omega) rfl ?_
                refine tw_aload k174_99 rfl ?_
                refine tw_getr k174_100 f126_0 ?_
                refine tw_const k174_103 ?_
                refine tw_const k174_105 ?_
                refine tw_aload k174_106 rfl ?_
                refine tw_getr k174_107 f126_0 ?_
                refine tw_const k174_110 ?_
                refine tw_iald (j := 57) (v := ((n : Nat) : Int)) k174_112 al127 rfl (by decide) (show (pU (M 127) (58 + 2 * n) what) 57 = _ from (by rw [pU_ne (by omega)]; exact hn0)) ?_
                refine tw_imul k174_113 (v := ((2 * n : Nat) : Int)) rfl (by omega) ?_
                refine tw_iadd k174_114 (v := ((58 + (2 * n) : Nat) : Int)) rfl (by omega) ?_
                refine tw_const k174_115 ?_
                refine tw_iadd k174_116 (v := (((58 + (2 * n)) + 1 : Nat) : Int)) rfl (by omega) ?_
                refine tw_iload k174_117 rfl ?_
                refine tw_iast (M := M) (N := N) (l := [(127, (pU (M 127) (58 + 2 * n) what))]) (l' := [(127, (pU (pU (M 127) (58 + 2 * n) what) (59 + 2 * n) v))]) (j := (59 + 2 * n)) k174_118 al127 (by omega) (by omega) rfl ?_
                refine tw_aload k174_119 rfl ?_
                refine tw_getr k174_120 f126_0 ?_
                refine tw_const k174_123 ?_
                refine tw_dup2 k174_125 ?_
                refine tw_iald (j := 57) (v := ((n : Nat) : Int)) k174_126 al127 rfl (by decide) (show (pU (pU (M 127) (58 + 2 * n) what) (59 + 2 * n) v) 57 = _ from (by rw [pU_ne (by omega)]; rw [pU_ne (by omega)]; exact hn0)) ?_
                refine tw_const k174_127 ?_
                refine tw_iadd k174_128 (v := ((n + 1 : Nat) : Int)) rfl (by omega) ?_
                refine tw_iast (M := M) (N := N) (l := [(127, (pU (pU (M 127) (58 + 2 * n) what) (59 + 2 * n) v))]) (l' := [(127, (pU (pU (pU (M 127) (58 + 2 * n) what) (59 + 2 * n) v) 57 ((n + 1 : Nat) : Int)))]) (j := 57) k174_129 al127 rfl (by decide) rfl ?_
                refine tw_aload k174_130 rfl ?_
                refine tw_getr k174_131 f126_0 ?_
                refine tw_const k174_134 ?_
                refine tw_iald (j := 57) (v := (((n + 1) : Nat) : Int)) k174_136 al127 rfl (by decide) (show (pU (pU (pU (M 127) (58 + 2 * n) what) (59 + 2 * n) v) 57 ((n + 1 : Nat) : Int)) 57 = _ from pU_eq) ?_
                exact tw_ri k174_137 (⟨by unfold qEvent eK eOk; (repeat' split) <;> first | exact congrArg (fun x => some (Sum.inl x)) (by omega) | omega, _, rfl, hrow, mW_sQ hM (by rw [hrow2]; exact aEvent_sQ what v), mKp_s0⟩)
              · refine tw_const k174_78 ?_
                exact tw_ri k174_80 (⟨by unfold qEvent; (try unfold eK); (try unfold eOk); (try simp only [Int.toNat_natCast]); (repeat' split) <;> first | rfl | omega, M, rfl, by unfold aEvent; (try unfold eK); (try unfold eOk); (try simp only [Int.toNat_natCast]); (repeat' split) <;> first | rfl | (exfalso; omega), hM, mKp_refl M⟩)
            · refine tw_zneF k174_60 (by decide) ?_
              refine tw_const k174_63 ?_
              exact tw_ri k174_65 (⟨by unfold qEvent; (try unfold eK); (try unfold eOk); (try simp only [Int.toNat_natCast]); (repeat' split) <;> first | rfl | omega, M, rfl, by unfold aEvent; (try unfold eK); (try unfold eOk); (try simp only [Int.toNat_natCast]); (repeat' split) <;> first | rfl | (exfalso; omega), hM, mKp_refl M⟩)
          · refine tw_const k174_51 ?_
            refine tw_goto k174_52 ?_
            refine tw_callb (by omega) (S' := []) (as := [.inl v, .inl (0 : Int), .inl (5 : Int)]) k174_57 (x_112 v (0 : Int) (5 : Int)) rfl rfl rfl rfl rfl (fun h57 => ?_) (fun h57 => ?_)
            · refine tw_zneT k174_60 (by decide) ?_
              refine tw_aload k174_66 rfl ?_
              refine tw_getr k174_67 f126_0 ?_
              refine tw_const k174_70 ?_
              refine tw_iald (j := 57) (v := ((n : Nat) : Int)) k174_72 al127 rfl (by decide) hn0 ?_
              refine tw_const k174_73 ?_
              refine tw_cne k174_75 (fun h75 => ?_) (fun h75 => ?_)
              · have hrow2 : (pU (pU (pU (M 127) (58 + 2 * n) what) (59 + 2 * n) v) 57 ((n + 1 : Nat) : Int)) = aEvent (M 127) what v := by
                  unfold aEvent eK eOk; (repeat' split) <;> first | (unfold sEv; rw [← hn]; done) | (exfalso; omega)
                have hrow : st M [(127, (pU (pU (pU (M 127) (58 + 2 * n) what) (59 + 2 * n) v) 57 ((n + 1 : Nat) : Int)))] 127 = aEvent (M 127) what v := hrow2
                refine tw_aload k174_81 rfl ?_
                refine tw_getr k174_82 f126_0 ?_
                refine tw_const k174_85 ?_
                refine tw_const k174_87 ?_
                refine tw_aload k174_88 rfl ?_
                refine tw_getr k174_89 f126_0 ?_
                refine tw_const k174_92 ?_
                refine tw_iald (j := 57) (v := ((n : Nat) : Int)) k174_94 al127 rfl (by decide) hn0 ?_
                refine tw_imul k174_95 (v := ((2 * n : Nat) : Int)) rfl (by omega) ?_
                refine tw_iadd k174_96 (v := ((58 + (2 * n) : Nat) : Int)) rfl (by omega) ?_
                refine tw_iload k174_97 rfl ?_
                refine tw_iast (M := M) (N := N) (l := []) (l' := [(127, (pU (M 127) (58 + 2 * n) what))]) (j := (58 + 2 * n)) k174_98 al127 (by omega) (by omega) rfl ?_
                refine tw_aload k174_99 rfl ?_
                refine tw_getr k174_100 f126_0 ?_
                refine tw_const k174_103 ?_
                refine tw_const k174_105 ?_
                refine tw_aload k174_106 rfl ?_
                refine tw_getr k174_107 f126_0 ?_
                refine tw_const k174_110 ?_
                refine tw_iald (j := 57) (v := ((n : Nat) : Int)) k174_112 al127 rfl (by decide) (show (pU (M 127) (58 + 2 * n) what) 57 = _ from (by rw [pU_ne (by omega)]; exact hn0)) ?_
                refine tw_imul k174_113 (v := ((2 * n : Nat) : Int)) rfl (by omega) ?_
                refine tw_iadd k174_114 (v := ((58 + (2 * n) : Nat) : Int)) rfl (by omega) ?_
                refine tw_const k174_115 ?_
                refine tw_iadd k174_116 (v := (((58 + (2 * n)) + 1 : Nat) : Int)) rfl (by omega) ?_
                refine tw_iload k174_117 rfl ?_
                refine tw_iast (M := M) (N := N) (l := [(127, (pU (M 127) (58 + 2 * n) what))]) (l' := [(127, (pU (pU (M 127) (58 + 2 * n) what) (59 + 2 * n) v))]) (j := (59 + 2 * n)) k174_118 al127 (by omega) (by omega) rfl ?_
                refine tw_aload k174_119 rfl ?_
                refine tw_getr k174_120 f126_0 ?_
                refine tw_const k174_123 ?_
                refine tw_dup2 k174_125 ?_
                refine tw_iald (j := 57) (v := ((n : Nat) : Int)) k174_126 al127 rfl (by decide) (show (pU (pU (M 127) (58 + 2 * n) what) (59 + 2 * n) v) 57 = _ from (by rw [pU_ne (by omega)]; rw [pU_ne (by omega)]; exact hn0)) ?_
                refine tw_const k174_127 ?_
                refine tw_iadd k174_128 (v := ((n + 1 : Nat) : Int)) rfl (by omega) ?_
                refine tw_iast (M := M) (N := N) (l := [(127, (pU (pU (M 127) (58 + 2 * n) what) (59 + 2 * n) v))]) (l' := [(127, (pU (pU (pU (M 127) (58 + 2 * n) what) (59 + 2 * n) v) 57 ((n + 1 : Nat) : Int)))]) (j := 57) k174_129 al127 rfl (by decide) rfl ?_
                refine tw_aload k174_130 rfl ?_
                refine tw_getr k174_131 f126_0 ?_
                refine tw_const k174_134 ?_
                refine tw_iald (j := 57) (v := (((n + 1) : Nat) : Int)) k174_136 al127 rfl (by decide) (show (pU (pU (pU (M 127) (58 + 2 * n) what) (59 + 2 * n) v) 57 ((n + 1 : Nat) : Int)) 57 = _ from pU_eq) ?_
                exact tw_ri k174_137 (⟨by unfold qEvent eK eOk; (repeat' split) <;> first | exact congrArg (fun x => some (Sum.inl x)) (by omega) | omega, _, rfl, hrow, mW_sQ hM (by rw [hrow2]; exact aEvent_sQ what v), mKp_s0⟩)
              · refine tw_const k174_78 ?_
                exact tw_ri k174_80 (⟨by unfold qEvent; (try unfold eK); (try unfold eOk); (try simp only [Int.toNat_natCast]); (repeat' split) <;> first | rfl | omega, M, rfl, by unfold aEvent; (try unfold eK); (try unfold eOk); (try simp only [Int.toNat_natCast]); (repeat' split) <;> first | rfl | (exfalso; omega), hM, mKp_refl M⟩)
            · refine tw_zneF k174_60 (by decide) ?_
              refine tw_const k174_63 ?_
              exact tw_ri k174_65 (⟨by unfold qEvent; (try unfold eK); (try unfold eOk); (try simp only [Int.toNat_natCast]); (repeat' split) <;> first | rfl | omega, M, rfl, by unfold aEvent; (try unfold eK); (try unfold eOk); (try simp only [Int.toNat_natCast]); (repeat' split) <;> first | rfl | (exfalso; omega), hM, mKp_refl M⟩)
      · refine tw_aload k174_29 rfl ?_
        refine tw_iload k174_30 rfl ?_
        refine tw_callb (by omega) (S' := []) (as := [.inr (.inr (.inl 126)), .inl v]) k174_31 (x_113 (M := M) (N := N) (by omega) hs v) rfl rfl rfl rfl rfl (fun h31 => ?_) (fun h31 => ?_)
        · refine tw_zneT k174_34 (by decide) ?_
          refine tw_iload k174_39 rfl ?_
          refine tw_const k174_40 ?_
          refine tw_cle k174_41 (fun h41 => ?_) (fun h41 => ?_)
          · refine tw_aload k174_66 rfl ?_
            refine tw_getr k174_67 f126_0 ?_
            refine tw_const k174_70 ?_
            refine tw_iald (j := 57) (v := ((n : Nat) : Int)) k174_72 al127 rfl (by decide) hn0 ?_
            refine tw_const k174_73 ?_
            refine tw_cne k174_75 (fun h75 => ?_) (fun h75 => ?_)
            · have hrow2 : (pU (pU (pU (M 127) (58 + 2 * n) what) (59 + 2 * n) v) 57 ((n + 1 : Nat) : Int)) = aEvent (M 127) what v := by
                unfold aEvent eK eOk; (repeat' split) <;> first | (unfold sEv; rw [← hn]; done) | (exfalso; omega)
              have hrow : st M [(127, (pU (pU (pU (M 127) (58 + 2 * n) what) (59 + 2 * n) v) 57 ((n + 1 : Nat) : Int)))] 127 = aEvent (M 127) what v := hrow2
              refine tw_aload k174_81 rfl ?_
              refine tw_getr k174_82 f126_0 ?_
              refine tw_const k174_85 ?_
              refine tw_const k174_87 ?_
              refine tw_aload k174_88 rfl ?_
              refine tw_getr k174_89 f126_0 ?_
              refine tw_const k174_92 ?_
              refine tw_iald (j := 57) (v := ((n : Nat) : Int)) k174_94 al127 rfl (by decide) hn0 ?_
              refine tw_imul k174_95 (v := ((2 * n : Nat) : Int)) rfl (by omega) ?_
              refine tw_iadd k174_96 (v := ((58 + (2 * n) : Nat) : Int)) rfl (by omega) ?_
              refine tw_iload k174_97 rfl ?_
              refine tw_iast (M := M) (N := N) (l := []) (l' := [(127, (pU (M 127) (58 + 2 * n) what))]) (j := (58 + 2 * n)) k174_98 al127 (by omega) (by omega) rfl ?_
              refine tw_aload k174_99 rfl ?_
              refine tw_getr k174_100 f126_0 ?_
              refine tw_const k174_103 ?_
              refine tw_const k174_105 ?_
              refine tw_aload k174_106 rfl ?_
              refine tw_getr k174_107 f126_0 ?_
              refine tw_const k174_110 ?_
              refine tw_iald (j := 57) (v := ((n : Nat) : Int)) k174_112 al127 rfl (by decide) (show (pU (M 127) (58 + 2 * n) what) 57 = _ from (by rw [pU_ne (by omega)]; exact hn0)) ?_
              refine tw_imul k174_113 (v := ((2 * n : Nat) : Int)) rfl (by omega) ?_
              refine tw_iadd k174_114 (v := ((58 + (2 * n) : Nat) : Int)) rfl (by omega) ?_
              refine tw_const k174_115 ?_
              refine tw_iadd k174_116 (v := (((58 + (2 * n)) + 1 : Nat) : Int)) rfl (by omega) ?_
              refine tw_iload k174_117 rfl ?_
              refine tw_iast (M := M) (N := N) (l := [(127, (pU (M 127) (58 + 2 * n) what))]) (l' := [(127, (pU (pU (M 127) (58 + 2 * n) what) (59 + 2 * n) v))]) (j := (59 + 2 * n)) k174_118 al127 (by omega) (by omega) rfl ?_
              refine tw_aload k174_119 rfl ?_
              refine tw_getr k174_120 f126_0 ?_
              refine tw_const k174_123 ?_
              refine tw_dup2 k174_125 ?_
              refine tw_iald (j := 57) (v := ((n : Nat) : Int)) k174_126 al127 rfl (by decide) (show (pU (pU (M 127) (58 + 2 * n) what) (59 + 2 * n) v) 57 = _ from (by rw [pU_ne (by omega)]; rw [pU_ne (by omega)]; exact hn0)) ?_
              refine tw_const k174_127 ?_
              refine tw_iadd k174_128 (v := ((n + 1 : Nat) : Int)) rfl (by omega) ?_
              refine tw_iast (M := M) (N := N) (l := [(127, (pU (pU (M 127) (58 + 2 * n) what) (59 + 2 * n) v))]) (l' := [(127, (pU (pU (pU (M 127) (58 + 2 * n) what) (59 + 2 * n) v) 57 ((n + 1 : Nat) : Int)))]) (j := 57) k174_129 al127 rfl (by decide) rfl ?_
              refine tw_aload k174_130 rfl ?_
              refine tw_getr k174_131 f126_0 ?_
              refine tw_const k174_134 ?_
              refine tw_iald (j := 57) (v := (((n + 1) : Nat) : Int)) k174_136 al127 rfl (by decide) (show (pU (pU (pU (M 127) (58 + 2 * n) what) (59 + 2 * n) v) 57 ((n + 1 : Nat) : Int)) 57 = _ from pU_eq) ?_
              exact tw_ri k174_137 (⟨by unfold qEvent eK eOk; (repeat' split) <;> first | exact congrArg (fun x => some (Sum.inl x)) (by omega) | omega, _, rfl, hrow, mW_sQ hM (by rw [hrow2]; exact aEvent_sQ what v), mKp_s0⟩)
            · refine tw_const k174_78 ?_
              exact tw_ri k174_80 (⟨by unfold qEvent; (try unfold eK); (try unfold eOk); (try simp only [Int.toNat_natCast]); (repeat' split) <;> first | rfl | omega, M, rfl, by unfold aEvent; (try unfold eK); (try unfold eOk); (try simp only [Int.toNat_natCast]); (repeat' split) <;> first | rfl | (exfalso; omega), hM, mKp_refl M⟩)
          · refine tw_iload k174_44 rfl ?_
            refine tw_const k174_45 ?_
            refine tw_iload k174_46 rfl ?_
            refine tw_const k174_47 ?_
            refine tw_cne k174_48 (fun h48 => ?_) (fun h48 => ?_)
            · refine tw_const k174_55 ?_
              refine tw_callb (by omega) (S' := []) (as := [.inl v, .inl (0 : Int), .inl (20 : Int)]) k174_57 (x_112 v (0 : Int) (20 : Int)) rfl rfl rfl rfl rfl (fun h57 => ?_) (fun h57 => ?_)
              · refine tw_zneT k174_60 (by decide) ?_
                refine tw_aload k174_66 rfl ?_
                refine tw_getr k174_67 f126_0 ?_
                refine tw_const k174_70 ?_
                refine tw_iald (j := 57) (v := ((n : Nat) : Int)) k174_72 al127 rfl (by decide) hn0 ?_
                refine tw_const k174_73 ?_
                refine tw_cne k174_75 (fun h75 => ?_) (fun h75 => ?_)
                · have hrow2 : (pU (pU (pU (M 127) (58 + 2 * n) what) (59 + 2 * n) v) 57 ((n + 1 : Nat) : Int)) = aEvent (M 127) what v := by
                    unfold aEvent eK eOk; (repeat' split) <;> first | (unfold sEv; rw [← hn]; done) | (exfalso; omega)
                  have hrow : st M [(127, (pU (pU (pU (M 127) (58 + 2 * n) what) (59 + 2 * n) v) 57 ((n + 1 : Nat) : Int)))] 127 = aEvent (M 127) what v := hrow2
                  refine tw_aload k174_81 rfl ?_
                  refine tw_getr k174_82 f126_0 ?_
                  refine tw_const k174_85 ?_
                  refine tw_const k174_87 ?_
                  refine tw_aload k174_88 rfl ?_
                  refine tw_getr k174_89 f126_0 ?_
                  refine tw_const k174_92 ?_
                  refine tw_iald (j := 57) (v := ((n : Nat) : Int)) k174_94 al127 rfl (by decide) hn0 ?_
                  refine tw_imul k174_95 (v := ((2 * n : Nat) : Int)) rfl (by omega) ?_
                  refine tw_iadd k174_96 (v := ((58 + (2 * n) : Nat) : Int)) rfl (by omega) ?_
                  refine tw_iload k174_97 rfl ?_
                  refine tw_iast (M := M) (N := N) (l := []) (l' := [(127, (pU (M 127) (58 + 2 * n) what))]) (j := (58 + 2 * n)) k174_98 al127 (by omega) (by omega) rfl ?_
                  refine tw_aload k174_99 rfl ?_
                  refine tw_getr k174_100 f126_0 ?_
                  refine tw_const k174_103 ?_
                  refine tw_const k174_105 ?_
                  refine tw_aload k174_106 rfl ?_
                  refine tw_getr k174_107 f126_0 ?_
                  refine tw_const k174_110 ?_
                  refine tw_iald (j := 57) (v := ((n : Nat) : Int)) k174_112 al127 rfl (by decide) (show (pU (M 127) (58 + 2 * n) what) 57 = _ from (by rw [pU_ne (by omega)]; exact hn0)) ?_
                  refine tw_imul k174_113 (v := ((2 * n : Nat) : Int)) rfl (by omega) ?_
                  refine tw_iadd k174_114 (v := ((58 + (2 * n) : Nat) : Int)) rfl (by omega) ?_
                  refine tw_const k174_115 ?_
                  refine tw_iadd k174_116 (v := (((58 + (2 * n)) + 1 : Nat) : Int)) rfl (by omega) ?_
                  refine tw_iload k174_117 rfl ?_
                  refine tw_iast (M := M) (N := N) (l := [(127, (pU (M 127) (58 + 2 * n) what))]) (l' := [(127, (pU (pU (M 127) (58 + 2 * n) what) (59 + 2 * n) v))]) (j := (59 + 2 * n)) k174_118 al127 (by omega) (by omega) rfl ?_
                  refine tw_aload k174_119 rfl ?_
                  refine tw_getr k174_120 f126_0 ?_
                  refine tw_const k174_123 ?_
                  refine tw_dup2 k174_125 ?_
                  refine tw_iald (j := 57) (v := ((n : Nat) : Int)) k174_126 al127 rfl (by decide) (show (pU (pU (M 127) (58 + 2 * n) what) (59 + 2 * n) v) 57 = _ from (by rw [pU_ne (by omega)]; rw [pU_ne (by omega)]; exact hn0)) ?_
                  refine tw_const k174_127 ?_
                  refine tw_iadd k174_128 (v := ((n + 1 : Nat) : Int)) rfl (by omega) ?_
                  refine tw_iast (M := M) (N := N) (l := [(127, (pU (pU (M 127) (58 + 2 * n) what) (59 + 2 * n) v))]) (l' := [(127, (pU (pU (pU (M 127) (58 + 2 * n) what) (59 + 2 * n) v) 57 ((n + 1 : Nat) : Int)))]) (j := 57) k174_129 al127 rfl (by decide) rfl ?_
                  refine tw_aload k174_130 rfl ?_
                  refine tw_getr k174_131 f126_0 ?_
                  refine tw_const k174_134 ?_
                  refine tw_iald (j := 57) (v := (((n + 1) : Nat) : Int)) k174_136 al127 rfl (by decide) (show (pU (pU (pU (M 127) (58 + 2 * n) what) (59 + 2 * n) v) 57 ((n + 1 : Nat) : Int)) 57 = _ from pU_eq) ?_
                  exact tw_ri k174_137 (⟨by unfold qEvent eK eOk; (repeat' split) <;> first | exact congrArg (fun x => some (Sum.inl x)) (by omega) | omega, _, rfl, hrow, mW_sQ hM (by rw [hrow2]; exact aEvent_sQ what v), mKp_s0⟩)
                · refine tw_const k174_78 ?_
                  exact tw_ri k174_80 (⟨by unfold qEvent; (try unfold eK); (try unfold eOk); (try simp only [Int.toNat_natCast]); (repeat' split) <;> first | rfl | omega, M, rfl, by unfold aEvent; (try unfold eK); (try unfold eOk); (try simp only [Int.toNat_natCast]); (repeat' split) <;> first | rfl | (exfalso; omega), hM, mKp_refl M⟩)
              · refine tw_zneF k174_60 (by decide) ?_
                refine tw_const k174_63 ?_
                exact tw_ri k174_65 (⟨by unfold qEvent; (try unfold eK); (try unfold eOk); (try simp only [Int.toNat_natCast]); (repeat' split) <;> first | rfl | omega, M, rfl, by unfold aEvent; (try unfold eK); (try unfold eOk); (try simp only [Int.toNat_natCast]); (repeat' split) <;> first | rfl | (exfalso; omega), hM, mKp_refl M⟩)
            · refine tw_const k174_51 ?_
              refine tw_goto k174_52 ?_
              refine tw_callb (by omega) (S' := []) (as := [.inl v, .inl (0 : Int), .inl (5 : Int)]) k174_57 (x_112 v (0 : Int) (5 : Int)) rfl rfl rfl rfl rfl (fun h57 => ?_) (fun h57 => ?_)
              · refine tw_zneT k174_60 (by decide) ?_
                refine tw_aload k174_66 rfl ?_
                refine tw_getr k174_67 f126_0 ?_
                refine tw_const k174_70 ?_
                refine tw_iald (j := 57) (v := ((n : Nat) : Int)) k174_72 al127 rfl (by decide) hn0 ?_
                refine tw_const k174_73 ?_
                refine tw_cne k174_75 (fun h75 => ?_) (fun h75 => ?_)
                · have hrow2 : (pU (pU (pU (M 127) (58 + 2 * n) what) (59 + 2 * n) v) 57 ((n + 1 : Nat) : Int)) = aEvent (M 127) what v := by
                    unfold aEvent eK eOk; (repeat' split) <;> first | (unfold sEv; rw [← hn]; done) | (exfalso; omega)
                  have hrow : st M [(127, (pU (pU (pU (M 127) (58 + 2 * n) what) (59 + 2 * n) v) 57 ((n + 1 : Nat) : Int)))] 127 = aEvent (M 127) what v := hrow2
                  refine tw_aload k174_81 rfl ?_
                  refine tw_getr k174_82 f126_0 ?_
                  refine tw_const k174_85 ?_
                  refine tw_const k174_87 ?_
                  refine tw_aload k174_88 rfl ?_
                  refine tw_getr k174_89 f126_0 ?_
                  refine tw_const k174_92 ?_
                  refine tw_iald (j := 57) (v := ((n : Nat) : Int)) k174_94 al127 rfl (by decide) hn0 ?_
                  refine tw_imul k174_95 (v := ((2 * n : Nat) : Int)) rfl (by omega) ?_
                  refine tw_iadd k174_96 (v := ((58 + (2 * n) : Nat) : Int)) rfl (by omega) ?_
                  refine tw_iload k174_97 rfl ?_
                  refine tw_iast (M := M) (N := N) (l := []) (l' := [(127, (pU (M 127) (58 + 2 * n) what))]) (j := (58 + 2 * n)) k174_98 al127 (by omega) (by omega) rfl ?_
                  refine tw_aload k174_99 rfl ?_
                  refine tw_getr k174_100 f126_0 ?_
                  refine tw_const k174_103 ?_
                  refine tw_const k174_105 ?_
                  refine tw_aload k174_106 rfl ?_
                  refine tw_getr k174_107 f126_0 ?_
                  refine tw_const k174_110 ?_
                  refine tw_iald (j := 57) (v := ((n : Nat) : Int)) k174_112 al127 rfl (by decide) (show (pU (M 127) (58 + 2 * n) what) 57 = _ from (by rw [pU_ne (by omega)]; exact hn0)) ?_
                  refine tw_imul k174_113 (v := ((2 * n : Nat) : Int)) rfl (by omega) ?_
                  refine tw_iadd k174_114 (v := ((58 + (2 * n) : Nat) : Int)) rfl (by omega) ?_
                  refine tw_const k174_115 ?_
                  refine tw_iadd k174_116 (v := (((58 + (2 * n)) + 1 : Nat) : Int)) rfl (by omega) ?_
                  refine tw_iload k174_117 rfl ?_
                  refine tw_iast (M := M) (N := N) (l := [(127, (pU (M 127) (58 + 2 * n) what))]) (l' := [(127, (pU (pU (M 127) (58 + 2 * n) what) (59 + 2 * n) v))]) (j := (59 + 2 * n)) k174_118 al127 (by omega) (by omega) rfl ?_
                  refine tw_aload k174_119 rfl ?_
                  refine tw_getr k174_120 f126_0 ?_
                  refine tw_const k174_123 ?_
                  refine tw_dup2 k174_125 ?_
                  refine tw_iald (j := 57) (v := ((n : Nat) : Int)) k174_126 al127 rfl (by decide) (show (pU (pU (M 127) (58 + 2 * n) what) (59 + 2 * n) v) 57 = _ from (by rw [pU_ne (by omega)]; rw [pU_ne (by omega)]; exact hn0)) ?_
                  refine tw_const k174_127 ?_
                  refine tw_iadd k174_128 (v := ((n + 1 : Nat) : Int)) rfl (by omega) ?_
                  refine tw_iast (M := M) (N := N) (l := [(127, (pU (pU (M 127) (58 + 2 * n) what) (59 + 2 * n) v))]) (l' := [(127, (pU (pU (pU (M 127) (58 + 2 * n) what) (59 + 2 * n) v) 57 ((n + 1 : Nat) : Int)))]) (j := 57) k174_129 al127 rfl (by decide) rfl ?_
                  refine tw_aload k174_130 rfl ?_
                  refine tw_getr k174_131 f126_0 ?_
                  refine tw_const k174_134 ?_
                  refine tw_iald (j := 57) (v := (((n + 1) : Nat) : Int)) k174_136 al127 rfl (by decide) (show (pU (pU (pU (M 127) (58 + 2 * n) what) (59 + 2 * n) v) 57 ((n + 1 : Nat) : Int)) 57 = _ from pU_eq) ?_
                  exact tw_ri k174_137 (⟨by unfold qEvent eK eOk; (repeat' split) <;> first | exact congrArg (fun x => some (Sum.inl x)) (by omega) | omega, _, rfl, hrow, mW_sQ hM (by rw [hrow2]; exact aEvent_sQ what v), mKp_s0⟩)
                · refine tw_const k174_78 ?_
                  exact tw_ri k174_80 (⟨by unfold qEvent; (try unfold eK); (try unfold eOk); (try simp only [Int.toNat_natCast]); (repeat' split) <;> first | rfl | omega, M, rfl, by unfold aEvent; (try unfold eK); (try unfold eOk); (try simp only [Int.toNat_natCast]); (repeat' split) <;> first | rfl | (exfalso; omega), hM, mKp_refl M⟩)
              · refine tw_zneF k174_60 (by decide) ?_
                refine tw_const k174_63 ?_
                exact tw_ri k174_65 (⟨by unfold qEvent; (try unfold eK); (try unfold eOk); (try simp only [Int.toNat_natCast]); (repeat' split) <;> first | rfl | omega, M, rfl, by unfold aEvent; (try unfold eK); (try unfold eOk); (try simp only [Int.toNat_natCast]); (repeat' split) <;> first | rfl | (exfalso; omega), hM, mKp_refl M⟩)
        · refine tw_zneF k174_34 (by decide) ?_
          refine tw_const k174_37 ?_
          exact tw_ri k174_38 (⟨by unfold qEvent; (try unfold eK); (try unfold eOk); (try simp only [Int.toNat_natCast]); (repeat' split) <;> first | rfl | omega, M, rfl, by unfold aEvent; (try unfold eK); (try unfold eOk); (try simp only [Int.toNat_natCast]); (repeat' split) <;> first | rfl | (exfalso; omega), hM, mKp_refl M⟩)
    · refine tw_zeqT k174_21 (by decide) ?_
      refine tw_const k174_37 ?_
      exact tw_ri k174_38 (⟨by unfold qEvent; (try unfold eK); (try unfold eOk); (try simp only [Int.toNat_natCast]); (repeat' split) <;> first | rfl | omega, M, rfl, by unfold aEvent; (try unfold eK); (try unfold eOk); (try simp only [Int.toNat_natCast]); (repeat' split) <;> first | rfl | (exfalso; omega), hM, mKp_refl M⟩)
  · refine tw_aload k174_5 rfl ?_
    refine tw_getr k174_6 f126_0 ?_
    refine tw_const k174_9 ?_
    refine tw_const k174_11 ?_
    refine tw_iast (M := M) (N := N) (l := []) (l' := [(127, (pU (M 127) 57 (0 : Int)))]) (j := 57) k174_12 al127 rfl (by decide) rfl ?_
    refine tw_const k174_13 ?_
    exact tw_ri k174_14 (⟨by unfold qEvent; rw [if_pos (by omega)], _, rfl, by unfold aEvent; rw [if_pos (by omega)]; rfl, mW_sQ hM (fun i hi => pU_ne (by omega)), mKp_s0⟩)
