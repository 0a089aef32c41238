-- what is worked out: permits taken, given, borrowed (both sides are tied to these words); the model's groups, takes, gives, borrows
abbrev WS : Type := (Nat → Int) × (Nat → Int) × Int × Int × Int
def wGr (s : Nat → Int) (W : WS) : GS := gF s W.1 (s 0).toNat
def gTot (perm : Nat → Int) (G : GS) (g : Nat) : Int := pS perm (G.2.1 g) (G.2.2.1 g + 1 - G.2.1 g)
def pBk (perm : Nat → Int) : Nat → Nat
  | 0 => 0
  | y + 1 => if perm (y + 1) = 0 then pBk perm y else y + 1
def tkG (s : Nat → Int) (W : WS) (G : GS) : Nat := pFd (fun g => (G.2.2.2 g : Int) < s 42 ∧ ¬ gTot W.1 G g = 0) (fun _ => inferInstance) G.1 0
def tkW (W : WS) (y : Nat) : WS := (pU W.1 y (W.1 y - 1), W.2.1, W.2.2.1 + 1, W.2.2.2.1 + 1, W.2.2.2.2)
def gvG (s : Nat → Int) (G : GS) : Nat := pFd (fun g => s 43 < (G.2.2.2 g : Int)) (fun _ => inferInstance) G.1 0
def gvW (W : WS) (y : Nat) : WS := (pU W.1 y (W.1 y + 1), W.2.1, W.2.2.1 - 1, W.2.2.2.1, W.2.2.2.2 + 1)
def bwG (s : Nat → Int) (W : WS) (G : GS) : Nat := pFd (fun g => G.2.2.2 (g + 1) < G.2.2.2 g ∧ W.2.1 (G.2.2.1 g) < s 45 ∧ ¬ W.1 (G.2.1 (g + 1)) = 0) (fun _ => inferInstance) (G.1 - 1) 0
def bwW (W : WS) (z y : Nat) : WS := (pU (pU W.1 z (W.1 z - 1)) y (W.1 y + 1), pU W.2.1 y (W.2.1 y + 1), W.2.2)
theorem pFd_sp {P : Nat → Prop} {dP : ∀ i, Decidable (P i)} : ∀ (k i : Nat), (pFd P dP k i < i + k ∧ P (pFd P dP k i) ∧ i ≤ pFd P dP k i ∨ pFd P dP k i = i + k) ∧ ∀ j, i ≤ j → j < pFd P dP k i → ¬ P j
  | 0, i => ⟨Or.inr rfl, fun j h1 h2 => by rw [pFd] at h2; omega⟩
  | k + 1, i => by
    rw [pFd]
    by_cases e : P i
    · rw [if_pos e]
      exact ⟨Or.inl ⟨by omega, e, Nat.le_refl _⟩, fun j h1 h2 => by omega⟩
    · rw [if_neg e]
      have ⟨h1, h2⟩ := pFd_sp (P := P) (dP := dP) k (i + 1)
      refine ⟨?_, fun j h3 h4 => ?_⟩
      · rcases h1 with ⟨a, b, c⟩ | a
        · exact Or.inl ⟨by omega, b, by omega⟩
        · exact Or.inr (by omega)
      · by_cases e2 : j = i
        · subst e2; exact e
        · exact h2 j (by omega) h4
theorem pBk_sp {perm : Nat → Int} : ∀ (l a : Nat), a ≤ l → ¬ pS perm a (l + 1 - a) = 0 → a ≤ pBk perm l ∧ pBk perm l ≤ l ∧ ¬ perm (pBk perm l) = 0 ∧ ∀ y, pBk perm l < y → y ≤ l → perm y = 0
  | 0, a, ha, h => by
    have e : a = 0 := by omega
    subst e
    simp [pS] at h
    refine ⟨Nat.le_refl _, Nat.le_refl _, h, fun y h1 h2 => by omega⟩
  | l + 1, a, ha, h => by
    rw [pBk]
    by_cases e : perm (l + 1) = 0
    · rw [if_pos e]
      by_cases e2 : a = l + 1
      · subst e2
        have : l + 1 + 1 - (l + 1) = 0 + 1 := by omega
        rw [this, pS, pS] at h
        exact absurd (by rw [Nat.add_zero, e]; rfl) h
      · have : l + 1 + 1 - a = (l + 1 - a) + 1 := by omega
        rw [this, pS] at h
        have e3 : a + (l + 1 - a) = l + 1 := by omega
        rw [e3, e, Int.add_zero] at h
        have ⟨h1, h2, h3, h4⟩ := pBk_sp l a (by omega) h
        refine ⟨h1, by omega, h3, fun y h5 h6 => ?_⟩
        by_cases e4 : y = l + 1
        · rw [e4, e]
        · exact h4 y h5 (by omega)
    · rw [if_neg e]
      exact ⟨ha, Nat.le_refl _, e, fun y h1 h2 => by omega⟩
theorem pBk_sk {perm : Nat → Int} {l y : Nat} (hl : perm y ≠ 0) (hy : y ≤ l) (h : ∀ k, y < k → k ≤ l → perm k = 0) : pBk perm l = y := by
  induction l with
  | zero => have : y = 0 := by omega
            subst this; rfl
  | succ l ih =>
    rw [pBk]
    by_cases e : y = l + 1
    · subst e; rw [if_neg hl]
    · rw [if_pos (h (l + 1) (by omega) (by omega))]
      exact ih (by omega) (fun k h1 h2 => h k h1 (by omega))
theorem pU_pU {α : Type} (f : Nat → α) (j : Nat) (v w : α) : pU (pU f j v) j w = pU f j w := by
  funext i; unfold pU; split <;> rfl
theorem pS_pU {f : Nat → Int} {a k : Nat} {v : Int} : ∀ (n : Nat), pS (pU f k v) a n = if a ≤ k ∧ k < a + n then pS f a n + v - f k else pS f a n
  | 0 => by rw [if_neg (by omega)]; rfl
  | n + 1 => by
    rw [pS, pS, pS_pU n]
    by_cases e : k = a + n
    · subst e; rw [pU_eq, if_neg (by omega), if_pos (by omega)]; omega
    · rw [pU_ne (Ne.symm e)]
      by_cases e2 : a ≤ k ∧ k < a + n
      · rw [if_pos e2, if_pos (by omega)]; omega
      · rw [if_neg e2, if_neg (by omega)]
theorem x_123 {K : mj_C} {d : Nat} {M : Nat → Nat → Int} {N : Nat → Nat → Int64} (hD : 5 ≤ d) (hs : pRg (M 127)) (perm : Nat → Int) (hP : ∀ y, y < 5 → M 130 y = perm y) (hB : ∀ y, y < 5 → 0 ≤ perm y ∧ perm y ≤ 1000) : mj_X K d 123 [.inr (.inr (.inl 126))] (mj_Sh, M, N) (fun r Z => r = none ∧ ∃ f1 f2 f3, Z = (mj_Sh, st M [(126, pU (M 126) 17 (((gF (M 127) perm (M 127 0).toNat).1 : Nat) : Int)), (136, f1), (137, f2), (138, f3)], N) ∧ gRel (((gF (M 127) perm (M 127 0).toNat).1 : Nat) : Int) f1 f2 f3 (gF (M 127) perm (M 127 0).toNat)) := by
  show mj_T K d 123 0 [some (.inr (.inr (.inl 126))), none] [] (mj_Sh, M, N) _
  have h0 := hs.1 0 (by omega)
  have h5 := hs.2.1
  obtain ⟨Y, hYe⟩ : ∃ Y : Nat, Y = (M 127 0).toNat := ⟨_, rfl⟩
  have hY : Y ≤ 5 := by omega
  have key2 : ∀ (n : Nat) (G : GS) (g : Nat) (f1 f2 f3 : Nat → Int), 6 * G.1 + 6 ≤ n + g → g < 6 → gOk Y G → gRel (G.1 : Int) f1 f2 f3 G → (∀ j, j < g → j + 1 < G.1 → ¬ G.2.2.2 j < G.2.2.2 (j + 1)) → (g < G.1 ∨ g = 0) → gDn (M 127) perm G.1 G = (gF (M 127) perm (M 127 0).toNat) → mj_T K d 123 47 [some (.inr (.inr (.inl 126))), some (.inl ((g : Nat) : Int))] [] (mj_Sh, (st M [(126, (pU (M 126) 17 ((G.1 : Nat) : Int))), (136, f1), (137, f2), (138, f3)]), N) (fun r Z => r = none ∧ ∃ f1 f2 f3, Z = (mj_Sh, st M [(126, pU (M 126) 17 (((gF (M 127) perm (M 127 0).toNat).1 : Nat) : Int)), (136, f1), (137, f2), (138, f3)], N) ∧ gRel (((gF (M 127) perm (M 127 0).toNat).1 : Nat) : Int) f1 f2 f3 (gF (M 127) perm (M 127 0).toNat)) := by
    intro n
    induction n with
    | zero => intro G g f1 f2 f3 h1 h2; omega
    | succ n ih =>
      intro G g f1 f2 f3 hn hg6 hO hG hN hgs hD
      have hO1 := hO.1
      refine tw_iload k123_47 rfl ?_
      refine tw_const k123_48 ?_
      refine tw_iadd k123_49 (v := ((g + 1 : Nat) : Int)) rfl (by omega) ?_
      refine tw_aload k123_50 rfl ?_
      refine tw_geti k123_51 f126_17 rfl (v := ((G.1 : Nat) : Int)) (show (pU (M 126) 17 ((G.1 : Nat) : Int)) 17 = _ from pU_eq) ?_
      refine tw_cge k123_54 (fun h54 => ?_) (fun h54 => ?_)
      · exact tw_rv k123_90 (⟨rfl, f1, f2, f3, by rw [← hD, gDn_no (fun j hj => hN j (by omega) hj)], by rw [← hD, gDn_no (fun j hj => hN j (by omega) hj)]; exact hG⟩)
      · refine tw_aload k123_57 rfl ?_
        refine tw_getr k123_58 f126_12 ?_
        refine tw_iload k123_61 rfl ?_
        refine tw_iald (j := g) (v := (((G.2.2.2 g) : Nat) : Int)) k123_62 al138 rfl (by omega) (show f3 g = _ from (hG.2 g (by omega)).2.2) ?_
        refine tw_aload k123_63 rfl ?_
        refine tw_getr k123_64 f126_12 ?_
        refine tw_iload k123_67 rfl ?_
        refine tw_const k123_68 ?_
        refine tw_iadd k123_69 (v := ((g + 1 : Nat) : Int)) rfl (by omega) ?_
        refine tw_iald (j := g + 1) (v := (((G.2.2.2 (g + 1)) : Nat) : Int)) k123_70 al138 rfl (by omega) (show f3 (g + 1) = _ from (hG.2 (g + 1) (by omega)).2.2) ?_
        refine tw_cge k123_71 (fun h71 => ?_) (fun h71 => ?_)
        · refine tw_iinc k123_84 rfl (v := ((g + 1 : Nat) : Int)) rfl (by omega) rfl (L' := [some (.inr (.inr (.inl 126))), some (.inl ((g + 1 : Nat) : Int))]) rfl ?_
          refine tw_goto k123_87 ?_
          exact ih G (g + 1) _ _ _ (by omega) (by omega) hO hG (fun j hj hj2 => by
            by_cases e : j = g
            · subst e; omega
            · exact hN j (by omega) hj2) (by omega) hD
        · refine tw_aload k123_74 rfl ?_
          refine tw_iload k123_75 rfl ?_
          refine tw_call (by omega) (S' := []) (as := [.inr (.inr (.inl 126)), .inl ((g : Nat) : Int)]) k123_76 (x_122 (M := (st M [(126, (pU (M 126) 17 ((G.1 : Nat) : Int))), (136, f1), (137, f2), (138, f3)])) (N := N) (by omega) hs G Y hY hO (show gRel (pU (M 126) 17 ((G.1 : Nat) : Int) 17) f1 f2 f3 G from by rw [pU_eq]; exact hG) g (by omega) perm (fun y hy => hP y (by omega)) (fun y hy => hB y (by omega))) rfl rfl rfl rfl rfl (fun r76 Z76 hq76 => ?_)
          obtain ⟨rfl, k1, k2, k3, rfl, hG2⟩ := hq76
          refine tw_as (S := []) (M := (st M [(126, (pU (M 126) 17 ((G.1 - 1 : Nat) : Int))), (136, k1), (137, k2), (138, k3)])) (N := N) (by rw [st_mg]; show st M [(126, pU (pU (M 126) 17 ((G.1 : Nat) : Int)) 17 ((G.1 - 1 : Nat) : Int)), (136, _), (137, _), (138, _)] = _; rw [pU_pU]) rfl ?_
          refine tw_const k123_79 ?_
          refine tw_istore k123_80 rfl (L' := [some (.inr (.inr (.inl 126))), some (.inl (0 : Int))]) rfl ?_
          refine tw_goto k123_81 ?_
          exact ih (gJ (M 127) perm g G) 0 _ _ _ (by show 6 * (G.1 - 1) + 6 ≤ _; omega) (by omega) (gJ_ok hO (by omega)) hG2 (fun j hj => by omega) (Or.inr rfl) (by rw [← hD]; exact gDn_join (by omega) (by omega) (fun j hj => hN j hj (by omega)))
  have key1 : ∀ y : Nat, y ≤ Y → ∀ f1 f2 f3 : Nat → Int, (∀ j, j < y → f1 j = (j : Int) ∧ f2 j = (j : Int) ∧ f3 j = ((gPv (M 127) perm j j : Nat) : Int)) → mj_T K d 123 12 [some (.inr (.inr (.inl 126))), some (.inl ((y : Nat) : Int))] [] (mj_Sh, (st M [(126, (pU (M 126) 17 ((Y : Nat) : Int))), (136, f1), (137, f2), (138, f3)]), N) (fun r Z => r = none ∧ ∃ f1 f2 f3, Z = (mj_Sh, st M [(126, pU (M 126) 17 (((gF (M 127) perm (M 127 0).toNat).1 : Nat) : Int)), (136, f1), (137, f2), (138, f3)], N) ∧ gRel (((gF (M 127) perm (M 127 0).toNat).1 : Nat) : Int) f1 f2 f3 (gF (M 127) perm (M 127 0).toNat)) := by
    refine up_to Y ?_ ?_
    · show ∀ f1 f2 f3 : Nat → Int, (∀ j, j < Y → f1 j = (j : Int) ∧ f2 j = (j : Int) ∧ f3 j = ((gPv (M 127) perm j j : Nat) : Int)) → mj_T K d 123 12 [some (.inr (.inr (.inl 126))), some (.inl ((Y : Nat) : Int))] [] (mj_Sh, (st M [(126, (pU (M 126) 17 ((Y : Nat) : Int))), (136, f1), (137, f2), (138, f3)]), N) (fun r Z => r = none ∧ ∃ f1 f2 f3, Z = (mj_Sh, st M [(126, pU (M 126) 17 (((gF (M 127) perm (M 127 0).toNat).1 : Nat) : Int)), (136, f1), (137, f2), (138, f3)], N) ∧ gRel (((gF (M 127) perm (M 127 0).toNat).1 : Nat) : Int) f1 f2 f3 (gF (M 127) perm (M 127 0).toNat))
      intro f1 f2 f3 hf
      refine tw_iload k123_12 rfl ?_
      refine tw_aload k123_13 rfl ?_
      refine tw_geti k123_14 f126_17 rfl (v := ((Y : Nat) : Int)) (show (pU (M 126) 17 ((Y : Nat) : Int)) 17 = _ from pU_eq) ?_
      refine tw_cgeT k123_17 (by omega) ?_
      refine tw_const k123_45 ?_
      refine tw_istore k123_46 rfl (L' := [some (.inr (.inr (.inl 126))), some (.inl (0 : Int))]) rfl ?_
      exact key2 (6 * Y + 6) (g0 (M 127) perm Y) 0 f1 f2 f3 (Nat.le_refl _) (by omega) (g0_ok _ _ _) ⟨rfl, hf⟩ (fun j hj => by omega) (Or.inr rfl) (by rw [← hYe]; rfl)
    · intro y hmy ih
      have ih : ∀ f1 f2 f3 : Nat → Int, (∀ j, j < (y + 1) → f1 j = (j : Int) ∧ f2 j = (j : Int) ∧ f3 j = ((gPv (M 127) perm j j : Nat) : Int)) → mj_T K d 123 12 [some (.inr (.inr (.inl 126))), some (.inl (((y + 1) : Nat) : Int))] [] (mj_Sh, (st M [(126, (pU (M 126) 17 ((Y : Nat) : Int))), (136, f1), (137, f2), (138, f3)]), N) (fun r Z => r = none ∧ ∃ f1 f2 f3, Z = (mj_Sh, st M [(126, pU (M 126) 17 (((gF (M 127) perm (M 127 0).toNat).1 : Nat) : Int)), (136, f1), (137, f2), (138, f3)], N) ∧ gRel (((gF (M 127) perm (M 127 0).toNat).1 : Nat) : Int) f1 f2 f3 (gF (M 127) perm (M 127 0).toNat)) := ih
      show ∀ f1 f2 f3 : Nat → Int, (∀ j, j < y → f1 j = (j : Int) ∧ f2 j = (j : Int) ∧ f3 j = ((gPv (M 127) perm j j : Nat) : Int)) → mj_T K d 123 12 [some (.inr (.inr (.inl 126))), some (.inl ((y : Nat) : Int))] [] (mj_Sh, (st M [(126, (pU (M 126) 17 ((Y : Nat) : Int))), (136, f1), (137, f2), (138, f3)]), N) (fun r Z => r = none ∧ ∃ f1 f2 f3, Z = (mj_Sh, st M [(126, pU (M 126) 17 (((gF (M 127) perm (M 127 0).toNat).1 : Nat) : Int)), (136, f1), (137, f2), (138, f3)], N) ∧ gRel (((gF (M 127) perm (M 127 0).toNat).1 : Nat) : Int) f1 f2 f3 (gF (M 127) perm (M 127 0).toNat))
      intro f1 f2 f3 hf
      refine tw_iload k123_12 rfl ?_
      refine tw_aload k123_13 rfl ?_
      refine tw_geti k123_14 f126_17 rfl (v := ((Y : Nat) : Int)) (show (pU (M 126) 17 ((Y : Nat) : Int)) 17 = _ from pU_eq) ?_
      refine tw_cgeF k123_17 (by omega) ?_
      refine tw_aload k123_20 rfl ?_
      refine tw_getr k123_21 f126_10 ?_
      refine tw_iload k123_24 rfl ?_
      refine tw_iload k123_25 rfl ?_
      refine tw_iast (M := M) (N := N) (l := [(126, (pU (M 126) 17 ((Y : Nat) : Int))), (136, f1), (137, f2), (138, f3)]) (l' := [(126, (pU (M 126) 17 ((Y : Nat) : Int))), (136, (pU f1 y ((y : Nat) : Int))), (137, f2), (138, f3)]) (j := y) k123_26 al136 rfl (by omega) rfl ?_
      refine tw_aload k123_27 rfl ?_
      refine tw_getr k123_28 f126_11 ?_
      refine tw_iload k123_31 rfl ?_
      refine tw_iload k123_32 rfl ?_
      refine tw_iast (M := M) (N := N) (l := [(126, (pU (M 126) 17 ((Y : Nat) : Int))), (136, (pU f1 y ((y : Nat) : Int))), (137, f2), (138, f3)]) (l' := [(126, (pU (M 126) 17 ((Y : Nat) : Int))), (136, (pU f1 y ((y : Nat) : Int))), (137, (pU f2 y ((y : Nat) : Int))), (138, f3)]) (j := y) k123_33 al137 rfl (by omega) rfl ?_
      refine tw_aload k123_34 rfl ?_
      refine tw_iload k123_35 rfl ?_
      refine tw_call (by omega) (S' := []) (as := [.inr (.inr (.inl 126)), .inl ((y : Nat) : Int)]) k123_36 (x_121 (M := (st M [(126, (pU (M 126) 17 ((Y : Nat) : Int))), (136, (pU f1 y ((y : Nat) : Int))), (137, (pU f2 y ((y : Nat) : Int))), (138, f3)])) (N := N) (by omega) hs y y y (by omega) pU_eq pU_eq (by omega) (by omega) perm (fun k h1 h2 => hP k (by omega)) (fun k h1 h2 => hB k (by omega))) rfl rfl rfl rfl rfl (fun r36 Z36 hq36 => ?_)
      obtain ⟨rfl, rfl⟩ := hq36
      refine tw_as (S := []) (M := (st M [(126, (pU (M 126) 17 ((Y : Nat) : Int))), (136, (pU f1 y ((y : Nat) : Int))), (137, (pU f2 y ((y : Nat) : Int))), (138, (pU f3 y ((gPv (M 127) perm y y : Nat) : Int)))])) (N := N) (by rw [st_mg]; rfl) rfl ?_
      refine tw_iinc k123_39 rfl (v := ((y + 1 : Nat) : Int)) rfl (by omega) rfl (L' := [some (.inr (.inr (.inl 126))), some (.inl ((y + 1 : Nat) : Int))]) rfl ?_
      refine tw_goto k123_42 ?_
      refine ih _ _ _ (fun j hj => ?_)
      by_cases e : j = y
      · subst e; exact ⟨pU_eq, pU_eq, pU_eq⟩
      · rw [pU_ne e, pU_ne e, pU_ne e]; exact hf j (by omega)
  refine tw_aload k123_0 rfl ?_
  refine tw_aload k123_1 rfl ?_
  refine tw_getr k123_2 f126_0 ?_
  refine tw_const k123_5 ?_
  refine tw_iald (j := 0) (v := ((Y : Nat) : Int)) k123_6 al127 rfl (by decide) (show M 127 0 = (Y : Int) by omega) ?_
  refine tw_puti (M := M) (N := N) (l := []) (l' := [(126, (pU (M 126) 17 ((Y : Nat) : Int)))]) k123_7 f126_17 rfl ?_
  refine tw_const k123_10 ?_
  refine tw_istore k123_11 rfl (L' := [some (.inr (.inr (.inl 126))), some (.inl (0 : Int))]) rfl ?_
  refine tw_pad (M := M) (N := N) (l := [(126, (pU (M 126) 17 ((Y : Nat) : Int)))]) (l' := [(126, (pU (M 126) 17 ((Y : Nat) : Int))), (136, M 136), (137, M 137), (138, M 138)]) [136, 137, 138] rfl ?_
  exact key1 0 (by omega) _ _ _ (fun j hj => by omega)
