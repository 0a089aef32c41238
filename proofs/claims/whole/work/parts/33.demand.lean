-- rules over a cell whose number is not written out; rows of cells; a set-up's cells as the words see them
section TRules2
variable {K : mj_C} {d m pc nx : Nat} {L L' : mj_L} {S : List mj_V} {h : List mj_S} {M : Nat → Nat → Int} {N : Nat → Nat → Int64} {Q : Option mj_V → mj_Z → Prop} {n : Int} {a b : Nat} {tb : List (Int × Nat)}
theorem tw_iastu {q u j : Nat} {i v : Int} (hc : mj_cod m pc = some ((18, n, a, b, tb), nx)) (hk : mj_al h 1 q = some u) (hi : i = (j : Int)) (hj : j < u) (kk : mj_T K d m nx L S (h, mj_u M q j v, N) Q) : mj_T K d m pc L (.inl v :: .inl i :: .inr (.inr (.inl q)) :: S) (h, M, N) Q := tw_step hc (by
  subst hi
  show mj_iast nx L (.inl v :: .inl (j : Int) :: .inr (.inr (.inl q)) :: S) (h, M, N) = _
  rw [mo_iast hk, if_pos (by omega), Int.toNat_natCast]) kk
theorem tw_lastu {q u j : Nat} {i : Int} {v : Int64} (hc : mj_cod m pc = some ((20, n, a, b, tb), nx)) (hk : mj_al h 2 q = some u) (hi : i = (j : Int)) (hj : j < u) (kk : mj_T K d m nx L S (h, M, mj_u N q j v) Q) : mj_T K d m pc L (.inr (.inl v) :: .inl i :: .inr (.inr (.inl q)) :: S) (h, M, N) Q := tw_step hc (by
  subst hi
  show mj_last nx L (.inr (.inl v) :: .inl (j : Int) :: .inr (.inr (.inl q)) :: S) (h, M, N) = _
  rw [mo_last hk, if_pos (by omega), Int.toNat_natCast]) kk
theorem tw_putiu {q : Nat} {v : Int} (hc : mj_cod m pc = some ((16, 0, a, b, tb), nx)) (hk : mj_fk h q a b = some (.inl 0)) (kk : mj_T K d m nx L S (h, mj_u M q b v, N) Q) : mj_T K d m pc L (.inl v :: .inr (.inr (.inl q)) :: S) (h, M, N) Q := tw_step hc (by
  show mj_put 0 a b nx L (.inl v :: .inr (.inr (.inl q)) :: S) (h, M, N) = _
  rw [mo_puti hk]) kk
end TRules2
theorem tu_eq {α : Type} {M : Nat → Nat → α} {a j : Nat} {v : α} : mj_u M a j v a j = v := by simp [mj_u]
theorem tu_ne {α : Type} {M : Nat → Nat → α} {a j c k : Nat} {v : α} (h : c ≠ a ∨ k ≠ j) : mj_u M a j v c k = M c k := by
  unfold mj_u; rw [if_neg (by omega)]
theorem tu_row {α : Type} {M : Nat → Nat → α} {a j c : Nat} {v : α} (h : c ≠ a) : mj_u M a j v c = M c := by
  funext k; exact tu_ne (Or.inl h)
theorem alD {q : Nat} (h : 38 ≤ q ∧ q ≤ 43 ∨ 72 ≤ q ∧ q ≤ 77) : mj_al mj_Sh 1 q = some 21 := by
  have : q = 38 ∨ q = 39 ∨ q = 40 ∨ q = 41 ∨ q = 42 ∨ q = 43 ∨ q = 72 ∨ q = 73 ∨ q = 74 ∨ q = 75 ∨ q = 76 ∨ q = 77 := by omega
  rcases this with rfl | rfl | rfl | rfl | rfl | rfl | rfl | rfl | rfl | rfl | rfl | rfl <;> rfl
theorem alF {q : Nat} (h : 56 ≤ q ∧ q ≤ 60 ∨ 90 ≤ q ∧ q ≤ 94) : mj_al mj_Sh 1 q = some 5 := by
  have : q = 56 ∨ q = 57 ∨ q = 58 ∨ q = 59 ∨ q = 60 ∨ q = 90 ∨ q = 91 ∨ q = 92 ∨ q = 93 ∨ q = 94 := by omega
  rcases this with rfl | rfl | rfl | rfl | rfl | rfl | rfl | rfl | rfl | rfl <;> rfl
theorem rr37 {j : Nat} (h : j < 6) : mj_rr mj_Sh 37 j = some (38 + j) := by
  have : j = 0 ∨ j = 1 ∨ j = 2 ∨ j = 3 ∨ j = 4 ∨ j = 5 := by omega
  rcases this with rfl | rfl | rfl | rfl | rfl | rfl <;> rfl
theorem rr71 {j : Nat} (h : j < 6) : mj_rr mj_Sh 71 j = some (72 + j) := by
  have : j = 0 ∨ j = 1 ∨ j = 2 ∨ j = 3 ∨ j = 4 ∨ j = 5 := by omega
  rcases this with rfl | rfl | rfl | rfl | rfl | rfl <;> rfl
theorem rr55 {j : Nat} (h : j < 5) : mj_rr mj_Sh 55 j = some (56 + j) := by
  have : j = 0 ∨ j = 1 ∨ j = 2 ∨ j = 3 ∨ j = 4 := by omega
  rcases this with rfl | rfl | rfl | rfl | rfl <;> rfl
theorem rr89 {j : Nat} (h : j < 5) : mj_rr mj_Sh 89 j = some (90 + j) := by
  have : j = 0 ∨ j = 1 ∨ j = 2 ∨ j = 3 ∨ j = 4 := by omega
  rcases this with rfl | rfl | rfl | rfl | rfl <;> rfl
theorem pE_s {s : Nat → Int} {y m : Nat} {b : Int} : pE s y b (m + 1) = pE s y b m - (if s (12 + m) = y ∧ s (22 + m) < b then s (32 + m) else 0) := rfl
def cSV (o : Nat) (M : Nat → Nat → Int) (s : Nat → Int) : Prop := M o 6 = s 0 ∧ M o 7 = s 11 ∧ (∀ y, y < 5 → M (o + 1) y = s (1 + y) ∧ M (o + 2) y = s (6 + y)) ∧ (∀ m, m < 10 → M (o + 3) m = s (12 + m) ∧ M (o + 4) m = s (22 + m) ∧ M (o + 5) m = s (32 + m)) ∧ (∀ i, i < 4 → M (o + 6) i = s (42 + i))
def dM (q : Nat) (M : Nat → Nat → Int) (s : Nat → Int) : Prop := ∀ k, k ≤ (s 0).toNat → ∀ p, p ≤ 20 → M (q + k) p = pS (pLo s p) 0 k
theorem cSV_fr {o : Nat} {M M1 : Nat → Nat → Int} {s : Nat → Int} (h : cSV o M s) (hf : ∀ c, o ≤ c → c ≤ o + 6 → M1 c = M c) : cSV o M1 s := by
  obtain ⟨h1, h2, h3, h4, h5⟩ := h
  refine ⟨by rw [hf o (by omega) (by omega)]; exact h1, by rw [hf o (by omega) (by omega)]; exact h2, fun y hy => ?_, fun m hm => ?_, fun i hi => ?_⟩
  · rw [hf _ (by omega) (by omega), hf _ (by omega) (by omega)]; exact h3 y hy
  · rw [hf _ (by omega) (by omega), hf _ (by omega) (by omega), hf _ (by omega) (by omega)]; exact h4 m hm
  · rw [hf _ (by omega) (by omega)]; exact h5 i hi
theorem dM_fr {q : Nat} {M M1 : Nat → Nat → Int} {s : Nat → Int} (hs : pRg s) (h : dM q M s) (hf : ∀ c, q ≤ c → c ≤ q + 5 → M1 c = M c) : dM q M1 s := fun k hk p hp => by
  have := hs.2.1
  rw [hf _ (by omega) (by omega)]; exact h k hk p hp
theorem st_nil {α : Type} (M : Nat → Nat → α) (x : Nat) : st M [] x = M x := rfl
theorem pS_split {f : Nat → Int} {a : Nat} : ∀ n, pS f 0 (a + n) = pS f 0 a + pS f a n
  | 0 => by show pS f 0 a = pS f 0 a + 0; omega
  | n + 1 => by
    have : a + (n + 1) = (a + n) + 1 := by omega
    rw [this, pS, pS, pS_split n, Nat.zero_add]; omega
theorem pLo_1 {s : Nat → Int} (h : pRg s) {p y : Nat} : pLo s (p - 1) y = pEm s y (p : Int) := by
  unfold pLo
  by_cases e : p = 0
  · subst e
    have h2 : ∀ m : Nat, (m : Int) ≤ s 11 → pE s y ((0 - 1 + 1 : Nat) : Int) m = pE s y ((0 : Nat) : Int) m := by
      intro m
      induction m with
      | zero => intro _; rfl
      | succ m ih =>
        intro hm
        have h3 := h.2.2.2.2 m (by omega)
        rw [pE_s, pE_s, ih (by omega), if_neg (by omega), if_neg (by omega)]
    unfold pEm
    have := h.1 11 (by omega)
    rw [h2 _ (by omega)]
  · have : p - 1 + 1 = p := by omega
    rw [this]
theorem x_5_35 {K : mj_C} {d : Nat} {M : Nat → Nat → Int} {N : Nat → Nat → Int64} (s : Nat → Int) (hs : pRg s) (hS : cSV 2 M s) (y : Nat) (hy : y < 5) (q : Nat) (hq : 38 ≤ q ∧ q ≤ 43 ∨ 72 ≤ q ∧ q ≤ 77) : mj_X K d 5 [.inr (.inr (.inl 2)), .inl ((y : Nat) : Int), .inr (.inr (.inl q))] (mj_Sh, M, N) (fun r Z => r = none ∧ ∃ M1, Z = (mj_Sh, M1, N) ∧ (∀ c, c ≠ q → M1 c = M c) ∧ ∀ p, p ≤ 20 → M1 q p = pE s y ((p + 1 : Nat) : Int) (s 11).toNat) := by
  show mj_T K d 5 0 [some (.inr (.inr (.inl 2))), some (.inl ((y : Nat) : Int)), some (.inr (.inr (.inl q))), none, none] [] (mj_Sh, M, N) _
  have h0 := hs.1 0 (by omega)
  have h5 := hs.2.1
  obtain ⟨Y, hYe⟩ : ∃ Y : Nat, Y = (s 0).toNat := ⟨_, rfl⟩
  have hY0 : s 0 = (Y : Int) := by omega
  have h11 := hs.1 11 (by omega)
  have hc11 := hs.2.2.1
  have key2 : ∀ k : Nat, k ≤ (s 11).toNat → ∀ o4 (M1 : Nat → Nat → Int), (∀ c, c ≠ q → M1 c = M c) → (∀ p, p ≤ 20 → M1 q p = pE s y ((p + 1 : Nat) : Int) k) → mj_T K d 5 25 [some (.inr (.inr (.inl 2))), some (.inl ((y : Nat) : Int)), some (.inr (.inr (.inl q))), some (.inl ((k : Nat) : Int)), sv o4] [] (mj_Sh, M1, N) (fun r Z => r = none ∧ ∃ M1, Z = (mj_Sh, M1, N) ∧ (∀ c, c ≠ q → M1 c = M c) ∧ ∀ p, p ≤ 20 → M1 q p = pE s y ((p + 1 : Nat) : Int) (s 11).toNat) := by
    refine up_to (s 11).toNat ?_ ?_
    · show ∀ o4 (M1 : Nat → Nat → Int), (∀ c, c ≠ q → M1 c = M c) → (∀ p, p ≤ 20 → M1 q p = pE s y ((p + 1 : Nat) : Int) (s 11).toNat) → mj_T K d 5 25 [some (.inr (.inr (.inl 2))), some (.inl ((y : Nat) : Int)), some (.inr (.inr (.inl q))), some (.inl (((s 11).toNat : Nat) : Int)), sv o4] [] (mj_Sh, M1, N) (fun r Z => r = none ∧ ∃ M1, Z = (mj_Sh, M1, N) ∧ (∀ c, c ≠ q → M1 c = M c) ∧ ∀ p, p ≤ 20 → M1 q p = pE s y ((p + 1 : Nat) : Int) (s 11).toNat)
      intro o4 M1 hf hv
      refine tw_iload k5_25 rfl ?_
      refine tw_aload k5_26 rfl ?_
      refine tw_geti k5_27 f2_7 rfl (v := (s 11)) (cSV_fr hS (fun c _ _ => hf c (by omega))).2.1 ?_
      refine tw_cgeT k5_30 (by omega) ?_
      exact tw_rv k5_83 (⟨rfl, M1, rfl, hf, hv⟩)
    · intro k hmk ih
      have ih : ∀ o4 (M1 : Nat → Nat → Int), (∀ c, c ≠ q → M1 c = M c) → (∀ p, p ≤ 20 → M1 q p = pE s y ((p + 1 : Nat) : Int) (k + 1)) → mj_T K d 5 25 [some (.inr (.inr (.inl 2))), some (.inl ((y : Nat) : Int)), some (.inr (.inr (.inl q))), some (.inl (((k + 1) : Nat) : Int)), sv o4] [] (mj_Sh, M1, N) (fun r Z => r = none ∧ ∃ M1, Z = (mj_Sh, M1, N) ∧ (∀ c, c ≠ q → M1 c = M c) ∧ ∀ p, p ≤ 20 → M1 q p = pE s y ((p + 1 : Nat) : Int) (s 11).toNat) := ih
      show ∀ o4 (M1 : Nat → Nat → Int), (∀ c, c ≠ q → M1 c = M c) → (∀ p, p ≤ 20 → M1 q p = pE s y ((p + 1 : Nat) : Int) k) → mj_T K d 5 25 [some (.inr (.inr (.inl 2))), some (.inl ((y : Nat) : Int)), some (.inr (.inr (.inl q))), some (.inl ((k : Nat) : Int)), sv o4] [] (mj_Sh, M1, N) (fun r Z => r = none ∧ ∃ M1, Z = (mj_Sh, M1, N) ∧ (∀ c, c ≠ q → M1 c = M c) ∧ ∀ p, p ≤ 20 → M1 q p = pE s y ((p + 1 : Nat) : Int) (s 11).toNat)
      intro o4 M1 hf hv
      have hck := hs.1 (22 + k) (by omega)
      obtain ⟨c, hce⟩ : ∃ c : Nat, s (22 + k) = (c : Int) := ⟨(s (22 + k)).toNat, by omega⟩
      refine tw_iload k5_25 rfl ?_
      refine tw_aload k5_26 rfl ?_
      refine tw_geti k5_27 f2_7 rfl (v := (s 11)) (cSV_fr hS (fun c _ _ => hf c (by omega))).2.1 ?_
      refine tw_cgeF k5_30 (by omega) ?_
      refine tw_aload k5_33 rfl ?_
      refine tw_getr k5_34 f2_3 ?_
      refine tw_iload k5_37 rfl ?_
      refine tw_iald (j := k) (v := ((c : Nat) : Int)) k5_38 al6 rfl (by omega) (((cSV_fr hS (fun c _ _ => hf c (by omega))).2.2.2.1 k (by omega)).2.1.trans hce) ?_
      refine tw_istore k5_39 rfl (L' := [some (.inr (.inr (.inl 2))), some (.inl ((y : Nat) : Int)), some (.inr (.inr (.inl q))), some (.inl ((k : Nat) : Int)), some (.inl ((c : Nat) : Int))]) rfl ?_
      by_cases hown : s (12 + k) = ((y : Nat) : Int)
      · have key3 : ∀ i : Nat, i ≤ (21 - c) → ∀ (M1 : Nat → Nat → Int), (∀ c, c ≠ q → M1 c = M c) → (∀ p, p ≤ 20 → M1 q p = if c ≤ p ∧ p < c + i then pE s y ((p + 1 : Nat) : Int) (k + 1) else pE s y ((p + 1 : Nat) : Int) k) → mj_T K d 5 41 [some (.inr (.inr (.inl 2))), some (.inl ((y : Nat) : Int)), some (.inr (.inr (.inl q))), some (.inl ((k : Nat) : Int)), some (.inl (((c + i) : Nat) : Int))] [] (mj_Sh, M1, N) (fun r Z => r = none ∧ ∃ M1, Z = (mj_Sh, M1, N) ∧ (∀ c, c ≠ q → M1 c = M c) ∧ ∀ p, p ≤ 20 → M1 q p = pE s y ((p + 1 : Nat) : Int) (s 11).toNat) := by
          refine up_to (21 - c) ?_ ?_
          · show ∀ (M1 : Nat → Nat → Int), (∀ c, c ≠ q → M1 c = M c) → (∀ p, p ≤ 20 → M1 q p = if c ≤ p ∧ p < c + (21 - c) then pE s y ((p + 1 : Nat) : Int) (k + 1) else pE s y ((p + 1 : Nat) : Int) k) → mj_T K d 5 41 [some (.inr (.inr (.inl 2))), some (.inl ((y : Nat) : Int)), some (.inr (.inr (.inl q))), some (.inl ((k : Nat) : Int)), some (.inl (((c + (21 - c)) : Nat) : Int))] [] (mj_Sh, M1, N) (fun r Z => r = none ∧ ∃ M1, Z = (mj_Sh, M1, N) ∧ (∀ c, c ≠ q → M1 c = M c) ∧ ∀ p, p ≤ 20 → M1 q p = pE s y ((p + 1 : Nat) : Int) (s 11).toNat)
            intro M1 hf hv
            refine tw_iload k5_41 rfl ?_
            refine tw_const k5_43 ?_
            refine tw_cgtT k5_45 (by omega) ?_
            refine tw_iinc k5_77 rfl (v := ((k + 1 : Nat) : Int)) rfl (by omega) rfl (L' := [some (.inr (.inr (.inl 2))), some (.inl ((y : Nat) : Int)), some (.inr (.inr (.inl q))), some (.inl ((k + 1 : Nat) : Int)), some (.inl (((c + (21 - c)) : Nat) : Int))]) rfl ?_
            refine tw_goto k5_80 ?_
            refine ih (some (.inl (((c + (21 - c)) : Nat) : Int))) _ hf (fun p hp => ?_)
            rw [hv p hp, pE_s]
            have hpc : s (22 + k) < ((p + 1 : Nat) : Int) ↔ c ≤ p := by omega
            by_cases e : c ≤ p
            · rw [if_pos (by omega), if_pos ⟨hown, by omega⟩]
            · rw [if_neg (by omega), if_neg (by omega)]; omega
          · intro i hmi ih
            have ih : ∀ (M1 : Nat → Nat → Int), (∀ c, c ≠ q → M1 c = M c) → (∀ p, p ≤ 20 → M1 q p = if c ≤ p ∧ p < c + (i + 1) then pE s y ((p + 1 : Nat) : Int) (k + 1) else pE s y ((p + 1 : Nat) : Int) k) → mj_T K d 5 41 [some (.inr (.inr (.inl 2))), some (.inl ((y : Nat) : Int)), some (.inr (.inr (.inl q))), some (.inl ((k : Nat) : Int)), some (.inl (((c + (i + 1)) : Nat) : Int))] [] (mj_Sh, M1, N) (fun r Z => r = none ∧ ∃ M1, Z = (mj_Sh, M1, N) ∧ (∀ c, c ≠ q → M1 c = M c) ∧ ∀ p, p ≤ 20 → M1 q p = pE s y ((p + 1 : Nat) : Int) (s 11).toNat) := ih
            show ∀ (M1 : Nat → Nat → Int), (∀ c, c ≠ q → M1 c = M c) → (∀ p, p ≤ 20 → M1 q p = if c ≤ p ∧ p < c + i then pE s y ((p + 1 : Nat) : Int) (k + 1) else pE s y ((p + 1 : Nat) : Int) k) → mj_T K d 5 41 [some (.inr (.inr (.inl 2))), some (.inl ((y : Nat) : Int)), some (.inr (.inr (.inl q))), some (.inl ((k : Nat) : Int)), some (.inl (((c + i) : Nat) : Int))] [] (mj_Sh, M1, N) (fun r Z => r = none ∧ ∃ M1, Z = (mj_Sh, M1, N) ∧ (∀ c, c ≠ q → M1 c = M c) ∧ ∀ p, p ≤ 20 → M1 q p = pE s y ((p + 1 : Nat) : Int) (s 11).toNat)
            intro M1 hf hv
            have hE := pE_rg hs (y := y) (by omega) ((c + i + 1 : Nat) : Int) k (by omega)
            have h32 := hs.1 (32 + k) (by omega)
            refine tw_iload k5_41 rfl ?_
            refine tw_const k5_43 ?_
            refine tw_cgtF k5_45 (by omega) ?_
            refine tw_aload k5_48 rfl ?_
            refine tw_getr k5_49 f2_2 ?_
            refine tw_iload k5_52 rfl ?_
            refine tw_iald (j := k) (v := (s (12 + k))) k5_53 al5 rfl (by omega) ((cSV_fr hS (fun c _ _ => hf c (by omega))).2.2.2.1 k (by omega)).1 ?_
            refine tw_iload k5_54 rfl ?_
            refine tw_cneF k5_55 (by omega) ?_
            refine tw_aload k5_58 rfl ?_
            refine tw_iload k5_59 rfl ?_
            refine tw_dup2 k5_61 ?_
            refine tw_iald (j := (c + i)) (v := (pE s y ((c + i + 1 : Nat) : Int) k)) k5_62 (alD (by omega)) rfl (by omega) (by rw [hv _ (by omega), if_neg (by omega)]) ?_
            refine tw_aload k5_63 rfl ?_
            refine tw_getr k5_64 f2_4 ?_
            refine tw_iload k5_67 rfl ?_
            refine tw_iald (j := k) (v := (s (32 + k))) k5_68 al7 rfl (by omega) ((cSV_fr hS (fun c _ _ => hf c (by omega))).2.2.2.1 k (by omega)).2.2 ?_
            refine tw_isub k5_69 (v := ((pE s y ((c + i + 1 : Nat) : Int) k) - (s (32 + k)))) rfl (by omega) ?_
            refine tw_iastu (j := (c + i)) k5_70 (alD (by omega)) rfl (by omega) ?_
            refine tw_iinc k5_71 rfl (v := (((c + i) + 1 : Nat) : Int)) rfl (by omega) rfl (L' := [some (.inr (.inr (.inl 2))), some (.inl ((y : Nat) : Int)), some (.inr (.inr (.inl q))), some (.inl ((k : Nat) : Int)), some (.inl (((c + i) + 1 : Nat) : Int))]) rfl ?_
            refine tw_goto k5_74 ?_
            refine ih _ (fun x hx => by rw [tu_row hx]; exact hf x hx) (fun p hp => ?_)
            by_cases e : p = c + i
            · subst e; rw [tu_eq, if_pos (by omega), pE_s, if_pos ⟨hown, by omega⟩]
            · rw [tu_ne (Or.inr e), hv p hp]
              by_cases e2 : c ≤ p ∧ p < c + i
              · rw [if_pos e2, if_pos (by omega)]
              · rw [if_neg e2, if_neg (by omega)]
        exact key3 0 (by omega) _ hf (fun p hp => by rw [if_neg (by omega)]; exact hv p hp)
      · refine tw_iload k5_41 rfl ?_
        refine tw_const k5_43 ?_
        refine tw_cgt k5_45 (fun h45 => ?_) (fun h45 => ?_)
        · refine tw_iinc k5_77 rfl (v := ((k + 1 : Nat) : Int)) rfl (by omega) rfl (L' := [some (.inr (.inr (.inl 2))), some (.inl ((y : Nat) : Int)), some (.inr (.inr (.inl q))), some (.inl ((k + 1 : Nat) : Int)), some (.inl ((c : Nat) : Int))]) rfl ?_
          refine tw_goto k5_80 ?_
          refine ih (some (.inl ((c : Nat) : Int))) _ hf (fun p hp => ?_)
          rw [hv p hp, pE_s, if_neg (fun q => hown q.1)]; omega
        · refine tw_aload k5_48 rfl ?_
          refine tw_getr k5_49 f2_2 ?_
          refine tw_iload k5_52 rfl ?_
          refine tw_iald (j := k) (v := (s (12 + k))) k5_53 al5 rfl (by omega) ((cSV_fr hS (fun c _ _ => hf c (by omega))).2.2.2.1 k (by omega)).1 ?_
          refine tw_iload k5_54 rfl ?_
          refine tw_cneT k5_55 (by omega) ?_
          refine tw_iinc k5_77 rfl (v := ((k + 1 : Nat) : Int)) rfl (by omega) rfl (L' := [some (.inr (.inr (.inl 2))), some (.inl ((y : Nat) : Int)), some (.inr (.inr (.inl q))), some (.inl ((k + 1 : Nat) : Int)), some (.inl ((c : Nat) : Int))]) rfl ?_
          refine tw_goto k5_80 ?_
          refine ih (some (.inl ((c : Nat) : Int))) _ hf (fun p hp => ?_)
          rw [hv p hp, pE_s, if_neg (fun q => hown q.1)]; omega
  have key1 : ∀ p : Nat, p ≤ 21 → ∀ M1 : Nat → Nat → Int, (∀ c, c ≠ q → M1 c = M c) → (∀ k, k < p → M1 q k = s (6 + y)) → mj_T K d 5 2 [some (.inr (.inr (.inl 2))), some (.inl ((y : Nat) : Int)), some (.inr (.inr (.inl q))), some (.inl ((p : Nat) : Int)), none] [] (mj_Sh, M1, N) (fun r Z => r = none ∧ ∃ M1, Z = (mj_Sh, M1, N) ∧ (∀ c, c ≠ q → M1 c = M c) ∧ ∀ p, p ≤ 20 → M1 q p = pE s y ((p + 1 : Nat) : Int) (s 11).toNat) := by
    refine up_to 21 ?_ ?_
    · show ∀ M1 : Nat → Nat → Int, (∀ c, c ≠ q → M1 c = M c) → (∀ k, k < 21 → M1 q k = s (6 + y)) → mj_T K d 5 2 [some (.inr (.inr (.inl 2))), some (.inl ((y : Nat) : Int)), some (.inr (.inr (.inl q))), some (.inl ((21 : Nat) : Int)), none] [] (mj_Sh, M1, N) (fun r Z => r = none ∧ ∃ M1, Z = (mj_Sh, M1, N) ∧ (∀ c, c ≠ q → M1 c = M c) ∧ ∀ p, p ≤ 20 → M1 q p = pE s y ((p + 1 : Nat) : Int) (s 11).toNat)
      intro M1 hf hv
      refine tw_iload k5_2 rfl ?_
      refine tw_const k5_3 ?_
      refine tw_cgtT k5_5 (by omega) ?_
      refine tw_const k5_23 ?_
      refine tw_istore k5_24 rfl (L' := [some (.inr (.inr (.inl 2))), some (.inl ((y : Nat) : Int)), some (.inr (.inr (.inl q))), some (.inl (0 : Int)), none]) rfl ?_
      exact key2 0 (by omega) none _ hf (fun p hp => by rw [hv p (by omega), pE])
    · intro p hmp ih
      have ih : ∀ M1 : Nat → Nat → Int, (∀ c, c ≠ q → M1 c = M c) → (∀ k, k < (p + 1) → M1 q k = s (6 + y)) → mj_T K d 5 2 [some (.inr (.inr (.inl 2))), some (.inl ((y : Nat) : Int)), some (.inr (.inr (.inl q))), some (.inl (((p + 1) : Nat) : Int)), none] [] (mj_Sh, M1, N) (fun r Z => r = none ∧ ∃ M1, Z = (mj_Sh, M1, N) ∧ (∀ c, c ≠ q → M1 c = M c) ∧ ∀ p, p ≤ 20 → M1 q p = pE s y ((p + 1 : Nat) : Int) (s 11).toNat) := ih
      show ∀ M1 : Nat → Nat → Int, (∀ c, c ≠ q → M1 c = M c) → (∀ k, k < p → M1 q k = s (6 + y)) → mj_T K d 5 2 [some (.inr (.inr (.inl 2))), some (.inl ((y : Nat) : Int)), some (.inr (.inr (.inl q))), some (.inl ((p : Nat) : Int)), none] [] (mj_Sh, M1, N) (fun r Z => r = none ∧ ∃ M1, Z = (mj_Sh, M1, N) ∧ (∀ c, c ≠ q → M1 c = M c) ∧ ∀ p, p ≤ 20 → M1 q p = pE s y ((p + 1 : Nat) : Int) (s 11).toNat)
      intro M1 hf hv
      refine tw_iload k5_2 rfl ?_
      refine tw_const k5_3 ?_
      refine tw_cgtF k5_5 (by omega) ?_
      refine tw_aload k5_8 rfl ?_
      refine tw_iload k5_9 rfl ?_
      refine tw_aload k5_10 rfl ?_
      refine tw_getr k5_11 f2_1 ?_
      refine tw_iload k5_14 rfl ?_
      refine tw_iald (j := y) (v := (s (6 + y))) k5_15 al4 rfl (by omega) ((cSV_fr hS (fun c _ _ => hf c (by omega))).2.2.1 y (by omega)).2 ?_
      refine tw_iastu (j := p) k5_16 (alD (by omega)) rfl (by omega) ?_
      refine tw_iinc k5_17 rfl (v := ((p + 1 : Nat) : Int)) rfl (by omega) rfl (L' := [some (.inr (.inr (.inl 2))), some (.inl ((y : Nat) : Int)), some (.inr (.inr (.inl q))), some (.inl ((p + 1 : Nat) : Int)), none]) rfl ?_
      refine tw_goto k5_20 ?_
      refine ih _ (fun x hx => by rw [tu_row hx]; exact hf x hx) (fun k hk => ?_)
      by_cases e : k = p
      · subst e; rw [tu_eq]
      · rw [tu_ne (Or.inr e)]; exact hv k (by omega)
  refine tw_const k5_0 ?_
  refine tw_istore k5_1 rfl (L' := [some (.inr (.inr (.inl 2))), some (.inl ((y : Nat) : Int)), some (.inr (.inr (.inl q))), some (.inl (0 : Int)), none]) rfl ?_
  exact key1 0 (by omega) _ (fun c _ => rfl) (fun k hk => by omega)
theorem x_1_35 {K : mj_C} {d : Nat} {M : Nat → Nat → Int} {N : Nat → Nat → Int64} (hD : 1 ≤ d) (s : Nat → Int) (hs : pRg s) (hS : cSV 2 M s) (hz : ∀ p, p ≤ 20 → M 38 p = 0) : mj_X K d 1 [.inr (.inr (.inl 36)), .inr (.inr (.inl 2))] (mj_Sh, M, N) (fun r Z => r = none ∧ ∃ M1, Z = (mj_Sh, M1, N) ∧ (∀ c, c < 39 ∨ 43 < c → M1 c = M c) ∧ dM 38 M1 s) := by
  show mj_T K d 1 0 [some (.inr (.inr (.inl 36))), some (.inr (.inr (.inl 2))), none, none] [] (mj_Sh, M, N) _
  have h0 := hs.1 0 (by omega)
  have h5 := hs.2.1
  obtain ⟨Y, hYe⟩ : ∃ Y : Nat, Y = (s 0).toNat := ⟨_, rfl⟩
  have hY0 : s 0 = (Y : Int) := by omega
  have h11 := hs.1 11 (by omega)
  have hc11 := hs.2.2.1
  have key1 : ∀ y : Nat, y ≤ Y → ∀ o3 (M1 : Nat → Nat → Int), (∀ c, c < 39 ∨ 43 < c → M1 c = M c) → (∀ k, k ≤ y → ∀ p, p ≤ 20 → M1 (38 + k) p = pS (pLo s p) 0 k) → mj_T K d 1 2 [some (.inr (.inr (.inl 36))), some (.inr (.inr (.inl 2))), some (.inl ((y : Nat) : Int)), sv o3] [] (mj_Sh, M1, N) (fun r Z => r = none ∧ ∃ M1, Z = (mj_Sh, M1, N) ∧ (∀ c, c < 39 ∨ 43 < c → M1 c = M c) ∧ dM 38 M1 s) := by
    refine up_to Y ?_ ?_
    · show ∀ o3 (M1 : Nat → Nat → Int), (∀ c, c < 39 ∨ 43 < c → M1 c = M c) → (∀ k, k ≤ Y → ∀ p, p ≤ 20 → M1 (38 + k) p = pS (pLo s p) 0 k) → mj_T K d 1 2 [some (.inr (.inr (.inl 36))), some (.inr (.inr (.inl 2))), some (.inl ((Y : Nat) : Int)), sv o3] [] (mj_Sh, M1, N) (fun r Z => r = none ∧ ∃ M1, Z = (mj_Sh, M1, N) ∧ (∀ c, c < 39 ∨ 43 < c → M1 c = M c) ∧ dM 38 M1 s)
      intro o3 M1 hf hv
      refine tw_iload k1_2 rfl ?_
      refine tw_aload k1_3 rfl ?_
      refine tw_geti k1_4 f2_6 rfl (v := ((Y : Nat) : Int)) ((cSV_fr hS (fun c _ _ => hf c (by omega))).1.trans hY0) ?_
      refine tw_cgeT k1_7 (by omega) ?_
      exact tw_rv k1_76 (⟨rfl, M1, rfl, hf, fun k hk p hp => hv k (by omega) p hp⟩)
    · intro y hmy ih
      have ih : ∀ o3 (M1 : Nat → Nat → Int), (∀ c, c < 39 ∨ 43 < c → M1 c = M c) → (∀ k, k ≤ (y + 1) → ∀ p, p ≤ 20 → M1 (38 + k) p = pS (pLo s p) 0 k) → mj_T K d 1 2 [some (.inr (.inr (.inl 36))), some (.inr (.inr (.inl 2))), some (.inl (((y + 1) : Nat) : Int)), sv o3] [] (mj_Sh, M1, N) (fun r Z => r = none ∧ ∃ M1, Z = (mj_Sh, M1, N) ∧ (∀ c, c < 39 ∨ 43 < c → M1 c = M c) ∧ dM 38 M1 s) := ih
      show ∀ o3 (M1 : Nat → Nat → Int), (∀ c, c < 39 ∨ 43 < c → M1 c = M c) → (∀ k, k ≤ y → ∀ p, p ≤ 20 → M1 (38 + k) p = pS (pLo s p) 0 k) → mj_T K d 1 2 [some (.inr (.inr (.inl 36))), some (.inr (.inr (.inl 2))), some (.inl ((y : Nat) : Int)), sv o3] [] (mj_Sh, M1, N) (fun r Z => r = none ∧ ∃ M1, Z = (mj_Sh, M1, N) ∧ (∀ c, c < 39 ∨ 43 < c → M1 c = M c) ∧ dM 38 M1 s)
      intro o3 M1 hf hv
      refine tw_iload k1_2 rfl ?_
      refine tw_aload k1_3 rfl ?_
      refine tw_geti k1_4 f2_6 rfl (v := ((Y : Nat) : Int)) ((cSV_fr hS (fun c _ _ => hf c (by omega))).1.trans hY0) ?_
      refine tw_cgeF k1_7 (by omega) ?_
      refine tw_aload k1_10 rfl ?_
      refine tw_iload k1_11 rfl ?_
      refine tw_aload k1_12 rfl ?_
      refine tw_getr k1_13 f36_0 ?_
      refine tw_iload k1_16 rfl ?_
      refine tw_const k1_17 ?_
      refine tw_iadd k1_18 (v := ((y + 1 : Nat) : Int)) rfl (by omega) ?_
      refine tw_aald (j := y + 1) (u := (38 + (y + 1))) k1_19 rfl (rr37 (by omega)) ?_
      refine tw_call (by omega) (S' := []) (as := [.inr (.inr (.inl 2)), .inl ((y : Nat) : Int), .inr (.inr (.inl (38 + (y + 1))))]) k1_20 (x_5_35 (M := M1) (N := N) s hs (cSV_fr hS (fun c _ _ => hf c (by omega))) y (by omega) (38 + (y + 1)) (by omega)) rfl rfl rfl rfl rfl (fun r20 Z20 hq20 => ?_)
      obtain ⟨rfl, M2, rfl, hf2, hv2⟩ := hq20
      refine tw_as (S := []) (M := M2) (N := N) rfl rfl ?_
      refine tw_const k1_23 ?_
      refine tw_istore k1_24 rfl (L' := [some (.inr (.inr (.inl 36))), some (.inr (.inr (.inl 2))), some (.inl ((y : Nat) : Int)), some (.inl (0 : Int))]) rfl ?_
      have key2 : ∀ p : Nat, p ≤ 21 → ∀ M3 : Nat → Nat → Int, (∀ c, c ≠ (38 + (y + 1)) → M3 c = M2 c) → (∀ k, k < p → M3 (38 + (y + 1)) k = pS (pLo s k) 0 (y + 1)) → (∀ k, p ≤ k → k ≤ 20 → M3 (38 + (y + 1)) k = pE s y ((k + 1 : Nat) : Int) (s 11).toNat) → mj_T K d 1 25 [some (.inr (.inr (.inl 36))), some (.inr (.inr (.inl 2))), some (.inl ((y : Nat) : Int)), some (.inl ((p : Nat) : Int))] [] (mj_Sh, M3, N) (fun r Z => r = none ∧ ∃ M1, Z = (mj_Sh, M1, N) ∧ (∀ c, c < 39 ∨ 43 < c → M1 c = M c) ∧ dM 38 M1 s) := by
        refine up_to 21 ?_ ?_
        · show ∀ M3 : Nat → Nat → Int, (∀ c, c ≠ (38 + (y + 1)) → M3 c = M2 c) → (∀ k, k < 21 → M3 (38 + (y + 1)) k = pS (pLo s k) 0 (y + 1)) → (∀ k, 21 ≤ k → k ≤ 20 → M3 (38 + (y + 1)) k = pE s y ((k + 1 : Nat) : Int) (s 11).toNat) → mj_T K d 1 25 [some (.inr (.inr (.inl 36))), some (.inr (.inr (.inl 2))), some (.inl ((y : Nat) : Int)), some (.inl ((21 : Nat) : Int))] [] (mj_Sh, M3, N) (fun r Z => r = none ∧ ∃ M1, Z = (mj_Sh, M1, N) ∧ (∀ c, c < 39 ∨ 43 < c → M1 c = M c) ∧ dM 38 M1 s)
          intro M3 hf3 hv3 hv4
          refine tw_iload k1_25 rfl ?_
          refine tw_const k1_26 ?_
          refine tw_cgtT k1_28 (by omega) ?_
          refine tw_iinc k1_70 rfl (v := ((y + 1 : Nat) : Int)) rfl (by omega) rfl (L' := [some (.inr (.inr (.inl 36))), some (.inr (.inr (.inl 2))), some (.inl ((y + 1 : Nat) : Int)), some (.inl ((21 : Nat) : Int))]) rfl ?_
          refine tw_goto k1_73 ?_
          refine ih (some (.inl ((21 : Nat) : Int))) _ (fun c hc => by rw [hf3 c (by omega), hf2 c (by omega)]; exact hf c hc) (fun k hk p hp => ?_)
          by_cases e : k = y + 1
          · subst e; exact hv3 p (by omega)
          · rw [hf3 _ (by omega), hf2 _ (by omega)]; exact hv k (by omega) p hp
        · intro p hmp ih
          have ih : ∀ M3 : Nat → Nat → Int, (∀ c, c ≠ (38 + (y + 1)) → M3 c = M2 c) → (∀ k, k < (p + 1) → M3 (38 + (y + 1)) k = pS (pLo s k) 0 (y + 1)) → (∀ k, (p + 1) ≤ k → k ≤ 20 → M3 (38 + (y + 1)) k = pE s y ((k + 1 : Nat) : Int) (s 11).toNat) → mj_T K d 1 25 [some (.inr (.inr (.inl 36))), some (.inr (.inr (.inl 2))), some (.inl ((y : Nat) : Int)), some (.inl (((p + 1) : Nat) : Int))] [] (mj_Sh, M3, N) (fun r Z => r = none ∧ ∃ M1, Z = (mj_Sh, M1, N) ∧ (∀ c, c < 39 ∨ 43 < c → M1 c = M c) ∧ dM 38 M1 s) := ih
          show ∀ M3 : Nat → Nat → Int, (∀ c, c ≠ (38 + (y + 1)) → M3 c = M2 c) → (∀ k, k < p → M3 (38 + (y + 1)) k = pS (pLo s k) 0 (y + 1)) → (∀ k, p ≤ k → k ≤ 20 → M3 (38 + (y + 1)) k = pE s y ((k + 1 : Nat) : Int) (s 11).toNat) → mj_T K d 1 25 [some (.inr (.inr (.inl 36))), some (.inr (.inr (.inl 2))), some (.inl ((y : Nat) : Int)), some (.inl ((p : Nat) : Int))] [] (mj_Sh, M3, N) (fun r Z => r = none ∧ ∃ M1, Z = (mj_Sh, M1, N) ∧ (∀ c, c < 39 ∨ 43 < c → M1 c = M c) ∧ dM 38 M1 s)
          intro M3 hf3 hv3 hv4
          have hE := pE_rg hs (y := y) (by omega) ((p + 1 : Nat) : Int) (s 11).toNat (by omega)
          have hP := pS_rg (f := pLo s p) (a := 0) (B := 100) y (fun i _ hi => pEm_rg hs (by omega) _)
          refine tw_iload k1_25 rfl ?_
          refine tw_const k1_26 ?_
          refine tw_cgtF k1_28 (by omega) ?_
          refine tw_aload k1_31 rfl ?_
          refine tw_getr k1_32 f36_0 ?_
          refine tw_iload k1_35 rfl ?_
          refine tw_const k1_36 ?_
          refine tw_iadd k1_37 (v := ((y + 1 : Nat) : Int)) rfl (by omega) ?_
          refine tw_aald (j := y + 1) (u := (38 + (y + 1))) k1_38 rfl (rr37 (by omega)) ?_
          refine tw_iload k1_39 rfl ?_
          refine tw_aload k1_40 rfl ?_
          refine tw_getr k1_41 f36_0 ?_
          refine tw_iload k1_44 rfl ?_
          refine tw_aald (j := y) (u := (38 + y)) k1_45 rfl (rr37 (by omega)) ?_
          refine tw_iload k1_46 rfl ?_
          refine tw_iald (j := p) (v := (pS (pLo s p) 0 y)) k1_47 (alD (by omega)) rfl (by omega) (by rw [hf3 _ (by omega), hf2 _ (by omega)]; exact hv y (by omega) p (by omega)) ?_
          refine tw_const k1_48 ?_
          refine tw_aload k1_49 rfl ?_
          refine tw_getr k1_50 f36_0 ?_
          refine tw_iload k1_53 rfl ?_
          refine tw_const k1_54 ?_
          refine tw_iadd k1_55 (v := ((y + 1 : Nat) : Int)) rfl (by omega) ?_
          refine tw_aald (j := y + 1) (u := (38 + (y + 1))) k1_56 rfl (rr37 (by omega)) ?_
          refine tw_iload k1_57 rfl ?_
          refine tw_iald (j := p) (v := (pE s y ((p + 1 : Nat) : Int) (s 11).toNat)) k1_58 (alD (by omega)) rfl (by omega) (hv4 p (by omega) (by omega)) ?_
          refine tw_max k1_59 rfl ?_
          refine tw_iadd k1_62 (v := ((pS (pLo s p) 0 y) + (max (0 : Int) (pE s y ((p + 1 : Nat) : Int) (s 11).toNat)))) rfl (by omega) ?_
          refine tw_iastu (j := p) k1_63 (alD (by omega)) rfl (by omega) ?_
          refine tw_iinc k1_64 rfl (v := ((p + 1 : Nat) : Int)) rfl (by omega) rfl (L' := [some (.inr (.inr (.inl 36))), some (.inr (.inr (.inl 2))), some (.inl ((y : Nat) : Int)), some (.inl ((p + 1 : Nat) : Int))]) rfl ?_
          refine tw_goto k1_67 ?_
          refine ih _ (fun c hc => by rw [tu_row hc]; exact hf3 c hc) (fun k hk => ?_) (fun k hk1 hk2 => by rw [tu_ne (Or.inr (by omega))]; exact hv4 k (by omega) hk2)
          by_cases e : k = p
          · subst e; rw [tu_eq, pS, Nat.zero_add]; rfl
          · rw [tu_ne (Or.inr e)]; exact hv3 k (by omega)
      exact key2 0 (by omega) _ (fun c _ => rfl) (fun k hk => by omega) (fun k _ hk => hv2 k hk)
  refine tw_const k1_0 ?_
  refine tw_istore k1_1 rfl (L' := [some (.inr (.inr (.inl 36))), some (.inr (.inr (.inl 2))), some (.inl (0 : Int)), none]) rfl ?_
  exact key1 0 (by omega) none _ (fun c _ => rfl) (fun k hk p hp => by have e : k = 0 := (by omega); subst e; exact hz p hp)
theorem x_2_35 {K : mj_C} {d : Nat} {M : Nat → Nat → Int} {N : Nat → Nat → Int64} (s : Nat → Int) (hs : pRg s) (hD : dM 38 M s) (a l p : Nat) (hl : l < (s 0).toNat) (ha : a ≤ l) (hp : p ≤ 20) : mj_X K d 2 [.inr (.inr (.inl 36)), .inl ((a : Nat) : Int), .inl ((l : Nat) : Int), .inl ((p : Nat) : Int)] (mj_Sh, M, N) (fun r Z => r = some (.inl (pS (pLo s p) a (l + 1 - a))) ∧ Z = (mj_Sh, M, N)) := by
  show mj_T K d 2 0 [some (.inr (.inr (.inl 36))), some (.inl ((a : Nat) : Int)), some (.inl ((l : Nat) : Int)), some (.inl ((p : Nat) : Int))] [] (mj_Sh, M, N) _
  have h0 := hs.1 0 (by omega)
  have h5 := hs.2.1
  obtain ⟨Y, hYe⟩ : ∃ Y : Nat, Y = (s 0).toNat := ⟨_, rfl⟩
  have hY0 : s 0 = (Y : Int) := by omega
  have hsp := pS_split (f := pLo s p) (a := a) (l + 1 - a)
  have e1 : a + (l + 1 - a) = l + 1 := by omega
  rw [e1] at hsp
  have hP := pS_rg (f := pLo s p) (a := 0) (B := 100) (l + 1) (fun i _ hi => pEm_rg hs (by omega) _)
  have hP2 := pS_rg (f := pLo s p) (a := 0) (B := 100) a (fun i _ hi => pEm_rg hs (by omega) _)
  refine tw_aload k2_0 rfl ?_
  refine tw_getr k2_1 f36_0 ?_
  refine tw_iload k2_4 rfl ?_
  refine tw_const k2_5 ?_
  refine tw_iadd k2_6 (v := ((l + 1 : Nat) : Int)) rfl (by omega) ?_
  refine tw_aald (j := l + 1) (u := (38 + (l + 1))) k2_7 rfl (rr37 (by omega)) ?_
  refine tw_iload k2_8 rfl ?_
  refine tw_iald (j := p) (v := (pS (pLo s p) 0 (l + 1))) k2_9 (alD (by omega)) rfl (by omega) (hD (l + 1) (by omega) p (by omega)) ?_
  refine tw_aload k2_10 rfl ?_
  refine tw_getr k2_11 f36_0 ?_
  refine tw_iload k2_14 rfl ?_
  refine tw_aald (j := a) (u := (38 + a)) k2_15 rfl (rr37 (by omega)) ?_
  refine tw_iload k2_16 rfl ?_
  refine tw_iald (j := p) (v := (pS (pLo s p) 0 a)) k2_17 (alD (by omega)) rfl (by omega) (hD a (by omega) p (by omega)) ?_
  refine tw_isub k2_18 (v := (pS (pLo s p) a (l + 1 - a))) (by omega) (by omega) ?_
  exact tw_ri k2_19 (⟨rfl, rfl⟩)
theorem x_3_35 {K : mj_C} {d : Nat} {M : Nat → Nat → Int} {N : Nat → Nat → Int64} (hD : 1 ≤ d) (s : Nat → Int) (hs : pRg s) (hD : dM 38 M s) (a l p : Nat) (hl : l < (s 0).toNat) (ha : a ≤ l) (hp : p ≤ 20) : mj_X K d 3 [.inr (.inr (.inl 36)), .inl ((a : Nat) : Int), .inl ((l : Nat) : Int), .inl ((p : Nat) : Int)] (mj_Sh, M, N) (fun r Z => r = some (.inl (pS (fun y => pEm s y ((p : Nat) : Int)) a (l + 1 - a))) ∧ Z = (mj_Sh, M, N)) := by
  show mj_T K d 3 0 [some (.inr (.inr (.inl 36))), some (.inl ((a : Nat) : Int)), some (.inl ((l : Nat) : Int)), some (.inl ((p : Nat) : Int))] [] (mj_Sh, M, N) _
  have h0 := hs.1 0 (by omega)
  have h5 := hs.2.1
  obtain ⟨Y, hYe⟩ : ∃ Y : Nat, Y = (s 0).toNat := ⟨_, rfl⟩
  have hY0 : s 0 = (Y : Int) := by omega
  have hv : pS (pLo s (p - 1)) a (l + 1 - a) = (pS (fun y => pEm s y ((p : Nat) : Int)) a (l + 1 - a)) := pS_congr _ (fun i _ _ => pLo_1 hs)
  refine tw_aload k3_0 rfl ?_
  refine tw_iload k3_1 rfl ?_
  refine tw_iload k3_2 rfl ?_
  refine tw_const k3_3 ?_
  refine tw_iload k3_4 rfl ?_
  refine tw_const k3_5 ?_
  refine tw_isub k3_6 (v := (((p : Nat) : Int) - (1 : Int))) rfl (by omega) ?_
  refine tw_max k3_7 rfl ?_
  refine tw_eqS (S' := [.inl (((p - 1) : Nat) : Int), .inl ((l : Nat) : Int), .inl ((a : Nat) : Int), .inr (.inr (.inl 36))]) (e_c (congrArg Sum.inl (show max (0 : Int) (((p : Nat) : Int) - (1 : Int)) = ((p - 1 : Nat) : Int) by omega)) rfl) ?_
  refine tw_callp (v := .inl (pS (pLo s (p - 1)) a (l + 1 - a))) (by omega) (S' := []) (as := [.inr (.inr (.inl 36)), .inl ((a : Nat) : Int), .inl ((l : Nat) : Int), .inl (((p - 1) : Nat) : Int)]) k3_10 (x_2_35 (M := M) (N := N) s hs hD a l (p - 1) (by omega) (by omega) (by omega)) rfl rfl rfl rfl rfl ?_
  refine tw_eqS (S' := [.inl (pS (fun y => pEm s y ((p : Nat) : Int)) a (l + 1 - a))]) (e_c (congrArg Sum.inl hv) rfl) ?_
  exact tw_ri k3_13 (⟨rfl, rfl⟩)
theorem x_2_35' {K : mj_C} {d : Nat} {M : Nat → Nat → Int} {N : Nat → Nat → Int64} (hD_ : 0 ≤ d) (s : Nat → Int) (hs : pRg s) (hD : dM 38 M s) (y p : Nat) (hl : y < (s 0).toNat) (hp : p ≤ 20) : mj_X K d 2 [.inr (.inr (.inl 36)), .inl ((y : Nat) : Int), .inl ((y : Nat) : Int), .inl ((p : Nat) : Int)] (mj_Sh, M, N) (fun r Z => r = some (.inl (pLo s p y)) ∧ Z = (mj_Sh, M, N)) := by
  refine mj_T_post (x_2_35 s hs hD y y p hl (Nat.le_refl _) hp) (fun r Z h => ?_)
  obtain ⟨rfl, rfl⟩ := h
  have e : y + 1 - y = 0 + 1 := by omega
  refine ⟨?_, rfl⟩
  rw [e, pS, pS, Nat.add_zero, Int.zero_add]
theorem x_3_35' {K : mj_C} {d : Nat} {M : Nat → Nat → Int} {N : Nat → Nat → Int64} (hD_ : 1 ≤ d) (s : Nat → Int) (hs : pRg s) (hD : dM 38 M s) (y p : Nat) (hl : y < (s 0).toNat) (hp : p ≤ 20) : mj_X K d 3 [.inr (.inr (.inl 36)), .inl ((y : Nat) : Int), .inl ((y : Nat) : Int), .inl ((p : Nat) : Int)] (mj_Sh, M, N) (fun r Z => r = some (.inl (pEm s y ((p : Nat) : Int))) ∧ Z = (mj_Sh, M, N)) := by
  refine mj_T_post (x_3_35 hD_ s hs hD y y p hl (Nat.le_refl _) hp) (fun r Z h => ?_)
  obtain ⟨rfl, rfl⟩ := h
  have e : y + 1 - y = 0 + 1 := by omega
  refine ⟨?_, rfl⟩
  rw [e, pS, pS, Nat.add_zero, Int.zero_add]
theorem x_4_35 {K : mj_C} {d : Nat} {M : Nat → Nat → Int} {N : Nat → Nat → Int64} (hD : 1 ≤ d) (s : Nat → Int) (hs : pRg s) (hD : dM 38 M s) (a l : Nat) (hl : l < (s 0).toNat) (ha : a ≤ l) (all : Int) : mj_X K d 4 [.inr (.inr (.inl 36)), .inl ((a : Nat) : Int), .inl ((l : Nat) : Int), .inl all] (mj_Sh, M, N) (fun r Z => r = some (.inl ((pPr s a (l + 1 - a) all : Nat) : Int)) ∧ Z = (mj_Sh, M, N)) := by
  show mj_T K d 4 0 [some (.inr (.inr (.inl 36))), some (.inl ((a : Nat) : Int)), some (.inl ((l : Nat) : Int)), some (.inl all), none] [] (mj_Sh, M, N) _
  have key : ∀ p : Nat, p ≤ 20 → (∀ j, j < p → ¬ pS (pLo s j) a (l + 1 - a) ≤ all) → mj_T K d 4 3 [some (.inr (.inr (.inl 36))), some (.inl ((a : Nat) : Int)), some (.inl ((l : Nat) : Int)), some (.inl all), some (.inl ((p : Nat) : Int))] [] (mj_Sh, M, N) (fun r Z => r = some (.inl ((pPr s a (l + 1 - a) all : Nat) : Int)) ∧ Z = (mj_Sh, M, N)) := by
    refine up_to 20 ?_ ?_
    · show (∀ j, j < 20 → ¬ pS (pLo s j) a (l + 1 - a) ≤ all) → mj_T K d 4 3 [some (.inr (.inr (.inl 36))), some (.inl ((a : Nat) : Int)), some (.inl ((l : Nat) : Int)), some (.inl all), some (.inl ((20 : Nat) : Int))] [] (mj_Sh, M, N) (fun r Z => r = some (.inl ((pPr s a (l + 1 - a) all : Nat) : Int)) ∧ Z = (mj_Sh, M, N))
      intro hno
      refine tw_iload k4_3 rfl ?_
      refine tw_const k4_5 ?_
      refine tw_cgeT k4_7 (by omega) ?_
      refine tw_const k4_31 ?_
      exact tw_ri k4_33 (⟨by rw [pPr, pFd_no 20 0 (fun j _ hj => hno j (by omega))]; rfl, rfl⟩)
    · intro p hmp ih
      have ih : (∀ j, j < (p + 1) → ¬ pS (pLo s j) a (l + 1 - a) ≤ all) → mj_T K d 4 3 [some (.inr (.inr (.inl 36))), some (.inl ((a : Nat) : Int)), some (.inl ((l : Nat) : Int)), some (.inl all), some (.inl (((p + 1) : Nat) : Int))] [] (mj_Sh, M, N) (fun r Z => r = some (.inl ((pPr s a (l + 1 - a) all : Nat) : Int)) ∧ Z = (mj_Sh, M, N)) := ih
      show (∀ j, j < p → ¬ pS (pLo s j) a (l + 1 - a) ≤ all) → mj_T K d 4 3 [some (.inr (.inr (.inl 36))), some (.inl ((a : Nat) : Int)), some (.inl ((l : Nat) : Int)), some (.inl all), some (.inl ((p : Nat) : Int))] [] (mj_Sh, M, N) (fun r Z => r = some (.inl ((pPr s a (l + 1 - a) all : Nat) : Int)) ∧ Z = (mj_Sh, M, N))
      intro hno
      refine tw_iload k4_3 rfl ?_
      refine tw_const k4_5 ?_
      refine tw_cgeF k4_7 (by omega) ?_
      refine tw_aload k4_10 rfl ?_
      refine tw_iload k4_11 rfl ?_
      refine tw_iload k4_12 rfl ?_
      refine tw_iload k4_13 rfl ?_
      refine tw_callp (v := .inl (pS (pLo s p) a (l + 1 - a))) (by omega) (S' := []) (as := [.inr (.inr (.inl 36)), .inl ((a : Nat) : Int), .inl ((l : Nat) : Int), .inl ((p : Nat) : Int)]) k4_15 (x_2_35 (M := M) (N := N) s hs hD a l p (by omega) (by omega) (by omega)) rfl rfl rfl rfl rfl ?_
      refine tw_iload k4_18 rfl ?_
      refine tw_cgt k4_19 (fun h19 => ?_) (fun h19 => ?_)
      · refine tw_iinc k4_25 rfl (v := ((p + 1 : Nat) : Int)) rfl (by omega) rfl (L' := [some (.inr (.inr (.inl 36))), some (.inl ((a : Nat) : Int)), some (.inl ((l : Nat) : Int)), some (.inl all), some (.inl ((p + 1 : Nat) : Int))]) rfl ?_
        refine tw_goto k4_28 ?_
        exact ih (fun j hj => by
          by_cases e : j = p
          · subst e; omega
          · exact hno j (by omega))
      · refine tw_iload k4_22 rfl ?_
        exact tw_ri k4_24 (⟨by rw [pPr, pFd_eq 20 0 p (by omega) (by omega) (by omega) (fun j _ hj => hno j (by omega))], rfl⟩)
  refine tw_const k4_0 ?_
  refine tw_istore k4_1 rfl (L' := [some (.inr (.inr (.inl 36))), some (.inl ((a : Nat) : Int)), some (.inl ((l : Nat) : Int)), some (.inl all), some (.inl (0 : Int))]) rfl ?_
  exact key 0 (by omega) (fun j hj => by omega)
theorem x_5_69 {K : mj_C} {d : Nat} {M : Nat → Nat → Int} {N : Nat → Nat → Int64} (s : Nat → Int) (hs : pRg s) (hS : cSV 62 M s) (y : Nat) (hy : y < 5) (q : Nat) (hq : 38 ≤ q ∧ q ≤ 43 ∨ 72 ≤ q ∧ q ≤ 77) : mj_X K d 5 [.inr (.inr (.inl 62)), .inl ((y : Nat) : Int), .inr (.inr (.inl q))] (mj_Sh, M, N) (fun r Z => r = none ∧ ∃ M1, Z = (mj_Sh, M1, N) ∧ (∀ c, c ≠ q → M1 c = M c) ∧ ∀ p, p ≤ 20 → M1 q p = pE s y ((p + 1 : Nat) : Int) (s 11).toNat) := by
  show mj_T K d 5 0 [some (.inr (.inr (.inl 62))), some (.inl ((y : Nat) : Int)), some (.inr (.inr (.inl q))), none, none] [] (mj_Sh, M, N) _
  have h0 := hs.1 0 (by omega)
  have h5 := hs.2.1
  obtain ⟨Y, hYe⟩ : ∃ Y : Nat, Y = (s 0).toNat := ⟨_, rfl⟩
  have hY0 : s 0 = (Y : Int) := by omega
  have h11 := hs.1 11 (by omega)
  have hc11 := hs.2.2.1
  have key2 : ∀ k : Nat, k ≤ (s 11).toNat → ∀ o4 (M1 : Nat → Nat → Int), (∀ c, c ≠ q → M1 c = M c) → (∀ p, p ≤ 20 → M1 q p = pE s y ((p + 1 : Nat) : Int) k) → mj_T K d 5 25 [some (.inr (.inr (.inl 62))), some (.inl ((y : Nat) : Int)), some (.inr (.inr (.inl q))), some (.inl ((k : Nat) : Int)), sv o4] [] (mj_Sh, M1, N) (fun r Z => r = none ∧ ∃ M1, Z = (mj_Sh, M1, N) ∧ (∀ c, c ≠ q → M1 c = M c) ∧ ∀ p, p ≤ 20 → M1 q p = pE s y ((p + 1 : Nat) : Int) (s 11).toNat) := by
    refine up_to (s 11).toNat ?_ ?_
    · show ∀ o4 (M1 : Nat → Nat → Int), (∀ c, c ≠ q → M1 c = M c) → (∀ p, p ≤ 20 → M1 q p = pE s y ((p + 1 : Nat) : Int) (s 11).toNat) → mj_T K d 5 25 [some (.inr (.inr (.inl 62))), some (.inl ((y : Nat) : Int)), some (.inr (.inr (.inl q))), some (.inl (((s 11).toNat : Nat) : Int)), sv o4] [] (mj_Sh, M1, N) (fun r Z => r = none ∧ ∃ M1, Z = (mj_Sh, M1, N) ∧ (∀ c, c ≠ q → M1 c = M c) ∧ ∀ p, p ≤ 20 → M1 q p = pE s y ((p + 1 : Nat) : Int) (s 11).toNat)
      intro o4 M1 hf hv
      refine tw_iload k5_25 rfl ?_
      refine tw_aload k5_26 rfl ?_
      refine tw_geti k5_27 f62_7 rfl (v := (s 11)) (cSV_fr hS (fun c _ _ => hf c (by omega))).2.1 ?_
      refine tw_cgeT k5_30 (by omega) ?_
      exact tw_rv k5_83 (⟨rfl, M1, rfl, hf, hv⟩)
    · intro k hmk ih
      have ih : ∀ o4 (M1 : Nat → Nat → Int), (∀ c, c ≠ q → M1 c = M c) → (∀ p, p ≤ 20 → M1 q p = pE s y ((p + 1 : Nat) : Int) (k + 1)) → mj_T K d 5 25 [some (.inr (.inr (.inl 62))), some (.inl ((y : Nat) : Int)), some (.inr (.inr (.inl q))), some (.inl (((k + 1) : Nat) : Int)), sv o4] [] (mj_Sh, M1, N) (fun r Z => r = none ∧ ∃ M1, Z = (mj_Sh, M1, N) ∧ (∀ c, c ≠ q → M1 c = M c) ∧ ∀ p, p ≤ 20 → M1 q p = pE s y ((p + 1 : Nat) : Int) (s 11).toNat) := ih
      show ∀ o4 (M1 : Nat → Nat → Int), (∀ c, c ≠ q → M1 c = M c) → (∀ p, p ≤ 20 → M1 q p = pE s y ((p + 1 : Nat) : Int) k) → mj_T K d 5 25 [some (.inr (.inr (.inl 62))), some (.inl ((y : Nat) : Int)), some (.inr (.inr (.inl q))), some (.inl ((k : Nat) : Int)), sv o4] [] (mj_Sh, M1, N) (fun r Z => r = none ∧ ∃ M1, Z = (mj_Sh, M1, N) ∧ (∀ c, c ≠ q → M1 c = M c) ∧ ∀ p, p ≤ 20 → M1 q p = pE s y ((p + 1 : Nat) : Int) (s 11).toNat)
      intro o4 M1 hf hv
      have hck := hs.1 (22 + k) (by omega)
      obtain ⟨c, hce⟩ : ∃ c : Nat, s (22 + k) = (c : Int) := ⟨(s (22 + k)).toNat, by omega⟩
      refine tw_iload k5_25 rfl ?_
      refine tw_aload k5_26 rfl ?_
      refine tw_geti k5_27 f62_7 rfl (v := (s 11)) (cSV_fr hS (fun c _ _ => hf c (by omega))).2.1 ?_
      refine tw_cgeF k5_30 (by omega) ?_
      refine tw_aload k5_33 rfl ?_
      refine tw_getr k5_34 f62_3 ?_
      refine tw_iload k5_37 rfl ?_
      refine tw_iald (j := k) (v := ((c : Nat) : Int)) k5_38 al66 rfl (by omega) (((cSV_fr hS (fun c _ _ => hf c (by omega))).2.2.2.1 k (by omega)).2.1.trans hce) ?_
      refine tw_istore k5_39 rfl (L' := [some (.inr (.inr (.inl 62))), some (.inl ((y : Nat) : Int)), some (.inr (.inr (.inl q))), some (.inl ((k : Nat) : Int)), some (.inl ((c : Nat) : Int))]) rfl ?_
      by_cases hown : s (12 + k) = ((y : Nat) : Int)
      · have key3 : ∀ i : Nat, i ≤ (21 - c) → ∀ (M1 : Nat → Nat → Int), (∀ c, c ≠ q → M1 c = M c) → (∀ p, p ≤ 20 → M1 q p = if c ≤ p ∧ p < c + i then pE s y ((p + 1 : Nat) : Int) (k + 1) else pE s y ((p + 1 : Nat) : Int) k) → mj_T K d 5 41 [some (.inr (.inr (.inl 62))), some (.inl ((y : Nat) : Int)), some (.inr (.inr (.inl q))), some (.inl ((k : Nat) : Int)), some (.inl (((c + i) : Nat) : Int))] [] (mj_Sh, M1, N) (fun r Z => r = none ∧ ∃ M1, Z = (mj_Sh, M1, N) ∧ (∀ c, c ≠ q → M1 c = M c) ∧ ∀ p, p ≤ 20 → M1 q p = pE s y ((p + 1 : Nat) : Int) (s 11).toNat) := by
          refine up_to (21 - c) ?_ ?_
          · show ∀ (M1 : Nat → Nat → Int), (∀ c, c ≠ q → M1 c = M c) → (∀ p, p ≤ 20 → M1 q p = if c ≤ p ∧ p < c + (21 - c) then pE s y ((p + 1 : Nat) : Int) (k + 1) else pE s y ((p + 1 : Nat) : Int) k) → mj_T K d 5 41 [some (.inr (.inr (.inl 62))), some (.inl ((y : Nat) : Int)), some (.inr (.inr (.inl q))), some (.inl ((k : Nat) : Int)), some (.inl (((c + (21 - c)) : Nat) : Int))] [] (mj_Sh, M1, N) (fun r Z => r = none ∧ ∃ M1, Z = (mj_Sh, M1, N) ∧ (∀ c, c ≠ q → M1 c = M c) ∧ ∀ p, p ≤ 20 → M1 q p = pE s y ((p + 1 : Nat) : Int) (s 11).toNat)
            intro M1 hf hv
            refine tw_iload k5_41 rfl ?_
            refine tw_const k5_43 ?_
            refine tw_cgtT k5_45 (by omega) ?_
            refine tw_iinc k5_77 rfl (v := ((k + 1 : Nat) : Int)) rfl (by omega) rfl (L' := [some (.inr (.inr (.inl 62))), some (.inl ((y : Nat) : Int)), some (.inr (.inr (.inl q))), some (.inl ((k + 1 : Nat) : Int)), some (.inl (((c + (21 - c)) : Nat) : Int))]) rfl ?_
            refine tw_goto k5_80 ?_
            refine ih (some (.inl (((c + (21 - c)) : Nat) : Int))) _ hf (fun p hp => ?_)
            rw [hv p hp, pE_s]
            have hpc : s (22 + k) < ((p + 1 : Nat) : Int) ↔ c ≤ p := by omega
            by_cases e : c ≤ p
            · rw [if_pos (by omega), if_pos ⟨hown, by omega⟩]
            · rw [if_neg (by omega), if_neg (by omega)]; omega
          · intro i hmi ih
            have ih : ∀ (M1 : Nat → Nat → Int), (∀ c, c ≠ q → M1 c = M c) → (∀ p, p ≤ 20 → M1 q p = if c ≤ p ∧ p < c + (i + 1) then pE s y ((p + 1 : Nat) : Int) (k + 1) else pE s y ((p + 1 : Nat) : Int) k) → mj_T K d 5 41 [some (.inr (.inr (.inl 62))), some (.inl ((y : Nat) : Int)), some (.inr (.inr (.inl q))), some (.inl ((k : Nat) : Int)), some (.inl (((c + (i + 1)) : Nat) : Int))] [] (mj_Sh, M1, N) (fun r Z => r = none ∧ ∃ M1, Z = (mj_Sh, M1, N) ∧ (∀ c, c ≠ q → M1 c = M c) ∧ ∀ p, p ≤ 20 → M1 q p = pE s y ((p + 1 : Nat) : Int) (s 11).toNat) := ih
            show ∀ (M1 : Nat → Nat → Int), (∀ c, c ≠ q → M1 c = M c) → (∀ p, p ≤ 20 → M1 q p = if c ≤ p ∧ p < c + i then pE s y ((p + 1 : Nat) : Int) (k + 1) else pE s y ((p + 1 : Nat) : Int) k) → mj_T K d 5 41 [some (.inr (.inr (.inl 62))), some (.inl ((y : Nat) : Int)), some (.inr (.inr (.inl q))), some (.inl ((k : Nat) : Int)), some (.inl (((c + i) : Nat) : Int))] [] (mj_Sh, M1, N) (fun r Z => r = none ∧ ∃ M1, Z = (mj_Sh, M1, N) ∧ (∀ c, c ≠ q → M1 c = M c) ∧ ∀ p, p ≤ 20 → M1 q p = pE s y ((p + 1 : Nat) : Int) (s 11).toNat)
            intro M1 hf hv
            have hE := pE_rg hs (y := y) (by omega) ((c + i + 1 : Nat) : Int) k (by omega)
            have h32 := hs.1 (32 + k) (by omega)
            refine tw_iload k5_41 rfl ?_
            refine tw_const k5_43 ?_
            refine tw_cgtF k5_45 (by omega) ?_
            refine tw_aload k5_48 rfl ?_
            refine tw_getr k5_49 f62_2 ?_
            refine tw_iload k5_52 rfl ?_
            refine tw_iald (j := k) (v := (s (12 + k))) k5_53 al65 rfl (by omega) ((cSV_fr hS (fun c _ _ => hf c (by omega))).2.2.2.1 k (by omega)).1 ?_
            refine tw_iload k5_54 rfl ?_
            refine tw_cneF k5_55 (by omega) ?_
            refine tw_aload k5_58 rfl ?_
            refine tw_iload k5_59 rfl ?_
            refine tw_dup2 k5_61 ?_
            refine tw_iald (j := (c + i)) (v := (pE s y ((c + i + 1 : Nat) : Int) k)) k5_62 (alD (by omega)) rfl (by omega) (by rw [hv _ (by omega), if_neg (by omega)]) ?_
            refine tw_aload k5_63 rfl ?_
            refine tw_getr k5_64 f62_4 ?_
            refine tw_iload k5_67 rfl ?_
            refine tw_iald (j := k) (v := (s (32 + k))) k5_68 al67 rfl (by omega) ((cSV_fr hS (fun c _ _ => hf c (by omega))).2.2.2.1 k (by omega)).2.2 ?_
            refine tw_isub k5_69 (v := ((pE s y ((c + i + 1 : Nat) : Int) k) - (s (32 + k)))) rfl (by omega) ?_
            refine tw_iastu (j := (c + i)) k5_70 (alD (by omega)) rfl (by omega) ?_
            refine tw_iinc k5_71 rfl (v := (((c + i) + 1 : Nat) : Int)) rfl (by omega) rfl (L' := [some (.inr (.inr (.inl 62))), some (.inl ((y : Nat) : Int)), some (.inr (.inr (.inl q))), some (.inl ((k : Nat) : Int)), some (.inl (((c + i) + 1 : Nat) : Int))]) rfl ?_
            refine tw_goto k5_74 ?_
            refine ih _ (fun x hx => by rw [tu_row hx]; exact hf x hx) (fun p hp => ?_)
            by_cases e : p = c + i
            · subst e; rw [tu_eq, if_pos (by omega), pE_s, if_pos ⟨hown, by omega⟩]
            · rw [tu_ne (Or.inr e), hv p hp]
              by_cases e2 : c ≤ p ∧ p < c + i
              · rw [if_pos e2, if_pos (by omega)]
              · rw [if_neg e2, if_neg (by omega)]
        exact key3 0 (by omega) _ hf (fun p hp => by rw [if_neg (by omega)]; exact hv p hp)
      · refine tw_iload k5_41 rfl ?_
        refine tw_const k5_43 ?_
        refine tw_cgt k5_45 (fun h45 => ?_) (fun h45 => ?_)
        · refine tw_iinc k5_77 rfl (v := ((k + 1 : Nat) : Int)) rfl (by omega) rfl (L' := [some (.inr (.inr (.inl 62))), some (.inl ((y : Nat) : Int)), some (.inr (.inr (.inl q))), some (.inl ((k + 1 : Nat) : Int)), some (.inl ((c : Nat) : Int))]) rfl ?_
          refine tw_goto k5_80 ?_
          refine ih (some (.inl ((c : Nat) : Int))) _ hf (fun p hp => ?_)
          rw [hv p hp, pE_s, if_neg (fun q => hown q.1)]; omega
        · refine tw_aload k5_48 rfl ?_
          refine tw_getr k5_49 f62_2 ?_
          refine tw_iload k5_52 rfl ?_
          refine tw_iald (j := k) (v := (s (12 + k))) k5_53 al65 rfl (by omega) ((cSV_fr hS (fun c _ _ => hf c (by omega))).2.2.2.1 k (by omega)).1 ?_
          refine tw_iload k5_54 rfl ?_
          refine tw_cneT k5_55 (by omega) ?_
          refine tw_iinc k5_77 rfl (v := ((k + 1 : Nat) : Int)) rfl (by omega) rfl (L' := [some (.inr (.inr (.inl 62))), some (.inl ((y : Nat) : Int)), some (.inr (.inr (.inl q))), some (.inl ((k + 1 : Nat) : Int)), some (.inl ((c : Nat) : Int))]) rfl ?_
          refine tw_goto k5_80 ?_
          refine ih (some (.inl ((c : Nat) : Int))) _ hf (fun p hp => ?_)
          rw [hv p hp, pE_s, if_neg (fun q => hown q.1)]; omega
  have key1 : ∀ p : Nat, p ≤ 21 → ∀ M1 : Nat → Nat → Int, (∀ c, c ≠ q → M1 c = M c) → (∀ k, k < p → M1 q k = s (6 + y)) → mj_T K d 5 2 [some (.inr (.inr (.inl 62))), some (.inl ((y : Nat) : Int)), some (.inr (.inr (.inl q))), some (.inl ((p : Nat) : Int)), none] [] (mj_Sh, M1, N) (fun r Z => r = none ∧ ∃ M1, Z = (mj_Sh, M1, N) ∧ (∀ c, c ≠ q → M1 c = M c) ∧ ∀ p, p ≤ 20 → M1 q p = pE s y ((p + 1 : Nat) : Int) (s 11).toNat) := by
    refine up_to 21 ?_ ?_
    · show ∀ M1 : Nat → Nat → Int, (∀ c, c ≠ q → M1 c = M c) → (∀ k, k < 21 → M1 q k = s (6 + y)) → mj_T K d 5 2 [some (.inr (.inr (.inl 62))), some (.inl ((y : Nat) : Int)), some (.inr (.inr (.inl q))), some (.inl ((21 : Nat) : Int)), none] [] (mj_Sh, M1, N) (fun r Z => r = none ∧ ∃ M1, Z = (mj_Sh, M1, N) ∧ (∀ c, c ≠ q → M1 c = M c) ∧ ∀ p, p ≤ 20 → M1 q p = pE s y ((p + 1 : Nat) : Int) (s 11).toNat)
      intro M1 hf hv
      refine tw_iload k5_2 rfl ?_
      refine tw_const k5_3 ?_
      refine tw_cgtT k5_5 (by omega) ?_
      refine tw_const k5_23 ?_
      refine tw_istore k5_24 rfl (L' := [some (.inr (.inr (.inl 62))), some (.inl ((y : Nat) : Int)), some (.inr (.inr (.inl q))), some (.inl (0 : Int)), none]) rfl ?_
      exact key2 0 (by omega) none _ hf (fun p hp => by rw [hv p (by omega), pE])
    · intro p hmp ih
      have ih : ∀ M1 : Nat → Nat → Int, (∀ c, c ≠ q → M1 c = M c) → (∀ k, k < (p + 1) → M1 q k = s (6 + y)) → mj_T K d 5 2 [some (.inr (.inr (.inl 62))), some (.inl ((y : Nat) : Int)), some (.inr (.inr (.inl q))), some (.inl (((p + 1) : Nat) : Int)), none] [] (mj_Sh, M1, N) (fun r Z => r = none ∧ ∃ M1, Z = (mj_Sh, M1, N) ∧ (∀ c, c ≠ q → M1 c = M c) ∧ ∀ p, p ≤ 20 → M1 q p = pE s y ((p + 1 : Nat) : Int) (s 11).toNat) := ih
      show ∀ M1 : Nat → Nat → Int, (∀ c, c ≠ q → M1 c = M c) → (∀ k, k < p → M1 q k = s (6 + y)) → mj_T K d 5 2 [some (.inr (.inr (.inl 62))), some (.inl ((y : Nat) : Int)), some (.inr (.inr (.inl q))), some (.inl ((p : Nat) : Int)), none] [] (mj_Sh, M1, N) (fun r Z => r = none ∧ ∃ M1, Z = (mj_Sh, M1, N) ∧ (∀ c, c ≠ q → M1 c = M c) ∧ ∀ p, p ≤ 20 → M1 q p = pE s y ((p + 1 : Nat) : Int) (s 11).toNat)
      intro M1 hf hv
      refine tw_iload k5_2 rfl ?_
      refine tw_const k5_3 ?_
      refine tw_cgtF k5_5 (by omega) ?_
      refine tw_aload k5_8 rfl ?_
      refine tw_iload k5_9 rfl ?_
      refine tw_aload k5_10 rfl ?_
      refine tw_getr k5_11 f62_1 ?_
      refine tw_iload k5_14 rfl ?_
      refine tw_iald (j := y) (v := (s (6 + y))) k5_15 al64 rfl (by omega) ((cSV_fr hS (fun c _ _ => hf c (by omega))).2.2.1 y (by omega)).2 ?_
      refine tw_iastu (j := p) k5_16 (alD (by omega)) rfl (by omega) ?_
      refine tw_iinc k5_17 rfl (v := ((p + 1 : Nat) : Int)) rfl (by omega) rfl (L' := [some (.inr (.inr (.inl 62))), some (.inl ((y : Nat) : Int)), some (.inr (.inr (.inl q))), some (.inl ((p + 1 : Nat) : Int)), none]) rfl ?_
      refine tw_goto k5_20 ?_
      refine ih _ (fun x hx => by rw [tu_row hx]; exact hf x hx) (fun k hk => ?_)
      by_cases e : k = p
      · subst e; rw [tu_eq]
      · rw [tu_ne (Or.inr e)]; exact hv k (by omega)
  refine tw_const k5_0 ?_
  refine tw_istore k5_1 rfl (L' := [some (.inr (.inr (.inl 62))), some (.inl ((y : Nat) : Int)), some (.inr (.inr (.inl q))), some (.inl (0 : Int)), none]) rfl ?_
  exact key1 0 (by omega) _ (fun c _ => rfl) (fun k hk => by omega)
theorem x_1_69 {K : mj_C} {d : Nat} {M : Nat → Nat → Int} {N : Nat → Nat → Int64} (hD : 1 ≤ d) (s : Nat → Int) (hs : pRg s) (hS : cSV 62 M s) (hz : ∀ p, p ≤ 20 → M 72 p = 0) : mj_X K d 1 [.inr (.inr (.inl 70)), .inr (.inr (.inl 62))] (mj_Sh, M, N) (fun r Z => r = none ∧ ∃ M1, Z = (mj_Sh, M1, N) ∧ (∀ c, c < 73 ∨ 77 < c → M1 c = M c) ∧ dM 72 M1 s) := by
  show mj_T K d 1 0 [some (.inr (.inr (.inl 70))), some (.inr (.inr (.inl 62))), none, none] [] (mj_Sh, M, N) _
  have h0 := hs.1 0 (by omega)
  have h5 := hs.2.1
  obtain ⟨Y, hYe⟩ : ∃ Y : Nat, Y = (s 0).toNat := ⟨_, rfl⟩
  have hY0 : s 0 = (Y : Int) := by omega
  have h11 := hs.1 11 (by omega)
  have hc11 := hs.2.2.1
  have key1 : ∀ y : Nat, y ≤ Y → ∀ o3 (M1 : Nat → Nat → Int), (∀ c, c < 73 ∨ 77 < c → M1 c = M c) → (∀ k, k ≤ y → ∀ p, p ≤ 20 → M1 (72 + k) p = pS (pLo s p) 0 k) → mj_T K d 1 2 [some (.inr (.inr (.inl 70))), some (.inr (.inr (.inl 62))), some (.inl ((y : Nat) : Int)), sv o3] [] (mj_Sh, M1, N) (fun r Z => r = none ∧ ∃ M1, Z = (mj_Sh, M1, N) ∧ (∀ c, c < 73 ∨ 77 < c → M1 c = M c) ∧ dM 72 M1 s) := by
    refine up_to Y ?_ ?_
    · show ∀ o3 (M1 : Nat → Nat → Int), (∀ c, c < 73 ∨ 77 < c → M1 c = M c) → (∀ k, k ≤ Y → ∀ p, p ≤ 20 → M1 (72 + k) p = pS (pLo s p) 0 k) → mj_T K d 1 2 [some (.inr (.inr (.inl 70))), some (.inr (.inr (.inl 62))), some (.inl ((Y : Nat) : Int)), sv o3] [] (mj_Sh, M1, N) (fun r Z => r = none ∧ ∃ M1, Z = (mj_Sh, M1, N) ∧ (∀ c, c < 73 ∨ 77 < c → M1 c = M c) ∧ dM 72 M1 s)
      intro o3 M1 hf hv
      refine tw_iload k1_2 rfl ?_
      refine tw_aload k1_3 rfl ?_
      refine tw_geti k1_4 f62_6 rfl (v := ((Y : Nat) : Int)) ((cSV_fr hS (fun c _ _ => hf c (by omega))).1.trans hY0) ?_
      refine tw_cgeT k1_7 (by omega) ?_
      exact tw_rv k1_76 (⟨rfl, M1, rfl, hf, fun k hk p hp => hv k (by omega) p hp⟩)
    · intro y hmy ih
      have ih : ∀ o3 (M1 : Nat → Nat → Int), (∀ c, c < 73 ∨ 77 < c → M1 c = M c) → (∀ k, k ≤ (y + 1) → ∀ p, p ≤ 20 → M1 (72 + k) p = pS (pLo s p) 0 k) → mj_T K d 1 2 [some (.inr (.inr (.inl 70))), some (.inr (.inr (.inl 62))), some (.inl (((y + 1) : Nat) : Int)), sv o3] [] (mj_Sh, M1, N) (fun r Z => r = none ∧ ∃ M1, Z = (mj_Sh, M1, N) ∧ (∀ c, c < 73 ∨ 77 < c → M1 c = M c) ∧ dM 72 M1 s) := ih
      show ∀ o3 (M1 : Nat → Nat → Int), (∀ c, c < 73 ∨ 77 < c → M1 c = M c) → (∀ k, k ≤ y → ∀ p, p ≤ 20 → M1 (72 + k) p = pS (pLo s p) 0 k) → mj_T K d 1 2 [some (.inr (.inr (.inl 70))), some (.inr (.inr (.inl 62))), some (.inl ((y : Nat) : Int)), sv o3] [] (mj_Sh, M1, N) (fun r Z => r = none ∧ ∃ M1, Z = (mj_Sh, M1, N) ∧ (∀ c, c < 73 ∨ 77 < c → M1 c = M c) ∧ dM 72 M1 s)
      intro o3 M1 hf hv
      refine tw_iload k1_2 rfl ?_
      refine tw_aload k1_3 rfl ?_
      refine tw_geti k1_4 f62_6 rfl (v := ((Y : Nat) : Int)) ((cSV_fr hS (fun c _ _ => hf c (by omega))).1.trans hY0) ?_
      refine tw_cgeF k1_7 (by omega) ?_
      refine tw_aload k1_10 rfl ?_
      refine tw_iload k1_11 rfl ?_
      refine tw_aload k1_12 rfl ?_
      refine tw_getr k1_13 f70_0 ?_
      refine tw_iload k1_16 rfl ?_
      refine tw_const k1_17 ?_
      refine tw_iadd k1_18 (v := ((y + 1 : Nat) : Int)) rfl (by omega) ?_
      refine tw_aald (j := y + 1) (u := (72 + (y + 1))) k1_19 rfl (rr71 (by omega)) ?_
      refine tw_call (by omega) (S' := []) (as := [.inr (.inr (.inl 62)), .inl ((y : Nat) : Int), .inr (.inr (.inl (72 + (y + 1))))]) k1_20 (x_5_69 (M := M1) (N := N) s hs (cSV_fr hS (fun c _ _ => hf c (by omega))) y (by omega) (72 + (y + 1)) (by omega)) rfl rfl rfl rfl rfl (fun r20 Z20 hq20 => ?_)
      obtain ⟨rfl, M2, rfl, hf2, hv2⟩ := hq20
      refine tw_as (S := []) (M := M2) (N := N) rfl rfl ?_
      refine tw_const k1_23 ?_
      refine tw_istore k1_24 rfl (L' := [some (.inr (.inr (.inl 70))), some (.inr (.inr (.inl 62))), some (.inl ((y : Nat) : Int)), some (.inl (0 : Int))]) rfl ?_
      have key2 : ∀ p : Nat, p ≤ 21 → ∀ M3 : Nat → Nat → Int, (∀ c, c ≠ (72 + (y + 1)) → M3 c = M2 c) → (∀ k, k < p → M3 (72 + (y + 1)) k = pS (pLo s k) 0 (y + 1)) → (∀ k, p ≤ k → k ≤ 20 → M3 (72 + (y + 1)) k = pE s y ((k + 1 : Nat) : Int) (s 11).toNat) → mj_T K d 1 25 [some (.inr (.inr (.inl 70))), some (.inr (.inr (.inl 62))), some (.inl ((y : Nat) : Int)), some (.inl ((p : Nat) : Int))] [] (mj_Sh, M3, N) (fun r Z => r = none ∧ ∃ M1, Z = (mj_Sh, M1, N) ∧ (∀ c, c < 73 ∨ 77 < c → M1 c = M c) ∧ dM 72 M1 s) := by
        refine up_to 21 ?_ ?_
        · show ∀ M3 : Nat → Nat → Int, (∀ c, c ≠ (72 + (y + 1)) → M3 c = M2 c) → (∀ k, k < 21 → M3 (72 + (y + 1)) k = pS (pLo s k) 0 (y + 1)) → (∀ k, 21 ≤ k → k ≤ 20 → M3 (72 + (y + 1)) k = pE s y ((k + 1 : Nat) : Int) (s 11).toNat) → mj_T K d 1 25 [some (.inr (.inr (.inl 70))), some (.inr (.inr (.inl 62))), some (.inl ((y : Nat) : Int)), some (.inl ((21 : Nat) : Int))] [] (mj_Sh, M3, N) (fun r Z => r = none ∧ ∃ M1, Z = (mj_Sh, M1, N) ∧ (∀ c, c < 73 ∨ 77 < c → M1 c = M c) ∧ dM 72 M1 s)
          intro M3 hf3 hv3 hv4
          refine tw_iload k1_25 rfl ?_
          refine tw_const k1_26 ?_
          refine tw_cgtT k1_28 (by omega) ?_
          refine tw_iinc k1_70 rfl (v := ((y + 1 : Nat) : Int)) rfl (by omega) rfl (L' := [some (.inr (.inr (.inl 70))), some (.inr (.inr (.inl 62))), some (.inl ((y + 1 : Nat) : Int)), some (.inl ((21 : Nat) : Int))]) rfl ?_
          refine tw_goto k1_73 ?_
          refine ih (some (.inl ((21 : Nat) : Int))) _ (fun c hc => by rw [hf3 c (by omega), hf2 c (by omega)]; exact hf c hc) (fun k hk p hp => ?_)
          by_cases e : k = y + 1
          · subst e; exact hv3 p (by omega)
          · rw [hf3 _ (by omega), hf2 _ (by omega)]; exact hv k (by omega) p hp
        · intro p hmp ih
          have ih : ∀ M3 : Nat → Nat → Int, (∀ c, c ≠ (72 + (y + 1)) → M3 c = M2 c) → (∀ k, k < (p + 1) → M3 (72 + (y + 1)) k = pS (pLo s k) 0 (y + 1)) → (∀ k, (p + 1) ≤ k → k ≤ 20 → M3 (72 + (y + 1)) k = pE s y ((k + 1 : Nat) : Int) (s 11).toNat) → mj_T K d 1 25 [some (.inr (.inr (.inl 70))), some (.inr (.inr (.inl 62))), some (.inl ((y : Nat) : Int)), some (.inl (((p + 1) : Nat) : Int))] [] (mj_Sh, M3, N) (fun r Z => r = none ∧ ∃ M1, Z = (mj_Sh, M1, N) ∧ (∀ c, c < 73 ∨ 77 < c → M1 c = M c) ∧ dM 72 M1 s) := ih
          show ∀ M3 : Nat → Nat → Int, (∀ c, c ≠ (72 + (y + 1)) → M3 c = M2 c) → (∀ k, k < p → M3 (72 + (y + 1)) k = pS (pLo s k) 0 (y + 1)) → (∀ k, p ≤ k → k ≤ 20 → M3 (72 + (y + 1)) k = pE s y ((k + 1 : Nat) : Int) (s 11).toNat) → mj_T K d 1 25 [some (.inr (.inr (.inl 70))), some (.inr (.inr (.inl 62))), some (.inl ((y : Nat) : Int)), some (.inl ((p : Nat) : Int))] [] (mj_Sh, M3, N) (fun r Z => r = none ∧ ∃ M1, Z = (mj_Sh, M1, N) ∧ (∀ c, c < 73 ∨ 77 < c → M1 c = M c) ∧ dM 72 M1 s)
          intro M3 hf3 hv3 hv4
          have hE := pE_rg hs (y := y) (by omega) ((p + 1 : Nat) : Int) (s 11).toNat (by omega)
          have hP := pS_rg (f := pLo s p) (a := 0) (B := 100) y (fun i _ hi => pEm_rg hs (by omega) _)
          refine tw_iload k1_25 rfl ?_
          refine tw_const k1_26 ?_
          refine tw_cgtF k1_28 (by omega) ?_
          refine tw_aload k1_31 rfl ?_
          refine tw_getr k1_32 f70_0 ?_
          refine tw_iload k1_35 rfl ?_
          refine tw_const k1_36 ?_
          refine tw_iadd k1_37 (v := ((y + 1 : Nat) : Int)) rfl (by omega) ?_
          refine tw_aald (j := y + 1) (u := (72 + (y + 1))) k1_38 rfl (rr71 (by omega)) ?_
          refine tw_iload k1_39 rfl ?_
          refine tw_aload k1_40 rfl ?_
          refine tw_getr k1_41 f70_0 ?_
          refine tw_iload k1_44 rfl ?_
          refine tw_aald (j := y) (u := (72 + y)) k1_45 rfl (rr71 (by omega)) ?_
          refine tw_iload k1_46 rfl ?_
          refine tw_iald (j := p) (v := (pS (pLo s p) 0 y)) k1_47 (alD (by omega)) rfl (by omega) (by rw [hf3 _ (by omega), hf2 _ (by omega)]; exact hv y (by omega) p (by omega)) ?_
          refine tw_const k1_48 ?_
          refine tw_aload k1_49 rfl ?_
          refine tw_getr k1_50 f70_0 ?_
          refine tw_iload k1_53 rfl ?_
          refine tw_const k1_54 ?_
          refine tw_iadd k1_55 (v := ((y + 1 : Nat) : Int)) rfl (by omega) ?_
          refine tw_aald (j := y + 1) (u := (72 + (y + 1))) k1_56 rfl (rr71 (by omega)) ?_
          refine tw_iload k1_57 rfl ?_
          refine tw_iald (j := p) (v := (pE s y ((p + 1 : Nat) : Int) (s 11).toNat)) k1_58 (alD (by omega)) rfl (by omega) (hv4 p (by omega) (by omega)) ?_
          refine tw_max k1_59 rfl ?_
          refine tw_iadd k1_62 (v := ((pS (pLo s p) 0 y) + (max (0 : Int) (pE s y ((p + 1 : Nat) : Int) (s 11).toNat)))) rfl (by omega) ?_
          refine tw_iastu (j := p) k1_63 (alD (by omega)) rfl (by omega) ?_
          refine tw_iinc k1_64 rfl (v := ((p + 1 : Nat) : Int)) rfl (by omega) rfl (L' := [some (.inr (.inr (.inl 70))), some (.inr (.inr (.inl 62))), some (.inl ((y : Nat) : Int)), some (.inl ((p + 1 : Nat) : Int))]) rfl ?_
          refine tw_goto k1_67 ?_
          refine ih _ (fun c hc => by rw [tu_row hc]; exact hf3 c hc) (fun k hk => ?_) (fun k hk1 hk2 => by rw [tu_ne (Or.inr (by omega))]; exact hv4 k (by omega) hk2)
          by_cases e : k = p
          · subst e; rw [tu_eq, pS, Nat.zero_add]; rfl
          · rw [tu_ne (Or.inr e)]; exact hv3 k (by omega)
      exact key2 0 (by omega) _ (fun c _ => rfl) (fun k hk => by omega) (fun k _ hk => hv2 k hk)
  refine tw_const k1_0 ?_
  refine tw_istore k1_1 rfl (L' := [some (.inr (.inr (.inl 70))), some (.inr (.inr (.inl 62))), some (.inl (0 : Int)), none]) rfl ?_
  exact key1 0 (by omega) none _ (fun c _ => rfl) (fun k hk p hp => by have e : k = 0 := (by omega); subst e; exact hz p hp)
theorem x_2_69 {K : mj_C} {d : Nat} {M : Nat → Nat → Int} {N : Nat → Nat → Int64} (s : Nat → Int) (hs : pRg s) (hD : dM 72 M s) (a l p : Nat) (hl : l < (s 0).toNat) (ha : a ≤ l) (hp : p ≤ 20) : mj_X K d 2 [.inr (.inr (.inl 70)), .inl ((a : Nat) : Int), .inl ((l : Nat) : Int), .inl ((p : Nat) : Int)] (mj_Sh, M, N) (fun r Z => r = some (.inl (pS (pLo s p) a (l + 1 - a))) ∧ Z = (mj_Sh, M, N)) := by
  show mj_T K d 2 0 [some (.inr (.inr (.inl 70))), some (.inl ((a : Nat) : Int)), some (.inl ((l : Nat) : Int)), some (.inl ((p : Nat) : Int))] [] (mj_Sh, M, N) _
  have h0 := hs.1 0 (by omega)
  have h5 := hs.2.1
  obtain ⟨Y, hYe⟩ : ∃ Y : Nat, Y = (s 0).toNat := ⟨_, rfl⟩
  have hY0 : s 0 = (Y : Int) := by omega
  have hsp := pS_split (f := pLo s p) (a := a) (l + 1 - a)
  have e1 : a + (l + 1 - a) = l + 1 := by omega
  rw [e1] at hsp
  have hP := pS_rg (f := pLo s p) (a := 0) (B := 100) (l + 1) (fun i _ hi => pEm_rg hs (by omega) _)
  have hP2 := pS_rg (f := pLo s p) (a := 0) (B := 100) a (fun i _ hi => pEm_rg hs (by omega) _)
  refine tw_aload k2_0 rfl ?_
  refine tw_getr k2_1 f70_0 ?_
  refine tw_iload k2_4 rfl ?_
  refine tw_const k2_5 ?_
  refine tw_iadd k2_6 (v := ((l + 1 : Nat) : Int)) rfl (by omega) ?_
  refine tw_aald (j := l + 1) (u := (72 + (l + 1))) k2_7 rfl (rr71 (by omega)) ?_
  refine tw_iload k2_8 rfl ?_
  refine tw_iald (j := p) (v := (pS (pLo s p) 0 (l + 1))) k2_9 (alD (by omega)) rfl (by omega) (hD (l + 1) (by omega) p (by omega)) ?_
  refine tw_aload k2_10 rfl ?_
  refine tw_getr k2_11 f70_0 ?_
  refine tw_iload k2_14 rfl ?_
  refine tw_aald (j := a) (u := (72 + a)) k2_15 rfl (rr71 (by omega)) ?_
  refine tw_iload k2_16 rfl ?_
  refine tw_iald (j := p) (v := (pS (pLo s p) 0 a)) k2_17 (alD (by omega)) rfl (by omega) (hD a (by omega) p (by omega)) ?_
  refine tw_isub k2_18 (v := (pS (pLo s p) a (l + 1 - a))) (by omega) (by omega) ?_
  exact tw_ri k2_19 (⟨rfl, rfl⟩)
theorem x_3_69 {K : mj_C} {d : Nat} {M : Nat → Nat → Int} {N : Nat → Nat → Int64} (hD : 1 ≤ d) (s : Nat → Int) (hs : pRg s) (hD : dM 72 M s) (a l p : Nat) (hl : l < (s 0).toNat) (ha : a ≤ l) (hp : p ≤ 20) : mj_X K d 3 [.inr (.inr (.inl 70)), .inl ((a : Nat) : Int), .inl ((l : Nat) : Int), .inl ((p : Nat) : Int)] (mj_Sh, M, N) (fun r Z => r = some (.inl (pS (fun y => pEm s y ((p : Nat) : Int)) a (l + 1 - a))) ∧ Z = (mj_Sh, M, N)) := by
  show mj_T K d 3 0 [some (.inr (.inr (.inl 70))), some (.inl ((a : Nat) : Int)), some (.inl ((l : Nat) : Int)), some (.inl ((p : Nat) : Int))] [] (mj_Sh, M, N) _
  have h0 := hs.1 0 (by omega)
  have h5 := hs.2.1
  obtain ⟨Y, hYe⟩ : ∃ Y : Nat, Y = (s 0).toNat := ⟨_, rfl⟩
  have hY0 : s 0 = (Y : Int) := by omega
  have hv : pS (pLo s (p - 1)) a (l + 1 - a) = (pS (fun y => pEm s y ((p : Nat) : Int)) a (l + 1 - a)) := pS_congr _ (fun i _ _ => pLo_1 hs)
  refine tw_aload k3_0 rfl ?_
  refine tw_iload k3_1 rfl ?_
  refine tw_iload k3_2 rfl ?_
  refine tw_const k3_3 ?_
  refine tw_iload k3_4 rfl ?_
  refine tw_const k3_5 ?_
  refine tw_isub k3_6 (v := (((p : Nat) : Int) - (1 : Int))) rfl (by omega) ?_
  refine tw_max k3_7 rfl ?_
  refine tw_eqS (S' := [.inl (((p - 1) : Nat) : Int), .inl ((l : Nat) : Int), .inl ((a : Nat) : Int), .inr (.inr (.inl 70))]) (e_c (congrArg Sum.inl (show max (0 : Int) (((p : Nat) : Int) - (1 : Int)) = ((p - 1 : Nat) : Int) by omega)) rfl) ?_
  refine tw_callp (v := .inl (pS (pLo s (p - 1)) a (l + 1 - a))) (by omega) (S' := []) (as := [.inr (.inr (.inl 70)), .inl ((a : Nat) : Int), .inl ((l : Nat) : Int), .inl (((p - 1) : Nat) : Int)]) k3_10 (x_2_69 (M := M) (N := N) s hs hD a l (p - 1) (by omega) (by omega) (by omega)) rfl rfl rfl rfl rfl ?_
  refine tw_eqS (S' := [.inl (pS (fun y => pEm s y ((p : Nat) : Int)) a (l + 1 - a))]) (e_c (congrArg Sum.inl hv) rfl) ?_
  exact tw_ri k3_13 (⟨rfl, rfl⟩)
theorem x_2_69' {K : mj_C} {d : Nat} {M : Nat → Nat → Int} {N : Nat → Nat → Int64} (hD_ : 0 ≤ d) (s : Nat → Int) (hs : pRg s) (hD : dM 72 M s) (y p : Nat) (hl : y < (s 0).toNat) (hp : p ≤ 20) : mj_X K d 2 [.inr (.inr (.inl 70)), .inl ((y : Nat) : Int), .inl ((y : Nat) : Int), .inl ((p : Nat) : Int)] (mj_Sh, M, N) (fun r Z => r = some (.inl (pLo s p y)) ∧ Z = (mj_Sh, M, N)) := by
  refine mj_T_post (x_2_69 s hs hD y y p hl (Nat.le_refl _) hp) (fun r Z h => ?_)
  obtain ⟨rfl, rfl⟩ := h
  have e : y + 1 - y = 0 + 1 := by omega
  refine ⟨?_, rfl⟩
  rw [e, pS, pS, Nat.add_zero, Int.zero_add]
theorem x_3_69' {K : mj_C} {d : Nat} {M : Nat → Nat → Int} {N : Nat → Nat → Int64} (hD_ : 1 ≤ d) (s : Nat → Int) (hs : pRg s) (hD : dM 72 M s) (y p : Nat) (hl : y < (s 0).toNat) (hp : p ≤ 20) : mj_X K d 3 [.inr (.inr (.inl 70)), .inl ((y : Nat) : Int), .inl ((y : Nat) : Int), .inl ((p : Nat) : Int)] (mj_Sh, M, N) (fun r Z => r = some (.inl (pEm s y ((p : Nat) : Int))) ∧ Z = (mj_Sh, M, N)) := by
  refine mj_T_post (x_3_69 hD_ s hs hD y y p hl (Nat.le_refl _) hp) (fun r Z h => ?_)
  obtain ⟨rfl, rfl⟩ := h
  have e : y + 1 - y = 0 + 1 := by omega
  refine ⟨?_, rfl⟩
  rw [e, pS, pS, Nat.add_zero, Int.zero_add]
theorem x_4_69 {K : mj_C} {d : Nat} {M : Nat → Nat → Int} {N : Nat → Nat → Int64} (hD : 1 ≤ d) (s : Nat → Int) (hs : pRg s) (hD : dM 72 M s) (a l : Nat) (hl : l < (s 0).toNat) (ha : a ≤ l) (all : Int) : mj_X K d 4 [.inr (.inr (.inl 70)), .inl ((a : Nat) : Int), .inl ((l : Nat) : Int), .inl all] (mj_Sh, M, N) (fun r Z => r = some (.inl ((pPr s a (l + 1 - a) all : Nat) : Int)) ∧ Z = (mj_Sh, M, N)) := by
  show mj_T K d 4 0 [some (.inr (.inr (.inl 70))), some (.inl ((a : Nat) : Int)), some (.inl ((l : Nat) : Int)), some (.inl all), none] [] (mj_Sh, M, N) _
  have key : ∀ p : Nat, p ≤ 20 → (∀ j, j < p → ¬ pS (pLo s j) a (l + 1 - a) ≤ all) → mj_T K d 4 3 [some (.inr (.inr (.inl 70))), some (.inl ((a : Nat) : Int)), some (.inl ((l : Nat) : Int)), some (.inl all), some (.inl ((p : Nat) : Int))] [] (mj_Sh, M, N) (fun r Z => r = some (.inl ((pPr s a (l + 1 - a) all : Nat) : Int)) ∧ Z = (mj_Sh, M, N)) := by
    refine up_to 20 ?_ ?_
    · show (∀ j, j < 20 → ¬ pS (pLo s j) a (l + 1 - a) ≤ all) → mj_T K d 4 3 [some (.inr (.inr (.inl 70))), some (.inl ((a : Nat) : Int)), some (.inl ((l : Nat) : Int)), some (.inl all), some (.inl ((20 : Nat) : Int))] [] (mj_Sh, M, N) (fun r Z => r = some (.inl ((pPr s a (l + 1 - a) all : Nat) : Int)) ∧ Z = (mj_Sh, M, N))
      intro hno
      refine tw_iload k4_3 rfl ?_
      refine tw_const k4_5 ?_
      refine tw_cgeT k4_7 (by omega) ?_
      refine tw_const k4_31 ?_
      exact tw_ri k4_33 (⟨by rw [pPr, pFd_no 20 0 (fun j _ hj => hno j (by omega))]; rfl, rfl⟩)
    · intro p hmp ih
      have ih : (∀ j, j < (p + 1) → ¬ pS (pLo s j) a (l + 1 - a) ≤ all) → mj_T K d 4 3 [some (.inr (.inr (.inl 70))), some (.inl ((a : Nat) : Int)), some (.inl ((l : Nat) : Int)), some (.inl all), some (.inl (((p + 1) : Nat) : Int))] [] (mj_Sh, M, N) (fun r Z => r = some (.inl ((pPr s a (l + 1 - a) all : Nat) : Int)) ∧ Z = (mj_Sh, M, N)) := ih
      show (∀ j, j < p → ¬ pS (pLo s j) a (l + 1 - a) ≤ all) → mj_T K d 4 3 [some (.inr (.inr (.inl 70))), some (.inl ((a : Nat) : Int)), some (.inl ((l : Nat) : Int)), some (.inl all), some (.inl ((p : Nat) : Int))] [] (mj_Sh, M, N) (fun r Z => r = some (.inl ((pPr s a (l + 1 - a) all : Nat) : Int)) ∧ Z = (mj_Sh, M, N))
      intro hno
      refine tw_iload k4_3 rfl ?_
      refine tw_const k4_5 ?_
      refine tw_cgeF k4_7 (by omega) ?_
      refine tw_aload k4_10 rfl ?_
      refine tw_iload k4_11 rfl ?_
      refine tw_iload k4_12 rfl ?_
      refine tw_iload k4_13 rfl ?_
      refine tw_callp (v := .inl (pS (pLo s p) a (l + 1 - a))) (by omega) (S' := []) (as := [.inr (.inr (.inl 70)), .inl ((a : Nat) : Int), .inl ((l : Nat) : Int), .inl ((p : Nat) : Int)]) k4_15 (x_2_69 (M := M) (N := N) s hs hD a l p (by omega) (by omega) (by omega)) rfl rfl rfl rfl rfl ?_
      refine tw_iload k4_18 rfl ?_
      refine tw_cgt k4_19 (fun h19 => ?_) (fun h19 => ?_)
      · refine tw_iinc k4_25 rfl (v := ((p + 1 : Nat) : Int)) rfl (by omega) rfl (L' := [some (.inr (.inr (.inl 70))), some (.inl ((a : Nat) : Int)), some (.inl ((l : Nat) : Int)), some (.inl all), some (.inl ((p + 1 : Nat) : Int))]) rfl ?_
        refine tw_goto k4_28 ?_
        exact ih (fun j hj => by
          by_cases e : j = p
          · subst e; omega
          · exact hno j (by omega))
      · refine tw_iload k4_22 rfl ?_
        exact tw_ri k4_24 (⟨by rw [pPr, pFd_eq 20 0 p (by omega) (by omega) (by omega) (fun j _ hj => hno j (by omega))], rfl⟩)
  refine tw_const k4_0 ?_
  refine tw_istore k4_1 rfl (L' := [some (.inr (.inr (.inl 70))), some (.inl ((a : Nat) : Int)), some (.inl ((l : Nat) : Int)), some (.inl all), some (.inl (0 : Int))]) rfl ?_
  exact key 0 (by omega) (fun j hj => by omega)
