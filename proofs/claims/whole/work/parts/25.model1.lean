-- sums, emissions at a price (the words that both sides are tied to); the model's methods that only answer
def pS (f : Nat → Int) (a : Nat) : Nat → Int
  | 0 => 0
  | n + 1 => pS f a n + f (a + n)
def pE (s : Nat → Int) (y : Nat) (b : Int) : Nat → Int
  | 0 => s (6 + y)
  | m + 1 => pE s y b m - (if s (12 + m) = y ∧ s (22 + m) < b then s (32 + m) else 0)
def pEm (s : Nat → Int) (y : Nat) (b : Int) : Int := max 0 (pE s y b (s 11).toNat)
def pLo (s : Nat → Int) (p : Nat) (y : Nat) : Int := pEm s y ((p + 1 : Nat) : Int)
def pFd (P : Nat → Prop) (dP : ∀ i, Decidable (P i)) : Nat → Nat → Nat
  | 0, i => i
  | k + 1, i => if P i then i else pFd P dP k (i + 1)
def pPr (s : Nat → Int) (a n : Nat) (all : Int) : Nat := pFd (fun p => pS (pLo s p) a n ≤ all) (fun _ => inferInstance) 20 0
def pRg (s : Nat → Int) : Prop := (∀ i, i < 46 → 0 ≤ s i ∧ s i ≤ 100) ∧ s 0 ≤ 5 ∧ s 11 ≤ 10 ∧ (∀ m : Nat, (m : Int) < s 11 → s (12 + m) < s 0) ∧ (∀ m : Nat, (m : Int) < s 11 → 1 ≤ s (22 + m))
theorem pE_rg {s : Nat → Int} (h : pRg s) {y : Nat} (hy : y < 5) (b : Int) : ∀ m, m ≤ 10 → -100 * m ≤ pE s y b m ∧ pE s y b m ≤ 100
  | 0, _ => by have := h.1 (6 + y) (by omega); simp only [pE]; omega
  | m + 1, hm => by
    have h1 := pE_rg h hy b m (by omega)
    have h2 := h.1 (32 + m) (by omega)
    simp only [pE]
    split <;> omega
theorem pEm_rg {s : Nat → Int} (h : pRg s) {y : Nat} (hy : y < 5) (b : Int) : 0 ≤ pEm s y b ∧ pEm s y b ≤ 100 := by
  have h11 := h.1 11 (by omega)
  have h1 := pE_rg h hy b (s 11).toNat (by have := h.2.2.1; omega)
  unfold pEm
  omega
theorem pS_rg {f : Nat → Int} {a B : Nat} : ∀ (n : Nat), (∀ i, a ≤ i → i < a + n → 0 ≤ f i ∧ f i ≤ B) → 0 ≤ pS f a n ∧ pS f a n ≤ B * n
  | 0, _ => by simp [pS]
  | n + 1, h => by
    have h1 := pS_rg n (fun i hi hj => h i hi (by omega))
    have h2 := h (a + n) (by omega) (by omega)
    rw [pS]
    have : (B : Int) * ((n + 1 : Nat) : Int) = B * n + B := by rw [Int.natCast_succ, Int.mul_add, Int.mul_one]
    omega
theorem pFd_eq {P : Nat → Prop} {dP : ∀ i, Decidable (P i)} : ∀ (k i r : Nat), r < i + k → i ≤ r → P r → (∀ j, i ≤ j → j < r → ¬ P j) → pFd P dP k i = r
  | 0, i, r, h1, h2, _, _ => by omega
  | k + 1, i, r, h1, h2, h3, h4 => by
    rw [pFd]
    by_cases e : i = r
    · subst e; rw [if_pos h3]
    · rw [if_neg (h4 i (Nat.le_refl _) (by omega))]
      exact pFd_eq k (i + 1) r (by omega) (by omega) h3 (fun j hj => h4 j (by omega))
theorem pFd_no {P : Nat → Prop} {dP : ∀ i, Decidable (P i)} : ∀ (k i : Nat), (∀ j, i ≤ j → j < i + k → ¬ P j) → pFd P dP k i = i + k
  | 0, i, _ => rfl
  | k + 1, i, h => by
    rw [pFd, if_neg (h i (Nat.le_refl _) (by omega)), pFd_no k (i + 1) (fun j hj hk => h j (by omega) (by omega))]
    omega
theorem up_to {P : Nat → Prop} (n : Nat) (fin : P n) (step : ∀ i, i < n → P (i + 1) → P i) : ∀ i, i ≤ n → P i := by
  have key : ∀ k i, i + k = n → P i := by
    intro k
    induction k with
    | zero => intro i hi; rw [Nat.add_zero] at hi; exact hi ▸ fin
    | succ k ih => intro i hi; exact step i (by omega) (ih (i + 1) (by omega))
  exact fun i hi => key (n - i) i (by omega)
theorem x_104 {K : mj_C} {d : Nat} {Z : mj_Z} (x a b : Int) : mj_X K d 104 [.inl x, .inl a, .inl b] Z (fun r Z' => r = some (.inl (if a ≤ x ∧ x ≤ b then 1 else 0)) ∧ Z' = Z) := by
  show mj_T K d 104 0 [some (.inl x), some (.inl a), some (.inl b)] [] Z _
  refine tw_iload k104_0 rfl ?_
  refine tw_iload k104_1 rfl ?_
  refine tw_clt k104_2 (fun h2 => ?_) (fun h2 => ?_)
  · refine tw_const k104_14 ?_
    exact tw_rb k104_15 (by decide) (⟨by rw [if_neg (by omega)], rfl⟩)
  · refine tw_iload k104_5 rfl ?_
    refine tw_iload k104_6 rfl ?_
    refine tw_cgt k104_7 (fun h7 => ?_) (fun h7 => ?_)
    · refine tw_const k104_14 ?_
      exact tw_rb k104_15 (by decide) (⟨by rw [if_neg (by omega)], rfl⟩)
    · refine tw_const k104_10 ?_
      refine tw_goto k104_11 ?_
      exact tw_rb k104_15 (by decide) (⟨by rw [if_pos (by omega)], rfl⟩)
theorem x_112 {K : mj_C} {d : Nat} {Z : mj_Z} (x a b : Int) : mj_X K d 112 [.inl x, .inl a, .inl b] Z (fun r Z' => r = some (.inl (if a ≤ x ∧ x ≤ b then 1 else 0)) ∧ Z' = Z) := by
  show mj_T K d 112 0 [some (.inl x), some (.inl a), some (.inl b)] [] Z _
  refine tw_iload k112_0 rfl ?_
  refine tw_iload k112_1 rfl ?_
  refine tw_clt k112_2 (fun h2 => ?_) (fun h2 => ?_)
  · refine tw_const k112_14 ?_
    exact tw_rb k112_15 (by decide) (⟨by rw [if_neg (by omega)], rfl⟩)
  · refine tw_iload k112_5 rfl ?_
    refine tw_iload k112_6 rfl ?_
    refine tw_cgt k112_7 (fun h7 => ?_) (fun h7 => ?_)
    · refine tw_const k112_14 ?_
      exact tw_rb k112_15 (by decide) (⟨by rw [if_neg (by omega)], rfl⟩)
    · refine tw_const k112_10 ?_
      refine tw_goto k112_11 ?_
      exact tw_rb k112_15 (by decide) (⟨by rw [if_pos (by omega)], rfl⟩)
theorem x_113 {K : mj_C} {d : Nat} {M : Nat → Nat → Int} {N : Nat → Nat → Int64} (hD : 1 ≤ d) (hs : pRg (M 127)) (y : Int) : mj_X K d 113 [.inr (.inr (.inl 126)), .inl y] (mj_Sh, M, N) (fun r Z => r = some (.inl (if 0 ≤ y ∧ y < M 127 0 then 1 else 0)) ∧ Z = (mj_Sh, M, N)) := by
  show mj_T K d 113 0 [some (.inr (.inr (.inl 126))), some (.inl y)] [] (mj_Sh, M, N) _
  have h0 := hs.1 0 (by omega)
  refine tw_iload k113_0 rfl ?_
  refine tw_const k113_1 ?_
  refine tw_aload k113_2 rfl ?_
  refine tw_getr k113_3 f126_0 ?_
  refine tw_const k113_6 ?_
  refine tw_iald (j := 0) (v := (M 127 0)) k113_7 al127 rfl (by decide) rfl ?_
  refine tw_const k113_8 ?_
  refine tw_isub k113_9 (v := ((M 127 0) - (1 : Int))) rfl (by omega) ?_
  refine tw_callb (by omega) (S' := []) (as := [.inl y, .inl (0 : Int), .inl ((M 127 0) - (1 : Int))]) k113_10 (x_112 y (0 : Int) ((M 127 0) - (1 : Int))) rfl rfl rfl rfl rfl (fun h10 => ?_) (fun h10 => ?_)
  · exact tw_rb k113_13 (by decide) (⟨by rw [if_pos (by omega)], rfl⟩)
  · exact tw_rb k113_13 (by decide) (⟨by rw [if_neg (by omega)], rfl⟩)
theorem x_114 {K : mj_C} {d : Nat} {M : Nat → Nat → Int} {N : Nat → Nat → Int64} (hD : 1 ≤ d) (hs : pRg (M 127)) (y : Int) : mj_X K d 114 [.inr (.inr (.inl 126)), .inl y] (mj_Sh, M, N) (fun r Z => r = some (.inl (if 0 ≤ y ∧ y < M 127 11 then 1 else 0)) ∧ Z = (mj_Sh, M, N)) := by
  show mj_T K d 114 0 [some (.inr (.inr (.inl 126))), some (.inl y)] [] (mj_Sh, M, N) _
  have h0 := hs.1 11 (by omega)
  refine tw_iload k114_0 rfl ?_
  refine tw_const k114_1 ?_
  refine tw_aload k114_2 rfl ?_
  refine tw_getr k114_3 f126_0 ?_
  refine tw_const k114_6 ?_
  refine tw_iald (j := 11) (v := (M 127 11)) k114_8 al127 rfl (by decide) rfl ?_
  refine tw_const k114_9 ?_
  refine tw_isub k114_10 (v := ((M 127 11) - (1 : Int))) rfl (by omega) ?_
  refine tw_callb (by omega) (S' := []) (as := [.inl y, .inl (0 : Int), .inl ((M 127 11) - (1 : Int))]) k114_11 (x_112 y (0 : Int) ((M 127 11) - (1 : Int))) rfl rfl rfl rfl rfl (fun h11 => ?_) (fun h11 => ?_)
  · exact tw_rb k114_14 (by decide) (⟨by rw [if_pos (by omega)], rfl⟩)
  · exact tw_rb k114_14 (by decide) (⟨by rw [if_neg (by omega)], rfl⟩)
theorem x_116 {K : mj_C} {d : Nat} {M : Nat → Nat → Int} {N : Nat → Nat → Int64} (hs : pRg (M 127)) (y : Nat) (hy : y < 5) (b : Int) : mj_X K d 116 [.inr (.inr (.inl 126)), .inl ((y : Nat) : Int), .inl b] (mj_Sh, M, N) (fun r Z => r = some (.inl (pEm (M 127) y b)) ∧ Z = (mj_Sh, M, N)) := by
  show mj_T K d 116 0 [some (.inr (.inr (.inl 126))), some (.inl ((y : Nat) : Int)), some (.inl b), none, none] [] (mj_Sh, M, N) _
  have h11 := hs.1 11 (by omega)
  have hc := hs.2.2.1
  have key : ∀ m : Nat, m ≤ (M 127 11).toNat → mj_T K d 116 13 [some (.inr (.inr (.inl 126))), some (.inl ((y : Nat) : Int)), some (.inl b), some (.inl (pE (M 127) y b m)), some (.inl ((m : Nat) : Int))] [] (mj_Sh, M, N) (fun r Z => r = some (.inl (pEm (M 127) y b)) ∧ Z = (mj_Sh, M, N)) := by
    refine up_to (M 127 11).toNat ?_ ?_
    · show mj_T K d 116 13 [some (.inr (.inr (.inl 126))), some (.inl ((y : Nat) : Int)), some (.inl b), some (.inl (pE (M 127) y b (M 127 11).toNat)), some (.inl (((M 127 11).toNat : Nat) : Int))] [] (mj_Sh, M, N) (fun r Z => r = some (.inl (pEm (M 127) y b)) ∧ Z = (mj_Sh, M, N))
      refine tw_iload k116_13 rfl ?_
      refine tw_aload k116_15 rfl ?_
      refine tw_getr k116_16 f126_0 ?_
      refine tw_const k116_19 ?_
      refine tw_iald (j := 11) (v := (M 127 11)) k116_21 al127 rfl (by decide) rfl ?_
      refine tw_cgeT k116_22 (by omega) ?_
      refine tw_const k116_76 ?_
      refine tw_iload k116_77 rfl ?_
      refine tw_max k116_78 rfl ?_
      exact tw_ri k116_81 (⟨rfl, rfl⟩)
    · intro m hmm ih
      have ih : mj_T K d 116 13 [some (.inr (.inr (.inl 126))), some (.inl ((y : Nat) : Int)), some (.inl b), some (.inl (pE (M 127) y b (m + 1))), some (.inl (((m + 1) : Nat) : Int))] [] (mj_Sh, M, N) (fun r Z => r = some (.inl (pEm (M 127) y b)) ∧ Z = (mj_Sh, M, N)) := ih
      show mj_T K d 116 13 [some (.inr (.inr (.inl 126))), some (.inl ((y : Nat) : Int)), some (.inl b), some (.inl (pE (M 127) y b m)), some (.inl ((m : Nat) : Int))] [] (mj_Sh, M, N) (fun r Z => r = some (.inl (pEm (M 127) y b)) ∧ Z = (mj_Sh, M, N))
      have hr := pE_rg hs hy b m (by omega)
      have h32 := hs.1 (32 + m) (by omega)
      refine tw_iload k116_13 rfl ?_
      refine tw_aload k116_15 rfl ?_
      refine tw_getr k116_16 f126_0 ?_
      refine tw_const k116_19 ?_
      refine tw_iald (j := 11) (v := (M 127 11)) k116_21 al127 rfl (by decide) rfl ?_
      refine tw_cgeF k116_22 (by omega) ?_
      refine tw_iload k116_25 rfl ?_
      refine tw_aload k116_26 rfl ?_
      refine tw_getr k116_27 f126_0 ?_
      refine tw_const k116_30 ?_
      refine tw_iload k116_32 rfl ?_
      refine tw_iadd k116_34 (v := ((12 + m : Nat) : Int)) rfl (by omega) ?_
      refine tw_iald (j := 12 + m) (v := (M 127 (12 + m))) k116_35 al127 rfl (by omega) rfl ?_
      refine tw_iload k116_36 rfl ?_
      refine tw_cne k116_37 (fun h37 => ?_) (fun h37 => ?_)
      · refine tw_const k116_67 ?_
        refine tw_isub k116_68 (v := ((pE (M 127) y b m) - (0 : Int))) rfl (by omega) ?_
        refine tw_istore k116_69 rfl (L' := [some (.inr (.inr (.inl 126))), some (.inl ((y : Nat) : Int)), some (.inl b), some (.inl ((pE (M 127) y b m) - (0 : Int))), some (.inl ((m : Nat) : Int))]) rfl ?_
        refine tw_iinc k116_70 rfl (v := ((m + 1 : Nat) : Int)) rfl (by omega) rfl (L' := [some (.inr (.inr (.inl 126))), some (.inl ((y : Nat) : Int)), some (.inl b), some (.inl ((pE (M 127) y b m) - (0 : Int))), some (.inl ((m + 1 : Nat) : Int))]) rfl ?_
        refine tw_goto k116_73 ?_
        refine tw_eqL (L' := [some (.inr (.inr (.inl 126))), some (.inl ((y : Nat) : Int)), some (.inl b), some (.inl (pE (M 127) y b (m + 1))), some (.inl (((m + 1) : Nat) : Int))]) (e_c rfl (e_c rfl (e_c rfl (e_c (e_i (by simp only [pE]; split <;> omega)) (e_c rfl rfl))))) ?_
        exact ih
      · refine tw_aload k116_40 rfl ?_
        refine tw_getr k116_41 f126_0 ?_
        refine tw_const k116_44 ?_
        refine tw_iload k116_46 rfl ?_
        refine tw_iadd k116_48 (v := ((22 + m : Nat) : Int)) rfl (by omega) ?_
        refine tw_iald (j := 22 + m) (v := (M 127 (22 + m))) k116_49 al127 rfl (by omega) rfl ?_
        refine tw_iload k116_50 rfl ?_
        refine tw_cge k116_51 (fun h51 => ?_) (fun h51 => ?_)
        · refine tw_const k116_67 ?_
          refine tw_isub k116_68 (v := ((pE (M 127) y b m) - (0 : Int))) rfl (by omega) ?_
          refine tw_istore k116_69 rfl (L' := [some (.inr (.inr (.inl 126))), some (.inl ((y : Nat) : Int)), some (.inl b), some (.inl ((pE (M 127) y b m) - (0 : Int))), some (.inl ((m : Nat) : Int))]) rfl ?_
          refine tw_iinc k116_70 rfl (v := ((m + 1 : Nat) : Int)) rfl (by omega) rfl (L' := [some (.inr (.inr (.inl 126))), some (.inl ((y : Nat) : Int)), some (.inl b), some (.inl ((pE (M 127) y b m) - (0 : Int))), some (.inl ((m + 1 : Nat) : Int))]) rfl ?_
          refine tw_goto k116_73 ?_
          refine tw_eqL (L' := [some (.inr (.inr (.inl 126))), some (.inl ((y : Nat) : Int)), some (.inl b), some (.inl (pE (M 127) y b (m + 1))), some (.inl (((m + 1) : Nat) : Int))]) (e_c rfl (e_c rfl (e_c rfl (e_c (e_i (by simp only [pE]; split <;> omega)) (e_c rfl rfl))))) ?_
          exact ih
        · refine tw_aload k116_54 rfl ?_
          refine tw_getr k116_55 f126_0 ?_
          refine tw_const k116_58 ?_
          refine tw_iload k116_60 rfl ?_
          refine tw_iadd k116_62 (v := ((32 + m : Nat) : Int)) rfl (by omega) ?_
          refine tw_iald (j := 32 + m) (v := (M 127 (32 + m))) k116_63 al127 rfl (by omega) rfl ?_
          refine tw_goto k116_64 ?_
          refine tw_isub k116_68 (v := ((pE (M 127) y b m) - (M 127 (32 + m)))) rfl (by omega) ?_
          refine tw_istore k116_69 rfl (L' := [some (.inr (.inr (.inl 126))), some (.inl ((y : Nat) : Int)), some (.inl b), some (.inl ((pE (M 127) y b m) - (M 127 (32 + m)))), some (.inl ((m : Nat) : Int))]) rfl ?_
          refine tw_iinc k116_70 rfl (v := ((m + 1 : Nat) : Int)) rfl (by omega) rfl (L' := [some (.inr (.inr (.inl 126))), some (.inl ((y : Nat) : Int)), some (.inl b), some (.inl ((pE (M 127) y b m) - (M 127 (32 + m)))), some (.inl ((m + 1 : Nat) : Int))]) rfl ?_
          refine tw_goto k116_73 ?_
          refine tw_eqL (L' := [some (.inr (.inr (.inl 126))), some (.inl ((y : Nat) : Int)), some (.inl b), some (.inl (pE (M 127) y b (m + 1))), some (.inl (((m + 1) : Nat) : Int))]) (e_c rfl (e_c rfl (e_c rfl (e_c (e_i (by simp only [pE]; split <;> omega)) (e_c rfl rfl))))) ?_
          exact ih
  refine tw_aload k116_0 rfl ?_
  refine tw_getr k116_1 f126_0 ?_
  refine tw_const k116_4 ?_
  refine tw_iload k116_6 rfl ?_
  refine tw_iadd k116_7 (v := ((6 + y : Nat) : Int)) rfl (by omega) ?_
  refine tw_iald (j := 6 + y) (v := (M 127 (6 + y))) k116_8 al127 rfl (by omega) rfl ?_
  refine tw_istore k116_9 rfl (L' := [some (.inr (.inr (.inl 126))), some (.inl ((y : Nat) : Int)), some (.inl b), some (.inl (M 127 (6 + y))), none]) rfl ?_
  refine tw_const k116_10 ?_
  refine tw_istore k116_11 rfl (L' := [some (.inr (.inr (.inl 126))), some (.inl ((y : Nat) : Int)), some (.inl b), some (.inl (M 127 (6 + y))), some (.inl (0 : Int))]) rfl ?_
  refine tw_eqL (L' := [some (.inr (.inr (.inl 126))), some (.inl ((y : Nat) : Int)), some (.inl b), some (.inl (pE (M 127) y b 0)), some (.inl ((0 : Nat) : Int))]) (e_c rfl (e_c rfl (e_c rfl (e_c rfl (e_c rfl rfl))))) ?_
  exact key 0 (by omega)
theorem x_117 {K : mj_C} {d : Nat} {M : Nat → Nat → Int} {N : Nat → Nat → Int64} (hD : 1 ≤ d) (hs : pRg (M 127)) (y : Nat) (hy : y < 5) (b : Int) : mj_X K d 117 [.inr (.inr (.inl 126)), .inl ((y : Nat) : Int), .inl b] (mj_Sh, M, N) (fun r Z => r = some (.inl (pEm (M 127) y b)) ∧ Z = (mj_Sh, M, N)) := by
  show mj_T K d 117 0 [some (.inr (.inr (.inl 126))), some (.inl ((y : Nat) : Int)), some (.inl b)] [] (mj_Sh, M, N) _
  refine tw_aload k117_0 rfl ?_
  refine tw_iload k117_1 rfl ?_
  refine tw_iload k117_2 rfl ?_
  refine tw_callp (v := .inl (pEm (M 127) y b)) (by omega) (S' := []) (as := [.inr (.inr (.inl 126)), .inl ((y : Nat) : Int), .inl b]) k117_3 (x_116 (M := M) (N := N) hs y (by omega) b) rfl rfl rfl rfl rfl ?_
  exact tw_ri k117_6 (⟨rfl, rfl⟩)
theorem x_118 {K : mj_C} {d : Nat} {M : Nat → Nat → Int} {N : Nat → Nat → Int64} (hD : 1 ≤ d) (hs : pRg (M 127)) (y : Nat) (hy : y < 5) (p : Nat) (hp : p < 100) : mj_X K d 118 [.inr (.inr (.inl 126)), .inl ((y : Nat) : Int), .inl ((p : Nat) : Int)] (mj_Sh, M, N) (fun r Z => r = some (.inl (pLo (M 127) p y)) ∧ Z = (mj_Sh, M, N)) := by
  show mj_T K d 118 0 [some (.inr (.inr (.inl 126))), some (.inl ((y : Nat) : Int)), some (.inl ((p : Nat) : Int))] [] (mj_Sh, M, N) _
  refine tw_aload k118_0 rfl ?_
  refine tw_iload k118_1 rfl ?_
  refine tw_iload k118_2 rfl ?_
  refine tw_const k118_3 ?_
  refine tw_iadd k118_4 (v := ((p + 1 : Nat) : Int)) rfl (by omega) ?_
  refine tw_callp (v := .inl (pEm (M 127) y ((p + 1 : Nat) : Int))) (by omega) (S' := []) (as := [.inr (.inr (.inl 126)), .inl ((y : Nat) : Int), .inl ((p + 1 : Nat) : Int)]) k118_5 (x_116 (M := M) (N := N) hs y (by omega) ((p + 1 : Nat) : Int)) rfl rfl rfl rfl rfl ?_
  exact tw_ri k118_8 (⟨rfl, rfl⟩)
theorem x_119 {K : mj_C} {d : Nat} {M : Nat → Nat → Int} {N : Nat → Nat → Int64} (hD : 2 ≤ d) (hs : pRg (M 127)) (a l : Nat) (hl : l < 5) (ha : a ≤ l) (all : Int) : mj_X K d 119 [.inr (.inr (.inl 126)), .inl ((a : Nat) : Int), .inl ((l : Nat) : Int), .inl all] (mj_Sh, M, N) (fun r Z => r = some (.inl ((pPr (M 127) a (l + 1 - a) all : Nat) : Int)) ∧ Z = (mj_Sh, M, N)) := by
  show mj_T K d 119 0 [some (.inr (.inr (.inl 126))), some (.inl ((a : Nat) : Int)), some (.inl ((l : Nat) : Int)), some (.inl all), none, none, none] [] (mj_Sh, M, N) _
  have key : ∀ p : Nat, p ≤ 20 → ∀ o5 o6, (∀ j, j < p → ¬ pS (pLo (M 127) j) a (l + 1 - a) ≤ all) → mj_T K d 119 3 [some (.inr (.inr (.inl 126))), some (.inl ((a : Nat) : Int)), some (.inl ((l : Nat) : Int)), some (.inl all), some (.inl ((p : Nat) : Int)), sv o5, sv o6] [] (mj_Sh, M, N) (fun r Z => r = some (.inl ((pPr (M 127) a (l + 1 - a) all : Nat) : Int)) ∧ Z = (mj_Sh, M, N)) := by
    refine up_to 20 ?_ ?_
    · show ∀ o5 o6, (∀ j, j < 20 → ¬ pS (pLo (M 127) j) a (l + 1 - a) ≤ all) → mj_T K d 119 3 [some (.inr (.inr (.inl 126))), some (.inl ((a : Nat) : Int)), some (.inl ((l : Nat) : Int)), some (.inl all), some (.inl ((20 : Nat) : Int)), sv o5, sv o6] [] (mj_Sh, M, N) (fun r Z => r = some (.inl ((pPr (M 127) a (l + 1 - a) all : Nat) : Int)) ∧ Z = (mj_Sh, M, N))
      intro o5 o6 hno
      refine tw_iload k119_3 rfl ?_
      refine tw_const k119_5 ?_
      refine tw_cgeT k119_7 (by omega) ?_
      refine tw_const k119_56 ?_
      exact tw_ri k119_58 (⟨by rw [pPr, pFd_no 20 0 (fun j _ hj => hno j (by omega))]; rfl, rfl⟩)
    · intro p hmp ih
      have ih : ∀ o5 o6, (∀ j, j < (p + 1) → ¬ pS (pLo (M 127) j) a (l + 1 - a) ≤ all) → mj_T K d 119 3 [some (.inr (.inr (.inl 126))), some (.inl ((a : Nat) : Int)), some (.inl ((l : Nat) : Int)), some (.inl all), some (.inl (((p + 1) : Nat) : Int)), sv o5, sv o6] [] (mj_Sh, M, N) (fun r Z => r = some (.inl ((pPr (M 127) a (l + 1 - a) all : Nat) : Int)) ∧ Z = (mj_Sh, M, N)) := ih
      show ∀ o5 o6, (∀ j, j < p → ¬ pS (pLo (M 127) j) a (l + 1 - a) ≤ all) → mj_T K d 119 3 [some (.inr (.inr (.inl 126))), some (.inl ((a : Nat) : Int)), some (.inl ((l : Nat) : Int)), some (.inl all), some (.inl ((p : Nat) : Int)), sv o5, sv o6] [] (mj_Sh, M, N) (fun r Z => r = some (.inl ((pPr (M 127) a (l + 1 - a) all : Nat) : Int)) ∧ Z = (mj_Sh, M, N))
      intro o5 o6 hno
      have key2 : ∀ i : Nat, i ≤ (l + 1 - a) → mj_T K d 119 16 [some (.inr (.inr (.inl 126))), some (.inl ((a : Nat) : Int)), some (.inl ((l : Nat) : Int)), some (.inl all), some (.inl ((p : Nat) : Int)), some (.inl (pS (pLo (M 127) p) a i)), some (.inl (((a + i) : Nat) : Int))] [] (mj_Sh, M, N) (fun r Z => r = some (.inl ((pPr (M 127) a (l + 1 - a) all : Nat) : Int)) ∧ Z = (mj_Sh, M, N)) := by
        refine up_to (l + 1 - a) ?_ ?_
        · show mj_T K d 119 16 [some (.inr (.inr (.inl 126))), some (.inl ((a : Nat) : Int)), some (.inl ((l : Nat) : Int)), some (.inl all), some (.inl ((p : Nat) : Int)), some (.inl (pS (pLo (M 127) p) a (l + 1 - a))), some (.inl (((a + (l + 1 - a)) : Nat) : Int))] [] (mj_Sh, M, N) (fun r Z => r = some (.inl ((pPr (M 127) a (l + 1 - a) all : Nat) : Int)) ∧ Z = (mj_Sh, M, N))
          refine tw_iload k119_16 rfl ?_
          refine tw_iload k119_18 rfl ?_
          refine tw_cgtT k119_19 (by omega) ?_
          refine tw_iload k119_41 rfl ?_
          refine tw_iload k119_43 rfl ?_
          refine tw_cgt k119_44 (fun h44 => ?_) (fun h44 => ?_)
          · refine tw_iinc k119_50 rfl (v := ((p + 1 : Nat) : Int)) rfl (by omega) rfl (L' := [some (.inr (.inr (.inl 126))), some (.inl ((a : Nat) : Int)), some (.inl ((l : Nat) : Int)), some (.inl all), some (.inl ((p + 1 : Nat) : Int)), some (.inl (pS (pLo (M 127) p) a (l + 1 - a))), some (.inl (((a + (l + 1 - a)) : Nat) : Int))]) rfl ?_
            refine tw_goto k119_53 ?_
            exact ih (some (.inl _)) (some (.inl _)) (fun j hj => by
              by_cases e : j = p
              · subst e; omega
              · exact hno j (by omega))
          · refine tw_iload k119_47 rfl ?_
            exact tw_ri k119_49 (⟨by rw [pPr, pFd_eq 20 0 p (by omega) (by omega) (by omega) (fun j _ hj => hno j (by omega))], rfl⟩)
        · intro i hmi ih
          have ih : mj_T K d 119 16 [some (.inr (.inr (.inl 126))), some (.inl ((a : Nat) : Int)), some (.inl ((l : Nat) : Int)), some (.inl all), some (.inl ((p : Nat) : Int)), some (.inl (pS (pLo (M 127) p) a (i + 1))), some (.inl (((a + (i + 1)) : Nat) : Int))] [] (mj_Sh, M, N) (fun r Z => r = some (.inl ((pPr (M 127) a (l + 1 - a) all : Nat) : Int)) ∧ Z = (mj_Sh, M, N)) := ih
          show mj_T K d 119 16 [some (.inr (.inr (.inl 126))), some (.inl ((a : Nat) : Int)), some (.inl ((l : Nat) : Int)), some (.inl all), some (.inl ((p : Nat) : Int)), some (.inl (pS (pLo (M 127) p) a i)), some (.inl (((a + i) : Nat) : Int))] [] (mj_Sh, M, N) (fun r Z => r = some (.inl ((pPr (M 127) a (l + 1 - a) all : Nat) : Int)) ∧ Z = (mj_Sh, M, N))
          have h5 := pS_rg (f := pLo (M 127) p) (a := a) (B := 100) i (fun y h1 h2 => pEm_rg hs (by omega) _)
          have h6 : 0 ≤ pLo (M 127) p (a + i) ∧ pLo (M 127) p (a + i) ≤ 100 := pEm_rg hs (by omega) _
          refine tw_iload k119_16 rfl ?_
          refine tw_iload k119_18 rfl ?_
          refine tw_cgtF k119_19 (by omega) ?_
          refine tw_iload k119_22 rfl ?_
          refine tw_aload k119_24 rfl ?_
          refine tw_iload k119_25 rfl ?_
          refine tw_iload k119_27 rfl ?_
          refine tw_callp (v := .inl (pLo (M 127) p (a + i))) (by omega) (S' := [.inl (pS (pLo (M 127) p) a i)]) (as := [.inr (.inr (.inl 126)), .inl (((a + i) : Nat) : Int), .inl ((p : Nat) : Int)]) k119_29 (x_118 (M := M) (N := N) (by omega) hs (a + i) (by omega) p (by omega)) rfl rfl rfl rfl rfl ?_
          refine tw_iadd k119_32 (v := ((pS (pLo (M 127) p) a i) + (pLo (M 127) p (a + i)))) rfl (by omega) ?_
          refine tw_istore k119_33 rfl (L' := [some (.inr (.inr (.inl 126))), some (.inl ((a : Nat) : Int)), some (.inl ((l : Nat) : Int)), some (.inl all), some (.inl ((p : Nat) : Int)), some (.inl ((pS (pLo (M 127) p) a i) + (pLo (M 127) p (a + i)))), some (.inl (((a + i) : Nat) : Int))]) rfl ?_
          refine tw_iinc k119_35 rfl (v := (((a + i) + 1 : Nat) : Int)) rfl (by omega) rfl (L' := [some (.inr (.inr (.inl 126))), some (.inl ((a : Nat) : Int)), some (.inl ((l : Nat) : Int)), some (.inl all), some (.inl ((p : Nat) : Int)), some (.inl ((pS (pLo (M 127) p) a i) + (pLo (M 127) p (a + i)))), some (.inl (((a + i) + 1 : Nat) : Int))]) rfl ?_
          refine tw_goto k119_38 ?_
          refine tw_eqL (L' := [some (.inr (.inr (.inl 126))), some (.inl ((a : Nat) : Int)), some (.inl ((l : Nat) : Int)), some (.inl all), some (.inl ((p : Nat) : Int)), some (.inl (pS (pLo (M 127) p) a (i + 1))), some (.inl (((a + (i + 1)) : Nat) : Int))]) (e_c rfl (e_c rfl (e_c rfl (e_c rfl (e_c rfl (e_c rfl (e_c rfl rfl))))))) ?_
          exact ih
      refine tw_iload k119_3 rfl ?_
      refine tw_const k119_5 ?_
      refine tw_cgeF k119_7 (by omega) ?_
      refine tw_const k119_10 ?_
      refine tw_istore k119_11 rfl (L' := [some (.inr (.inr (.inl 126))), some (.inl ((a : Nat) : Int)), some (.inl ((l : Nat) : Int)), some (.inl all), some (.inl ((p : Nat) : Int)), some (.inl (0 : Int)), sv o6]) rfl ?_
      refine tw_iload k119_13 rfl ?_
      refine tw_istore k119_14 rfl (L' := [some (.inr (.inr (.inl 126))), some (.inl ((a : Nat) : Int)), some (.inl ((l : Nat) : Int)), some (.inl all), some (.inl ((p : Nat) : Int)), some (.inl (0 : Int)), some (.inl ((a : Nat) : Int))]) rfl ?_
      refine tw_eqL (L' := [some (.inr (.inr (.inl 126))), some (.inl ((a : Nat) : Int)), some (.inl ((l : Nat) : Int)), some (.inl all), some (.inl ((p : Nat) : Int)), some (.inl (pS (pLo (M 127) p) a 0)), some (.inl (((a + 0) : Nat) : Int))]) (e_c rfl (e_c rfl (e_c rfl (e_c rfl (e_c rfl (e_c rfl (e_c rfl rfl))))))) ?_
      exact key2 0 (by omega)
  refine tw_const k119_0 ?_
  refine tw_istore k119_1 rfl (L' := [some (.inr (.inr (.inl 126))), some (.inl ((a : Nat) : Int)), some (.inl ((l : Nat) : Int)), some (.inl all), some (.inl (0 : Int)), none, none]) rfl ?_
  exact key 0 (by omega) none none (fun j hj => absurd hj (by omega))
theorem pS_congr {f g : Nat → Int} {a : Nat} : ∀ (n : Nat), (∀ i, a ≤ i → i < a + n → f i = g i) → pS f a n = pS g a n
  | 0, _ => rfl
  | n + 1, h => by rw [pS, pS, pS_congr n (fun i hi hj => h i hi (by omega)), h (a + n) (by omega) (by omega)]
theorem x_120 {K : mj_C} {d : Nat} {M : Nat → Nat → Int} {N : Nat → Nat → Int64} (g a l : Nat) (hg : g < 5) (h1 : M 136 g = (a : Int)) (h2 : M 137 g = (l : Int)) (ha : a ≤ l) (hl : l < 5) (perm : Nat → Int) (hP : ∀ y, a ≤ y → y ≤ l → M 130 y = perm y) (hB : ∀ y, a ≤ y → y ≤ l → 0 ≤ perm y ∧ perm y ≤ 1000) : mj_X K d 120 [.inr (.inr (.inl 126)), .inl ((g : Nat) : Int)] (mj_Sh, M, N) (fun r Z => r = some (.inl (pS perm a (l + 1 - a))) ∧ Z = (mj_Sh, M, N)) := by
  show mj_T K d 120 0 [some (.inr (.inr (.inl 126))), some (.inl ((g : Nat) : Int)), none, none] [] (mj_Sh, M, N) _
  have key : ∀ i : Nat, i ≤ (l + 1 - a) → mj_T K d 120 9 [some (.inr (.inr (.inl 126))), some (.inl ((g : Nat) : Int)), some (.inl (pS perm a i)), some (.inl (((a + i) : Nat) : Int))] [] (mj_Sh, M, N) (fun r Z => r = some (.inl (pS perm a (l + 1 - a))) ∧ Z = (mj_Sh, M, N)) := by
    refine up_to (l + 1 - a) ?_ ?_
    · show mj_T K d 120 9 [some (.inr (.inr (.inl 126))), some (.inl ((g : Nat) : Int)), some (.inl (pS perm a (l + 1 - a))), some (.inl (((a + (l + 1 - a)) : Nat) : Int))] [] (mj_Sh, M, N) (fun r Z => r = some (.inl (pS perm a (l + 1 - a))) ∧ Z = (mj_Sh, M, N))
      refine tw_iload k120_9 rfl ?_
      refine tw_aload k120_10 rfl ?_
      refine tw_getr k120_11 f126_11 ?_
      refine tw_iload k120_14 rfl ?_
      refine tw_iald (j := g) (v := ((l : Nat) : Int)) k120_15 al137 rfl (by omega) h2 ?_
      refine tw_cgtT k120_16 (by omega) ?_
      refine tw_iload k120_34 rfl ?_
      exact tw_ri k120_35 (⟨rfl, rfl⟩)
    · intro i hmi ih
      have ih : mj_T K d 120 9 [some (.inr (.inr (.inl 126))), some (.inl ((g : Nat) : Int)), some (.inl (pS perm a (i + 1))), some (.inl (((a + (i + 1)) : Nat) : Int))] [] (mj_Sh, M, N) (fun r Z => r = some (.inl (pS perm a (l + 1 - a))) ∧ Z = (mj_Sh, M, N)) := ih
      show mj_T K d 120 9 [some (.inr (.inr (.inl 126))), some (.inl ((g : Nat) : Int)), some (.inl (pS perm a i)), some (.inl (((a + i) : Nat) : Int))] [] (mj_Sh, M, N) (fun r Z => r = some (.inl (pS perm a (l + 1 - a))) ∧ Z = (mj_Sh, M, N))
      have h5 := pS_rg (f := perm) (a := a) (B := 1000) i (fun y h1 h2 => hB y (by omega) (by omega))
      have h6 := hB (a + i) (by omega) (by omega)
      refine tw_iload k120_9 rfl ?_
      refine tw_aload k120_10 rfl ?_
      refine tw_getr k120_11 f126_11 ?_
      refine tw_iload k120_14 rfl ?_
      refine tw_iald (j := g) (v := ((l : Nat) : Int)) k120_15 al137 rfl (by omega) h2 ?_
      refine tw_cgtF k120_16 (by omega) ?_
      refine tw_iload k120_19 rfl ?_
      refine tw_aload k120_20 rfl ?_
      refine tw_getr k120_21 f126_4 ?_
      refine tw_iload k120_24 rfl ?_
      refine tw_iald (j := (a + i)) (v := (perm (a + i))) k120_25 al130 rfl (by omega) (hP (a + i) (by omega) (by omega)) ?_
      refine tw_iadd k120_26 (v := ((pS perm a i) + (perm (a + i)))) rfl (by omega) ?_
      refine tw_istore k120_27 rfl (L' := [some (.inr (.inr (.inl 126))), some (.inl ((g : Nat) : Int)), some (.inl ((pS perm a i) + (perm (a + i)))), some (.inl (((a + i) : Nat) : Int))]) rfl ?_
      refine tw_iinc k120_28 rfl (v := (((a + i) + 1 : Nat) : Int)) rfl (by omega) rfl (L' := [some (.inr (.inr (.inl 126))), some (.inl ((g : Nat) : Int)), some (.inl ((pS perm a i) + (perm (a + i)))), some (.inl (((a + i) + 1 : Nat) : Int))]) rfl ?_
      refine tw_goto k120_31 ?_
      refine tw_eqL (L' := [some (.inr (.inr (.inl 126))), some (.inl ((g : Nat) : Int)), some (.inl (pS perm a (i + 1))), some (.inl (((a + (i + 1)) : Nat) : Int))]) (e_c rfl (e_c rfl (e_c rfl (e_c rfl rfl)))) ?_
      exact ih
  refine tw_const k120_0 ?_
  refine tw_istore k120_1 rfl (L' := [some (.inr (.inr (.inl 126))), some (.inl ((g : Nat) : Int)), some (.inl (0 : Int)), none]) rfl ?_
  refine tw_aload k120_2 rfl ?_
  refine tw_getr k120_3 f126_10 ?_
  refine tw_iload k120_6 rfl ?_
  refine tw_iald (j := g) (v := ((a : Nat) : Int)) k120_7 al136 rfl (by omega) h1 ?_
  refine tw_istore k120_8 rfl (L' := [some (.inr (.inr (.inl 126))), some (.inl ((g : Nat) : Int)), some (.inl (0 : Int)), some (.inl ((a : Nat) : Int))]) rfl ?_
  refine tw_eqL (L' := [some (.inr (.inr (.inl 126))), some (.inl ((g : Nat) : Int)), some (.inl (pS perm a 0)), some (.inl (((a + 0) : Nat) : Int))]) (e_c rfl (e_c rfl (e_c rfl (e_c rfl rfl)))) ?_
  exact key 0 (by omega)
theorem x_121 {K : mj_C} {d : Nat} {M : Nat → Nat → Int} {N : Nat → Nat → Int64} (hD : 3 ≤ d) (hs : pRg (M 127)) (g a l : Nat) (hg : g < 5) (h1 : M 136 g = (a : Int)) (h2 : M 137 g = (l : Int)) (ha : a ≤ l) (hl : l < 5) (perm : Nat → Int) (hP : ∀ y, a ≤ y → y ≤ l → M 130 y = perm y) (hB : ∀ y, a ≤ y → y ≤ l → 0 ≤ perm y ∧ perm y ≤ 1000) : mj_X K d 121 [.inr (.inr (.inl 126)), .inl ((g : Nat) : Int)] (mj_Sh, M, N) (fun r Z => r = none ∧ Z = (mj_Sh, st M [(138, pU (M 138) g (((pPr (M 127) a (l + 1 - a) (pS perm a (l + 1 - a))) : Nat) : Int))], N)) := by
  show mj_T K d 121 0 [some (.inr (.inr (.inl 126))), some (.inl ((g : Nat) : Int))] [] (mj_Sh, M, N) _
  refine tw_aload k121_0 rfl ?_
  refine tw_getr k121_1 f126_12 ?_
  refine tw_iload k121_4 rfl ?_
  refine tw_aload k121_5 rfl ?_
  refine tw_aload k121_6 rfl ?_
  refine tw_getr k121_7 f126_10 ?_
  refine tw_iload k121_10 rfl ?_
  refine tw_iald (j := g) (v := ((a : Nat) : Int)) k121_11 al136 rfl (by omega) h1 ?_
  refine tw_aload k121_12 rfl ?_
  refine tw_getr k121_13 f126_11 ?_
  refine tw_iload k121_16 rfl ?_
  refine tw_iald (j := g) (v := ((l : Nat) : Int)) k121_17 al137 rfl (by omega) h2 ?_
  refine tw_aload k121_18 rfl ?_
  refine tw_iload k121_19 rfl ?_
  refine tw_callp (v := .inl (pS perm a (l + 1 - a))) (by omega) (S' := [.inl ((l : Nat) : Int), .inl ((a : Nat) : Int), .inr (.inr (.inl 126)), .inl ((g : Nat) : Int), .inr (.inr (.inl 138))]) (as := [.inr (.inr (.inl 126)), .inl ((g : Nat) : Int)]) k121_20 (x_120 (M := M) (N := N) g a l (by omega) h1 h2 (by omega) (by omega) perm hP hB) rfl rfl rfl rfl rfl ?_
  refine tw_callp (v := .inl (((pPr (M 127) a (l + 1 - a) (pS perm a (l + 1 - a))) : Nat) : Int)) (by omega) (S' := [.inl ((g : Nat) : Int), .inr (.inr (.inl 138))]) (as := [.inr (.inr (.inl 126)), .inl ((a : Nat) : Int), .inl ((l : Nat) : Int), .inl (pS perm a (l + 1 - a))]) k121_23 (x_119 (M := M) (N := N) (by omega) hs a l (by omega) (by omega) (pS perm a (l + 1 - a))) rfl rfl rfl rfl rfl ?_
  refine tw_iast (M := M) (N := N) (l := []) (l' := [(138, (pU (M 138) g (((pPr (M 127) a (l + 1 - a) (pS perm a (l + 1 - a))) : Nat) : Int)))]) (j := g) k121_26 al138 rfl (by omega) rfl ?_
  exact tw_rv k121_27 (⟨rfl, rfl⟩)
