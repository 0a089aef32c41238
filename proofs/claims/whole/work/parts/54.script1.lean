-- the class: tapes, signs
theorem fT0 {t : Nat} (h : t < 6) : mj_fk mj_Sh (114 + 2 * t) 7 0 = some (.inr (some (115 + 2 * t))) := by
  have : t = 0 ∨ t = 1 ∨ t = 2 ∨ t = 3 ∨ t = 4 ∨ t = 5 := by omega
  rcases this with rfl | rfl | rfl | rfl | rfl | rfl <;> rfl
theorem fT1 {t : Nat} (h : t < 6) : mj_fk mj_Sh (114 + 2 * t) 7 1 = some (.inl 0) := by
  have : t = 0 ∨ t = 1 ∨ t = 2 ∨ t = 3 ∨ t = 4 ∨ t = 5 := by omega
  rcases this with rfl | rfl | rfl | rfl | rfl | rfl <;> rfl
theorem fT2 {t : Nat} (h : t < 6) : mj_fk mj_Sh (114 + 2 * t) 7 2 = some (.inl 0) := by
  have : t = 0 ∨ t = 1 ∨ t = 2 ∨ t = 3 ∨ t = 4 ∨ t = 5 := by omega
  rcases this with rfl | rfl | rfl | rfl | rfl | rfl <;> rfl
theorem alT {t : Nat} (h : t < 6) : mj_al mj_Sh 2 (115 + 2 * t) = some 60 := by
  have : t = 0 ∨ t = 1 ∨ t = 2 ∨ t = 3 ∨ t = 4 ∨ t = 5 := by omega
  rcases this with rfl | rfl | rfl | rfl | rfl | rfl <;> rfl
theorem rr113 {t : Nat} (h : t < 6) : mj_rr mj_Sh 113 t = some (114 + 2 * t) := by
  have : t = 0 ∨ t = 1 ∨ t = 2 ∨ t = 3 ∨ t = 4 ∨ t = 5 := by omega
  rcases this with rfl | rfl | rfl | rfl | rfl | rfl <;> rfl
theorem rr98 {k : Nat} (h : k < 14) : mj_rr mj_Sh 98 k = some (99 + k) := by
  have : k = 0 ∨ k = 1 ∨ k = 2 ∨ k = 3 ∨ k = 4 ∨ k = 5 ∨ k = 6 ∨ k = 7 ∨ k = 8 ∨ k = 9 ∨ k = 10 ∨ k = 11 ∨ k = 12 ∨ k = 13 := by omega
  rcases this with rfl | rfl | rfl | rfl | rfl | rfl | rfl | rfl | rfl | rfl | rfl | rfl | rfl | rfl <;> rfl
theorem alC {q : Nat} (h : 99 ≤ q ∧ q ≤ 112) : mj_al mj_Sh 1 q = some 4 := by
  have : q = 99 ∨ q = 100 ∨ q = 101 ∨ q = 102 ∨ q = 103 ∨ q = 104 ∨ q = 105 ∨ q = 106 ∨ q = 107 ∨ q = 108 ∨ q = 109 ∨ q = 110 ∨ q = 111 ∨ q = 112 := by omega
  rcases this with rfl | rfl | rfl | rfl | rfl | rfl | rfl | rfl | rfl | rfl | rfl | rfl | rfl | rfl <;> rfl
theorem rcvT {t m' : Nat} {as : List mj_V} (h : t < 6) (hm : mj_ci m' = 7) : mj_rcv 0 m' mj_Sh (.inr (.inr (.inl (114 + 2 * t))) :: as) = true := by
  have : t = 0 ∨ t = 1 ∨ t = 2 ∨ t = 3 ∨ t = 4 ∨ t = 5 := by omega
  rcases this with rfl | rfl | rfl | rfl | rfl | rfl <;> (show (7 == mj_ci m') = true; rw [hm]; rfl)
def tV (M : Nat → Nat → Int) (N : Nat → Nat → Int64) (so it : Nat → Int) (ce : Nat → Int64) : Prop := ∀ t, t < 6 → M (114 + 2 * t) 1 = so t ∧ M (114 + 2 * t) 2 = it t ∧ ∀ i : Nat, (i : Int) < it t → N (115 + 2 * t) i = ce (60 * t + i)
theorem mu_c {α : Type} {M : Nat → Nat → α} {a j c k : Nat} {v : α} : mj_u M a j v c k = if c = a ∧ k = j then v else M c k := rfl
theorem x_105 {K : mj_C} {d : Nat} {Z : mj_Z} (hD : 1 ≤ d) (t : Int) : mj_X K d 105 [.inl t] Z (fun r Z' => r = some (.inl (if 0 ≤ t ∧ t ≤ 5 then 1 else 0)) ∧ Z' = Z) := by
  show mj_T K d 105 0 [some (.inl t)] [] Z _
  refine tw_iload k105_0 rfl ?_
  refine tw_const k105_1 ?_
  refine tw_const k105_2 ?_
  refine tw_callb (by omega) (S' := []) (as := [.inl t, .inl (0 : Int), .inl (5 : Int)]) k105_3 (x_104 t (0 : Int) (5 : Int)) rfl rfl rfl rfl rfl (fun h3 => ?_) (fun h3 => ?_)
  · exact tw_rb k105_6 (by decide) (⟨by rw [if_pos (by omega)], rfl⟩)
  · exact tw_rb k105_6 (by decide) (⟨by rw [if_neg (by omega)], rfl⟩)
theorem x_64 {K : mj_C} {d : Nat} {M : Nat → Nat → Int} {N : Nat → Nat → Int64} (t : Nat) (ht : t < 6) (k n : Int) : mj_X K d 64 [.inr (.inr (.inl (114 + 2 * t))), .inl k, .inl n] (mj_Sh, M, N) (fun r Z => r = none ∧ ∃ M1 N1, Z = (mj_Sh, M1, N1) ∧ M1 (114 + 2 * t) 1 = k ∧ M1 (114 + 2 * t) 2 = n ∧ (∀ i, i < 60 → N1 (115 + 2 * t) i = Int64.ofInt 0) ∧ (∀ c, c ≠ (114 + 2 * t) → M1 c = M c) ∧ ∀ c, c ≠ (115 + 2 * t) → N1 c = N c) := by
  show mj_T K d 64 0 [some (.inr (.inr (.inl (114 + 2 * t)))), some (.inl k), some (.inl n), none] [] (mj_Sh, M, N) _
  have key : ∀ i : Nat, i ≤ 60 → ∀ N1 : Nat → Nat → Int64, (∀ j, j < i → N1 (115 + 2 * t) j = Int64.ofInt 0) → (∀ c, c ≠ (115 + 2 * t) → N1 c = N c) → mj_T K d 64 12 [some (.inr (.inr (.inl (114 + 2 * t)))), some (.inl k), some (.inl n), some (.inl ((i : Nat) : Int))] [] (mj_Sh, (mj_u (mj_u M (114 + 2 * t) 1 k) (114 + 2 * t) 2 n), N1) (fun r Z => r = none ∧ ∃ M1 N1, Z = (mj_Sh, M1, N1) ∧ M1 (114 + 2 * t) 1 = k ∧ M1 (114 + 2 * t) 2 = n ∧ (∀ i, i < 60 → N1 (115 + 2 * t) i = Int64.ofInt 0) ∧ (∀ c, c ≠ (114 + 2 * t) → M1 c = M c) ∧ ∀ c, c ≠ (115 + 2 * t) → N1 c = N c) := by
    refine up_to 60 ?_ ?_
    · show ∀ N1 : Nat → Nat → Int64, (∀ j, j < 60 → N1 (115 + 2 * t) j = Int64.ofInt 0) → (∀ c, c ≠ (115 + 2 * t) → N1 c = N c) → mj_T K d 64 12 [some (.inr (.inr (.inl (114 + 2 * t)))), some (.inl k), some (.inl n), some (.inl ((60 : Nat) : Int))] [] (mj_Sh, (mj_u (mj_u M (114 + 2 * t) 1 k) (114 + 2 * t) 2 n), N1) (fun r Z => r = none ∧ ∃ M1 N1, Z = (mj_Sh, M1, N1) ∧ M1 (114 + 2 * t) 1 = k ∧ M1 (114 + 2 * t) 2 = n ∧ (∀ i, i < 60 → N1 (115 + 2 * t) i = Int64.ofInt 0) ∧ (∀ c, c ≠ (114 + 2 * t) → M1 c = M c) ∧ ∀ c, c ≠ (115 + 2 * t) → N1 c = N c)
      intro N1 h1 h2
      refine tw_iload k64_12 rfl ?_
      refine tw_const k64_13 ?_
      refine tw_cgeT k64_15 (by omega) ?_
      exact tw_rv k64_31 (⟨rfl, _, N1, rfl, by rw [mu_c, if_neg (by omega), mu_c, if_pos ⟨rfl, rfl⟩], by rw [mu_c, if_pos ⟨rfl, rfl⟩], h1, fun c hc => by rw [tu_row hc, tu_row hc], h2⟩)
    · intro i hmi ih
      have ih : ∀ N1 : Nat → Nat → Int64, (∀ j, j < (i + 1) → N1 (115 + 2 * t) j = Int64.ofInt 0) → (∀ c, c ≠ (115 + 2 * t) → N1 c = N c) → mj_T K d 64 12 [some (.inr (.inr (.inl (114 + 2 * t)))), some (.inl k), some (.inl n), some (.inl (((i + 1) : Nat) : Int))] [] (mj_Sh, (mj_u (mj_u M (114 + 2 * t) 1 k) (114 + 2 * t) 2 n), N1) (fun r Z => r = none ∧ ∃ M1 N1, Z = (mj_Sh, M1, N1) ∧ M1 (114 + 2 * t) 1 = k ∧ M1 (114 + 2 * t) 2 = n ∧ (∀ i, i < 60 → N1 (115 + 2 * t) i = Int64.ofInt 0) ∧ (∀ c, c ≠ (114 + 2 * t) → M1 c = M c) ∧ ∀ c, c ≠ (115 + 2 * t) → N1 c = N c) := ih
      show ∀ N1 : Nat → Nat → Int64, (∀ j, j < i → N1 (115 + 2 * t) j = Int64.ofInt 0) → (∀ c, c ≠ (115 + 2 * t) → N1 c = N c) → mj_T K d 64 12 [some (.inr (.inr (.inl (114 + 2 * t)))), some (.inl k), some (.inl n), some (.inl ((i : Nat) : Int))] [] (mj_Sh, (mj_u (mj_u M (114 + 2 * t) 1 k) (114 + 2 * t) 2 n), N1) (fun r Z => r = none ∧ ∃ M1 N1, Z = (mj_Sh, M1, N1) ∧ M1 (114 + 2 * t) 1 = k ∧ M1 (114 + 2 * t) 2 = n ∧ (∀ i, i < 60 → N1 (115 + 2 * t) i = Int64.ofInt 0) ∧ (∀ c, c ≠ (114 + 2 * t) → M1 c = M c) ∧ ∀ c, c ≠ (115 + 2 * t) → N1 c = N c)
      intro N1 h1 h2
      refine tw_iload k64_12 rfl ?_
      refine tw_const k64_13 ?_
      refine tw_cgeF k64_15 (by omega) ?_
      refine tw_aload k64_18 rfl ?_
      refine tw_getr k64_19 (fT0 ht) ?_
      refine tw_iload k64_22 rfl ?_
      refine tw_lconst k64_23 ?_
      refine tw_lastu (j := i) k64_24 (alT ht) rfl (by omega) ?_
      refine tw_iinc k64_25 rfl (v := ((i + 1 : Nat) : Int)) rfl (by omega) rfl (L' := [some (.inr (.inr (.inl (114 + 2 * t)))), some (.inl k), some (.inl n), some (.inl ((i + 1 : Nat) : Int))]) rfl ?_
      refine tw_goto k64_28 ?_
      refine ih _ (fun j hj => ?_) (fun c hc => by rw [tu_row hc]; exact h2 c hc)
      by_cases e : j = i
      · subst e; rw [tu_eq]
      · rw [tu_ne (Or.inr e)]; exact h1 j (by omega)
  refine tw_aload k64_0 rfl ?_
  refine tw_iload k64_1 rfl ?_
  refine tw_putiu k64_2 (fT1 ht) ?_
  refine tw_aload k64_5 rfl ?_
  refine tw_iload k64_6 rfl ?_
  refine tw_putiu k64_7 (fT2 ht) ?_
  refine tw_const k64_10 ?_
  refine tw_istore k64_11 rfl (L' := [some (.inr (.inr (.inl (114 + 2 * t)))), some (.inl k), some (.inl n), some (.inl (0 : Int))]) rfl ?_
  exact key 0 (by omega) _ (fun j hj => by omega) (fun c _ => rfl)
theorem x_65 {K : mj_C} {d : Nat} {M : Nat → Nat → Int} {N : Nat → Nat → Int64} (hD : 1 ≤ d) (t : Nat) (ht : t < 6) (sz : Int) (hz : M (114 + 2 * t) 2 = sz) (hr : 0 ≤ sz ∧ sz ≤ 60) (i : Int) : mj_X K d 65 [.inr (.inr (.inl (114 + 2 * t))), .inl i] (mj_Sh, M, N) (fun r Z => r = some (.inl (if 0 ≤ i ∧ i < sz then 1 else 0)) ∧ Z = (mj_Sh, M, N)) := by
  show mj_T K d 65 0 [some (.inr (.inr (.inl (114 + 2 * t)))), some (.inl i)] [] (mj_Sh, M, N) _
  refine tw_iload k65_0 rfl ?_
  refine tw_const k65_1 ?_
  refine tw_aload k65_2 rfl ?_
  refine tw_geti k65_3 (fT2 ht) rfl (v := sz) hz ?_
  refine tw_const k65_6 ?_
  refine tw_isub k65_7 (v := (sz - (1 : Int))) rfl (by omega) ?_
  refine tw_callb (by omega) (S' := []) (as := [.inl i, .inl (0 : Int), .inl (sz - (1 : Int))]) k65_8 (x_104 i (0 : Int) (sz - (1 : Int))) rfl rfl rfl rfl rfl (fun h8 => ?_) (fun h8 => ?_)
  · exact tw_rb k65_11 (by decide) (⟨by rw [if_pos (by omega)], rfl⟩)
  · exact tw_rb k65_11 (by decide) (⟨by rw [if_neg (by omega)], rfl⟩)
theorem x_66 {K : mj_C} {d : Nat} {M : Nat → Nat → Int} {N : Nat → Nat → Int64} (hD : 1 ≤ d) (t : Nat) (ht : t < 6) (sz : Int) (hz : M (114 + 2 * t) 2 = sz) (hr : 0 ≤ sz ∧ sz ≤ 60) (i n : Int) : mj_X K d 66 [.inr (.inr (.inl (114 + 2 * t))), .inl i, .inl n] (mj_Sh, M, N) (fun r Z => r = some (.inl (if 0 ≤ n ∧ 0 ≤ i ∧ i + n ≤ sz then 1 else 0)) ∧ Z = (mj_Sh, M, N)) := by
  show mj_T K d 66 0 [some (.inr (.inr (.inl (114 + 2 * t)))), some (.inl i), some (.inl n)] [] (mj_Sh, M, N) _
  refine tw_iload k66_0 rfl ?_
  refine tw_zlt k66_1 (fun h1 => ?_) (fun h1 => ?_)
  · refine tw_const k66_30 ?_
    exact tw_rb k66_31 (by decide) (⟨by rw [if_neg (by omega)], rfl⟩)
  · refine tw_iload k66_4 rfl ?_
    refine tw_const k66_5 ?_
    refine tw_aload k66_6 rfl ?_
    refine tw_geti k66_7 (fT2 ht) rfl (v := sz) hz ?_
    refine tw_callb (by omega) (S' := []) (as := [.inl i, .inl (0 : Int), .inl sz]) k66_10 (x_104 i (0 : Int) sz) rfl rfl rfl rfl rfl (fun h10 => ?_) (fun h10 => ?_)
    · refine tw_zeqF k66_13 (by decide) ?_
      refine tw_iload k66_16 rfl ?_
      refine tw_aload k66_17 rfl ?_
      refine tw_geti k66_18 (fT2 ht) rfl (v := sz) hz ?_
      refine tw_iload k66_21 rfl ?_
      refine tw_isub k66_22 (v := (sz - i)) rfl (by omega) ?_
      refine tw_cgt k66_23 (fun h23 => ?_) (fun h23 => ?_)
      · refine tw_const k66_30 ?_
        exact tw_rb k66_31 (by decide) (⟨by rw [if_neg (by omega)], rfl⟩)
      · refine tw_const k66_26 ?_
        refine tw_goto k66_27 ?_
        exact tw_rb k66_31 (by decide) (⟨by rw [if_pos (by omega)], rfl⟩)
    · refine tw_zeqT k66_13 (by decide) ?_
      refine tw_const k66_30 ?_
      exact tw_rb k66_31 (by decide) (⟨by rw [if_neg (by omega)], rfl⟩)
theorem x_67 {K : mj_C} {d : Nat} {M : Nat → Nat → Int} {N : Nat → Nat → Int64} (t : Nat) (ht : t < 6) (so : Int) (hso : M (114 + 2 * t) 1 = so) (v : Int64) (h4 : 0 ≤ so ∧ so ≤ 4) : mj_X K d 67 [.inr (.inr (.inl (114 + 2 * t))), .inr (.inl v)] (mj_Sh, M, N) (fun r Z => r = some (.inr (.inl (lb so v))) ∧ Z = (mj_Sh, M, N)) := by
  show mj_T K d 67 0 [some (.inr (.inr (.inl (114 + 2 * t)))), some (.inr (.inl v)), none] [] (mj_Sh, M, N) _
  refine tw_aload k67_0 rfl ?_
  refine tw_geti k67_1 (fT1 ht) rfl (v := so) hso ?_
  refine tw_sw k67_4 ?_
  refine tw_pk (fun h4_0 => ?_) (fun h4_0 => ?_)
  · refine tw_lload k67_40 rfl ?_
    refine tw_l2i k67_41 ?_
    refine tw_i2b k67_42 ?_
    refine tw_i2l k67_43 ?_
    exact tw_rl k67_44 (⟨by unfold lb lq; (repeat' split) <;> first | rfl | (exfalso; omega) | (exfalso; simp_all; done), rfl⟩)
  · skip
    refine tw_pk (fun h4_1 => ?_) (fun h4_1 => ?_)
    · refine tw_lload k67_45 rfl ?_
      refine tw_l2i k67_46 ?_
      refine tw_i2s k67_47 ?_
      refine tw_i2l k67_48 ?_
      exact tw_rl k67_49 (⟨by unfold lb lq; (repeat' split) <;> first | rfl | (exfalso; omega) | (exfalso; simp_all; done), rfl⟩)
    · skip
      refine tw_pk (fun h4_2 => ?_) (fun h4_2 => ?_)
      · refine tw_lload k67_50 rfl ?_
        refine tw_l2i k67_51 ?_
        refine tw_i2l k67_52 ?_
        exact tw_rl k67_53 (⟨by unfold lb lq; (repeat' split) <;> first | rfl | (exfalso; omega) | (exfalso; simp_all; done), rfl⟩)
      · skip
        refine tw_pk (fun h4_3 => ?_) (fun h4_3 => ?_)
        · refine tw_lload k67_66 rfl ?_
          exact tw_rl k67_67 (⟨by unfold lb lq; (repeat' split) <;> first | rfl | (exfalso; omega) | (exfalso; simp_all; done), rfl⟩)
        · skip
          refine tw_pk (fun h4_4 => ?_) (fun h4_4 => ?_)
          · refine tw_lload k67_54 rfl ?_
            refine tw_lconst k67_55 ?_
            refine tw_lcmp k67_56 ?_
            refine tw_zeq k67_57 (fun h57 => ?_) (fun h57 => ?_)
            · refine tw_lconst k67_64 ?_
              exact tw_rl k67_65 (⟨by unfold lb lq; (repeat' split) <;> first | rfl | (exfalso; omega) | (exfalso; simp_all; done), rfl⟩)
            · refine tw_lconst k67_60 ?_
              refine tw_goto k67_61 ?_
              exact tw_rl k67_65 (⟨by unfold lb lq; (repeat' split) <;> first | rfl | (exfalso; omega) | (exfalso; simp_all; done), rfl⟩)
          · skip
            refine tw_pk0 ?_
            refine tw_lload k67_66 rfl ?_
            exact tw_rl k67_67 (⟨by unfold lb lq; (repeat' split) <;> first | rfl | (exfalso; omega) | (exfalso; simp_all; done), rfl⟩)
theorem x_38 {K : mj_C} {d : Nat} {M : Nat → Nat → Int} {N : Nat → Nat → Int64} (hD : 1 ≤ d) (hl : 0 ≤ M 96 3 ∧ M 96 3 ≤ 100) (sign : Int) : mj_X K d 38 [.inr (.inr (.inl 96)), .inl sign] (mj_Sh, M, N) (fun r Z => r = some (.inl (qFeed (M 96 3) sign)) ∧ ∃ M1, Z = (mj_Sh, M1, N) ∧ M1 96 3 = aFdL (M 96 3) sign ∧ M1 97 = aFdT (M 97) (M 96 3) sign ∧ ∀ c, c ≠ 96 → c ≠ 97 → M1 c = M c) := by
  show mj_T K d 38 0 [some (.inr (.inr (.inl 96))), some (.inl sign)] [] (mj_Sh, M, N) _
  obtain ⟨n, hn0⟩ : ∃ n : Nat, M 96 3 = (n : Int) := ⟨(M 96 3).toNat, by omega⟩
  refine tw_iload k38_0 rfl ?_
  refine tw_const k38_1 ?_
  refine tw_const k38_2 ?_
  refine tw_callb (by omega) (S' := []) (as := [.inl sign, .inl (0 : Int), .inl (127 : Int)]) k38_4 (x_104 sign (0 : Int) (127 : Int)) rfl rfl rfl rfl rfl (fun h4 => ?_) (fun h4 => ?_)
  · refine tw_zneT k38_7 (by decide) ?_
    refine tw_aload k38_13 rfl ?_
    refine tw_geti k38_14 f96_3 rfl (v := ((n : Nat) : Int)) hn0 ?_
    refine tw_const k38_17 ?_
    refine tw_clt k38_19 (fun h19 => ?_) (fun h19 => ?_)
    · refine tw_aload k38_25 rfl ?_
      refine tw_getr k38_26 f96_0 ?_
      refine tw_aload k38_29 rfl ?_
      refine tw_geti k38_30 f96_3 rfl (v := ((n : Nat) : Int)) hn0 ?_
      refine tw_iload k38_33 rfl ?_
      refine tw_iast (M := M) (N := N) (l := []) (l' := [(97, (pU (M 97) n sign))]) (j := n) k38_34 al97 rfl (by omega) rfl ?_
      refine tw_aload k38_35 rfl ?_
      refine tw_dupr k38_36 ?_
      refine tw_geti k38_37 f96_3 rfl (v := ((n : Nat) : Int)) (show M 96 3 = _ from hn0) ?_
      refine tw_const k38_40 ?_
      refine tw_iadd k38_41 (v := ((n + 1 : Nat) : Int)) rfl (by omega) ?_
      refine tw_puti (M := M) (N := N) (l := [(97, (pU (M 97) n sign))]) (l' := [(97, (pU (M 97) n sign)), (96, (pU (M 96) 3 ((n + 1 : Nat) : Int)))]) k38_42 f96_3 rfl ?_
      refine tw_aload k38_45 rfl ?_
      refine tw_geti k38_46 f96_3 rfl (v := (((n + 1) : Nat) : Int)) (show (pU (M 96) 3 ((n + 1 : Nat) : Int)) 3 = _ from pU_eq) ?_
      exact tw_ri k38_49 (⟨by unfold qFeed; rw [if_pos h4, if_pos (by omega)]; exact congrArg (fun x => some (Sum.inl x)) (by omega), _, rfl, by unfold aFdL; rw [if_pos ⟨h4, by omega⟩]; show pU (M 96) 3 ((n + 1 : Nat) : Int) 3 = _; rw [pU_eq]; omega, by unfold aFdT; rw [if_pos ⟨h4, by omega⟩, show (M 96 3).toNat = n by omega]; rfl, fun c h1 h2 => by rw [st_c, if_neg (by omega), st_c, if_neg (by omega), st_nil]⟩)
    · refine tw_const k38_22 ?_
      exact tw_ri k38_24 (⟨by unfold qFeed; (try simp only [Int.toNat_natCast]); (repeat' split) <;> first | rfl | omega, M, rfl, by unfold aFdL; rw [if_neg (by omega)], by unfold aFdT; rw [if_neg (by omega)], fun c _ _ => rfl⟩)
  · refine tw_zneF k38_7 (by decide) ?_
    refine tw_const k38_10 ?_
    exact tw_ri k38_12 (⟨by unfold qFeed; (try simp only [Int.toNat_natCast]); (repeat' split) <;> first | rfl | omega, M, rfl, by unfold aFdL; rw [if_neg (by omega)], by unfold aFdT; rw [if_neg (by omega)], fun c _ _ => rfl⟩)
theorem x_39 {K : mj_C} {d : Nat} {M : Nat → Nat → Int} {N : Nat → Nat → Int64}  : mj_X K d 39 [.inr (.inr (.inl 96))] (mj_Sh, M, N) (fun r Z => r = none ∧ Z = (mj_Sh, st M [(96, pU (M 96) 3 0)], N)) := by
  show mj_T K d 39 0 [some (.inr (.inr (.inl 96)))] [] (mj_Sh, M, N) _
  refine tw_aload k39_0 rfl ?_
  refine tw_const k39_1 ?_
  refine tw_puti (M := M) (N := N) (l := []) (l' := [(96, (pU (M 96) 3 (0 : Int)))]) k39_2 f96_3 rfl ?_
  exact tw_rv k39_5 (⟨rfl, rfl⟩)
theorem x_45 {K : mj_C} {d : Nat} {M : Nat → Nat → Int} {N : Nat → Nat → Int64} (tx : Nat → Int) (L : Nat) (hL : M 96 3 = (L : Int)) (h100 : L ≤ 100) (htx : ∀ i, i < L → M 97 i = tx i ∧ 0 ≤ tx i ∧ tx i ≤ 127) (p : Nat) (hp : p ≤ L) (hat : M 96 4 = (p : Int)) (c : Int) : mj_X K d 45 [.inr (.inr (.inl 96)), .inl c] (mj_Sh, M, N) (fun r Z => r = some (.inl (if p < L ∧ tx p = c then 1 else 0)) ∧ ∃ M1, Z = (mj_Sh, M1, N) ∧ M1 96 4 = (if p < L ∧ tx p = c then ((p + 1 : Nat) : Int) else (p : Int)) ∧ (∀ j, j ≠ 4 → M1 96 j = M 96 j) ∧ ∀ x, x ≠ 96 → M1 x = M x) := by
  show mj_T K d 45 0 [some (.inr (.inr (.inl 96))), some (.inl c)] [] (mj_Sh, M, N) _
  refine tw_aload k45_0 rfl ?_
  refine tw_geti k45_1 f96_4 rfl (v := ((p : Nat) : Int)) hat ?_
  refine tw_aload k45_4 rfl ?_
  refine tw_geti k45_5 f96_3 rfl (v := ((L : Nat) : Int)) hL ?_
  refine tw_cge k45_8 (fun h8 => ?_) (fun h8 => ?_)
  · refine tw_const k45_24 ?_
    exact tw_rb k45_25 (by decide) (⟨by rw [if_neg (by omega)], M, rfl, by rw [if_neg (by omega)]; exact hat, fun j _ => rfl, fun x _ => rfl⟩)
  · refine tw_aload k45_11 rfl ?_
    refine tw_getr k45_12 f96_0 ?_
    refine tw_aload k45_15 rfl ?_
    refine tw_geti k45_16 f96_4 rfl (v := ((p : Nat) : Int)) hat ?_
    refine tw_iald (j := p) (v := (tx p)) k45_19 al97 rfl (by omega) (htx p (by omega)).1 ?_
    refine tw_iload k45_20 rfl ?_
    refine tw_ceq k45_21 (fun h21 => ?_) (fun h21 => ?_)
    · refine tw_aload k45_26 rfl ?_
      refine tw_dupr k45_27 ?_
      refine tw_geti k45_28 f96_4 rfl (v := ((p : Nat) : Int)) hat ?_
      refine tw_const k45_31 ?_
      refine tw_iadd k45_32 (v := ((p + 1 : Nat) : Int)) rfl (by omega) ?_
      refine tw_puti (M := M) (N := N) (l := []) (l' := [(96, (pU (M 96) 4 ((p + 1 : Nat) : Int)))]) k45_33 f96_4 rfl ?_
      refine tw_const k45_36 ?_
      exact tw_rb k45_37 (by decide) (⟨by rw [if_pos (by omega)], _, rfl, by rw [if_pos (by omega)]; show pU (M 96) 4 ((p + 1 : Nat) : Int) 4 = _; rw [pU_eq], fun j hj => pU_ne hj, fun x hx => by rw [st_c, if_neg hx, st_nil]⟩)
    · refine tw_const k45_24 ?_
      exact tw_rb k45_25 (by decide) (⟨by rw [if_neg (by omega)], M, rfl, by rw [if_neg (by omega)]; exact hat, fun j _ => rfl, fun x _ => rfl⟩)
theorem x_44 {K : mj_C} {d : Nat} {M : Nat → Nat → Int} {N : Nat → Nat → Int64} (hD : 1 ≤ d) (tx : Nat → Int) (L : Nat) (hL : M 96 3 = (L : Int)) (h100 : L ≤ 100) (htx : ∀ i, i < L → M 97 i = tx i ∧ 0 ≤ tx i ∧ tx i ≤ 127) (p : Nat) (hp : p ≤ L) (hat : M 96 4 = (p : Int)) (q : Nat) (hq : 99 ≤ q ∧ q ≤ 112) (w : Nat) (hw : w < 4) (mo : Nat) (hmo : mo ≤ 2) : mj_X K d 44 [.inr (.inr (.inl 96)), .inr (.inr (.inl q)), .inl ((w : Nat) : Int), .inl ((mo : Nat) : Int)] (mj_Sh, M, N) (fun r Z => r = some (.inl (if (nP tx L mo p) = p then 0 else 1)) ∧ ∃ M1, Z = (mj_Sh, M1, N) ∧ M1 96 4 = ((nP tx L mo p) : Int) ∧ (∀ j, j ≠ 4 → M1 96 j = M 96 j) ∧ M1 q w = nV tx L mo p 0 ∧ (∀ j, j ≠ w → M1 q j = M q j) ∧ ∀ x, x ≠ 96 → x ≠ q → M1 x = M x) := by
  show mj_T K d 44 0 [some (.inr (.inr (.inl 96))), some (.inr (.inr (.inl q))), some (.inl ((w : Nat) : Int)), some (.inl ((mo : Nat) : Int)), none, none] [] (mj_Sh, M, N) _
  have key : ∀ i : Nat, i ≤ mo → ∀ (v : Int) (f : Nat → Int), f 4 = ((p + i : Nat) : Int) → (∀ j, j ≠ 4 → f j = M 96 j) → p + i ≤ L → nP tx L (mo - i) (p + i) = nP tx L mo p → nV tx L (mo - i) (p + i) v = nV tx L mo p 0 → 0 ≤ v → v ≤ (if i = 0 then 0 else if i = 1 then 9 else 99) → (i ≠ 0 → nP tx L mo p ≠ p) → (i = 0 ∨ i ≠ 0) → mj_T K d 44 6 [some (.inr (.inr (.inl 96))), some (.inr (.inr (.inl q))), some (.inl ((w : Nat) : Int)), some (.inl ((mo : Nat) : Int)), some (.inl v), some (.inl ((i : Nat) : Int))] [] (mj_Sh, (st M [(96, f)]), N) (fun r Z => r = some (.inl (if (nP tx L mo p) = p then 0 else 1)) ∧ ∃ M1, Z = (mj_Sh, M1, N) ∧ M1 96 4 = ((nP tx L mo p) : Int) ∧ (∀ j, j ≠ 4 → M1 96 j = M 96 j) ∧ M1 q w = nV tx L mo p 0 ∧ (∀ j, j ≠ w → M1 q j = M q j) ∧ ∀ x, x ≠ 96 → x ≠ q → M1 x = M x) := by
    refine up_to mo ?_ ?_
    · show ∀ (v : Int) (f : Nat → Int), f 4 = ((p + mo : Nat) : Int) → (∀ j, j ≠ 4 → f j = M 96 j) → p + mo ≤ L → nP tx L (mo - mo) (p + mo) = nP tx L mo p → nV tx L (mo - mo) (p + mo) v = nV tx L mo p 0 → 0 ≤ v → v ≤ (if mo = 0 then 0 else if mo = 1 then 9 else 99) → (mo ≠ 0 → nP tx L mo p ≠ p) → (mo = 0 ∨ mo ≠ 0) → mj_T K d 44 6 [some (.inr (.inr (.inl 96))), some (.inr (.inr (.inl q))), some (.inl ((w : Nat) : Int)), some (.inl ((mo : Nat) : Int)), some (.inl v), some (.inl ((mo : Nat) : Int))] [] (mj_Sh, (st M [(96, f)]), N) (fun r Z => r = some (.inl (if (nP tx L mo p) = p then 0 else 1)) ∧ ∃ M1, Z = (mj_Sh, M1, N) ∧ M1 96 4 = ((nP tx L mo p) : Int) ∧ (∀ j, j ≠ 4 → M1 96 j = M 96 j) ∧ M1 q w = nV tx L mo p 0 ∧ (∀ j, j ≠ w → M1 q j = M q j) ∧ ∀ x, x ≠ 96 → x ≠ q → M1 x = M x)
      intro v f ho4 hoj hpl hnp hnv hv0 hv9 hne _
      have hpq : nP tx L (mo - mo) (p + mo) = p + mo := by rw [Nat.sub_self, nP]
      have hvq : nV tx L (mo - mo) (p + mo) v = v := by rw [Nat.sub_self, nV]
      refine tw_iload k44_6 rfl ?_
      refine tw_iload k44_8 rfl ?_
      refine tw_cgeT k44_9 (by omega) ?_
      refine tw_aload k44_78 rfl ?_
      refine tw_iload k44_79 rfl ?_
      refine tw_iload k44_80 rfl ?_
      refine tw_iastu (j := w) k44_82 (alC hq) rfl (by omega) ?_
      refine tw_iload k44_83 rfl ?_
      refine tw_zle k44_85 (fun h85 => ?_) (fun h85 => ?_)
      · refine tw_const k44_92 ?_
        exact tw_rb k44_93 (by decide) (⟨by rw [if_pos (by rw [← hnp, hpq]; omega)], _, rfl, by rw [mu_c, if_neg (by omega)]; show f 4 = _; rw [ho4, ← hnp, hpq], fun j hj => by rw [mu_c, if_neg (by omega)]; exact hoj j hj, by rw [mu_c, if_pos ⟨rfl, rfl⟩, ← hnv, hvq], fun j hj => by rw [mu_c, if_neg (by omega), st_c, if_neg (by omega), st_nil], fun x h1 h2 => by rw [tu_row h2, st_c, if_neg h1, st_nil]⟩)
      · refine tw_const k44_88 ?_
        refine tw_goto k44_89 ?_
        exact tw_rb k44_93 (by decide) (⟨by rw [if_neg (by rw [← hnp, hpq]; omega)], _, rfl, by rw [mu_c, if_neg (by omega)]; show f 4 = _; rw [ho4, ← hnp, hpq], fun j hj => by rw [mu_c, if_neg (by omega)]; exact hoj j hj, by rw [mu_c, if_pos ⟨rfl, rfl⟩, ← hnv, hvq], fun j hj => by rw [mu_c, if_neg (by omega), st_c, if_neg (by omega), st_nil], fun x h1 h2 => by rw [tu_row h2, st_c, if_neg h1, st_nil]⟩)
    · intro i hmi ih
      have ih : ∀ (v : Int) (f : Nat → Int), f 4 = ((p + (i + 1) : Nat) : Int) → (∀ j, j ≠ 4 → f j = M 96 j) → p + (i + 1) ≤ L → nP tx L (mo - (i + 1)) (p + (i + 1)) = nP tx L mo p → nV tx L (mo - (i + 1)) (p + (i + 1)) v = nV tx L mo p 0 → 0 ≤ v → v ≤ (if (i + 1) = 0 then 0 else if (i + 1) = 1 then 9 else 99) → ((i + 1) ≠ 0 → nP tx L mo p ≠ p) → ((i + 1) = 0 ∨ (i + 1) ≠ 0) → mj_T K d 44 6 [some (.inr (.inr (.inl 96))), some (.inr (.inr (.inl q))), some (.inl ((w : Nat) : Int)), some (.inl ((mo : Nat) : Int)), some (.inl v), some (.inl (((i + 1) : Nat) : Int))] [] (mj_Sh, (st M [(96, f)]), N) (fun r Z => r = some (.inl (if (nP tx L mo p) = p then 0 else 1)) ∧ ∃ M1, Z = (mj_Sh, M1, N) ∧ M1 96 4 = ((nP tx L mo p) : Int) ∧ (∀ j, j ≠ 4 → M1 96 j = M 96 j) ∧ M1 q w = nV tx L mo p 0 ∧ (∀ j, j ≠ w → M1 q j = M q j) ∧ ∀ x, x ≠ 96 → x ≠ q → M1 x = M x) := ih
      show ∀ (v : Int) (f : Nat → Int), f 4 = ((p + i : Nat) : Int) → (∀ j, j ≠ 4 → f j = M 96 j) → p + i ≤ L → nP tx L (mo - i) (p + i) = nP tx L mo p → nV tx L (mo - i) (p + i) v = nV tx L mo p 0 → 0 ≤ v → v ≤ (if i = 0 then 0 else if i = 1 then 9 else 99) → (i ≠ 0 → nP tx L mo p ≠ p) → (i = 0 ∨ i ≠ 0) → mj_T K d 44 6 [some (.inr (.inr (.inl 96))), some (.inr (.inr (.inl q))), some (.inl ((w : Nat) : Int)), some (.inl ((mo : Nat) : Int)), some (.inl v), some (.inl ((i : Nat) : Int))] [] (mj_Sh, (st M [(96, f)]), N) (fun r Z => r = some (.inl (if (nP tx L mo p) = p then 0 else 1)) ∧ ∃ M1, Z = (mj_Sh, M1, N) ∧ M1 96 4 = ((nP tx L mo p) : Int) ∧ (∀ j, j ≠ 4 → M1 96 j = M 96 j) ∧ M1 q w = nV tx L mo p 0 ∧ (∀ j, j ≠ w → M1 q j = M q j) ∧ ∀ x, x ≠ 96 → x ≠ q → M1 x = M x)
      intro v f ho4 hoj hpl hnp hnv hv0 hv9 hne _
      by_cases hnd : nD tx L (p + i)
      · have hti := htx (p + i) hnd.1
        have hv99 : v ≤ 99 := by (repeat' split at hv9) <;> omega
        refine tw_iload k44_6 rfl ?_
        refine tw_iload k44_8 rfl ?_
        refine tw_cgeF k44_9 (by omega) ?_
        refine tw_aload k44_12 rfl ?_
        refine tw_geti k44_13 f96_4 rfl (v := (((p + i) : Nat) : Int)) (show f 4 = _ from ho4) ?_
        refine tw_aload k44_16 rfl ?_
        refine tw_geti k44_17 f96_3 rfl (v := ((L : Nat) : Int)) (show f 3 = _ from ((hoj 3 (by omega)).trans hL)) ?_
        refine tw_cgeF k44_20 (by omega) ?_
        refine tw_aload k44_23 rfl ?_
        refine tw_getr k44_24 f96_0 ?_
        refine tw_aload k44_27 rfl ?_
        refine tw_geti k44_28 f96_4 rfl (v := (((p + i) : Nat) : Int)) (show f 4 = _ from ho4) ?_
        refine tw_iald (j := (p + i)) (v := (tx (p + i))) k44_31 al97 rfl (by omega) (show M 97 (p + i) = _ from (htx (p + i) (by omega)).1) ?_
        refine tw_const k44_32 ?_
        refine tw_const k44_34 ?_
        refine tw_callbT (by omega) (S' := []) (as := [.inl (tx (p + i)), .inl (48 : Int), .inl (57 : Int)]) k44_36 (x_104 (tx (p + i)) (48 : Int) (57 : Int)) rfl rfl rfl rfl rfl (by omega) ?_
        refine tw_zeqF k44_39 (by decide) ?_
        refine tw_iload k44_42 rfl ?_
        refine tw_const k44_44 ?_
        refine tw_imul k44_46 (v := (v * (10 : Int))) rfl (by omega) ?_
        refine tw_aload k44_47 rfl ?_
        refine tw_getr k44_48 f96_0 ?_
        refine tw_aload k44_51 rfl ?_
        refine tw_geti k44_52 f96_4 rfl (v := (((p + i) : Nat) : Int)) (show f 4 = _ from ho4) ?_
        refine tw_iald (j := (p + i)) (v := (tx (p + i))) k44_55 al97 rfl (by omega) (show M 97 (p + i) = _ from (htx (p + i) (by omega)).1) ?_
        refine tw_iadd k44_56 (v := ((v * (10 : Int)) + (tx (p + i)))) rfl (by omega) ?_
        refine tw_const k44_57 ?_
        refine tw_isub k44_59 (v := (((v * (10 : Int)) + (tx (p + i))) - (48 : Int))) rfl (by omega) ?_
        refine tw_istore k44_60 rfl (L' := [some (.inr (.inr (.inl 96))), some (.inr (.inr (.inl q))), some (.inl ((w : Nat) : Int)), some (.inl ((mo : Nat) : Int)), some (.inl (((v * (10 : Int)) + (tx (p + i))) - (48 : Int))), some (.inl ((i : Nat) : Int))]) rfl ?_
        refine tw_aload k44_62 rfl ?_
        refine tw_dupr k44_63 ?_
        refine tw_geti k44_64 f96_4 rfl (v := (((p + i) : Nat) : Int)) (show f 4 = _ from ho4) ?_
        refine tw_const k44_67 ?_
        refine tw_iadd k44_68 (v := (((p + i) + 1 : Nat) : Int)) rfl (by omega) ?_
        refine tw_puti (M := M) (N := N) (l := [(96, f)]) (l' := [(96, (pU f 4 (((p + i) + 1 : Nat) : Int)))]) k44_69 f96_4 rfl ?_
        refine tw_iinc k44_72 rfl (v := ((i + 1 : Nat) : Int)) rfl (by omega) rfl (L' := [some (.inr (.inr (.inl 96))), some (.inr (.inr (.inl q))), some (.inl ((w : Nat) : Int)), some (.inl ((mo : Nat) : Int)), some (.inl (((v * (10 : Int)) + (tx (p + i))) - (48 : Int))), some (.inl ((i + 1 : Nat) : Int))]) rfl ?_
        refine tw_goto k44_75 ?_
        refine ih _ _ ?_ (fun j hj => by rw [pU_ne hj]; exact hoj j hj) (by omega) ?_ ?_ (by omega) ?_ (fun _ => ?_) (by omega)
        · rw [pU_eq]; rfl
        · rw [← hnp, show mo - i = (mo - (i + 1)) + 1 by omega, nP, if_pos hnd]; rfl
        · rw [← hnv, show mo - i = (mo - (i + 1)) + 1 by omega, nV, if_pos hnd]; rfl
        · rw [if_neg (by omega)]
          by_cases e : i = 0
          · subst e; rw [if_pos rfl] at hv9; rw [if_pos (by omega)]; omega
          · rw [if_neg (by omega)]; rw [if_neg e, if_pos (by omega)] at hv9; omega
        · have h1 : nP tx L (mo - i) (p + i) = nP tx L (mo - (i + 1)) (p + i + 1) := by rw [show mo - i = (mo - (i + 1)) + 1 by omega, nP, if_pos hnd]
          have h2 := nP_rg (tx := tx) (L := L) (mo - (i + 1)) (p + i + 1) (by omega)
          omega
      · have hpq : nP tx L (mo - i) (p + i) = p + i := by rw [show mo - i = (mo - (i + 1)) + 1 by omega, nP, if_neg hnd]
        have hvq : nV tx L (mo - i) (p + i) v = v := by rw [show mo - i = (mo - (i + 1)) + 1 by omega, nV, if_neg hnd]
        by_cases hlt : p + i < L
        · refine tw_iload k44_6 rfl ?_
          refine tw_iload k44_8 rfl ?_
          refine tw_cgeF k44_9 (by omega) ?_
          refine tw_aload k44_12 rfl ?_
          refine tw_geti k44_13 f96_4 rfl (v := (((p + i) : Nat) : Int)) (show f 4 = _ from ho4) ?_
          refine tw_aload k44_16 rfl ?_
          refine tw_geti k44_17 f96_3 rfl (v := ((L : Nat) : Int)) (show f 3 = _ from ((hoj 3 (by omega)).trans hL)) ?_
          refine tw_cgeF k44_20 (by omega) ?_
          refine tw_aload k44_23 rfl ?_
          refine tw_getr k44_24 f96_0 ?_
          refine tw_aload k44_27 rfl ?_
          refine tw_geti k44_28 f96_4 rfl (v := (((p + i) : Nat) : Int)) (show f 4 = _ from ho4) ?_
          refine tw_iald (j := (p + i)) (v := (tx (p + i))) k44_31 al97 rfl (by omega) (show M 97 (p + i) = _ from (htx (p + i) (by omega)).1) ?_
          refine tw_const k44_32 ?_
          refine tw_const k44_34 ?_
          refine tw_callbF (by omega) (S' := []) (as := [.inl (tx (p + i)), .inl (48 : Int), .inl (57 : Int)]) k44_36 (x_104 (tx (p + i)) (48 : Int) (57 : Int)) rfl rfl rfl rfl rfl (fun q => hnd ⟨hlt, q.1, q.2⟩) ?_
          refine tw_zeqT k44_39 (by decide) ?_
          refine tw_aload k44_78 rfl ?_
          refine tw_iload k44_79 rfl ?_
          refine tw_iload k44_80 rfl ?_
          refine tw_iastu (j := w) k44_82 (alC hq) rfl (by omega) ?_
          refine tw_iload k44_83 rfl ?_
          refine tw_zle k44_85 (fun h85 => ?_) (fun h85 => ?_)
          · refine tw_const k44_92 ?_
            exact tw_rb k44_93 (by decide) (⟨by rw [if_pos (by rw [← hnp, hpq]; omega)], _, rfl, by rw [mu_c, if_neg (by omega)]; show f 4 = _; rw [ho4, ← hnp, hpq], fun j hj => by rw [mu_c, if_neg (by omega)]; exact hoj j hj, by rw [mu_c, if_pos ⟨rfl, rfl⟩, ← hnv, hvq], fun j hj => by rw [mu_c, if_neg (by omega), st_c, if_neg (by omega), st_nil], fun x h1 h2 => by rw [tu_row h2, st_c, if_neg h1, st_nil]⟩)
          · refine tw_const k44_88 ?_
            refine tw_goto k44_89 ?_
            exact tw_rb k44_93 (by decide) (⟨by rw [if_neg (by rw [← hnp, hpq]; omega)], _, rfl, by rw [mu_c, if_neg (by omega)]; show f 4 = _; rw [ho4, ← hnp, hpq], fun j hj => by rw [mu_c, if_neg (by omega)]; exact hoj j hj, by rw [mu_c, if_pos ⟨rfl, rfl⟩, ← hnv, hvq], fun j hj => by rw [mu_c, if_neg (by omega), st_c, if_neg (by omega), st_nil], fun x h1 h2 => by rw [tu_row h2, st_c, if_neg h1, st_nil]⟩)
        · refine tw_iload k44_6 rfl ?_
          refine tw_iload k44_8 rfl ?_
          refine tw_cgeF k44_9 (by omega) ?_
          refine tw_aload k44_12 rfl ?_
          refine tw_geti k44_13 f96_4 rfl (v := (((p + i) : Nat) : Int)) (show f 4 = _ from ho4) ?_
          refine tw_aload k44_16 rfl ?_
          refine tw_geti k44_17 f96_3 rfl (v := ((L : Nat) : Int)) (show f 3 = _ from ((hoj 3 (by omega)).trans hL)) ?_
          refine tw_cgeT k44_20 (by omega) ?_
          refine tw_aload k44_78 rfl ?_
          refine tw_iload k44_79 rfl ?_
          refine tw_iload k44_80 rfl ?_
          refine tw_iastu (j := w) k44_82 (alC hq) rfl (by omega) ?_
          refine tw_iload k44_83 rfl ?_
          refine tw_zle k44_85 (fun h85 => ?_) (fun h85 => ?_)
          · refine tw_const k44_92 ?_
            exact tw_rb k44_93 (by decide) (⟨by rw [if_pos (by rw [← hnp, hpq]; omega)], _, rfl, by rw [mu_c, if_neg (by omega)]; show f 4 = _; rw [ho4, ← hnp, hpq], fun j hj => by rw [mu_c, if_neg (by omega)]; exact hoj j hj, by rw [mu_c, if_pos ⟨rfl, rfl⟩, ← hnv, hvq], fun j hj => by rw [mu_c, if_neg (by omega), st_c, if_neg (by omega), st_nil], fun x h1 h2 => by rw [tu_row h2, st_c, if_neg h1, st_nil]⟩)
          · refine tw_const k44_88 ?_
            refine tw_goto k44_89 ?_
            exact tw_rb k44_93 (by decide) (⟨by rw [if_neg (by rw [← hnp, hpq]; omega)], _, rfl, by rw [mu_c, if_neg (by omega)]; show f 4 = _; rw [ho4, ← hnp, hpq], fun j hj => by rw [mu_c, if_neg (by omega)]; exact hoj j hj, by rw [mu_c, if_pos ⟨rfl, rfl⟩, ← hnv, hvq], fun j hj => by rw [mu_c, if_neg (by omega), st_c, if_neg (by omega), st_nil], fun x h1 h2 => by rw [tu_row h2, st_c, if_neg h1, st_nil]⟩)
  refine tw_const k44_0 ?_
  refine tw_istore k44_1 rfl (L' := [some (.inr (.inr (.inl 96))), some (.inr (.inr (.inl q))), some (.inl ((w : Nat) : Int)), some (.inl ((mo : Nat) : Int)), some (.inl (0 : Int)), none]) rfl ?_
  refine tw_const k44_3 ?_
  refine tw_istore k44_4 rfl (L' := [some (.inr (.inr (.inl 96))), some (.inr (.inr (.inl q))), some (.inl ((w : Nat) : Int)), some (.inl ((mo : Nat) : Int)), some (.inl (0 : Int)), some (.inl (0 : Int))]) rfl ?_
  refine tw_pad (M := M) (N := N) (l := []) (l' := [(96, M 96)]) [96] rfl ?_
  refine tw_eqL (L' := [some (.inr (.inr (.inl 96))), some (.inr (.inr (.inl q))), some (.inl ((w : Nat) : Int)), some (.inl ((mo : Nat) : Int)), some (.inl (0 : Int)), some (.inl ((0 : Nat) : Int))]) (e_c rfl (e_c rfl (e_c rfl (e_c rfl (e_c rfl (e_c (e_i rfl) rfl)))))) ?_
  exact key 0 (by omega) 0 _ hat (fun j _ => rfl) hp rfl rfl (by omega) (by rw [if_pos rfl]; omega) (fun q => absurd rfl q) (by omega)
