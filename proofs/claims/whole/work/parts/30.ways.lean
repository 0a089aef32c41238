-- the model: ways; merit
theorem x_128 {K : mj_C} {d : Nat} {M : Nat → Nat → Int} {N : Nat → Nat → Int64} (hs : pRg (M 127)) (G : GS) (hO : gOk (M 127 0).toNat G) (hG : gRel (M 126 17) (M 136) (M 137) (M 138) G) (perm : Nat → Int) (hP : ∀ y, y < 5 → M 130 y = perm y) (hB : ∀ y, y < 5 → 0 ≤ perm y ∧ perm y ≤ 1000) (us : Nat → Int) (hU : ∀ y, y < (M 127 0).toNat → M 133 y = us y ∧ 0 ≤ us y ∧ us y ≤ 100) (hgo : ∀ y, y < (M 127 0).toNat → M 132 y = ((gOf G y : Nat) : Int)) : mj_X K d 128 [.inr (.inr (.inl 126))] (mj_Sh, M, N) (fun r Z => r = none ∧ ∃ f1 f2, Z = (mj_Sh, st M [(141, f1), (135, f2)], N) ∧ ∀ i j, i < 5 → j < 5 → f1 (5 * i + j) = if j < (M 127 0).toNat then fFl (fun j => G.2.1 (gOf G j)) us perm i j else 0) := by
  show mj_T K d 128 0 [some (.inr (.inr (.inl 126))), none, none, none, none] [] (mj_Sh, M, N) _
  have h0 := hs.1 0 (by omega)
  have h5 := hs.2.1
  have hO' := hO
  obtain ⟨hO1, hO2, hO3, hO4, hO5⟩ := hO
  obtain ⟨Y, hYe⟩ : ∃ Y : Nat, Y = (M 127 0).toNat := ⟨_, rfl⟩
  rw [← hYe] at hO1 hO2 hO4 hO5 hU hgo
  simp only [← hYe]
  have hY0 : M 127 0 = (Y : Int) := by omega
  have hin : ∀ y, y < Y → gOf G y < G.1 ∧ G.2.1 (gOf G y) ≤ y := by
    intro y hy; have := gOf_in hO' (y := y) (by omega); omega
  have hL := fLf_rg (fst := (fun j => G.2.1 (gOf G j))) (us := us) (Y := Y) hB (fun y hy => (hU y hy).2.1)
  have keyO : ∀ j : Nat, j ≤ Y → ∀ o2 o3 o4 (f1 f2 : Nat → Int), (∀ a b, a < 5 → b < 5 → f1 (5 * a + b) = if b < j then fFl (fun j => G.2.1 (gOf G j)) us perm a b else 0) → (∀ a, a < Y → f2 a = (fLf (fun j => G.2.1 (gOf G j)) us perm j) a) → mj_T K d 128 53 [some (.inr (.inr (.inl 126))), some (.inl ((j : Nat) : Int)), sv o2, sv o3, sv o4] [] (mj_Sh, (st M [(141, f1), (135, f2)]), N) (fun r Z => r = none ∧ ∃ f1 f2, Z = (mj_Sh, st M [(141, f1), (135, f2)], N) ∧ ∀ i j, i < 5 → j < 5 → f1 (5 * i + j) = if j < Y then fFl (fun j => G.2.1 (gOf G j)) us perm i j else 0) := by
    refine up_to Y ?_ ?_
    · show ∀ o2 o3 o4 (f1 f2 : Nat → Int), (∀ a b, a < 5 → b < 5 → f1 (5 * a + b) = if b < Y then fFl (fun j => G.2.1 (gOf G j)) us perm a b else 0) → (∀ a, a < Y → f2 a = (fLf (fun j => G.2.1 (gOf G j)) us perm Y) a) → mj_T K d 128 53 [some (.inr (.inr (.inl 126))), some (.inl ((Y : Nat) : Int)), sv o2, sv o3, sv o4] [] (mj_Sh, (st M [(141, f1), (135, f2)]), N) (fun r Z => r = none ∧ ∃ f1 f2, Z = (mj_Sh, st M [(141, f1), (135, f2)], N) ∧ ∀ i j, i < 5 → j < 5 → f1 (5 * i + j) = if j < Y then fFl (fun j => G.2.1 (gOf G j)) us perm i j else 0)
      intro o2 o3 o4 f1 f2 c1 c2
      refine tw_iload k128_53 rfl ?_
      refine tw_aload k128_54 rfl ?_
      refine tw_getr k128_55 f126_0 ?_
      refine tw_const k128_58 ?_
      refine tw_iald (j := 0) (v := ((Y : Nat) : Int)) k128_59 al127 rfl (by decide) (show M 127 0 = _ from hY0) ?_
      refine tw_cgeT k128_60 (by omega) ?_
      exact tw_rv k128_139 (⟨rfl, f1, f2, rfl, c1⟩)
    · intro j hmj ih
      have ih : ∀ o2 o3 o4 (f1 f2 : Nat → Int), (∀ a b, a < 5 → b < 5 → f1 (5 * a + b) = if b < (j + 1) then fFl (fun j => G.2.1 (gOf G j)) us perm a b else 0) → (∀ a, a < Y → f2 a = (fLf (fun j => G.2.1 (gOf G j)) us perm (j + 1)) a) → mj_T K d 128 53 [some (.inr (.inr (.inl 126))), some (.inl (((j + 1) : Nat) : Int)), sv o2, sv o3, sv o4] [] (mj_Sh, (st M [(141, f1), (135, f2)]), N) (fun r Z => r = none ∧ ∃ f1 f2, Z = (mj_Sh, st M [(141, f1), (135, f2)], N) ∧ ∀ i j, i < 5 → j < 5 → f1 (5 * i + j) = if j < Y then fFl (fun j => G.2.1 (gOf G j)) us perm i j else 0) := ih
      show ∀ o2 o3 o4 (f1 f2 : Nat → Int), (∀ a b, a < 5 → b < 5 → f1 (5 * a + b) = if b < j then fFl (fun j => G.2.1 (gOf G j)) us perm a b else 0) → (∀ a, a < Y → f2 a = (fLf (fun j => G.2.1 (gOf G j)) us perm j) a) → mj_T K d 128 53 [some (.inr (.inr (.inl 126))), some (.inl ((j : Nat) : Int)), sv o2, sv o3, sv o4] [] (mj_Sh, (st M [(141, f1), (135, f2)]), N) (fun r Z => r = none ∧ ∃ f1 f2, Z = (mj_Sh, st M [(141, f1), (135, f2)], N) ∧ ∀ i j, i < 5 → j < 5 → f1 (5 * i + j) = if j < Y then fFl (fun j => G.2.1 (gOf G j)) us perm i j else 0)
      intro o2 o3 o4 f1 f2 c1 c2
      have hj := hin j (by omega)
      have keyI : ∀ i : Nat, i ≤ (j + 1 - G.2.1 (gOf G j)) → ∀ o4 (f1 f2 : Nat → Int), (∀ a b, a < 5 → b < 5 → f1 (5 * a + b) = if b < j ∨ b = j ∧ a < G.2.1 (gOf G j) + i then fFl (fun j => G.2.1 (gOf G j)) us perm a b else 0) → (∀ a, a < Y → f2 a = if G.2.1 (gOf G j) ≤ a ∧ a < G.2.1 (gOf G j) + i then (fLf (fun j => G.2.1 (gOf G j)) us perm j) a - fFl (fun j => G.2.1 (gOf G j)) us perm a j else (fLf (fun j => G.2.1 (gOf G j)) us perm j) a) → mj_T K d 128 82 [some (.inr (.inr (.inl 126))), some (.inl ((j : Nat) : Int)), some (.inl (fWn (fLf (fun j => G.2.1 (gOf G j)) us perm j) (G.2.1 (gOf G j)) (us j) i)), some (.inl (((G.2.1 (gOf G j) + i) : Nat) : Int)), sv o4] [] (mj_Sh, (st M [(141, f1), (135, f2)]), N) (fun r Z => r = none ∧ ∃ f1 f2, Z = (mj_Sh, st M [(141, f1), (135, f2)], N) ∧ ∀ i j, i < 5 → j < 5 → f1 (5 * i + j) = if j < Y then fFl (fun j => G.2.1 (gOf G j)) us perm i j else 0) := by
        refine up_to (j + 1 - G.2.1 (gOf G j)) ?_ ?_
        · show ∀ o4 (f1 f2 : Nat → Int), (∀ a b, a < 5 → b < 5 → f1 (5 * a + b) = if b < j ∨ b = j ∧ a < G.2.1 (gOf G j) + (j + 1 - G.2.1 (gOf G j)) then fFl (fun j => G.2.1 (gOf G j)) us perm a b else 0) → (∀ a, a < Y → f2 a = if G.2.1 (gOf G j) ≤ a ∧ a < G.2.1 (gOf G j) + (j + 1 - G.2.1 (gOf G j)) then (fLf (fun j => G.2.1 (gOf G j)) us perm j) a - fFl (fun j => G.2.1 (gOf G j)) us perm a j else (fLf (fun j => G.2.1 (gOf G j)) us perm j) a) → mj_T K d 128 82 [some (.inr (.inr (.inl 126))), some (.inl ((j : Nat) : Int)), some (.inl (fWn (fLf (fun j => G.2.1 (gOf G j)) us perm j) (G.2.1 (gOf G j)) (us j) (j + 1 - G.2.1 (gOf G j)))), some (.inl (((G.2.1 (gOf G j) + (j + 1 - G.2.1 (gOf G j))) : Nat) : Int)), sv o4] [] (mj_Sh, (st M [(141, f1), (135, f2)]), N) (fun r Z => r = none ∧ ∃ f1 f2, Z = (mj_Sh, st M [(141, f1), (135, f2)], N) ∧ ∀ i j, i < 5 → j < 5 → f1 (5 * i + j) = if j < Y then fFl (fun j => G.2.1 (gOf G j)) us perm i j else 0)
          intro o4 f1 f2 c1 c2
          refine tw_iload k128_82 rfl ?_
          refine tw_iload k128_83 rfl ?_
          refine tw_cgtT k128_84 (by omega) ?_
          refine tw_iinc k128_133 rfl (v := ((j + 1 : Nat) : Int)) rfl (by omega) rfl (L' := [some (.inr (.inr (.inl 126))), some (.inl ((j + 1 : Nat) : Int)), some (.inl (fWn (fLf (fun j => G.2.1 (gOf G j)) us perm j) (G.2.1 (gOf G j)) (us j) (j + 1 - G.2.1 (gOf G j)))), some (.inl (((G.2.1 (gOf G j) + (j + 1 - G.2.1 (gOf G j))) : Nat) : Int)), sv o4]) rfl ?_
          refine tw_goto k128_136 ?_
          exact ih (some (.inl _)) (some (.inl _)) _ _ _ (fun a b ha hb => by
            rw [c1 a b ha hb]
            by_cases e2 : b < j + 1
            · rw [if_pos e2]
              by_cases e3 : b < j ∨ b = j ∧ a < G.2.1 (gOf G j) + (j + 1 - G.2.1 (gOf G j))
              · rw [if_pos e3]
              · rw [if_neg e3]; have e4 : b = j := by omega
                subst e4; unfold fFl; dsimp only; rw [if_neg (by omega)]
            · rw [if_neg e2, if_neg (by omega)]) (fun a ha => by
            rw [c2 a ha, fLf_s]
            by_cases e : G.2.1 (gOf G j) ≤ a ∧ a < G.2.1 (gOf G j) + (j + 1 - G.2.1 (gOf G j))
            · rw [if_pos e, if_pos (by omega)]; unfold fFl; dsimp only; rw [if_pos (by omega)]
            · rw [if_neg e, if_neg (by omega)])
        · intro i hmi ih
          have ih : ∀ o4 (f1 f2 : Nat → Int), (∀ a b, a < 5 → b < 5 → f1 (5 * a + b) = if b < j ∨ b = j ∧ a < G.2.1 (gOf G j) + (i + 1) then fFl (fun j => G.2.1 (gOf G j)) us perm a b else 0) → (∀ a, a < Y → f2 a = if G.2.1 (gOf G j) ≤ a ∧ a < G.2.1 (gOf G j) + (i + 1) then (fLf (fun j => G.2.1 (gOf G j)) us perm j) a - fFl (fun j => G.2.1 (gOf G j)) us perm a j else (fLf (fun j => G.2.1 (gOf G j)) us perm j) a) → mj_T K d 128 82 [some (.inr (.inr (.inl 126))), some (.inl ((j : Nat) : Int)), some (.inl (fWn (fLf (fun j => G.2.1 (gOf G j)) us perm j) (G.2.1 (gOf G j)) (us j) (i + 1))), some (.inl (((G.2.1 (gOf G j) + (i + 1)) : Nat) : Int)), sv o4] [] (mj_Sh, (st M [(141, f1), (135, f2)]), N) (fun r Z => r = none ∧ ∃ f1 f2, Z = (mj_Sh, st M [(141, f1), (135, f2)], N) ∧ ∀ i j, i < 5 → j < 5 → f1 (5 * i + j) = if j < Y then fFl (fun j => G.2.1 (gOf G j)) us perm i j else 0) := ih
          show ∀ o4 (f1 f2 : Nat → Int), (∀ a b, a < 5 → b < 5 → f1 (5 * a + b) = if b < j ∨ b = j ∧ a < G.2.1 (gOf G j) + i then fFl (fun j => G.2.1 (gOf G j)) us perm a b else 0) → (∀ a, a < Y → f2 a = if G.2.1 (gOf G j) ≤ a ∧ a < G.2.1 (gOf G j) + i then (fLf (fun j => G.2.1 (gOf G j)) us perm j) a - fFl (fun j => G.2.1 (gOf G j)) us perm a j else (fLf (fun j => G.2.1 (gOf G j)) us perm j) a) → mj_T K d 128 82 [some (.inr (.inr (.inl 126))), some (.inl ((j : Nat) : Int)), some (.inl (fWn (fLf (fun j => G.2.1 (gOf G j)) us perm j) (G.2.1 (gOf G j)) (us j) i)), some (.inl (((G.2.1 (gOf G j) + i) : Nat) : Int)), sv o4] [] (mj_Sh, (st M [(141, f1), (135, f2)]), N) (fun r Z => r = none ∧ ∃ f1 f2, Z = (mj_Sh, st M [(141, f1), (135, f2)], N) ∧ ∀ i j, i < 5 → j < 5 → f1 (5 * i + j) = if j < Y then fFl (fun j => G.2.1 (gOf G j)) us perm i j else 0)
          intro o4 f1 f2 c1 c2
          have hl := hL j (by omega) (by omega) (G.2.1 (gOf G j) + i) (by omega)
          have hw := fWn_rg (left := (fLf (fun j => G.2.1 (gOf G j)) us perm j)) (a := G.2.1 (gOf G j)) (hU j (by omega)).2.1 i (fun k hk => (hL j (by omega) (by omega) _ (by omega)).1)
          have hfl : min (fWn (fLf (fun j => G.2.1 (gOf G j)) us perm j) (G.2.1 (gOf G j)) (us j) i) ((fLf (fun j => G.2.1 (gOf G j)) us perm j) (G.2.1 (gOf G j) + i)) = (fFl (fun j => G.2.1 (gOf G j)) us perm (G.2.1 (gOf G j) + i) j) := by
            unfold fFl; dsimp only; rw [if_pos (by omega), Nat.add_sub_cancel_left]
          have hu := hU j (by omega)
          have hflr : 0 ≤ (fFl (fun j => G.2.1 (gOf G j)) us perm (G.2.1 (gOf G j) + i) j) ∧ (fFl (fun j => G.2.1 (gOf G j)) us perm (G.2.1 (gOf G j) + i) j) ≤ 1000 := by omega
          refine tw_iload k128_82 rfl ?_
          refine tw_iload k128_83 rfl ?_
          refine tw_cgtF k128_84 (by omega) ?_
          refine tw_iload k128_87 rfl ?_
          refine tw_aload k128_88 rfl ?_
          refine tw_getr k128_89 f126_9 ?_
          refine tw_iload k128_92 rfl ?_
          refine tw_iald (j := (G.2.1 (gOf G j) + i)) (v := ((fLf (fun j => G.2.1 (gOf G j)) us perm j) (G.2.1 (gOf G j) + i))) k128_93 al135 rfl (by omega) (show f2 (G.2.1 (gOf G j) + i) = _ from (by rw [c2 _ (by omega), if_neg (by omega)])) ?_
          refine tw_min k128_94 rfl ?_
          refine tw_eqS (S' := [.inl (fFl (fun j => G.2.1 (gOf G j)) us perm (G.2.1 (gOf G j) + i) j)]) (e_c (congrArg Sum.inl hfl) rfl) ?_
          refine tw_istore k128_97 rfl (L' := [some (.inr (.inr (.inl 126))), some (.inl ((j : Nat) : Int)), some (.inl (fWn (fLf (fun j => G.2.1 (gOf G j)) us perm j) (G.2.1 (gOf G j)) (us j) i)), some (.inl (((G.2.1 (gOf G j) + i) : Nat) : Int)), some (.inl (fFl (fun j => G.2.1 (gOf G j)) us perm (G.2.1 (gOf G j) + i) j))]) rfl ?_
          refine tw_aload k128_99 rfl ?_
          refine tw_getr k128_100 f126_15 ?_
          refine tw_const k128_103 ?_
          refine tw_iload k128_104 rfl ?_
          refine tw_imul k128_105 (v := ((5 * (G.2.1 (gOf G j) + i) : Nat) : Int)) rfl (by omega) ?_
          refine tw_iload k128_106 rfl ?_
          refine tw_iadd k128_107 (v := (((5 * (G.2.1 (gOf G j) + i)) + j : Nat) : Int)) rfl (by omega) ?_
          refine tw_iload k128_108 rfl ?_
          refine tw_iast (M := M) (N := N) (l := [(141, f1), (135, f2)]) (l' := [(141, (pU f1 (5 * (G.2.1 (gOf G j) + i) + j) (fFl (fun j => G.2.1 (gOf G j)) us perm (G.2.1 (gOf G j) + i) j))), (135, f2)]) (j := (5 * (G.2.1 (gOf G j) + i) + j)) k128_110 al141 rfl (by omega) rfl ?_
          refine tw_aload k128_111 rfl ?_
          refine tw_getr k128_112 f126_9 ?_
          refine tw_iload k128_115 rfl ?_
          refine tw_dup2 k128_116 ?_
          refine tw_iald (j := (G.2.1 (gOf G j) + i)) (v := ((fLf (fun j => G.2.1 (gOf G j)) us perm j) (G.2.1 (gOf G j) + i))) k128_117 al135 rfl (by omega) (show f2 (G.2.1 (gOf G j) + i) = _ from (by rw [c2 _ (by omega), if_neg (by omega)])) ?_
          refine tw_iload k128_118 rfl ?_
          refine tw_isub k128_120 (v := (((fLf (fun j => G.2.1 (gOf G j)) us perm j) (G.2.1 (gOf G j) + i)) - (fFl (fun j => G.2.1 (gOf G j)) us perm (G.2.1 (gOf G j) + i) j))) rfl (by omega) ?_
          refine tw_iast (M := M) (N := N) (l := [(141, (pU f1 (5 * (G.2.1 (gOf G j) + i) + j) (fFl (fun j => G.2.1 (gOf G j)) us perm (G.2.1 (gOf G j) + i) j))), (135, f2)]) (l' := [(141, (pU f1 (5 * (G.2.1 (gOf G j) + i) + j) (fFl (fun j => G.2.1 (gOf G j)) us perm (G.2.1 (gOf G j) + i) j))), (135, (pU f2 (G.2.1 (gOf G j) + i) (((fLf (fun j => G.2.1 (gOf G j)) us perm j) (G.2.1 (gOf G j) + i)) - (fFl (fun j => G.2.1 (gOf G j)) us perm (G.2.1 (gOf G j) + i) j))))]) (j := (G.2.1 (gOf G j) + i)) k128_121 al135 rfl (by omega) rfl ?_
          refine tw_iload k128_122 rfl ?_
          refine tw_iload k128_123 rfl ?_
          refine tw_isub k128_125 (v := ((fWn (fLf (fun j => G.2.1 (gOf G j)) us perm j) (G.2.1 (gOf G j)) (us j) i) - (fFl (fun j => G.2.1 (gOf G j)) us perm (G.2.1 (gOf G j) + i) j))) rfl (by omega) ?_
          refine tw_istore k128_126 rfl (L' := [some (.inr (.inr (.inl 126))), some (.inl ((j : Nat) : Int)), some (.inl ((fWn (fLf (fun j => G.2.1 (gOf G j)) us perm j) (G.2.1 (gOf G j)) (us j) i) - (fFl (fun j => G.2.1 (gOf G j)) us perm (G.2.1 (gOf G j) + i) j))), some (.inl (((G.2.1 (gOf G j) + i) : Nat) : Int)), some (.inl (fFl (fun j => G.2.1 (gOf G j)) us perm (G.2.1 (gOf G j) + i) j))]) rfl ?_
          refine tw_iinc k128_127 rfl (v := (((G.2.1 (gOf G j) + i) + 1 : Nat) : Int)) rfl (by omega) rfl (L' := [some (.inr (.inr (.inl 126))), some (.inl ((j : Nat) : Int)), some (.inl ((fWn (fLf (fun j => G.2.1 (gOf G j)) us perm j) (G.2.1 (gOf G j)) (us j) i) - (fFl (fun j => G.2.1 (gOf G j)) us perm (G.2.1 (gOf G j) + i) j))), some (.inl (((G.2.1 (gOf G j) + i) + 1 : Nat) : Int)), some (.inl (fFl (fun j => G.2.1 (gOf G j)) us perm (G.2.1 (gOf G j) + i) j))]) rfl ?_
          refine tw_goto k128_130 ?_
          refine tw_eqL (L' := [some (.inr (.inr (.inl 126))), some (.inl ((j : Nat) : Int)), some (.inl (fWn (fLf (fun j => G.2.1 (gOf G j)) us perm j) (G.2.1 (gOf G j)) (us j) (i + 1))), some (.inl (((G.2.1 (gOf G j) + (i + 1)) : Nat) : Int)), sv (some (.inl (fFl (fun j => G.2.1 (gOf G j)) us perm (G.2.1 (gOf G j) + i) j)))]) (e_c rfl (e_c rfl (e_c (e_i (by rw [fWn, hfl])) (e_c rfl (e_c rfl rfl))))) ?_
          exact ih _ _ _ (fun a b ha hb => by
            by_cases e : a = G.2.1 (gOf G j) + i ∧ b = j
            · obtain ⟨rfl, rfl⟩ := e; rw [pU_eq, if_pos (by omega)]
            · rw [pU_ne (by omega), c1 a b ha hb]
              by_cases e2 : b < j ∨ b = j ∧ a < G.2.1 (gOf G j) + i
              · rw [if_pos e2, if_pos (by omega)]
              · rw [if_neg e2, if_neg (by omega)]) (fun a ha => by
            by_cases e : a = G.2.1 (gOf G j) + i
            · subst e; rw [pU_eq, if_pos (by omega)]
            · rw [pU_ne e, c2 a ha]
              by_cases e2 : G.2.1 (gOf G j) ≤ a ∧ a < G.2.1 (gOf G j) + i
              · rw [if_pos e2, if_pos (by omega)]
              · rw [if_neg e2, if_neg (by omega)])
      refine tw_iload k128_53 rfl ?_
      refine tw_aload k128_54 rfl ?_
      refine tw_getr k128_55 f126_0 ?_
      refine tw_const k128_58 ?_
      refine tw_iald (j := 0) (v := ((Y : Nat) : Int)) k128_59 al127 rfl (by decide) (show M 127 0 = _ from hY0) ?_
      refine tw_cgeF k128_60 (by omega) ?_
      refine tw_aload k128_63 rfl ?_
      refine tw_getr k128_64 f126_7 ?_
      refine tw_iload k128_67 rfl ?_
      refine tw_iald (j := j) (v := (us j)) k128_68 al133 rfl (by omega) (show M 133 j = _ from (hU j (by omega)).1) ?_
      refine tw_istore k128_69 rfl (L' := [some (.inr (.inr (.inl 126))), some (.inl ((j : Nat) : Int)), some (.inl (us j)), sv o3, sv o4]) rfl ?_
      refine tw_aload k128_70 rfl ?_
      refine tw_getr k128_71 f126_10 ?_
      refine tw_aload k128_74 rfl ?_
      refine tw_getr k128_75 f126_6 ?_
      refine tw_iload k128_78 rfl ?_
      refine tw_iald (j := j) (v := (((gOf G j) : Nat) : Int)) k128_79 al132 rfl (by omega) (show M 132 j = _ from (hgo j (by omega))) ?_
      refine tw_iald (j := (gOf G j)) (v := (((G.2.1 (gOf G j)) : Nat) : Int)) k128_80 al136 rfl (by omega) (show M 136 (gOf G j) = _ from (hG.2 (gOf G j) (by omega)).1) ?_
      refine tw_istore k128_81 rfl (L' := [some (.inr (.inr (.inl 126))), some (.inl ((j : Nat) : Int)), some (.inl (us j)), some (.inl (((G.2.1 (gOf G j)) : Nat) : Int)), sv o4]) rfl ?_
      refine tw_eqL (L' := [some (.inr (.inr (.inl 126))), some (.inl ((j : Nat) : Int)), some (.inl (fWn (fLf (fun j => G.2.1 (gOf G j)) us perm j) (G.2.1 (gOf G j)) (us j) 0)), some (.inl (((G.2.1 (gOf G j) + 0) : Nat) : Int)), sv o4]) (e_c rfl (e_c rfl (e_c (e_i rfl) (e_c rfl (e_c rfl rfl))))) ?_
      exact keyI 0 (by omega) _ _ _ (fun a b ha hb => by
        rw [c1 a b ha hb]
        by_cases e2 : b < j
        · rw [if_pos e2, if_pos (by omega)]
        · rw [if_neg e2]
          by_cases e3 : b = j ∧ a < G.2.1 (gOf G j)
          · rw [if_pos (by omega)]; obtain ⟨e4, e5⟩ := e3; subst e4; unfold fFl; dsimp only; rw [if_neg (by omega)]
          · rw [if_neg (by omega)]) (fun a ha => by rw [c2 a ha, if_neg (by omega)])
  have keyL : ∀ y : Nat, y ≤ Y → ∀ f1 f2 : Nat → Int, (∀ a, a < 25 → f1 a = 0) → (∀ a, a < y → f2 a = perm a) → mj_T K d 128 23 [some (.inr (.inr (.inl 126))), some (.inl ((y : Nat) : Int)), none, none, none] [] (mj_Sh, (st M [(141, f1), (135, f2)]), N) (fun r Z => r = none ∧ ∃ f1 f2, Z = (mj_Sh, st M [(141, f1), (135, f2)], N) ∧ ∀ i j, i < 5 → j < 5 → f1 (5 * i + j) = if j < Y then fFl (fun j => G.2.1 (gOf G j)) us perm i j else 0) := by
    refine up_to Y ?_ ?_
    · show ∀ f1 f2 : Nat → Int, (∀ a, a < 25 → f1 a = 0) → (∀ a, a < Y → f2 a = perm a) → mj_T K d 128 23 [some (.inr (.inr (.inl 126))), some (.inl ((Y : Nat) : Int)), none, none, none] [] (mj_Sh, (st M [(141, f1), (135, f2)]), N) (fun r Z => r = none ∧ ∃ f1 f2, Z = (mj_Sh, st M [(141, f1), (135, f2)], N) ∧ ∀ i j, i < 5 → j < 5 → f1 (5 * i + j) = if j < Y then fFl (fun j => G.2.1 (gOf G j)) us perm i j else 0)
      intro f1 f2 c1 c2
      refine tw_iload k128_23 rfl ?_
      refine tw_aload k128_24 rfl ?_
      refine tw_getr k128_25 f126_0 ?_
      refine tw_const k128_28 ?_
      refine tw_iald (j := 0) (v := ((Y : Nat) : Int)) k128_29 al127 rfl (by decide) (show M 127 0 = _ from hY0) ?_
      refine tw_cgeT k128_30 (by omega) ?_
      refine tw_const k128_51 ?_
      refine tw_istore k128_52 rfl (L' := [some (.inr (.inr (.inl 126))), some (.inl (0 : Int)), none, none, none]) rfl ?_
      exact keyO 0 (by omega) none none none _ _ (fun a b ha hb => by rw [c1 _ (by omega), if_neg (by omega)]) (fun a ha => c2 a ha)
    · intro y hmy ih
      have ih : ∀ f1 f2 : Nat → Int, (∀ a, a < 25 → f1 a = 0) → (∀ a, a < (y + 1) → f2 a = perm a) → mj_T K d 128 23 [some (.inr (.inr (.inl 126))), some (.inl (((y + 1) : Nat) : Int)), none, none, none] [] (mj_Sh, (st M [(141, f1), (135, f2)]), N) (fun r Z => r = none ∧ ∃ f1 f2, Z = (mj_Sh, st M [(141, f1), (135, f2)], N) ∧ ∀ i j, i < 5 → j < 5 → f1 (5 * i + j) = if j < Y then fFl (fun j => G.2.1 (gOf G j)) us perm i j else 0) := ih
      show ∀ f1 f2 : Nat → Int, (∀ a, a < 25 → f1 a = 0) → (∀ a, a < y → f2 a = perm a) → mj_T K d 128 23 [some (.inr (.inr (.inl 126))), some (.inl ((y : Nat) : Int)), none, none, none] [] (mj_Sh, (st M [(141, f1), (135, f2)]), N) (fun r Z => r = none ∧ ∃ f1 f2, Z = (mj_Sh, st M [(141, f1), (135, f2)], N) ∧ ∀ i j, i < 5 → j < 5 → f1 (5 * i + j) = if j < Y then fFl (fun j => G.2.1 (gOf G j)) us perm i j else 0)
      intro f1 f2 c1 c2
      refine tw_iload k128_23 rfl ?_
      refine tw_aload k128_24 rfl ?_
      refine tw_getr k128_25 f126_0 ?_
      refine tw_const k128_28 ?_
      refine tw_iald (j := 0) (v := ((Y : Nat) : Int)) k128_29 al127 rfl (by decide) (show M 127 0 = _ from hY0) ?_
      refine tw_cgeF k128_30 (by omega) ?_
      refine tw_aload k128_33 rfl ?_
      refine tw_getr k128_34 f126_9 ?_
      refine tw_iload k128_37 rfl ?_
      refine tw_aload k128_38 rfl ?_
      refine tw_getr k128_39 f126_4 ?_
      refine tw_iload k128_42 rfl ?_
      refine tw_iald (j := y) (v := (perm y)) k128_43 al130 rfl (by omega) (show M 130 y = _ from (hP y (by omega))) ?_
      refine tw_iast (M := M) (N := N) (l := [(141, f1), (135, f2)]) (l' := [(141, f1), (135, (pU f2 y (perm y)))]) (j := y) k128_44 al135 rfl (by omega) rfl ?_
      refine tw_iinc k128_45 rfl (v := ((y + 1 : Nat) : Int)) rfl (by omega) rfl (L' := [some (.inr (.inr (.inl 126))), some (.inl ((y + 1 : Nat) : Int)), none, none, none]) rfl ?_
      refine tw_goto k128_48 ?_
      refine ih _ _ c1 (fun a ha => ?_)
      by_cases e : a = y
      · subst e; rw [pU_eq]
      · rw [pU_ne e]; exact c2 a (by omega)
  have keyZ : ∀ y : Nat, y ≤ 25 → ∀ f1 : Nat → Int, (∀ a, a < y → f1 a = 0) → mj_T K d 128 2 [some (.inr (.inr (.inl 126))), some (.inl ((y : Nat) : Int)), none, none, none] [] (mj_Sh, (st M [(141, f1)]), N) (fun r Z => r = none ∧ ∃ f1 f2, Z = (mj_Sh, st M [(141, f1), (135, f2)], N) ∧ ∀ i j, i < 5 → j < 5 → f1 (5 * i + j) = if j < Y then fFl (fun j => G.2.1 (gOf G j)) us perm i j else 0) := by
    refine up_to 25 ?_ ?_
    · show ∀ f1 : Nat → Int, (∀ a, a < 25 → f1 a = 0) → mj_T K d 128 2 [some (.inr (.inr (.inl 126))), some (.inl ((25 : Nat) : Int)), none, none, none] [] (mj_Sh, (st M [(141, f1)]), N) (fun r Z => r = none ∧ ∃ f1 f2, Z = (mj_Sh, st M [(141, f1), (135, f2)], N) ∧ ∀ i j, i < 5 → j < 5 → f1 (5 * i + j) = if j < Y then fFl (fun j => G.2.1 (gOf G j)) us perm i j else 0)
      intro f1 c1
      refine tw_iload k128_2 rfl ?_
      refine tw_const k128_3 ?_
      refine tw_cgeT k128_5 (by omega) ?_
      refine tw_const k128_21 ?_
      refine tw_istore k128_22 rfl (L' := [some (.inr (.inr (.inl 126))), some (.inl (0 : Int)), none, none, none]) rfl ?_
      refine tw_pad (M := M) (N := N) (l := [(141, f1)]) (l' := [(141, f1), (135, M 135)]) [135] rfl ?_
      exact keyL 0 (by omega) _ _ c1 (fun a ha => by omega)
    · intro y hmy ih
      have ih : ∀ f1 : Nat → Int, (∀ a, a < (y + 1) → f1 a = 0) → mj_T K d 128 2 [some (.inr (.inr (.inl 126))), some (.inl (((y + 1) : Nat) : Int)), none, none, none] [] (mj_Sh, (st M [(141, f1)]), N) (fun r Z => r = none ∧ ∃ f1 f2, Z = (mj_Sh, st M [(141, f1), (135, f2)], N) ∧ ∀ i j, i < 5 → j < 5 → f1 (5 * i + j) = if j < Y then fFl (fun j => G.2.1 (gOf G j)) us perm i j else 0) := ih
      show ∀ f1 : Nat → Int, (∀ a, a < y → f1 a = 0) → mj_T K d 128 2 [some (.inr (.inr (.inl 126))), some (.inl ((y : Nat) : Int)), none, none, none] [] (mj_Sh, (st M [(141, f1)]), N) (fun r Z => r = none ∧ ∃ f1 f2, Z = (mj_Sh, st M [(141, f1), (135, f2)], N) ∧ ∀ i j, i < 5 → j < 5 → f1 (5 * i + j) = if j < Y then fFl (fun j => G.2.1 (gOf G j)) us perm i j else 0)
      intro f1 c1
      refine tw_iload k128_2 rfl ?_
      refine tw_const k128_3 ?_
      refine tw_cgeF k128_5 (by omega) ?_
      refine tw_aload k128_8 rfl ?_
      refine tw_getr k128_9 f126_15 ?_
      refine tw_iload k128_12 rfl ?_
      refine tw_const k128_13 ?_
      refine tw_iast (M := M) (N := N) (l := [(141, f1)]) (l' := [(141, (pU f1 y (0 : Int)))]) (j := y) k128_14 al141 rfl (by omega) rfl ?_
      refine tw_iinc k128_15 rfl (v := ((y + 1 : Nat) : Int)) rfl (by omega) rfl (L' := [some (.inr (.inr (.inl 126))), some (.inl ((y + 1 : Nat) : Int)), none, none, none]) rfl ?_
      refine tw_goto k128_18 ?_
      refine ih _ (fun a ha => ?_)
      by_cases e : a = y
      · subst e; rw [pU_eq]
      · rw [pU_ne e]; exact c1 a (by omega)
  refine tw_const k128_0 ?_
  refine tw_istore k128_1 rfl (L' := [some (.inr (.inr (.inl 126))), some (.inl (0 : Int)), none, none, none]) rfl ?_
  refine tw_pad (M := M) (N := N) (l := []) (l' := [(141, M 141)]) [141] rfl ?_
  exact keyZ 0 (by omega) _ (fun a ha => by omega)
