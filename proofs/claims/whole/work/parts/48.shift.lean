-- the model: shift
theorem tw_padn {K : mj_C} {d m pc : Nat} {L : mj_L} {S : List mj_V} {h : List mj_S} {M : Nat → Nat → Int} {N : Nat → Nat → Int64} {Q : Option mj_V → mj_Z → Prop} {l l' : List (Nat × (Nat → Int64))} (cs : List Nat) (hp : l ++ cs.map (fun c => (c, N c)) = l') (kk : mj_T K d m pc L S (h, M, st N l') Q) : mj_T K d m pc L S (h, M, st N l) Q := by rw [st_pad cs hp]; exact kk
theorem st_sw {N : Nat → Nat → Int64} {M : Nat → Nat → Int} {f g : Nat → Int64} : (mj_Sh, M, st N [(148, g), (147, f)]) = (mj_Sh, M, st N [(147, f), (148, g)]) := by
  rw [show st N [(148, g), (147, f)] = st N [(147, f), (148, g)] from by
    funext x
    rw [st_c, st_c, st_c, st_c]
    by_cases e : x = 148
    · rw [if_pos e, if_neg (by omega), if_pos e]
    · rw [if_neg e, if_neg e]]
theorem x_186 {K : mj_C} {d : Nat} {M : Nat → Nat → Int} {N : Nat → Nat → Int64} (hD : 2 ≤ d) (hT : tOk (M 145) (M 146)) (t i o j n : Int) (hi : -2147483648 ≤ i ∧ i ≤ 2147483647) (hj : -2147483648 ≤ j ∧ j ≤ 2147483647) : mj_X K d 186 [.inr (.inr (.inl 126)), .inl t, .inl i, .inl o, .inl j, .inl n] (mj_Sh, M, N) (fun r Z => r = some (.inl (qShift (M 145) (M 146) t i o j n)) ∧ ∃ f, Z = (mj_Sh, M, st N [(147, aShift (M 145) (M 146) (N 147) t i o j n), (148, f)])) := by
  show mj_T K d 186 0 [some (.inr (.inr (.inl 126))), some (.inl t), some (.inl i), some (.inl o), some (.inl j), some (.inl n), none] [] (mj_Sh, M, N) _
  by_cases hyy : (0 ≤ t ∧ t ≤ 5) ∧ 0 ≤ o ∧ o ≤ 5
  · obtain ⟨a, rfl⟩ : ∃ a : Nat, t = (a : Int) := ⟨t.toNat, by omega⟩
    obtain ⟨c, rfl⟩ : ∃ c : Nat, o = (c : Int) := ⟨o.toNat, by omega⟩
    have hta := hT a (by omega)
    have htc := hT c (by omega)
    by_cases hn : 0 ≤ n ∧ 0 ≤ i ∧ 0 ≤ j
    · obtain ⟨l, rfl⟩ : ∃ l : Nat, n = (l : Int) := ⟨n.toNat, by omega⟩
      obtain ⟨b, rfl⟩ : ∃ b : Nat, i = (b : Int) := ⟨i.toNat, by omega⟩
      obtain ⟨e, rfl⟩ : ∃ e : Nat, j = (e : Int) := ⟨j.toNat, by omega⟩
      refine tw_iload k186_0 rfl ?_
      refine tw_callbT (by omega) (S' := []) (as := [.inl ((a : Nat) : Int)]) k186_1 (x_178 (by omega) ((a : Nat) : Int)) rfl rfl rfl rfl rfl hyy.1 ?_
      refine tw_zeqF k186_4 (by decide) ?_
      refine tw_iload k186_7 rfl ?_
      refine tw_callbT (by omega) (S' := []) (as := [.inl ((c : Nat) : Int)]) k186_8 (x_178 (by omega) ((c : Nat) : Int)) rfl rfl rfl rfl rfl hyy.2 ?_
      refine tw_zneT k186_11 (by decide) ?_
      refine tw_aload k186_16 rfl ?_
      refine tw_getr k186_17 f126_26 ?_
      refine tw_iload k186_20 rfl ?_
      refine tw_iald (j := a) (v := (M 145 a)) k186_21 al145 rfl (by omega) rfl ?_
      refine tw_zlt k186_22 (fun h22 => ?_) (fun h22 => ?_)
      · refine tw_const k186_34 ?_
        exact tw_ri k186_36 (⟨by unfold qShift; (try simp only [Int.toNat_natCast]); (repeat' split) <;> first | rfl | omega, N 148, by rw [show aShift (M 145) (M 146) (N 147) ((a : Nat) : Int) ((b : Nat) : Int) ((c : Nat) : Int) ((e : Nat) : Int) ((l : Nat) : Int) = N 147 from if_neg (by unfold tsK; (try simp only [Int.toNat_natCast]); omega)]; exact (show (mj_Sh, M, N) = (mj_Sh, M, st N [(147, N 147), (148, N 148)]) from by rw [show st N [(147, N 147), (148, N 148)] = N from st_self N [147, 148]])⟩)
      · refine tw_aload k186_25 rfl ?_
        refine tw_getr k186_26 f126_26 ?_
        refine tw_iload k186_29 rfl ?_
        refine tw_iald (j := c) (v := (M 145 c)) k186_30 al145 rfl (by omega) rfl ?_
        refine tw_zge k186_31 (fun h31 => ?_) (fun h31 => ?_)
        · refine tw_aload k186_37 rfl ?_
          refine tw_getr k186_38 f126_26 ?_
          refine tw_iload k186_41 rfl ?_
          refine tw_iald (j := a) (v := (M 145 a)) k186_42 al145 rfl (by omega) rfl ?_
          refine tw_aload k186_43 rfl ?_
          refine tw_getr k186_44 f126_26 ?_
          refine tw_iload k186_47 rfl ?_
          refine tw_iald (j := c) (v := (M 145 c)) k186_48 al145 rfl (by omega) rfl ?_
          refine tw_ceq k186_49 (fun h49 => ?_) (fun h49 => ?_)
          · refine tw_iload k186_55 rfl ?_
            refine tw_zltF k186_57 (by omega) ?_
            refine tw_iload k186_60 rfl ?_
            refine tw_zltF k186_61 (by omega) ?_
            refine tw_iload k186_64 rfl ?_
            refine tw_zltF k186_66 (by omega) ?_
            refine tw_iload k186_69 rfl ?_
            refine tw_aload k186_71 rfl ?_
            refine tw_getr k186_72 f126_27 ?_
            refine tw_iload k186_75 rfl ?_
            refine tw_iald (j := a) (v := (M 146 a)) k186_76 al146 rfl (by omega) rfl ?_
            refine tw_iload k186_77 rfl ?_
            refine tw_isub k186_78 (v := ((M 146 a) - ((b : Nat) : Int))) rfl (by omega) ?_
            refine tw_cgt k186_79 (fun h79 => ?_) (fun h79 => ?_)
            · refine tw_const k186_96 ?_
              exact tw_ri k186_98 (⟨by unfold qShift; (try simp only [Int.toNat_natCast]); (repeat' split) <;> first | rfl | omega, N 148, by rw [show aShift (M 145) (M 146) (N 147) ((a : Nat) : Int) ((b : Nat) : Int) ((c : Nat) : Int) ((e : Nat) : Int) ((l : Nat) : Int) = N 147 from if_neg (by unfold tsK; (try simp only [Int.toNat_natCast]); omega)]; exact (show (mj_Sh, M, N) = (mj_Sh, M, st N [(147, N 147), (148, N 148)]) from by rw [show st N [(147, N 147), (148, N 148)] = N from st_self N [147, 148]])⟩)
            · refine tw_iload k186_82 rfl ?_
              refine tw_aload k186_84 rfl ?_
              refine tw_getr k186_85 f126_27 ?_
              refine tw_iload k186_88 rfl ?_
              refine tw_iald (j := c) (v := (M 146 c)) k186_89 al146 rfl (by omega) rfl ?_
              refine tw_iload k186_90 rfl ?_
              refine tw_isub k186_92 (v := ((M 146 c) - ((e : Nat) : Int))) rfl (by omega) ?_
              refine tw_cle k186_93 (fun h93 => ?_) (fun h93 => ?_)
              · have hok : tsK (M 145) (M 146) ((a : Nat) : Int) ((b : Nat) : Int) ((c : Nat) : Int) ((e : Nat) : Int) ((l : Nat) : Int) := by unfold tsK; simp only [Int.toNat_natCast]; omega
                have key2 : ∀ x : Nat, x ≤ l → ∀ g f : Nat → Int64, (∀ k, k < l → g k = N 147 (60 * a + b + k)) → (∀ k, f k = if 60 * c + e ≤ k ∧ k < 60 * c + e + x then N 147 (60 * a + b + (k - (60 * c + e))) else N 147 k) → mj_T K d 186 139 [some (.inr (.inr (.inl 126))), some (.inl ((a : Nat) : Int)), some (.inl ((b : Nat) : Int)), some (.inl ((c : Nat) : Int)), some (.inl ((e : Nat) : Int)), some (.inl ((l : Nat) : Int)), some (.inl ((x : Nat) : Int))] [] (mj_Sh, M, (st N [(148, g), (147, f)])) (fun r Z => r = some (.inl (qShift (M 145) (M 146) ((a : Nat) : Int) ((b : Nat) : Int) ((c : Nat) : Int) ((e : Nat) : Int) ((l : Nat) : Int))) ∧ ∃ f, Z = (mj_Sh, M, st N [(147, aShift (M 145) (M 146) (N 147) ((a : Nat) : Int) ((b : Nat) : Int) ((c : Nat) : Int) ((e : Nat) : Int) ((l : Nat) : Int)), (148, f)])) := by
                  refine up_to l ?_ ?_
                  · show ∀ g f : Nat → Int64, (∀ k, k < l → g k = N 147 (60 * a + b + k)) → (∀ k, f k = if 60 * c + e ≤ k ∧ k < 60 * c + e + l then N 147 (60 * a + b + (k - (60 * c + e))) else N 147 k) → mj_T K d 186 139 [some (.inr (.inr (.inl 126))), some (.inl ((a : Nat) : Int)), some (.inl ((b : Nat) : Int)), some (.inl ((c : Nat) : Int)), some (.inl ((e : Nat) : Int)), some (.inl ((l : Nat) : Int)), some (.inl ((l : Nat) : Int))] [] (mj_Sh, M, (st N [(148, g), (147, f)])) (fun r Z => r = some (.inl (qShift (M 145) (M 146) ((a : Nat) : Int) ((b : Nat) : Int) ((c : Nat) : Int) ((e : Nat) : Int) ((l : Nat) : Int))) ∧ ∃ f, Z = (mj_Sh, M, st N [(147, aShift (M 145) (M 146) (N 147) ((a : Nat) : Int) ((b : Nat) : Int) ((c : Nat) : Int) ((e : Nat) : Int) ((l : Nat) : Int)), (148, f)]))
                    intro g f hg hf
                    refine tw_iload k186_139 rfl ?_
                    refine tw_iload k186_141 rfl ?_
                    refine tw_cgeT k186_143 (by omega) ?_
                    refine tw_iload k186_174 rfl ?_
                    exact tw_ri k186_176 (⟨by unfold qShift; (try simp only [Int.toNat_natCast]); (repeat' split) <;> first | rfl | omega, g, by rw [show aShift (M 145) (M 146) (N 147) ((a : Nat) : Int) ((b : Nat) : Int) ((c : Nat) : Int) ((e : Nat) : Int) ((l : Nat) : Int) = f from by unfold aShift; rw [if_pos hok]; simp only [Int.toNat_natCast]; funext k; rw [hf k]; rfl, st_sw]⟩)
                  · intro x hmx ih
                    have ih : ∀ g f : Nat → Int64, (∀ k, k < l → g k = N 147 (60 * a + b + k)) → (∀ k, f k = if 60 * c + e ≤ k ∧ k < 60 * c + e + (x + 1) then N 147 (60 * a + b + (k - (60 * c + e))) else N 147 k) → mj_T K d 186 139 [some (.inr (.inr (.inl 126))), some (.inl ((a : Nat) : Int)), some (.inl ((b : Nat) : Int)), some (.inl ((c : Nat) : Int)), some (.inl ((e : Nat) : Int)), some (.inl ((l : Nat) : Int)), some (.inl (((x + 1) : Nat) : Int))] [] (mj_Sh, M, (st N [(148, g), (147, f)])) (fun r Z => r = some (.inl (qShift (M 145) (M 146) ((a : Nat) : Int) ((b : Nat) : Int) ((c : Nat) : Int) ((e : Nat) : Int) ((l : Nat) : Int))) ∧ ∃ f, Z = (mj_Sh, M, st N [(147, aShift (M 145) (M 146) (N 147) ((a : Nat) : Int) ((b : Nat) : Int) ((c : Nat) : Int) ((e : Nat) : Int) ((l : Nat) : Int)), (148, f)])) := ih
                    show ∀ g f : Nat → Int64, (∀ k, k < l → g k = N 147 (60 * a + b + k)) → (∀ k, f k = if 60 * c + e ≤ k ∧ k < 60 * c + e + x then N 147 (60 * a + b + (k - (60 * c + e))) else N 147 k) → mj_T K d 186 139 [some (.inr (.inr (.inl 126))), some (.inl ((a : Nat) : Int)), some (.inl ((b : Nat) : Int)), some (.inl ((c : Nat) : Int)), some (.inl ((e : Nat) : Int)), some (.inl ((l : Nat) : Int)), some (.inl ((x : Nat) : Int))] [] (mj_Sh, M, (st N [(148, g), (147, f)])) (fun r Z => r = some (.inl (qShift (M 145) (M 146) ((a : Nat) : Int) ((b : Nat) : Int) ((c : Nat) : Int) ((e : Nat) : Int) ((l : Nat) : Int))) ∧ ∃ f, Z = (mj_Sh, M, st N [(147, aShift (M 145) (M 146) (N 147) ((a : Nat) : Int) ((b : Nat) : Int) ((c : Nat) : Int) ((e : Nat) : Int) ((l : Nat) : Int)), (148, f)]))
                    intro g f hg hf
                    refine tw_iload k186_139 rfl ?_
                    refine tw_iload k186_141 rfl ?_
                    refine tw_cgeF k186_143 (by omega) ?_
                    refine tw_aload k186_146 rfl ?_
                    refine tw_getr k186_147 f126_28 ?_
                    refine tw_const k186_150 ?_
                    refine tw_iload k186_152 rfl ?_
                    refine tw_imul k186_153 (v := ((60 * c : Nat) : Int)) rfl (by omega) ?_
                    refine tw_iload k186_154 rfl ?_
                    refine tw_iadd k186_156 (v := (((60 * c) + e : Nat) : Int)) rfl (by omega) ?_
                    refine tw_iload k186_157 rfl ?_
                    refine tw_iadd k186_159 (v := ((((60 * c) + e) + x : Nat) : Int)) rfl (by omega) ?_
                    refine tw_aload k186_160 rfl ?_
                    refine tw_getr k186_161 f126_29 ?_
                    refine tw_iload k186_164 rfl ?_
                    refine tw_lald (j := x) (v := (N 147 (60 * a + b + x))) k186_166 al148 rfl (by omega) (hg _ (by omega)) ?_
                    refine tw_last (M := M) (N := N) (l := [(148, g), (147, f)]) (l' := [(148, g), (147, (pU f (60 * c + e + x) (N 147 (60 * a + b + x))))]) (j := (60 * c + e + x)) k186_167 al147 (by omega) (by omega) rfl ?_
                    refine tw_iinc k186_168 rfl (v := ((x + 1 : Nat) : Int)) rfl (by omega) rfl (L' := [some (.inr (.inr (.inl 126))), some (.inl ((a : Nat) : Int)), some (.inl ((b : Nat) : Int)), some (.inl ((c : Nat) : Int)), some (.inl ((e : Nat) : Int)), some (.inl ((l : Nat) : Int)), some (.inl ((x + 1 : Nat) : Int))]) rfl ?_
                    refine tw_goto k186_171 ?_
                    refine ih _ _ hg (fun k => ?_)
                    by_cases q : k = 60 * c + e + x
                    · subst q; rw [pU_eq, if_pos (by omega), show 60 * c + e + x - (60 * c + e) = x by omega]
                    · rw [pU_ne q, hf k]
                      by_cases q2 : 60 * c + e ≤ k ∧ k < 60 * c + e + x
                      · rw [if_pos q2, if_pos (by omega)]
                      · rw [if_neg q2, if_neg (by omega)]
                have key1 : ∀ x : Nat, x ≤ l → ∀ g : Nat → Int64, (∀ k, k < x → g k = N 147 (60 * a + b + k)) → mj_T K d 186 102 [some (.inr (.inr (.inl 126))), some (.inl ((a : Nat) : Int)), some (.inl ((b : Nat) : Int)), some (.inl ((c : Nat) : Int)), some (.inl ((e : Nat) : Int)), some (.inl ((l : Nat) : Int)), some (.inl ((x : Nat) : Int))] [] (mj_Sh, M, (st N [(148, g)])) (fun r Z => r = some (.inl (qShift (M 145) (M 146) ((a : Nat) : Int) ((b : Nat) : Int) ((c : Nat) : Int) ((e : Nat) : Int) ((l : Nat) : Int))) ∧ ∃ f, Z = (mj_Sh, M, st N [(147, aShift (M 145) (M 146) (N 147) ((a : Nat) : Int) ((b : Nat) : Int) ((c : Nat) : Int) ((e : Nat) : Int) ((l : Nat) : Int)), (148, f)])) := by
                  refine up_to l ?_ ?_
                  · show ∀ g : Nat → Int64, (∀ k, k < l → g k = N 147 (60 * a + b + k)) → mj_T K d 186 102 [some (.inr (.inr (.inl 126))), some (.inl ((a : Nat) : Int)), some (.inl ((b : Nat) : Int)), some (.inl ((c : Nat) : Int)), some (.inl ((e : Nat) : Int)), some (.inl ((l : Nat) : Int)), some (.inl ((l : Nat) : Int))] [] (mj_Sh, M, (st N [(148, g)])) (fun r Z => r = some (.inl (qShift (M 145) (M 146) ((a : Nat) : Int) ((b : Nat) : Int) ((c : Nat) : Int) ((e : Nat) : Int) ((l : Nat) : Int))) ∧ ∃ f, Z = (mj_Sh, M, st N [(147, aShift (M 145) (M 146) (N 147) ((a : Nat) : Int) ((b : Nat) : Int) ((c : Nat) : Int) ((e : Nat) : Int) ((l : Nat) : Int)), (148, f)]))
                    intro g hg
                    refine tw_iload k186_102 rfl ?_
                    refine tw_iload k186_104 rfl ?_
                    refine tw_cgeT k186_106 (by omega) ?_
                    refine tw_const k186_136 ?_
                    refine tw_istore k186_137 rfl (L' := [some (.inr (.inr (.inl 126))), some (.inl ((a : Nat) : Int)), some (.inl ((b : Nat) : Int)), some (.inl ((c : Nat) : Int)), some (.inl ((e : Nat) : Int)), some (.inl ((l : Nat) : Int)), some (.inl (0 : Int))]) rfl ?_
                    refine tw_padn (M := M) (N := N) (l := [(148, g)]) (l' := [(148, g), (147, N 147)]) [147] rfl ?_
                    exact key2 0 (by omega) _ _ hg (fun k => by rw [if_neg (by omega)])
                  · intro x hmx ih
                    have ih : ∀ g : Nat → Int64, (∀ k, k < (x + 1) → g k = N 147 (60 * a + b + k)) → mj_T K d 186 102 [some (.inr (.inr (.inl 126))), some (.inl ((a : Nat) : Int)), some (.inl ((b : Nat) : Int)), some (.inl ((c : Nat) : Int)), some (.inl ((e : Nat) : Int)), some (.inl ((l : Nat) : Int)), some (.inl (((x + 1) : Nat) : Int))] [] (mj_Sh, M, (st N [(148, g)])) (fun r Z => r = some (.inl (qShift (M 145) (M 146) ((a : Nat) : Int) ((b : Nat) : Int) ((c : Nat) : Int) ((e : Nat) : Int) ((l : Nat) : Int))) ∧ ∃ f, Z = (mj_Sh, M, st N [(147, aShift (M 145) (M 146) (N 147) ((a : Nat) : Int) ((b : Nat) : Int) ((c : Nat) : Int) ((e : Nat) : Int) ((l : Nat) : Int)), (148, f)])) := ih
                    show ∀ g : Nat → Int64, (∀ k, k < x → g k = N 147 (60 * a + b + k)) → mj_T K d 186 102 [some (.inr (.inr (.inl 126))), some (.inl ((a : Nat) : Int)), some (.inl ((b : Nat) : Int)), some (.inl ((c : Nat) : Int)), some (.inl ((e : Nat) : Int)), some (.inl ((l : Nat) : Int)), some (.inl ((x : Nat) : Int))] [] (mj_Sh, M, (st N [(148, g)])) (fun r Z => r = some (.inl (qShift (M 145) (M 146) ((a : Nat) : Int) ((b : Nat) : Int) ((c : Nat) : Int) ((e : Nat) : Int) ((l : Nat) : Int))) ∧ ∃ f, Z = (mj_Sh, M, st N [(147, aShift (M 145) (M 146) (N 147) ((a : Nat) : Int) ((b : Nat) : Int) ((c : Nat) : Int) ((e : Nat) : Int) ((l : Nat) : Int)), (148, f)]))
                    intro g hg
                    refine tw_iload k186_102 rfl ?_
                    refine tw_iload k186_104 rfl ?_
                    refine tw_cgeF k186_106 (by omega) ?_
                    refine tw_aload k186_109 rfl ?_
                    refine tw_getr k186_110 f126_29 ?_
                    refine tw_iload k186_113 rfl ?_
                    refine tw_aload k186_115 rfl ?_
                    refine tw_getr k186_116 f126_28 ?_
                    refine tw_const k186_119 ?_
                    refine tw_iload k186_121 rfl ?_
                    refine tw_imul k186_122 (v := ((60 * a : Nat) : Int)) rfl (by omega) ?_
                    refine tw_iload k186_123 rfl ?_
                    refine tw_iadd k186_124 (v := (((60 * a) + b : Nat) : Int)) rfl (by omega) ?_
                    refine tw_iload k186_125 rfl ?_
                    refine tw_iadd k186_127 (v := ((((60 * a) + b) + x : Nat) : Int)) rfl (by omega) ?_
                    refine tw_lald (j := (60 * a + b + x)) (v := (N 147 (60 * a + b + x))) k186_128 al147 (by omega) (by omega) rfl ?_
                    refine tw_last (M := M) (N := N) (l := [(148, g)]) (l' := [(148, (pU g x (N 147 (60 * a + b + x))))]) (j := x) k186_129 al148 rfl (by omega) rfl ?_
                    refine tw_iinc k186_130 rfl (v := ((x + 1 : Nat) : Int)) rfl (by omega) rfl (L' := [some (.inr (.inr (.inl 126))), some (.inl ((a : Nat) : Int)), some (.inl ((b : Nat) : Int)), some (.inl ((c : Nat) : Int)), some (.inl ((e : Nat) : Int)), some (.inl ((l : Nat) : Int)), some (.inl ((x + 1 : Nat) : Int))]) rfl ?_
                    refine tw_goto k186_133 ?_
                    refine ih _ (fun k hk => ?_)
                    by_cases q : k = x
                    · subst q; rw [pU_eq]
                    · rw [pU_ne q]; exact hg k (by omega)
                refine tw_const k186_99 ?_
                refine tw_istore k186_100 rfl (L' := [some (.inr (.inr (.inl 126))), some (.inl ((a : Nat) : Int)), some (.inl ((b : Nat) : Int)), some (.inl ((c : Nat) : Int)), some (.inl ((e : Nat) : Int)), some (.inl ((l : Nat) : Int)), some (.inl (0 : Int))]) rfl ?_
                refine tw_padn (M := M) (N := N) (l := []) (l' := [(148, N 148)]) [148] rfl ?_
                refine tw_eqL (L' := [some (.inr (.inr (.inl 126))), some (.inl ((a : Nat) : Int)), some (.inl ((b : Nat) : Int)), some (.inl ((c : Nat) : Int)), some (.inl ((e : Nat) : Int)), some (.inl ((l : Nat) : Int)), some (.inl ((0 : Nat) : Int))]) (e_c rfl (e_c rfl (e_c rfl (e_c rfl (e_c rfl (e_c rfl (e_c (e_i rfl) rfl))))))) ?_
                exact key1 0 (by omega) _ (fun k hk => by omega)
              · refine tw_const k186_96 ?_
                exact tw_ri k186_98 (⟨by unfold qShift; (try simp only [Int.toNat_natCast]); (repeat' split) <;> first | rfl | omega, N 148, by rw [show aShift (M 145) (M 146) (N 147) ((a : Nat) : Int) ((b : Nat) : Int) ((c : Nat) : Int) ((e : Nat) : Int) ((l : Nat) : Int) = N 147 from if_neg (by unfold tsK; (try simp only [Int.toNat_natCast]); omega)]; exact (show (mj_Sh, M, N) = (mj_Sh, M, st N [(147, N 147), (148, N 148)]) from by rw [show st N [(147, N 147), (148, N 148)] = N from st_self N [147, 148]])⟩)
          · refine tw_const k186_52 ?_
            exact tw_ri k186_54 (⟨by unfold qShift; (try simp only [Int.toNat_natCast]); (repeat' split) <;> first | rfl | omega, N 148, by rw [show aShift (M 145) (M 146) (N 147) ((a : Nat) : Int) ((b : Nat) : Int) ((c : Nat) : Int) ((e : Nat) : Int) ((l : Nat) : Int) = N 147 from if_neg (by unfold tsK; (try simp only [Int.toNat_natCast]); omega)]; exact (show (mj_Sh, M, N) = (mj_Sh, M, st N [(147, N 147), (148, N 148)]) from by rw [show st N [(147, N 147), (148, N 148)] = N from st_self N [147, 148]])⟩)
        · refine tw_const k186_34 ?_
          exact tw_ri k186_36 (⟨by unfold qShift; (try simp only [Int.toNat_natCast]); (repeat' split) <;> first | rfl | omega, N 148, by rw [show aShift (M 145) (M 146) (N 147) ((a : Nat) : Int) ((b : Nat) : Int) ((c : Nat) : Int) ((e : Nat) : Int) ((l : Nat) : Int) = N 147 from if_neg (by unfold tsK; (try simp only [Int.toNat_natCast]); omega)]; exact (show (mj_Sh, M, N) = (mj_Sh, M, st N [(147, N 147), (148, N 148)]) from by rw [show st N [(147, N 147), (148, N 148)] = N from st_self N [147, 148]])⟩)
    · refine tw_iload k186_0 rfl ?_
      refine tw_callbT (by omega) (S' := []) (as := [.inl ((a : Nat) : Int)]) k186_1 (x_178 (by omega) ((a : Nat) : Int)) rfl rfl rfl rfl rfl hyy.1 ?_
      refine tw_zeqF k186_4 (by decide) ?_
      refine tw_iload k186_7 rfl ?_
      refine tw_callbT (by omega) (S' := []) (as := [.inl ((c : Nat) : Int)]) k186_8 (x_178 (by omega) ((c : Nat) : Int)) rfl rfl rfl rfl rfl hyy.2 ?_
      refine tw_zneT k186_11 (by decide) ?_
      refine tw_aload k186_16 rfl ?_
      refine tw_getr k186_17 f126_26 ?_
      refine tw_iload k186_20 rfl ?_
      refine tw_iald (j := a) (v := (M 145 a)) k186_21 al145 rfl (by omega) rfl ?_
      refine tw_zlt k186_22 (fun h22 => ?_) (fun h22 => ?_)
      · refine tw_const k186_34 ?_
        exact tw_ri k186_36 (⟨by unfold qShift; (try simp only [Int.toNat_natCast]); (repeat' split) <;> first | rfl | omega, N 148, by rw [show aShift (M 145) (M 146) (N 147) ((a : Nat) : Int) i ((c : Nat) : Int) j n = N 147 from if_neg (by unfold tsK; (try simp only [Int.toNat_natCast]); omega)]; exact (show (mj_Sh, M, N) = (mj_Sh, M, st N [(147, N 147), (148, N 148)]) from by rw [show st N [(147, N 147), (148, N 148)] = N from st_self N [147, 148]])⟩)
      · refine tw_aload k186_25 rfl ?_
        refine tw_getr k186_26 f126_26 ?_
        refine tw_iload k186_29 rfl ?_
        refine tw_iald (j := c) (v := (M 145 c)) k186_30 al145 rfl (by omega) rfl ?_
        refine tw_zge k186_31 (fun h31 => ?_) (fun h31 => ?_)
        · refine tw_aload k186_37 rfl ?_
          refine tw_getr k186_38 f126_26 ?_
          refine tw_iload k186_41 rfl ?_
          refine tw_iald (j := a) (v := (M 145 a)) k186_42 al145 rfl (by omega) rfl ?_
          refine tw_aload k186_43 rfl ?_
          refine tw_getr k186_44 f126_26 ?_
          refine tw_iload k186_47 rfl ?_
          refine tw_iald (j := c) (v := (M 145 c)) k186_48 al145 rfl (by omega) rfl ?_
          refine tw_ceq k186_49 (fun h49 => ?_) (fun h49 => ?_)
          · refine tw_iload k186_55 rfl ?_
            refine tw_zlt k186_57 (fun h57 => ?_) (fun h57 => ?_)
            · refine tw_const k186_96 ?_
              exact tw_ri k186_98 (⟨by unfold qShift; (try simp only [Int.toNat_natCast]); (repeat' split) <;> first | rfl | omega, N 148, by rw [show aShift (M 145) (M 146) (N 147) ((a : Nat) : Int) i ((c : Nat) : Int) j n = N 147 from if_neg (by unfold tsK; (try simp only [Int.toNat_natCast]); omega)]; exact (show (mj_Sh, M, N) = (mj_Sh, M, st N [(147, N 147), (148, N 148)]) from by rw [show st N [(147, N 147), (148, N 148)] = N from st_self N [147, 148]])⟩)
            · refine tw_iload k186_60 rfl ?_
              refine tw_zlt k186_61 (fun h61 => ?_) (fun h61 => ?_)
              · refine tw_const k186_96 ?_
                exact tw_ri k186_98 (⟨by unfold qShift; (try simp only [Int.toNat_natCast]); (repeat' split) <;> first | rfl | omega, N 148, by rw [show aShift (M 145) (M 146) (N 147) ((a : Nat) : Int) i ((c : Nat) : Int) j n = N 147 from if_neg (by unfold tsK; (try simp only [Int.toNat_natCast]); omega)]; exact (show (mj_Sh, M, N) = (mj_Sh, M, st N [(147, N 147), (148, N 148)]) from by rw [show st N [(147, N 147), (148, N 148)] = N from st_self N [147, 148]])⟩)
              · refine tw_iload k186_64 rfl ?_
                refine tw_zlt k186_66 (fun h66 => ?_) (fun h66 => ?_)
                · refine tw_const k186_96 ?_
                  exact tw_ri k186_98 (⟨by unfold qShift; (try simp only [Int.toNat_natCast]); (repeat' split) <;> first | rfl | omega, N 148, by rw [show aShift (M 145) (M 146) (N 147) ((a : Nat) : Int) i ((c : Nat) : Int) j n = N 147 from if_neg (by unfold tsK; (try simp only [Int.toNat_natCast]); omega)]; exact (show (mj_Sh, M, N) = (mj_Sh, M, st N [(147, N 147), (148, N 148)]) from by rw [show st N [(147, N 147), (148, N 148)] = N from st_self N [147, 148]])⟩)
                · refine tw_iload k186_69 rfl ?_
                  refine tw_aload k186_71 rfl ?_
                  refine tw_getr k186_72 f126_27 ?_
                  refine tw_iload k186_75 rfl ?_
                  refine tw_iald (j := a) (v := (M 146 a)) k186_76 al146 rfl (by omega) rfl ?_
                  refine tw_iload k186_77 rfl ?_
                  refine tw_isub k186_78 (v := ((M 146 a) - i)) rfl (by omega) ?_
                  refine tw_cgt k186_79 (fun h79 => ?_) (fun h79 => ?_)
                  · refine tw_const k186_96 ?_
                    exact tw_ri k186_98 (⟨by unfold qShift; (try simp only [Int.toNat_natCast]); (repeat' split) <;> first | rfl | omega, N 148, by rw [show aShift (M 145) (M 146) (N 147) ((a : Nat) : Int) i ((c : Nat) : Int) j n = N 147 from if_neg (by unfold tsK; (try simp only [Int.toNat_natCast]); omega)]; exact (show (mj_Sh, M, N) = (mj_Sh, M, st N [(147, N 147), (148, N 148)]) from by rw [show st N [(147, N 147), (148, N 148)] = N from st_self N [147, 148]])⟩)
                  · refine tw_iload k186_82 rfl ?_
                    refine tw_aload k186_84 rfl ?_
                    refine tw_getr k186_85 f126_27 ?_
                    refine tw_iload k186_88 rfl ?_
                    refine tw_iald (j := c) (v := (M 146 c)) k186_89 al146 rfl (by omega) rfl ?_
                    refine tw_iload k186_90 rfl ?_
                    refine tw_isub k186_92 (v := ((M 146 c) - j)) rfl (by omega) ?_
                    refine tw_cle k186_93 (fun h93 => ?_) (fun h93 => ?_)
                    · exact absurd ⟨by omega, by omega, by omega⟩ hn
                    · refine tw_const k186_96 ?_
                      exact tw_ri k186_98 (⟨by unfold qShift; (try simp only [Int.toNat_natCast]); (repeat' split) <;> first | rfl | omega, N 148, by rw [show aShift (M 145) (M 146) (N 147) ((a : Nat) : Int) i ((c : Nat) : Int) j n = N 147 from if_neg (by unfold tsK; (try simp only [Int.toNat_natCast]); omega)]; exact (show (mj_Sh, M, N) = (mj_Sh, M, st N [(147, N 147), (148, N 148)]) from by rw [show st N [(147, N 147), (148, N 148)] = N from st_self N [147, 148]])⟩)
          · refine tw_const k186_52 ?_
            exact tw_ri k186_54 (⟨by unfold qShift; (try simp only [Int.toNat_natCast]); (repeat' split) <;> first | rfl | omega, N 148, by rw [show aShift (M 145) (M 146) (N 147) ((a : Nat) : Int) i ((c : Nat) : Int) j n = N 147 from if_neg (by unfold tsK; (try simp only [Int.toNat_natCast]); omega)]; exact (show (mj_Sh, M, N) = (mj_Sh, M, st N [(147, N 147), (148, N 148)]) from by rw [show st N [(147, N 147), (148, N 148)] = N from st_self N [147, 148]])⟩)
        · refine tw_const k186_34 ?_
          exact tw_ri k186_36 (⟨by unfold qShift; (try simp only [Int.toNat_natCast]); (repeat' split) <;> first | rfl | omega, N 148, by rw [show aShift (M 145) (M 146) (N 147) ((a : Nat) : Int) i ((c : Nat) : Int) j n = N 147 from if_neg (by unfold tsK; (try simp only [Int.toNat_natCast]); omega)]; exact (show (mj_Sh, M, N) = (mj_Sh, M, st N [(147, N 147), (148, N 148)]) from by rw [show st N [(147, N 147), (148, N 148)] = N from st_self N [147, 148]])⟩)
  · by_cases hy1 : 0 ≤ t ∧ t ≤ 5
    · refine tw_iload k186_0 rfl ?_
      refine tw_callbT (by omega) (S' := []) (as := [.inl t]) k186_1 (x_178 (by omega) t) rfl rfl rfl rfl rfl hy1 ?_
      refine tw_zeqF k186_4 (by decide) ?_
      refine tw_iload k186_7 rfl ?_
      refine tw_callbF (by omega) (S' := []) (as := [.inl o]) k186_8 (x_178 (by omega) o) rfl rfl rfl rfl rfl (fun q => hyy ⟨hy1, q⟩) ?_
      refine tw_zneF k186_11 (by decide) ?_
      refine tw_const k186_14 ?_
      exact tw_ri k186_15 (⟨by unfold qShift; (try simp only [Int.toNat_natCast]); (repeat' split) <;> first | rfl | omega, N 148, by rw [show aShift (M 145) (M 146) (N 147) t i o j n = N 147 from if_neg (by unfold tsK; (try simp only [Int.toNat_natCast]); omega)]; exact (show (mj_Sh, M, N) = (mj_Sh, M, st N [(147, N 147), (148, N 148)]) from by rw [show st N [(147, N 147), (148, N 148)] = N from st_self N [147, 148]])⟩)
    · refine tw_iload k186_0 rfl ?_
      refine tw_callbF (by omega) (S' := []) (as := [.inl t]) k186_1 (x_178 (by omega) t) rfl rfl rfl rfl rfl hy1 ?_
      refine tw_zeqT k186_4 (by decide) ?_
      refine tw_const k186_14 ?_
      exact tw_ri k186_15 (⟨by unfold qShift; (try simp only [Int.toNat_natCast]); (repeat' split) <;> first | rfl | omega, N 148, by rw [show aShift (M 145) (M 146) (N 147) t i o j n = N 147 from if_neg (by unfold tsK; (try simp only [Int.toNat_natCast]); omega)]; exact (show (mj_Sh, M, N) = (mj_Sh, M, st N [(147, N 147), (148, N 148)]) from by rw [show st N [(147, N 147), (148, N 148)] = N from st_self N [147, 148]])⟩)
