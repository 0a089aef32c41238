-- the law: what stands at the start, the loop, the whole run
theorem itN_no {C : WS → Prop} {dC : ∀ W, Decidable (C W)} {S : WS → WS} {W : WS} (h : ¬ C W) : ∀ n, itN C dC S n W = W
  | 0 => rfl
  | n + 1 => by rw [itN, if_neg h]
theorem wGz {s : Nat → Int} (h : s 0 = 0) (W : WS) : (wGr s W).1 = 0 := by
  have := (wGr_ok s W).1
  rw [h] at this
  exact Nat.le_zero.mp this
theorem wB_0 {s : Nat → Int} (h : s 0 = 0) : wB s = w0 s := by
  have e1 : wT s = w0 s := itN_no (by intro q; have := wGz h (w0 s); unfold tkC at q; omega) 10000
  have e2 : wV s = w0 s := by
    unfold wV; rw [e1]
    exact itN_no (by intro q; have := wGz h (w0 s); unfold gvC at q; omega) 10000
  unfold wB; rw [e2]
  exact itN_no (by intro q; have := wGz h (w0 s); unfold bwC at q; omega) 10000
theorem v127 : ∀ j, j < 91 → mq_val 127 j = if j = 43 then 20 else 0 := by decide +kernel
theorem v126 : ∀ j, j < 30 → mq_val 126 j = 0 := by decide +kernel
theorem v130 : ∀ c, c < 17 → ∀ j, j < 100 → mq_val (128 + c) j = 0 := by decide +kernel
theorem v145 : ∀ j, j < 6 → mq_val 145 j = -1 := by decide +kernel
theorem v146 : ∀ j, j < 6 → mq_val 146 j = 0 := by decide +kernel
theorem vlow : ∀ c, c < 113 → ∀ j, j < 21 → c = 8 ∨ c = 25 ∨ c = 68 ∨ mq_val c j = 0 := by decide +kernel
theorem vtap : ∀ t, t < 6 → mq_val (114 + 2 * t) 1 = -1 ∧ mq_val (114 + 2 * t) 2 = 0 := by decide +kernel
theorem v8 : ∀ i, i < 4 → mq_val 8 i = if 42 + i = 43 then 20 else 0 := by decide +kernel
theorem mq_127 : ∀ j, j < 91 → mq_M 127 j = if j = 43 then 20 else 0 := fun j hj => (mq_M3 1 (by omega) j (by omega)).trans (v127 j hj)
theorem mq_126 : ∀ j, j < 30 → mq_M 126 j = 0 := fun j hj => (mq_M3 0 (by omega) j (by omega)).trans (v126 j hj)
theorem mq_130 {c j : Nat} (h1 : 128 ≤ c) (h2 : c < 145) (hj : j < 100) : mq_M c j = 0 := by
  obtain ⟨k, rfl⟩ : ∃ k, c = 126 + k := ⟨c - 126, by omega⟩
  rw [mq_M3 k (by omega) j hj]
  obtain ⟨q, rfl⟩ : ∃ q, k = q + 2 := ⟨k - 2, by omega⟩
  rw [show 126 + (q + 2) = 128 + q by omega]
  exact v130 q (by omega) j hj
theorem mq_145 : ∀ j, j < 6 → mq_M 145 j = -1 := fun j hj => (mq_M3 19 (by omega) j (by omega)).trans (v145 j hj)
theorem mq_146 : ∀ j, j < 6 → mq_M 146 j = 0 := fun j hj => (mq_M3 20 (by omega) j (by omega)).trans (v146 j hj)
theorem mq_lt {c j : Nat} (h : c < 126) (hj : j < 21) : mq_M c j = mq_val c j := by
  by_cases e : c < 62
  · exact mq_M1 c e j hj
  · obtain ⟨k, rfl⟩ : ∃ k, c = 62 + k := ⟨c - 62, by omega⟩
    exact mq_M2 k (by omega) j hj
theorem mq_low {c j : Nat} (h : c < 113) (hj : j < 21) (h8 : c ≠ 8 ∧ c ≠ 25 ∧ c ≠ 68) : mq_M c j = 0 := by
  rw [mq_lt (by omega) hj]
  rcases vlow c h j hj with q | q | q | q
  · exact absurd q h8.1
  · exact absurd q h8.2.1
  · exact absurd q h8.2.2
  · exact q
theorem mq_8 : ∀ i, i < 4 → mq_M 8 i = if 42 + i = 43 then 20 else 0 := fun i hi => (mq_lt (by omega) (by omega)).trans (v8 i hi)
section
variable {M : Nat → Nat → Int} {N : Nat → Nat → Int64}
theorem mq_rg (h127 : ∀ j, j < 91 → M 127 j = if j = 43 then 20 else 0) : pRg (M 127) := by
  have e0 := h127 0 (by omega)
  have e11 := h127 11 (by omega)
  rw [if_neg (by omega)] at e0 e11
  refine ⟨fun i hi => ?_, by omega, by omega, fun m hm => by omega, fun m hm => by omega⟩
  rw [h127 i (by omega)]; split <;> omega
theorem mq_VI (h127 : ∀ j, j < 91 → M 127 j = if j = 43 then 20 else 0) : pVI (M 127) := by
  have e0 := h127 0 (by omega)
  have e46 := h127 46 (by omega)
  have e57 := h127 57 (by omega)
  have e74 := h127 74 (by omega)
  rw [if_neg (by omega)] at e0 e46 e57 e74
  refine ⟨mq_rg h127, fun y hy => ?_, ⟨by omega, by omega, fun i hi => by omega⟩, ⟨by omega, by omega, fun i hi => by omega⟩, ⟨by omega, by omega, fun i hi => by omega⟩⟩
  rw [h127 _ (by omega), h127 _ (by omega), if_neg (by omega), if_neg (by omega)]
  omega
theorem mq_W (h127 : ∀ j, j < 91 → M 127 j = if j = 43 then 20 else 0) (h126 : ∀ j, j < 30 → M 126 j = 0) (h130 : ∀ c j, 128 ≤ c → c < 145 → j < 100 → M c j = 0) : mW M := by
  have e0 := h127 0 (by omega)
  have e11 := h127 11 (by omega)
  have e44 := h127 44 (by omega)
  rw [if_neg (by omega)] at e0 e11 e44
  have hG : (wG (M 127)).1 = 0 := wGz e0 _
  refine ⟨mq_rg h127, ⟨?_, fun g hg => by omega⟩, ?_, fun y hy => ?_, fun y hy => by omega, fun g hg => by omega, fun m hm => by omega, fun i j hi hj => ?_⟩
  · rw [h126 17 (by omega), hG]; rfl
  · rw [wB_0 e0]
    refine ⟨?_, ?_, ?_⟩
    · rw [h126 18 (by omega)]; exact e44.symm
    · rw [h126 19 (by omega)]; rfl
    · rw [h126 20 (by omega)]; rfl
  · rw [wB_0 e0, h130 130 y (by omega) (by omega) (by omega), h130 131 y (by omega) (by omega) (by omega)]
    refine ⟨?_, rfl⟩
    show (0 : Int) = M 127 (1 + y)
    rw [h127 _ (by omega), if_neg (by omega)]
  · rw [h130 141 _ (by omega) (by omega) (by omega), if_neg (by omega)]
theorem mq_good0 (h127 : ∀ j, j < 91 → M 127 j = if j = 43 then 20 else 0) (h126 : ∀ j, j < 30 → M 126 j = 0) (h130 : ∀ c j, 128 ≤ c → c < 145 → j < 100 → M c j = 0) (h145 : ∀ j, j < 6 → M 145 j = -1) (h146 : ∀ j, j < 6 → M 146 j = 0) (hlow : ∀ c j, c < 113 → j < 21 → c ≠ 8 ∧ c ≠ 25 ∧ c ≠ 68 → M c j = 0) (h8 : ∀ i, i < 4 → M 8 i = if 42 + i = 43 then 20 else 0) (htap : ∀ t, t < 6 → M (114 + 2 * t) 1 = -1 ∧ M (114 + 2 * t) 2 = 0) : Good M N := by
  have z : ∀ j, j < 91 → j ≠ 43 → M 127 j = 0 := fun j hj h => by rw [h127 j hj, if_neg h]
  have L : ∀ c j, c < 113 → j < 21 → c ≠ 8 → c ≠ 25 → c ≠ 68 → M c j = 0 := fun c j h1 h2 h3 h4 h5 => hlow c j h1 h2 ⟨h3, h4, h5⟩
  refine ⟨M 127, M 128, M 126 3, M 143, M 126 23, M 145, M 146, N 147, ?_, ⟨rfl, rfl, rfl, rfl, rfl, rfl, rfl, rfl, mq_W h127 h126 h130⟩, ?_⟩
  · have e3 := h126 3 (by omega)
    have e23 := h126 23 (by omega)
    refine ⟨⟨⟨?_, ?_, fun y hy => ⟨?_, ?_⟩, fun m hm => ⟨?_, ?_, ?_⟩, fun i hi => ?_⟩, ⟨?_, fun i hi => ?_⟩, ⟨?_, fun i hi => ?_⟩, ⟨?_, fun i hi => ?_⟩⟩, ?_, fun q => ?_, Or.inl ?_, ⟨fun p hp => ?_, fun p hp => ?_, fun i j hij hi => ?_⟩, ⟨?_, fun i hi => ?_⟩, fun t ht => ⟨?_, ?_, fun i hi => ?_⟩⟩
    · exact (L 2 6 (by omega) (by omega) (by omega) (by omega) (by omega)).trans (z 0 (by omega) (by omega)).symm
    · exact (L 2 7 (by omega) (by omega) (by omega) (by omega) (by omega)).trans (z 11 (by omega) (by omega)).symm
    · exact (L 3 y (by omega) (by omega) (by omega) (by omega) (by omega)).trans (z (1 + y) (by omega) (by omega)).symm
    · exact (L 4 y (by omega) (by omega) (by omega) (by omega) (by omega)).trans (z (6 + y) (by omega) (by omega)).symm
    · exact (L 5 m (by omega) (by omega) (by omega) (by omega) (by omega)).trans (z (12 + m) (by omega) (by omega)).symm
    · exact (L 6 m (by omega) (by omega) (by omega) (by omega) (by omega)).trans (z (22 + m) (by omega) (by omega)).symm
    · exact (L 7 m (by omega) (by omega) (by omega) (by omega) (by omega)).trans (z (32 + m) (by omega) (by omega)).symm
    · exact (h8 i hi).trans (h127 (42 + i) (by omega)).symm
    · exact (L 9 2 (by omega) (by omega) (by omega) (by omega) (by omega)).trans (z 46 (by omega) (by omega)).symm
    · rw [z 46 (by omega) (by omega)] at hi; omega
    · exact (L 12 2 (by omega) (by omega) (by omega) (by omega) (by omega)).trans (z 57 (by omega) (by omega)).symm
    · rw [z 57 (by omega) (by omega)] at hi; omega
    · exact (L 15 2 (by omega) (by omega) (by omega) (by omega) (by omega)).trans (z 74 (by omega) (by omega)).symm
    · rw [z 74 (by omega) (by omega)] at hi; omega
    · exact (L 0 2 (by omega) (by omega) (by omega) (by omega) (by omega)).trans e3.symm
    · omega
    · exact L 0 4 (by omega) (by omega) (by omega) (by omega) (by omega)
    · exact L 38 p (by omega) (by omega) (by omega) (by omega) (by omega)
    · exact L 72 p (by omega) (by omega) (by omega) (by omega) (by omega)
    · exact L (56 + i) j (by omega) (by omega) (by omega) (by omega) (by omega)
    · exact (L 96 3 (by omega) (by omega) (by omega) (by omega) (by omega)).trans e23.symm
    · omega
    · exact (htap t ht).1.trans (h145 t ht).symm
    · exact (htap t ht).2.trans (h146 t ht).symm
    · rw [h146 t ht] at hi; omega
  · refine ⟨mq_VI h127, Or.inl (h126 3 (by omega)), ?_, fun i hi => ?_, fun t ht => ?_⟩
    · rw [h126 23 (by omega)]; omega
    · rw [h130 143 i (by omega) (by omega) hi]; omega
    · rw [h145 t ht, h146 t ht]; omega
end
theorem mq_good : Good mq_M mq_N := mq_good0 mq_127 mq_126 (fun c j h1 h2 h3 => mq_130 h1 h2 h3) mq_145 mq_146 (fun c j h1 h2 h3 => mq_low h1 h2 h3) mq_8 (fun t ht => ⟨(mq_lt (by omega) (by omega)).trans (vtap t ht).1, (mq_lt (by omega) (by omega)).trans (vtap t ht).2⟩)
theorem lw_loop {K : mj_C} {d : Nat} (hD : 21 ≤ d) (hK : kOk K) (hL : (K 0).1 ≤ 3072) (hr : ∀ j, -2147483648 ≤ (K 0).2 j ∧ (K 0).2 j ≤ 2147483647) {n : Nat} (hn0 : n = (K 0).1 / 6) {M : Nat → Nat → Int} {N : Nat → Nat → Int64} (hG : Good M N) : mj_T K d 187 18 [some (.inr (.inr (.inr 0))), some (.inr (.inr (.inl 0))), some (.inr (.inr (.inl 126))), some (.inl (((6 * 0) : Nat) : Int))] [] (mj_Sh, M, N) (fun r Z => r = some (.inl 1) ∧ Z.1 = mj_Sh) := by
  have hn : 6 * n ≤ (K 0).1 ∧ (K 0).1 < 6 * n + 6 := by omega
  have key : ∀ k : Nat, k ≤ n → ∀ M N, Good M N → mj_T K d 187 18 [some (.inr (.inr (.inr 0))), some (.inr (.inr (.inl 0))), some (.inr (.inr (.inl 126))), some (.inl (((6 * k) : Nat) : Int))] [] (mj_Sh, M, N) (fun r Z => r = some (.inl 1) ∧ Z.1 = mj_Sh) := by
    refine up_to n ?_ ?_
    · show ∀ M N, Good M N → mj_T K d 187 18 [some (.inr (.inr (.inr 0))), some (.inr (.inr (.inl 0))), some (.inr (.inr (.inl 126))), some (.inl (((6 * n) : Nat) : Int))] [] (mj_Sh, M, N) (fun r Z => r = some (.inl 1) ∧ Z.1 = mj_Sh)
      intro M N hG
      refine tw_iload k187_18 rfl ?_
      refine tw_aload k187_19 rfl ?_
      refine tw_alenc k187_20 rfl (by omega) ?_
      refine tw_const k187_21 ?_
      refine tw_isub k187_23 (v := (((K 0).1 : Int) - (6 : Int))) rfl (by omega) ?_
      refine tw_cgtT k187_24 (by omega) ?_
      refine tw_const k187_1296 ?_
      exact tw_rb k187_1297 (by decide) (⟨rfl, rfl⟩)
    · intro k hmk ih
      have ih : ∀ M N, Good M N → mj_T K d 187 18 [some (.inr (.inr (.inr 0))), some (.inr (.inr (.inl 0))), some (.inr (.inr (.inl 126))), some (.inl (((6 * (k + 1)) : Nat) : Int))] [] (mj_Sh, M, N) (fun r Z => r = some (.inl 1) ∧ Z.1 = mj_Sh) := ih
      show ∀ M N, Good M N → mj_T K d 187 18 [some (.inr (.inr (.inr 0))), some (.inr (.inr (.inl 0))), some (.inr (.inr (.inl 126))), some (.inl (((6 * k) : Nat) : Int))] [] (mj_Sh, M, N) (fun r Z => r = some (.inl 1) ∧ Z.1 = mj_Sh)
      intro M N hG
      refine tw_iload k187_18 rfl ?_
      refine tw_aload k187_19 rfl ?_
      refine tw_alenc k187_20 rfl (by omega) ?_
      refine tw_const k187_21 ?_
      refine tw_isub k187_23 (v := (((K 0).1 : Int) - (6 : Int))) rfl (by omega) ?_
      refine tw_cgtF k187_24 (by omega) ?_
      refine tw_aload k187_27 rfl ?_
      refine tw_iload k187_28 rfl ?_
      refine tw_ialdc (j := (6 * k)) (v := ((K 0).2 (6 * k))) k187_29 rfl rfl (by omega) rfl ?_
      refine tw_const k187_30 ?_
      refine tw_and63 k187_32 ?_
      refine tw_sw k187_33 ?_
      refine tw_pk (fun _ => lc_0 hD hK hL hr (by omega) hG ih) (fun _ => ?_)
      refine tw_pk (fun _ => lc_1 hD hK hL hr (by omega) hG ih) (fun _ => ?_)
      refine tw_pk (fun _ => lc_2 hD hK hL hr (by omega) hG ih) (fun _ => ?_)
      refine tw_pk (fun _ => lc_3 hD hK hL hr (by omega) hG ih) (fun _ => ?_)
      refine tw_pk (fun _ => lc_4 hD hK hL hr (by omega) hG ih) (fun _ => ?_)
      refine tw_pk (fun _ => lc_5 hD hK hL hr (by omega) hG ih) (fun _ => ?_)
      refine tw_pk (fun _ => lc_6 hD hK hL hr (by omega) hG ih) (fun _ => ?_)
      refine tw_pk (fun _ => lc_7 hD hK hL hr (by omega) hG ih) (fun _ => ?_)
      refine tw_pk (fun _ => lc_8 hD hK hL hr (by omega) hG ih) (fun _ => ?_)
      refine tw_pk (fun _ => lc_9 hD hK hL hr (by omega) hG ih) (fun _ => ?_)
      refine tw_pk (fun _ => lc_10 hD hK hL hr (by omega) hG ih) (fun _ => ?_)
      refine tw_pk (fun _ => lc_11 hD hK hL hr (by omega) hG ih) (fun _ => ?_)
      refine tw_pk (fun _ => lc_12 hD hK hL hr (by omega) hG ih) (fun _ => ?_)
      refine tw_pk (fun _ => lc_13 hD hK hL hr (by omega) hG ih) (fun _ => ?_)
      refine tw_pk (fun _ => lc_14 hD hK hL hr (by omega) hG ih) (fun _ => ?_)
      refine tw_pk (fun _ => lc_15 hD hK hL hr (by omega) hG ih) (fun _ => ?_)
      refine tw_pk (fun _ => lc_16 hD hK hL hr (by omega) hG ih) (fun _ => ?_)
      refine tw_pk (fun _ => lc_17 hD hK hL hr (by omega) hG ih) (fun _ => ?_)
      refine tw_pk (fun _ => lc_18 hD hK hL hr (by omega) hG ih) (fun _ => ?_)
      refine tw_pk (fun _ => lc_19 hD hK hL hr (by omega) hG ih) (fun _ => ?_)
      refine tw_pk (fun _ => lc_20 hD hK hL hr (by omega) hG ih) (fun _ => ?_)
      refine tw_pk (fun _ => lc_21 hD hK hL hr (by omega) hG ih) (fun _ => ?_)
      refine tw_pk (fun _ => lc_22 hD hK hL hr (by omega) hG ih) (fun _ => ?_)
      refine tw_pk (fun _ => lc_23 hD hK hL hr (by omega) hG ih) (fun _ => ?_)
      refine tw_pk (fun _ => lc_24 hD hK hL hr (by omega) hG ih) (fun _ => ?_)
      refine tw_pk (fun _ => lc_25 hD hK hL hr (by omega) hG ih) (fun _ => ?_)
      refine tw_pk (fun _ => lc_26 hD hK hL hr (by omega) hG ih) (fun _ => ?_)
      refine tw_pk (fun _ => lc_27 hD hK hL hr (by omega) hG ih) (fun _ => ?_)
      refine tw_pk (fun _ => lc_28 hD hK hL hr (by omega) hG ih) (fun _ => ?_)
      refine tw_pk (fun _ => lc_29 hD hK hL hr (by omega) hG ih) (fun _ => ?_)
      refine tw_pk (fun _ => lc_30 hD hK hL hr (by omega) hG ih) (fun _ => ?_)
      refine tw_pk (fun _ => lc_31 hD hK hL hr (by omega) hG ih) (fun _ => ?_)
      refine tw_pk (fun _ => lc_32 hD hK hL hr (by omega) hG ih) (fun _ => ?_)
      refine tw_pk (fun _ => lc_33 hD hK hL hr (by omega) hG ih) (fun _ => ?_)
      refine tw_pk (fun _ => lc_34 hD hK hL hr (by omega) hG ih) (fun _ => ?_)
      refine tw_pk0 ?_
      refine tw_iinc k187_1290 rfl (v := (((6 * k) + 6 : Nat) : Int)) rfl (by omega) rfl (L' := [some (.inr (.inr (.inr 0))), some (.inr (.inr (.inl 0))), some (.inr (.inr (.inl 126))), some (.inl (((6 * k) + 6 : Nat) : Int))]) rfl ?_
      refine tw_goto k187_1293 ?_
      refine tw_eqL (L' := [some (.inr (.inr (.inr 0))), some (.inr (.inr (.inl 0))), some (.inr (.inr (.inl 126))), some (.inl (((6 * (k + 1)) : Nat) : Int))]) (e_c rfl (e_c rfl (e_c rfl (e_c (e_i (by omega)) rfl)))) ?_
      exact ih M N hG
  exact key 0 (by omega) M N hG
theorem mq_run {K : mj_C} (hK : kOk K) (hL : (K 0).1 ≤ 3072) (hr : ∀ j, -2147483648 ≤ (K 0).2 j ∧ (K 0).2 j ≤ 2147483647) : mj_X K 40 187 [.inr (.inr (.inr 0))] ([], fun _ _ => 0, fun _ _ => 0) (fun r Z => r = some (.inl 1) ∧ Z.1 = mj_Sh) := by
  show mj_T K 40 187 0 [some (.inr (.inr (.inr 0))), none, none, none] [] ([], fun _ _ => 0, fun _ _ => 0) _
  have hA : mj_X K 39 68 [.inr (.inr (.inl 0))] mq_A0 (fun r Z => r = none ∧ Z = mq_A1) := mj_T_deep (d := 30) (by omega) ⟨4000, none, mq_A1, mq_rn_ok K 4000 30 68 0 _ _ _ _ mq_rA_ok, rfl, rfl⟩
  have hB : mj_X K 39 111 [.inr (.inr (.inl 126))] mq_B0 (fun r Z => r = none ∧ Z = mq_B1) := mj_T_deep (d := 30) (by omega) ⟨4000, none, mq_B1, mq_rn_ok K 4000 30 111 0 _ _ _ _ mq_rB_ok, rfl, rfl⟩
  refine tw_step k187_0 (show _ = mj_go 3 [some (.inr (.inr (.inr 0))), none, none, none] [.inr (.inr (.inl 0))] mq_A0 from rfl) ?_
  refine tw_dupr k187_3 ?_
  refine tw_call (by omega) (S' := [.inr (.inr (.inl 0))]) (as := [.inr (.inr (.inl 0))]) k187_4 hA rfl rfl rfl rfl rfl (fun r4 Z4 hq4 => ?_)
  rw [hq4.1, hq4.2]
  refine tw_astore k187_7 rfl (L' := [some (.inr (.inr (.inr 0))), some (.inr (.inr (.inl 0))), none, none]) rfl ?_
  refine tw_step k187_8 (show _ = mj_go 11 [some (.inr (.inr (.inr 0))), some (.inr (.inr (.inl 0))), none, none] [.inr (.inr (.inl mq_A1.1.length))] mq_B0 from rfl) ?_
  refine tw_eqS (S' := [.inr (.inr (.inl 126))]) (by rw [mq_A1_len]) ?_
  refine tw_dupr k187_11 ?_
  refine tw_call (by omega) (S' := [.inr (.inr (.inl 126))]) (as := [.inr (.inr (.inl 126))]) k187_12 hB rfl rfl rfl (by decide +kernel) rfl (fun r12 Z12 hq12 => ?_)
  rw [hq12.1, hq12.2]
  refine tw_astore k187_15 rfl (L' := [some (.inr (.inr (.inr 0))), some (.inr (.inr (.inl 0))), some (.inr (.inr (.inl 126))), none]) rfl ?_
  refine tw_const k187_16 ?_
  refine tw_istore k187_17 rfl (L' := [some (.inr (.inr (.inr 0))), some (.inr (.inr (.inl 0))), some (.inr (.inr (.inl 126))), some (.inl (0 : Int))]) rfl ?_
  rw [mq_B1_is]
  refine tw_eqL (L' := [some (.inr (.inr (.inr 0))), some (.inr (.inr (.inl 0))), some (.inr (.inr (.inl 126))), some (.inl (((6 * 0) : Nat) : Int))]) (e_c rfl (e_c rfl (e_c rfl (e_c (e_i (by omega)) rfl)))) ?_
  exact lw_loop (by omega) hK hL hr rfl mq_good
theorem mj_law (L : Nat) (xs : Nat → Int32) (hL : L ≤ 3072) : ∃ d, d ≤ 1000 ∧ mj_X (mj_Kc L xs) d 187 [.inr (.inr (.inr 0))] ([], fun _ _ => 0, fun _ _ => 0) (fun r Z => r = some (.inl 1) ∧ mj_nc Z ≤ 600000 ∧ mj_ns Z ≤ 7302250) := by
  refine ⟨40, by omega, mj_T_post (mq_run (K := mj_Kc L xs) ⟨⟨rfl, rfl, rfl⟩, ⟨rfl, rfl, rfl, rfl⟩, ⟨rfl, rfl, rfl, rfl⟩, rfl, rfl, rfl, rfl⟩ hL (fun j => mj_Kc_rg L xs 0 j)) (fun r Z hq => ?_)⟩
  refine ⟨hq.1, ?_, ?_⟩
  · show Z.1.length ≤ 600000
    rw [hq.2, mq_room.2]; omega
  · show mj_sm Z.1 ≤ 7302250
    rw [hq.2, mq_room.1]; omega
