-- merit: words and what holds of them; the model's measures
abbrev isA (s : Nat → Int) (m o : Nat) : Prop := s (22 + m) < s (22 + o) ∨ s (22 + m) = s (22 + o) ∧ m < o
def mrt (s : Nat → Int) (m : Nat) : Int := pS (fun o => if s (12 + o) = s (12 + m) ∧ isA s o m then 1 else 0) 0 (s 11).toNat
def bmF (s : Nat → Int) (y k : Int) : Nat := pFd (fun m => s (12 + m) = y ∧ mrt s m = k) (fun _ => inferInstance) (s 11).toNat 0
def byM (s : Nat → Int) (y k : Int) : Int := if bmF s y k < (s 11).toNat then (bmF s y k : Int) else -5
def wDn (s us : Nat → Int) (m : Nat) : Int := max 0 (min (s (6 + (s (12 + m)).toNat) - us (s (12 + m)).toNat - pS (fun o => if s (12 + o) = s (12 + m) ∧ isA s o m then s (32 + o) else 0) 0 (s 11).toNat) (s (32 + m)))
def mT (s : Nat → Int) (y k : Int) : Int := pS (fun o => if s (12 + o) = y ∧ mrt s o < k then s (32 + o) else 0) 0 (s 11).toNat
theorem pS_le {f g : Nat → Int} {a : Nat} : ∀ (n : Nat), (∀ i, a ≤ i → i < a + n → f i ≤ g i) → pS f a n ≤ pS g a n
  | 0, _ => Int.le_refl _
  | n + 1, h => by
    have := pS_le n (fun i hi hj => h i hi (by omega))
    have := h (a + n) (by omega) (by omega)
    rw [pS, pS]; omega
theorem pS_one {f g : Nat → Int} {a k : Nat} {v : Int} : ∀ (n : Nat), (∀ i, a ≤ i → i < a + n → i ≠ k → f i = g i) → a ≤ k → k < a + n → f k = g k + v → pS f a n = pS g a n + v
  | 0, _, _, h2, _ => by omega
  | n + 1, h, h1, h2, h3 => by
    rw [pS, pS]
    by_cases e : k = a + n
    · subst e
      rw [pS_congr n (fun i hi hj => h i hi (by omega) (by omega)), h3]; omega
    · have := pS_one n (fun i hi hj hk => h i hi (by omega) hk) h1 (by omega) h3
      have := h (a + n) (by omega) (by omega) (fun q => e q.symm)
      omega
theorem mrt_rg {s : Nat → Int} (h : pRg s) (m : Nat) : 0 ≤ mrt s m ∧ mrt s m ≤ 10 := by
  have h11 := h.1 11 (by omega)
  have h2 := h.2.2.1
  have := pS_rg (f := fun o => if s (12 + o) = s (12 + m) ∧ isA s o m then 1 else 0) (a := 0) (B := 1) (s 11).toNat (fun i _ _ => by
    (try dsimp only)
    split <;> omega)
  unfold mrt
  omega
theorem isA_tr {s : Nat → Int} {a b c : Nat} (h1 : isA s a b) (h2 : isA s b c) : isA s a c := by
  unfold isA at *; omega
theorem mrt_lt {s : Nat → Int} {m o : Nat} (ho : (o : Int) < s 11) (hy : s (12 + o) = s (12 + m)) (h : isA s o m) : mrt s o < mrt s m := by
  have h1 : pS (fun q => (if s (12 + q) = s (12 + m) ∧ isA s q m ∧ q ≠ o then 1 else 0)) 0 (s 11).toNat + 1 = mrt s m := by
    unfold mrt
    refine (pS_one (k := o) _ (fun i _ _ hi => ?_) (by omega) (by omega) ?_).symm
    · simp only [hi, ne_eq, not_false_eq_true, and_true]
    · rw [if_pos ⟨hy, h⟩, if_neg (by rintro ⟨_, _, q⟩; exact q rfl)]; rfl
  have h2 : mrt s o ≤ pS (fun q => (if s (12 + q) = s (12 + m) ∧ isA s q m ∧ q ≠ o then 1 else 0)) 0 (s 11).toNat := by
    unfold mrt
    refine pS_le _ (fun i _ _ => ?_)
    by_cases e : s (12 + i) = s (12 + o) ∧ isA s i o
    · rw [if_pos e, if_pos ⟨by rw [e.1, hy], isA_tr e.2 h, by rintro rfl; unfold isA at e; omega⟩]; exact Int.le_refl _
    · rw [if_neg e]; split <;> omega
  omega
theorem isA_iff {s : Nat → Int} {m o : Nat} (hm : (m : Int) < s 11) (ho : (o : Int) < s 11) (hy : s (12 + o) = s (12 + m)) : isA s o m ↔ mrt s o < mrt s m := by
  refine ⟨mrt_lt ho hy, fun h => ?_⟩
  by_cases e : isA s o m
  · exact e
  · by_cases e2 : o = m
    · subst e2; omega
    · have : isA s m o := by unfold isA at *; omega
      have := mrt_lt hm hy.symm this
      omega
theorem mrt_inj {s : Nat → Int} {m o : Nat} (hm : (m : Int) < s 11) (ho : (o : Int) < s 11) (hy : s (12 + o) = s (12 + m)) (h : mrt s o = mrt s m) : o = m := by
  by_cases e : o = m
  · exact e
  · have : isA s m o ∨ isA s o m := by unfold isA; omega
    rcases this with q | q
    · have := mrt_lt hm hy.symm q; omega
    · have := mrt_lt ho hy q; omega
def mCt (s : Nat → Int) (m j : Nat) : Int := pS (fun o => if (s (12 + o) = s (12 + m) ∧ isA s o m) ∧ mrt s o < (j : Int) then 1 else 0) 0 (s 11).toNat
theorem mCt_no {s : Nat → Int} {m j : Nat} (h : ∀ o : Nat, (o : Int) < s 11 → s (12 + o) = s (12 + m) → ¬ mrt s o = (j : Int)) : mCt s m (j + 1) = mCt s m j := by
  unfold mCt
  refine pS_congr _ (fun i _ hi => ?_)
  have hi2 : (i : Int) < s 11 := by omega
  by_cases e : s (12 + i) = s (12 + m)
  · have := h i hi2 e
    have e3 : mrt s i < ((j + 1 : Nat) : Int) ↔ mrt s i < (j : Int) := by omega
    simp only [e3]
  · rw [if_neg (fun q => e q.1.1), if_neg (fun q => e q.1.1)]
theorem mCt_le {s : Nat → Int} {m j : Nat} : mCt s m (j + 1) ≤ mCt s m j + 1 := by
  by_cases e : ∃ o : Nat, (o : Int) < s 11 ∧ s (12 + o) = s (12 + m) ∧ mrt s o = (j : Int)
  · obtain ⟨o, h1, h2, h3⟩ := e
    unfold mCt
    by_cases e4 : isA s o m
    · refine Int.le_of_eq (pS_one (k := o) _ (fun i _ hi hk => ?_) (by omega) (by omega) ?_)
      · by_cases e : s (12 + i) = s (12 + m)
        · have h5 : ¬ mrt s i = (j : Int) := fun q => hk (mrt_inj h1 (by omega) (by rw [e, h2]) (by rw [q, h3]))
          have e3 : mrt s i < ((j + 1 : Nat) : Int) ↔ mrt s i < (j : Int) := by omega
          simp only [e3]
        · rw [if_neg (fun q => e q.1.1), if_neg (fun q => e q.1.1)]
      · rw [if_pos ⟨⟨h2, e4⟩, by omega⟩, if_neg (fun q => absurd q.2 (by omega))]; rfl
    · refine Int.le_trans (pS_le (g := fun o => if (s (12 + o) = s (12 + m) ∧ isA s o m) ∧ mrt s o < (j : Int) then 1 else 0) _ (fun i _ hi => ?_)) (by omega)
      by_cases e : s (12 + i) = s (12 + m) ∧ isA s i m
      · have h5 : ¬ mrt s i = (j : Int) := fun q => e4 ((mrt_inj (m := o) (o := i) h1 (by omega) (by rw [e.1, h2]) (by rw [q, h3])) ▸ e.2)
        have e3 : mrt s i < ((j + 1 : Nat) : Int) ↔ mrt s i < (j : Int) := by omega
        simp only [e3]; exact Int.le_refl _
      · rw [if_neg (fun q => e q.1), if_neg (fun q => e q.1)]; exact Int.le_refl _
  · rw [mCt_no (fun o h1 h2 h3 => e ⟨o, h1, h2, h3⟩)]; omega
theorem mCt_up {s : Nat → Int} {m k : Nat} (h : mCt s m (k + 1) = mCt s m k) : ∀ j, mCt s m j ≤ j ∧ (k < j → mCt s m j + 1 ≤ j)
  | 0 => by
    refine ⟨?_, fun h => by omega⟩
    have := pS_le (f := fun o => if (s (12 + o) = s (12 + m) ∧ isA s o m) ∧ mrt s o < ((0 : Nat) : Int) then 1 else 0) (g := fun _ => 0) (a := 0) (s 11).toNat (fun i _ _ => by
      rw [if_neg]
      · exact Int.le_refl _
      · rintro ⟨_, q⟩
        have h2 : 0 ≤ mrt s i := by
          unfold mrt
          have := pS_rg (f := fun o => if s (12 + o) = s (12 + i) ∧ isA s o i then 1 else 0) (a := 0) (B := 1) (s 11).toNat (fun i _ _ => by
            (try dsimp only)
            split <;> omega)
          exact this.1
        omega)
    have h3 : ∀ n, pS (fun _ => (0 : Int)) 0 n = 0 := by
      intro n; induction n with
      | zero => rfl
      | succ n ih => rw [pS, ih]; rfl
    rw [h3] at this
    exact this
  | j + 1 => by
    have ⟨h1, h2⟩ := mCt_up h j
    have h3 := mCt_le (s := s) (m := m) (j := j)
    refine ⟨by omega, fun hk => ?_⟩
    by_cases e : k = j
    · subst e; omega
    · have := h2 (by omega); omega
theorem mrt_gap {s : Nat → Int} {m k : Nat} (hm : (m : Int) < s 11) (hk : (k : Int) < mrt s m) : ∃ o : Nat, (o : Int) < s 11 ∧ s (12 + o) = s (12 + m) ∧ mrt s o = (k : Int) := by
  by_cases e : ∃ o : Nat, (o : Int) < s 11 ∧ s (12 + o) = s (12 + m) ∧ mrt s o = (k : Int)
  · exact e
  · have h1 := mCt_no (s := s) (m := m) (j := k) (fun o h1 h2 h3 => e ⟨o, h1, h2, h3⟩)
    have h2 := (mCt_up h1 (mrt s m).toNat).2 (by omega)
    have h3 : mCt s m (mrt s m).toNat = mrt s m := by
      have : mrt s m = pS (fun o => if s (12 + o) = s (12 + m) ∧ isA s o m then 1 else 0) 0 (s 11).toNat := rfl
      rw [this]
      unfold mCt
      refine pS_congr _ (fun i _ hi => ?_)
      by_cases e : s (12 + i) = s (12 + m) ∧ isA s i m
      · have := mrt_lt (by omega) e.1 e.2
        rw [if_pos e, if_pos ⟨e, by omega⟩]
      · rw [if_neg e, if_neg (fun q => e q.1)]
    omega
theorem mT_ah {s : Nat → Int} {m : Nat} (hm : (m : Int) < s 11) : pS (fun o => if s (12 + o) = s (12 + m) ∧ isA s o m then s (32 + o) else 0) 0 (s 11).toNat = mT s (s (12 + m)) (mrt s m) := by
  unfold mT
  refine pS_congr _ (fun i _ hi => ?_)
  by_cases e : s (12 + i) = s (12 + m)
  · simp only [e, true_and, isA_iff hm (show (i : Int) < s 11 by omega) e]
  · rw [if_neg (fun q => e q.1), if_neg (fun q => e q.1)]
theorem mT_s {s : Nat → Int} {m : Nat} {y k : Int} (hm : (m : Int) < s 11) (hy : s (12 + m) = y) (hk : mrt s m = k) : mT s y (k + 1) = mT s y k + s (32 + m) := by
  unfold mT
  refine pS_one (k := m) _ (fun i _ hi hne => ?_) (by omega) (by omega) ?_
  · by_cases e : s (12 + i) = y
    · have h5 : ¬ mrt s i = k := fun q => hne (mrt_inj hm (by omega) (by rw [e, hy]) (by rw [q, hk]))
      have e3 : mrt s i < k + 1 ↔ mrt s i < k := by omega
      simp only [e3]
    · rw [if_neg (fun q => e q.1), if_neg (fun q => e q.1)]
  · rw [if_pos ⟨hy, by omega⟩, if_neg (fun q => absurd q.2 (by omega))]; omega
theorem mT_0 {s : Nat → Int} (h : pRg s) {y : Int} : mT s y 0 = 0 := by
  unfold mT
  have h3 : ∀ n, pS (fun _ => (0 : Int)) 0 n = 0 := by
    intro n; induction n with
    | zero => rfl
    | succ n ih => rw [pS, ih]; rfl
  refine Eq.trans (pS_congr (g := fun _ => 0) _ (fun i _ hi => ?_)) (h3 _)
  have := mrt_rg h i
  have hn : ¬ (s (12 + i) = y ∧ mrt s i < 0) := by omega
  rw [if_neg hn]
theorem mT_rg {s : Nat → Int} (h : pRg s) (y k : Int) : 0 ≤ mT s y k ∧ mT s y k ≤ 1000 := by
  have h11 := h.1 11 (by omega)
  have h2 := h.2.2.1
  have := pS_rg (f := fun o => if s (12 + o) = y ∧ mrt s o < k then s (32 + o) else 0) (a := 0) (B := 100) (s 11).toNat (fun i _ _ => by
    have := h.1 (32 + i) (by omega)
    (try dsimp only)
    split <;> omega)
  unfold mT
  omega
theorem bmF_sp {s : Nat → Int} {y k : Int} (h : bmF s y k < (s 11).toNat) : s (12 + bmF s y k) = y ∧ mrt s (bmF s y k) = k := by
  have ⟨h1, _⟩ := pFd_sp (P := fun m => s (12 + m) = y ∧ mrt s m = k) (dP := fun _ => inferInstance) (s 11).toNat 0
  rcases h1 with ⟨_, b, _⟩ | a
  · exact b
  · unfold bmF at h; omega
theorem bmF_no {s : Nat → Int} {y k : Int} (h : ¬ bmF s y k < (s 11).toNat) {m : Nat} (hm : (m : Int) < s 11) : ¬ (s (12 + m) = y ∧ mrt s m = k) := by
  have ⟨_, h1⟩ := pFd_sp (P := fun m => s (12 + m) = y ∧ mrt s m = k) (dP := fun _ => inferInstance) (s 11).toNat 0
  exact h1 m (by omega) (by unfold bmF at h; omega)
theorem x_129 {K : mj_C} {d : Nat} {M : Nat → Nat → Int} {N : Nat → Nat → Int64} (m o : Nat) (hm : m < 10) (ho : o < 10) : mj_X K d 129 [.inr (.inr (.inl 126)), .inl ((m : Nat) : Int), .inl ((o : Nat) : Int)] (mj_Sh, M, N) (fun r Z => r = some (.inl (if isA (M 127) m o then 1 else 0)) ∧ Z = (mj_Sh, M, N)) := by
  show mj_T K d 129 0 [some (.inr (.inr (.inl 126))), some (.inl ((m : Nat) : Int)), some (.inl ((o : Nat) : Int))] [] (mj_Sh, M, N) _
  refine tw_aload k129_0 rfl ?_
  refine tw_getr k129_1 f126_0 ?_
  refine tw_const k129_4 ?_
  refine tw_iload k129_6 rfl ?_
  refine tw_iadd k129_7 (v := ((22 + m : Nat) : Int)) rfl (by omega) ?_
  refine tw_iald (j := 22 + m) (v := (M 127 (22 + m))) k129_8 al127 rfl (by omega) rfl ?_
  refine tw_aload k129_9 rfl ?_
  refine tw_getr k129_10 f126_0 ?_
  refine tw_const k129_13 ?_
  refine tw_iload k129_15 rfl ?_
  refine tw_iadd k129_16 (v := ((22 + o : Nat) : Int)) rfl (by omega) ?_
  refine tw_iald (j := 22 + o) (v := (M 127 (22 + o))) k129_17 al127 rfl (by omega) rfl ?_
  refine tw_clt k129_18 (fun h18 => ?_) (fun h18 => ?_)
  · refine tw_const k129_47 ?_
    refine tw_goto k129_48 ?_
    exact tw_rb k129_52 (by decide) (⟨by rw [if_pos (by unfold isA; omega)], rfl⟩)
  · refine tw_aload k129_21 rfl ?_
    refine tw_getr k129_22 f126_0 ?_
    refine tw_const k129_25 ?_
    refine tw_iload k129_27 rfl ?_
    refine tw_iadd k129_28 (v := ((22 + m : Nat) : Int)) rfl (by omega) ?_
    refine tw_iald (j := 22 + m) (v := (M 127 (22 + m))) k129_29 al127 rfl (by omega) rfl ?_
    refine tw_aload k129_30 rfl ?_
    refine tw_getr k129_31 f126_0 ?_
    refine tw_const k129_34 ?_
    refine tw_iload k129_36 rfl ?_
    refine tw_iadd k129_37 (v := ((22 + o : Nat) : Int)) rfl (by omega) ?_
    refine tw_iald (j := 22 + o) (v := (M 127 (22 + o))) k129_38 al127 rfl (by omega) rfl ?_
    refine tw_cne k129_39 (fun h39 => ?_) (fun h39 => ?_)
    · refine tw_const k129_51 ?_
      exact tw_rb k129_52 (by decide) (⟨by rw [if_neg (by unfold isA; omega)], rfl⟩)
    · refine tw_iload k129_42 rfl ?_
      refine tw_iload k129_43 rfl ?_
      refine tw_cge k129_44 (fun h44 => ?_) (fun h44 => ?_)
      · refine tw_const k129_51 ?_
        exact tw_rb k129_52 (by decide) (⟨by rw [if_neg (by unfold isA; omega)], rfl⟩)
      · refine tw_const k129_47 ?_
        refine tw_goto k129_48 ?_
        exact tw_rb k129_52 (by decide) (⟨by rw [if_pos (by unfold isA; omega)], rfl⟩)
theorem x_130 {K : mj_C} {d : Nat} {M : Nat → Nat → Int} {N : Nat → Nat → Int64} (hD : 1 ≤ d) (hs : pRg (M 127)) (m : Nat) (hm : m < 10) : mj_X K d 130 [.inr (.inr (.inl 126)), .inl ((m : Nat) : Int)] (mj_Sh, M, N) (fun r Z => r = some (.inl (mrt (M 127) m)) ∧ Z = (mj_Sh, M, N)) := by
  show mj_T K d 130 0 [some (.inr (.inr (.inl 126))), some (.inl ((m : Nat) : Int)), none, none] [] (mj_Sh, M, N) _
  have h11 := hs.1 11 (by omega)
  have hc := hs.2.2.1
  have key : ∀ i : Nat, i ≤ (M 127 11).toNat → mj_T K d 130 4 [some (.inr (.inr (.inl 126))), some (.inl ((m : Nat) : Int)), some (.inl (pS (fun o => if M 127 (12 + o) = M 127 (12 + m) ∧ isA (M 127) o m then (1 : Int) else 0) 0 i)), some (.inl ((i : Nat) : Int))] [] (mj_Sh, M, N) (fun r Z => r = some (.inl (mrt (M 127) m)) ∧ Z = (mj_Sh, M, N)) := by
    refine up_to (M 127 11).toNat ?_ ?_
    · show mj_T K d 130 4 [some (.inr (.inr (.inl 126))), some (.inl ((m : Nat) : Int)), some (.inl (pS (fun o => if M 127 (12 + o) = M 127 (12 + m) ∧ isA (M 127) o m then (1 : Int) else 0) 0 (M 127 11).toNat)), some (.inl (((M 127 11).toNat : Nat) : Int))] [] (mj_Sh, M, N) (fun r Z => r = some (.inl (mrt (M 127) m)) ∧ Z = (mj_Sh, M, N))
      refine tw_iload k130_4 rfl ?_
      refine tw_aload k130_5 rfl ?_
      refine tw_getr k130_6 f126_0 ?_
      refine tw_const k130_9 ?_
      refine tw_iald (j := 11) (v := (M 127 11)) k130_11 al127 rfl (by decide) rfl ?_
      refine tw_cgeT k130_12 (by omega) ?_
      refine tw_iload k130_59 rfl ?_
      exact tw_ri k130_60 (⟨rfl, rfl⟩)
    · intro i hmi ih
      have ih : mj_T K d 130 4 [some (.inr (.inr (.inl 126))), some (.inl ((m : Nat) : Int)), some (.inl (pS (fun o => if M 127 (12 + o) = M 127 (12 + m) ∧ isA (M 127) o m then (1 : Int) else 0) 0 (i + 1))), some (.inl (((i + 1) : Nat) : Int))] [] (mj_Sh, M, N) (fun r Z => r = some (.inl (mrt (M 127) m)) ∧ Z = (mj_Sh, M, N)) := ih
      show mj_T K d 130 4 [some (.inr (.inr (.inl 126))), some (.inl ((m : Nat) : Int)), some (.inl (pS (fun o => if M 127 (12 + o) = M 127 (12 + m) ∧ isA (M 127) o m then (1 : Int) else 0) 0 i)), some (.inl ((i : Nat) : Int))] [] (mj_Sh, M, N) (fun r Z => r = some (.inl (mrt (M 127) m)) ∧ Z = (mj_Sh, M, N))
      have hr := pS_rg (f := (fun o => if M 127 (12 + o) = M 127 (12 + m) ∧ isA (M 127) o m then (1 : Int) else 0)) (a := 0) (B := 1) i (fun k _ _ => by (try dsimp only); split <;> omega)
      refine tw_iload k130_4 rfl ?_
      refine tw_aload k130_5 rfl ?_
      refine tw_getr k130_6 f126_0 ?_
      refine tw_const k130_9 ?_
      refine tw_iald (j := 11) (v := (M 127 11)) k130_11 al127 rfl (by decide) rfl ?_
      refine tw_cgeF k130_12 (by omega) ?_
      refine tw_iload k130_15 rfl ?_
      refine tw_aload k130_16 rfl ?_
      refine tw_getr k130_17 f126_0 ?_
      refine tw_const k130_20 ?_
      refine tw_iload k130_22 rfl ?_
      refine tw_iadd k130_23 (v := ((12 + i : Nat) : Int)) rfl (by omega) ?_
      refine tw_iald (j := 12 + i) (v := (M 127 (12 + i))) k130_24 al127 rfl (by omega) rfl ?_
      refine tw_aload k130_25 rfl ?_
      refine tw_getr k130_26 f126_0 ?_
      refine tw_const k130_29 ?_
      refine tw_iload k130_31 rfl ?_
      refine tw_iadd k130_32 (v := ((12 + m : Nat) : Int)) rfl (by omega) ?_
      refine tw_iald (j := 12 + m) (v := (M 127 (12 + m))) k130_33 al127 rfl (by omega) rfl ?_
      refine tw_cne k130_34 (fun h34 => ?_) (fun h34 => ?_)
      · refine tw_const k130_50 ?_
        refine tw_iadd k130_51 (v := ((pS (fun o => if M 127 (12 + o) = M 127 (12 + m) ∧ isA (M 127) o m then (1 : Int) else 0) 0 i) + (0 : Int))) rfl (by omega) ?_
        refine tw_istore k130_52 rfl (L' := [some (.inr (.inr (.inl 126))), some (.inl ((m : Nat) : Int)), some (.inl ((pS (fun o => if M 127 (12 + o) = M 127 (12 + m) ∧ isA (M 127) o m then (1 : Int) else 0) 0 i) + (0 : Int))), some (.inl ((i : Nat) : Int))]) rfl ?_
        refine tw_iinc k130_53 rfl (v := ((i + 1 : Nat) : Int)) rfl (by omega) rfl (L' := [some (.inr (.inr (.inl 126))), some (.inl ((m : Nat) : Int)), some (.inl ((pS (fun o => if M 127 (12 + o) = M 127 (12 + m) ∧ isA (M 127) o m then (1 : Int) else 0) 0 i) + (0 : Int))), some (.inl ((i + 1 : Nat) : Int))]) rfl ?_
        refine tw_goto k130_56 ?_
        refine tw_eqL (L' := [some (.inr (.inr (.inl 126))), some (.inl ((m : Nat) : Int)), some (.inl (pS (fun o => if M 127 (12 + o) = M 127 (12 + m) ∧ isA (M 127) o m then (1 : Int) else 0) 0 (i + 1))), some (.inl (((i + 1) : Nat) : Int))]) (e_c rfl (e_c rfl (e_c (e_i (by rw [pS]; (try dsimp only); rw [Nat.zero_add, if_neg (fun q => h34 q.1), Int.add_zero])) (e_c rfl rfl)))) ?_
        exact ih
      · refine tw_aload k130_37 rfl ?_
        refine tw_iload k130_38 rfl ?_
        refine tw_iload k130_39 rfl ?_
        refine tw_callb (by omega) (S' := [.inl (pS (fun o => if M 127 (12 + o) = M 127 (12 + m) ∧ isA (M 127) o m then (1 : Int) else 0) 0 i)]) (as := [.inr (.inr (.inl 126)), .inl ((i : Nat) : Int), .inl ((m : Nat) : Int)]) k130_40 (x_129 (M := M) (N := N) i m (by omega) (by omega)) rfl rfl rfl rfl rfl (fun h40 => ?_) (fun h40 => ?_)
        · refine tw_zeqF k130_43 (by decide) ?_
          refine tw_const k130_46 ?_
          refine tw_goto k130_47 ?_
          refine tw_iadd k130_51 (v := ((pS (fun o => if M 127 (12 + o) = M 127 (12 + m) ∧ isA (M 127) o m then (1 : Int) else 0) 0 i) + (1 : Int))) rfl (by omega) ?_
          refine tw_istore k130_52 rfl (L' := [some (.inr (.inr (.inl 126))), some (.inl ((m : Nat) : Int)), some (.inl ((pS (fun o => if M 127 (12 + o) = M 127 (12 + m) ∧ isA (M 127) o m then (1 : Int) else 0) 0 i) + (1 : Int))), some (.inl ((i : Nat) : Int))]) rfl ?_
          refine tw_iinc k130_53 rfl (v := ((i + 1 : Nat) : Int)) rfl (by omega) rfl (L' := [some (.inr (.inr (.inl 126))), some (.inl ((m : Nat) : Int)), some (.inl ((pS (fun o => if M 127 (12 + o) = M 127 (12 + m) ∧ isA (M 127) o m then (1 : Int) else 0) 0 i) + (1 : Int))), some (.inl ((i + 1 : Nat) : Int))]) rfl ?_
          refine tw_goto k130_56 ?_
          refine tw_eqL (L' := [some (.inr (.inr (.inl 126))), some (.inl ((m : Nat) : Int)), some (.inl (pS (fun o => if M 127 (12 + o) = M 127 (12 + m) ∧ isA (M 127) o m then (1 : Int) else 0) 0 (i + 1))), some (.inl (((i + 1) : Nat) : Int))]) (e_c rfl (e_c rfl (e_c (e_i (by rw [pS]; (try dsimp only); rw [Nat.zero_add, if_pos ⟨by omega, h40⟩])) (e_c rfl rfl)))) ?_
          exact ih
        · refine tw_zeqT k130_43 (by decide) ?_
          refine tw_const k130_50 ?_
          refine tw_iadd k130_51 (v := ((pS (fun o => if M 127 (12 + o) = M 127 (12 + m) ∧ isA (M 127) o m then (1 : Int) else 0) 0 i) + (0 : Int))) rfl (by omega) ?_
          refine tw_istore k130_52 rfl (L' := [some (.inr (.inr (.inl 126))), some (.inl ((m : Nat) : Int)), some (.inl ((pS (fun o => if M 127 (12 + o) = M 127 (12 + m) ∧ isA (M 127) o m then (1 : Int) else 0) 0 i) + (0 : Int))), some (.inl ((i : Nat) : Int))]) rfl ?_
          refine tw_iinc k130_53 rfl (v := ((i + 1 : Nat) : Int)) rfl (by omega) rfl (L' := [some (.inr (.inr (.inl 126))), some (.inl ((m : Nat) : Int)), some (.inl ((pS (fun o => if M 127 (12 + o) = M 127 (12 + m) ∧ isA (M 127) o m then (1 : Int) else 0) 0 i) + (0 : Int))), some (.inl ((i + 1 : Nat) : Int))]) rfl ?_
          refine tw_goto k130_56 ?_
          refine tw_eqL (L' := [some (.inr (.inr (.inl 126))), some (.inl ((m : Nat) : Int)), some (.inl (pS (fun o => if M 127 (12 + o) = M 127 (12 + m) ∧ isA (M 127) o m then (1 : Int) else 0) 0 (i + 1))), some (.inl (((i + 1) : Nat) : Int))]) (e_c rfl (e_c rfl (e_c (e_i (by rw [pS]; (try dsimp only); rw [Nat.zero_add, if_neg (fun q => h40 q.2), Int.add_zero])) (e_c rfl rfl)))) ?_
          exact ih
  refine tw_const k130_0 ?_
  refine tw_istore k130_1 rfl (L' := [some (.inr (.inr (.inl 126))), some (.inl ((m : Nat) : Int)), some (.inl (0 : Int)), none]) rfl ?_
  refine tw_const k130_2 ?_
  refine tw_istore k130_3 rfl (L' := [some (.inr (.inr (.inl 126))), some (.inl ((m : Nat) : Int)), some (.inl (0 : Int)), some (.inl (0 : Int))]) rfl ?_
  refine tw_eqL (L' := [some (.inr (.inr (.inl 126))), some (.inl ((m : Nat) : Int)), some (.inl (pS (fun o => if M 127 (12 + o) = M 127 (12 + m) ∧ isA (M 127) o m then (1 : Int) else 0) 0 0)), some (.inl ((0 : Nat) : Int))]) (e_c rfl (e_c rfl (e_c (e_i rfl) (e_c rfl rfl)))) ?_
  exact key 0 (by omega)
theorem x_131 {K : mj_C} {d : Nat} {M : Nat → Nat → Int} {N : Nat → Nat → Int64} (hD : 2 ≤ d) (hs : pRg (M 127)) (y k : Int) : mj_X K d 131 [.inr (.inr (.inl 126)), .inl y, .inl k] (mj_Sh, M, N) (fun r Z => r = some (.inl (byM (M 127) y k)) ∧ Z = (mj_Sh, M, N)) := by
  show mj_T K d 131 0 [some (.inr (.inr (.inl 126))), some (.inl y), some (.inl k), none] [] (mj_Sh, M, N) _
  have h11 := hs.1 11 (by omega)
  have hc := hs.2.2.1
  have key : ∀ i : Nat, i ≤ (M 127 11).toNat → (∀ j, j < i → ¬ (M 127 (12 + j) = y ∧ mrt (M 127) j = k)) → mj_T K d 131 2 [some (.inr (.inr (.inl 126))), some (.inl y), some (.inl k), some (.inl ((i : Nat) : Int))] [] (mj_Sh, M, N) (fun r Z => r = some (.inl (byM (M 127) y k)) ∧ Z = (mj_Sh, M, N)) := by
    refine up_to (M 127 11).toNat ?_ ?_
    · show (∀ j, j < (M 127 11).toNat → ¬ (M 127 (12 + j) = y ∧ mrt (M 127) j = k)) → mj_T K d 131 2 [some (.inr (.inr (.inl 126))), some (.inl y), some (.inl k), some (.inl (((M 127 11).toNat : Nat) : Int))] [] (mj_Sh, M, N) (fun r Z => r = some (.inl (byM (M 127) y k)) ∧ Z = (mj_Sh, M, N))
      intro hN
      refine tw_iload k131_2 rfl ?_
      refine tw_aload k131_3 rfl ?_
      refine tw_getr k131_4 f126_0 ?_
      refine tw_const k131_7 ?_
      refine tw_iald (j := 11) (v := (M 127 11)) k131_9 al127 rfl (by decide) rfl ?_
      refine tw_cgeT k131_10 (by omega) ?_
      refine tw_const k131_43 ?_
      exact tw_ri k131_45 (⟨by unfold byM bmF; rw [pFd_no _ 0 (fun j _ hj => hN j (by omega)), if_neg (by omega)], rfl⟩)
    · intro i hmi ih
      have ih : (∀ j, j < (i + 1) → ¬ (M 127 (12 + j) = y ∧ mrt (M 127) j = k)) → mj_T K d 131 2 [some (.inr (.inr (.inl 126))), some (.inl y), some (.inl k), some (.inl (((i + 1) : Nat) : Int))] [] (mj_Sh, M, N) (fun r Z => r = some (.inl (byM (M 127) y k)) ∧ Z = (mj_Sh, M, N)) := ih
      show (∀ j, j < i → ¬ (M 127 (12 + j) = y ∧ mrt (M 127) j = k)) → mj_T K d 131 2 [some (.inr (.inr (.inl 126))), some (.inl y), some (.inl k), some (.inl ((i : Nat) : Int))] [] (mj_Sh, M, N) (fun r Z => r = some (.inl (byM (M 127) y k)) ∧ Z = (mj_Sh, M, N))
      intro hN
      refine tw_iload k131_2 rfl ?_
      refine tw_aload k131_3 rfl ?_
      refine tw_getr k131_4 f126_0 ?_
      refine tw_const k131_7 ?_
      refine tw_iald (j := 11) (v := (M 127 11)) k131_9 al127 rfl (by decide) rfl ?_
      refine tw_cgeF k131_10 (by omega) ?_
      refine tw_aload k131_13 rfl ?_
      refine tw_getr k131_14 f126_0 ?_
      refine tw_const k131_17 ?_
      refine tw_iload k131_19 rfl ?_
      refine tw_iadd k131_20 (v := ((12 + i : Nat) : Int)) rfl (by omega) ?_
      refine tw_iald (j := 12 + i) (v := (M 127 (12 + i))) k131_21 al127 rfl (by omega) rfl ?_
      refine tw_iload k131_22 rfl ?_
      refine tw_cne k131_23 (fun h23 => ?_) (fun h23 => ?_)
      · refine tw_iinc k131_37 rfl (v := ((i + 1 : Nat) : Int)) rfl (by omega) rfl (L' := [some (.inr (.inr (.inl 126))), some (.inl y), some (.inl k), some (.inl ((i + 1 : Nat) : Int))]) rfl ?_
        refine tw_goto k131_40 ?_
        exact ih (fun j hj => by
          by_cases e : j = i
          · subst e; intro hc; exact h23 hc.1
          · exact hN j (by omega))
      · refine tw_aload k131_26 rfl ?_
        refine tw_iload k131_27 rfl ?_
        refine tw_callp (v := .inl (mrt (M 127) i)) (by omega) (S' := []) (as := [.inr (.inr (.inl 126)), .inl ((i : Nat) : Int)]) k131_28 (x_130 (M := M) (N := N) (by omega) hs i (by omega)) rfl rfl rfl rfl rfl ?_
        refine tw_iload k131_31 rfl ?_
        refine tw_cne k131_32 (fun h32 => ?_) (fun h32 => ?_)
        · refine tw_iinc k131_37 rfl (v := ((i + 1 : Nat) : Int)) rfl (by omega) rfl (L' := [some (.inr (.inr (.inl 126))), some (.inl y), some (.inl k), some (.inl ((i + 1 : Nat) : Int))]) rfl ?_
          refine tw_goto k131_40 ?_
          exact ih (fun j hj => by
            by_cases e : j = i
            · subst e; intro hc; exact h32 hc.2
            · exact hN j (by omega))
        · refine tw_iload k131_35 rfl ?_
          exact tw_ri k131_36 (⟨by unfold byM bmF; rw [pFd_eq _ 0 i (by omega) (by omega) ⟨by omega, by omega⟩ (fun j _ hj => hN j hj), if_pos (by omega)], rfl⟩)
  refine tw_const k131_0 ?_
  refine tw_istore k131_1 rfl (L' := [some (.inr (.inr (.inl 126))), some (.inl y), some (.inl k), some (.inl (0 : Int))]) rfl ?_
  exact key 0 (by omega) (fun j hj => by omega)
theorem x_132 {K : mj_C} {d : Nat} {M : Nat → Nat → Int} {N : Nat → Nat → Int64} (hD : 3 ≤ d) (hs : pRg (M 127)) (us : Nat → Int) (hU : ∀ y, y < (M 127 0).toNat → M 133 y = us y ∧ 0 ≤ us y ∧ us y ≤ 100 ∧ us y ≤ M 127 (6 + y)) : mj_X K d 132 [.inr (.inr (.inl 126))] (mj_Sh, M, N) (fun r Z => r = none ∧ ∃ f1, Z = (mj_Sh, st M [(140, f1)], N) ∧ ∀ m : Nat, (m : Int) < M 127 11 → f1 m = wDn (M 127) us m) := by
  show mj_T K d 132 0 [some (.inr (.inr (.inl 126))), none, none, none, none] [] (mj_Sh, M, N) _
  have h0 := hs.1 0 (by omega)
  have h5 := hs.2.1
  have h11 := hs.1 11 (by omega)
  have hc := hs.2.2.1
  obtain ⟨Y, hYe⟩ : ∃ Y : Nat, Y = (M 127 0).toNat := ⟨_, rfl⟩
  have hY0 : M 127 0 = (Y : Int) := by omega
  have keyO : ∀ y : Nat, y ≤ Y → ∀ o2 o3 o4 f1, (∀ m : Nat, (m : Int) < M 127 11 → M 127 (12 + m) < ((y : Nat) : Int) → f1 m = wDn (M 127) us m) → mj_T K d 132 2 [some (.inr (.inr (.inl 126))), some (.inl ((y : Nat) : Int)), sv o2, sv o3, sv o4] [] (mj_Sh, (st M [(140, f1)]), N) (fun r Z => r = none ∧ ∃ f1, Z = (mj_Sh, st M [(140, f1)], N) ∧ ∀ m : Nat, (m : Int) < M 127 11 → f1 m = wDn (M 127) us m) := by
    refine up_to Y ?_ ?_
    · show ∀ o2 o3 o4 f1, (∀ m : Nat, (m : Int) < M 127 11 → M 127 (12 + m) < ((Y : Nat) : Int) → f1 m = wDn (M 127) us m) → mj_T K d 132 2 [some (.inr (.inr (.inl 126))), some (.inl ((Y : Nat) : Int)), sv o2, sv o3, sv o4] [] (mj_Sh, (st M [(140, f1)]), N) (fun r Z => r = none ∧ ∃ f1, Z = (mj_Sh, st M [(140, f1)], N) ∧ ∀ m : Nat, (m : Int) < M 127 11 → f1 m = wDn (M 127) us m)
      intro o2 o3 o4 f1 c1
      refine tw_iload k132_2 rfl ?_
      refine tw_aload k132_3 rfl ?_
      refine tw_getr k132_4 f126_0 ?_
      refine tw_const k132_7 ?_
      refine tw_iald (j := 0) (v := ((Y : Nat) : Int)) k132_8 al127 rfl (by decide) (show M 127 0 = _ from hY0) ?_
      refine tw_cgeT k132_9 (by omega) ?_
      exact tw_rv k132_91 (⟨rfl, f1, rfl, fun m hm => c1 m hm (by have := hs.2.2.2.1 m hm; omega)⟩)
    · intro y hmy ih
      have ih : ∀ o2 o3 o4 f1, (∀ m : Nat, (m : Int) < M 127 11 → M 127 (12 + m) < (((y + 1) : Nat) : Int) → f1 m = wDn (M 127) us m) → mj_T K d 132 2 [some (.inr (.inr (.inl 126))), some (.inl (((y + 1) : Nat) : Int)), sv o2, sv o3, sv o4] [] (mj_Sh, (st M [(140, f1)]), N) (fun r Z => r = none ∧ ∃ f1, Z = (mj_Sh, st M [(140, f1)], N) ∧ ∀ m : Nat, (m : Int) < M 127 11 → f1 m = wDn (M 127) us m) := ih
      show ∀ o2 o3 o4 f1, (∀ m : Nat, (m : Int) < M 127 11 → M 127 (12 + m) < ((y : Nat) : Int) → f1 m = wDn (M 127) us m) → mj_T K d 132 2 [some (.inr (.inr (.inl 126))), some (.inl ((y : Nat) : Int)), sv o2, sv o3, sv o4] [] (mj_Sh, (st M [(140, f1)]), N) (fun r Z => r = none ∧ ∃ f1, Z = (mj_Sh, st M [(140, f1)], N) ∧ ∀ m : Nat, (m : Int) < M 127 11 → f1 m = wDn (M 127) us m)
      intro o2 o3 o4 f1 c1
      have ihy := ih
      have hu := hU y (by omega)
      have h6 := hs.1 (6 + y) (by omega)
      have keyI : ∀ k : Nat, k ≤ 11 → ∀ o4 f1, (∀ m : Nat, (m : Int) < M 127 11 → (M 127 (12 + m) < (y : Int) ∨ M 127 (12 + m) = (y : Int) ∧ mrt (M 127) m < ((k : Nat) : Int)) → f1 m = wDn (M 127) us m) → mj_T K d 132 31 [some (.inr (.inr (.inl 126))), some (.inl ((y : Nat) : Int)), some (.inl (max 0 ((M 127 (6 + y) - us y) - mT (M 127) (y : Int) (k : Nat)))), some (.inl ((k : Nat) : Int)), sv o4] [] (mj_Sh, (st M [(140, f1)]), N) (fun r Z => r = none ∧ ∃ f1, Z = (mj_Sh, st M [(140, f1)], N) ∧ ∀ m : Nat, (m : Int) < M 127 11 → f1 m = wDn (M 127) us m) := by
        refine up_to 11 ?_ ?_
        · show ∀ o4 f1, (∀ m : Nat, (m : Int) < M 127 11 → (M 127 (12 + m) < (y : Int) ∨ M 127 (12 + m) = (y : Int) ∧ mrt (M 127) m < ((11 : Nat) : Int)) → f1 m = wDn (M 127) us m) → mj_T K d 132 31 [some (.inr (.inr (.inl 126))), some (.inl ((y : Nat) : Int)), some (.inl (max 0 ((M 127 (6 + y) - us y) - mT (M 127) (y : Int) (11 : Nat)))), some (.inl ((11 : Nat) : Int)), sv o4] [] (mj_Sh, (st M [(140, f1)]), N) (fun r Z => r = none ∧ ∃ f1, Z = (mj_Sh, st M [(140, f1)], N) ∧ ∀ m : Nat, (m : Int) < M 127 11 → f1 m = wDn (M 127) us m)
          intro o4 f1 c1
          have hno : ¬ bmF (M 127) (y : Int) ((11 : Nat) : Int) < (M 127 11).toNat := fun q => by have := (bmF_sp q).2; have := mrt_rg hs (bmF (M 127) (y : Int) ((11 : Nat) : Int)); omega
          have hb5 : byM (M 127) (y : Int) ((11 : Nat) : Int) = -5 := by unfold byM; rw [if_neg hno]
          refine tw_aload k132_31 rfl ?_
          refine tw_iload k132_32 rfl ?_
          refine tw_iload k132_33 rfl ?_
          refine tw_callp (v := .inl (byM (M 127) (y : Int) ((11 : Nat) : Int))) (by omega) (S' := []) (as := [.inr (.inr (.inl 126)), .inl ((y : Nat) : Int), .inl ((11 : Nat) : Int)]) k132_34 (x_131 (M := (st M [(140, f1)])) (N := N) (by omega) hs (y : Int) (((11 : Nat) : Int) : Int)) rfl rfl rfl rfl rfl ?_
          refine tw_zltT k132_37 (by omega) ?_
          refine tw_iinc k132_85 rfl (v := ((y + 1 : Nat) : Int)) rfl (by omega) rfl (L' := [some (.inr (.inr (.inl 126))), some (.inl ((y + 1 : Nat) : Int)), some (.inl (max 0 ((M 127 (6 + y) - us y) - mT (M 127) (y : Int) (11 : Nat)))), some (.inl ((11 : Nat) : Int)), sv o4]) rfl ?_
          refine tw_goto k132_88 ?_
          have hno : ¬ bmF (M 127) (y : Int) ((11 : Nat) : Int) < (M 127 11).toNat := fun q => hno q
          exact ihy (some (.inl _)) (some (.inl _)) _ _ (fun m hm ho => by
            by_cases e : M 127 (12 + m) = (y : Int)
            · refine c1 m hm (Or.inr ⟨e, ?_⟩)
              by_cases e2 : mrt (M 127) m < ((11 : Nat) : Int)
              · exact e2
              · exfalso
                by_cases e3 : mrt (M 127) m = ((11 : Nat) : Int)
                · exact bmF_no hno hm ⟨e, e3⟩
                · obtain ⟨q, q1, q2, q3⟩ := mrt_gap hm (show ((11 : Nat) : Int) < mrt (M 127) m by omega)
                  exact bmF_no hno q1 ⟨by rw [q2, e], q3⟩
            · exact c1 m hm (Or.inl (by omega)))
        · intro k hmk ih
          have ih : ∀ o4 f1, (∀ m : Nat, (m : Int) < M 127 11 → (M 127 (12 + m) < (y : Int) ∨ M 127 (12 + m) = (y : Int) ∧ mrt (M 127) m < (((k + 1) : Nat) : Int)) → f1 m = wDn (M 127) us m) → mj_T K d 132 31 [some (.inr (.inr (.inl 126))), some (.inl ((y : Nat) : Int)), some (.inl (max 0 ((M 127 (6 + y) - us y) - mT (M 127) (y : Int) ((k + 1) : Nat)))), some (.inl (((k + 1) : Nat) : Int)), sv o4] [] (mj_Sh, (st M [(140, f1)]), N) (fun r Z => r = none ∧ ∃ f1, Z = (mj_Sh, st M [(140, f1)], N) ∧ ∀ m : Nat, (m : Int) < M 127 11 → f1 m = wDn (M 127) us m) := ih
          show ∀ o4 f1, (∀ m : Nat, (m : Int) < M 127 11 → (M 127 (12 + m) < (y : Int) ∨ M 127 (12 + m) = (y : Int) ∧ mrt (M 127) m < ((k : Nat) : Int)) → f1 m = wDn (M 127) us m) → mj_T K d 132 31 [some (.inr (.inr (.inl 126))), some (.inl ((y : Nat) : Int)), some (.inl (max 0 ((M 127 (6 + y) - us y) - mT (M 127) (y : Int) (k : Nat)))), some (.inl ((k : Nat) : Int)), sv o4] [] (mj_Sh, (st M [(140, f1)]), N) (fun r Z => r = none ∧ ∃ f1, Z = (mj_Sh, st M [(140, f1)], N) ∧ ∀ m : Nat, (m : Int) < M 127 11 → f1 m = wDn (M 127) us m)
          intro o4 f1 c1
          refine tw_aload k132_31 rfl ?_
          refine tw_iload k132_32 rfl ?_
          refine tw_iload k132_33 rfl ?_
          refine tw_callp (v := .inl (byM (M 127) (y : Int) ((k : Nat) : Int))) (by omega) (S' := []) (as := [.inr (.inr (.inl 126)), .inl ((y : Nat) : Int), .inl ((k : Nat) : Int)]) k132_34 (x_131 (M := (st M [(140, f1)])) (N := N) (by omega) hs (y : Int) (((k : Nat) : Int) : Int)) rfl rfl rfl rfl rfl ?_
          refine tw_zlt k132_37 (fun h37 => ?_) (fun h37 => ?_)
          · refine tw_iinc k132_85 rfl (v := ((y + 1 : Nat) : Int)) rfl (by omega) rfl (L' := [some (.inr (.inr (.inl 126))), some (.inl ((y + 1 : Nat) : Int)), some (.inl (max 0 ((M 127 (6 + y) - us y) - mT (M 127) (y : Int) (k : Nat)))), some (.inl ((k : Nat) : Int)), sv o4]) rfl ?_
            refine tw_goto k132_88 ?_
            have hno : ¬ bmF (M 127) (y : Int) ((k : Nat) : Int) < (M 127 11).toNat := fun q => by unfold byM at h37; rw [if_pos q] at h37; omega
            exact ihy (some (.inl _)) (some (.inl _)) _ _ (fun m hm ho => by
              by_cases e : M 127 (12 + m) = (y : Int)
              · refine c1 m hm (Or.inr ⟨e, ?_⟩)
                by_cases e2 : mrt (M 127) m < ((k : Nat) : Int)
                · exact e2
                · exfalso
                  by_cases e3 : mrt (M 127) m = ((k : Nat) : Int)
                  · exact bmF_no hno hm ⟨e, e3⟩
                  · obtain ⟨q, q1, q2, q3⟩ := mrt_gap hm (show ((k : Nat) : Int) < mrt (M 127) m by omega)
                    exact bmF_no hno q1 ⟨by rw [q2, e], q3⟩
              · exact c1 m hm (Or.inl (by omega)))
          · have hyes : bmF (M 127) (y : Int) ((k : Nat) : Int) < (M 127 11).toNat := by
              by_cases q : bmF (M 127) (y : Int) ((k : Nat) : Int) < (M 127 11).toNat
              · exact q
              · unfold byM at h37; rw [if_neg q] at h37; omega
            have hbm : byM (M 127) (y : Int) ((k : Nat) : Int) = ((bmF (M 127) (y : Int) ((k : Nat) : Int) : Nat) : Int) := by unfold byM; rw [if_pos hyes]
            obtain ⟨hm2, hm3⟩ := bmF_sp hyes
            obtain ⟨m, hme⟩ : ∃ m : Nat, m = bmF (M 127) (y : Int) ((k : Nat) : Int) := ⟨_, rfl⟩
            rw [← hme] at hyes hbm hm2 hm3
            have hm1 : (m : Int) < M 127 11 := by omega
            have hmu := hs.1 (32 + m) (by omega)
            have hT := mT_rg hs (y : Int) ((k : Nat) : Int)
            have hdn : min (max 0 ((M 127 (6 + y) - us y) - mT (M 127) (y : Int) (k : Nat))) (M 127 (32 + m)) = wDn (M 127) us m := by
              unfold wDn; rw [mT_ah hm1, hm2, hm3]; have e : ((y : Nat) : Int).toNat = y := by omega
              rw [e]; omega
            have hrest : (max 0 ((M 127 (6 + y) - us y) - mT (M 127) (y : Int) (k : Nat))) - wDn (M 127) us m = (max 0 ((M 127 (6 + y) - us y) - mT (M 127) (y : Int) ((k + 1) : Nat))) := by
              rw [← hdn]; have e : (((k + 1) : Nat) : Int) = ((k : Nat) : Int) + 1 := by omega
              rw [e, mT_s hm1 hm2 hm3]; omega
            have hdr : -10 ≤ wDn (M 127) us m ∧ wDn (M 127) us m ≤ 1000 := by rw [← hdn]; omega
            refine tw_aload k132_40 rfl ?_
            refine tw_iload k132_41 rfl ?_
            refine tw_iload k132_42 rfl ?_
            refine tw_callp (v := .inl (byM (M 127) (y : Int) ((k : Nat) : Int))) (by omega) (S' := []) (as := [.inr (.inr (.inl 126)), .inl ((y : Nat) : Int), .inl ((k : Nat) : Int)]) k132_43 (x_131 (M := (st M [(140, f1)])) (N := N) (by omega) hs (y : Int) ((k : Nat) : Int)) rfl rfl rfl rfl rfl ?_
            refine tw_eqS (S' := [.inl ((m : Nat) : Int)]) (e_c (congrArg Sum.inl hbm) rfl) ?_
            refine tw_istore k132_46 rfl (L' := [some (.inr (.inr (.inl 126))), some (.inl ((y : Nat) : Int)), some (.inl (max 0 ((M 127 (6 + y) - us y) - mT (M 127) (y : Int) (k : Nat)))), some (.inl ((k : Nat) : Int)), some (.inl ((m : Nat) : Int))]) rfl ?_
            refine tw_aload k132_48 rfl ?_
            refine tw_getr k132_49 f126_14 ?_
            refine tw_iload k132_52 rfl ?_
            refine tw_iload k132_54 rfl ?_
            refine tw_aload k132_55 rfl ?_
            refine tw_getr k132_56 f126_0 ?_
            refine tw_const k132_59 ?_
            refine tw_iload k132_61 rfl ?_
            refine tw_iadd k132_63 (v := ((32 + m : Nat) : Int)) rfl (by omega) ?_
            refine tw_iald (j := 32 + m) (v := (M 127 (32 + m))) k132_64 al127 rfl (by omega) rfl ?_
            refine tw_min k132_65 rfl ?_
            refine tw_eqS (S' := [.inl (wDn (M 127) us m), .inl ((m : Nat) : Int), .inr (.inr (.inl 140))]) (e_c (congrArg Sum.inl hdn) rfl) ?_
            refine tw_iast (M := M) (N := N) (l := [(140, f1)]) (l' := [(140, (pU f1 m (wDn (M 127) us m)))]) (j := m) k132_68 al140 rfl (by omega) rfl ?_
            refine tw_iload k132_69 rfl ?_
            refine tw_aload k132_70 rfl ?_
            refine tw_getr k132_71 f126_14 ?_
            refine tw_iload k132_74 rfl ?_
            refine tw_iald (j := m) (v := (wDn (M 127) us m)) k132_76 al140 rfl (by omega) (show (pU f1 m (wDn (M 127) us m)) m = _ from pU_eq) ?_
            refine tw_isub k132_77 (v := ((max 0 ((M 127 (6 + y) - us y) - mT (M 127) (y : Int) (k : Nat))) - (wDn (M 127) us m))) rfl (by omega) ?_
            refine tw_istore k132_78 rfl (L' := [some (.inr (.inr (.inl 126))), some (.inl ((y : Nat) : Int)), some (.inl ((max 0 ((M 127 (6 + y) - us y) - mT (M 127) (y : Int) (k : Nat))) - (wDn (M 127) us m))), some (.inl ((k : Nat) : Int)), some (.inl ((m : Nat) : Int))]) rfl ?_
            refine tw_iinc k132_79 rfl (v := ((k + 1 : Nat) : Int)) rfl (by omega) rfl (L' := [some (.inr (.inr (.inl 126))), some (.inl ((y : Nat) : Int)), some (.inl ((max 0 ((M 127 (6 + y) - us y) - mT (M 127) (y : Int) (k : Nat))) - (wDn (M 127) us m))), some (.inl ((k + 1 : Nat) : Int)), some (.inl ((m : Nat) : Int))]) rfl ?_
            refine tw_goto k132_82 ?_
            refine tw_eqL (L' := [some (.inr (.inr (.inl 126))), some (.inl ((y : Nat) : Int)), some (.inl (max 0 ((M 127 (6 + y) - us y) - mT (M 127) (y : Int) ((k + 1) : Nat)))), some (.inl (((k + 1) : Nat) : Int)), sv (some (.inl ((m : Nat) : Int)))]) (e_c rfl (e_c rfl (e_c (e_i hrest) (e_c rfl (e_c rfl rfl))))) ?_
            exact ih _ _ (fun q hq hqo => by
              by_cases e : q = m
              · subst e; rw [pU_eq]
              · rw [pU_ne e]
                refine c1 q hq ?_
                rcases hqo with h | ⟨h, h2⟩
                · exact Or.inl h
                · refine Or.inr ⟨h, ?_⟩
                  by_cases e3 : mrt (M 127) q = ((k : Nat) : Int)
                  · exact absurd (mrt_inj hm1 hq (by rw [h, hm2]) (by rw [e3, hm3])) e
                  · omega)
      refine tw_iload k132_2 rfl ?_
      refine tw_aload k132_3 rfl ?_
      refine tw_getr k132_4 f126_0 ?_
      refine tw_const k132_7 ?_
      refine tw_iald (j := 0) (v := ((Y : Nat) : Int)) k132_8 al127 rfl (by decide) (show M 127 0 = _ from hY0) ?_
      refine tw_cgeF k132_9 (by omega) ?_
      refine tw_aload k132_12 rfl ?_
      refine tw_getr k132_13 f126_0 ?_
      refine tw_const k132_16 ?_
      refine tw_iload k132_18 rfl ?_
      refine tw_iadd k132_19 (v := ((6 + y : Nat) : Int)) rfl (by omega) ?_
      refine tw_iald (j := 6 + y) (v := (M 127 (6 + y))) k132_20 al127 rfl (by omega) rfl ?_
      refine tw_aload k132_21 rfl ?_
      refine tw_getr k132_22 f126_7 ?_
      refine tw_iload k132_25 rfl ?_
      refine tw_iald (j := y) (v := (us y)) k132_26 al133 rfl (by omega) (show M 133 y = _ from (hU y (by omega)).1) ?_
      refine tw_isub k132_27 (v := ((M 127 (6 + y)) - (us y))) rfl (by omega) ?_
      refine tw_istore k132_28 rfl (L' := [some (.inr (.inr (.inl 126))), some (.inl ((y : Nat) : Int)), some (.inl ((M 127 (6 + y)) - (us y))), sv o3, sv o4]) rfl ?_
      refine tw_const k132_29 ?_
      refine tw_istore k132_30 rfl (L' := [some (.inr (.inr (.inl 126))), some (.inl ((y : Nat) : Int)), some (.inl ((M 127 (6 + y)) - (us y))), some (.inl (0 : Int)), sv o4]) rfl ?_
      refine tw_eqL (L' := [some (.inr (.inr (.inl 126))), some (.inl ((y : Nat) : Int)), some (.inl (max 0 ((M 127 (6 + y) - us y) - mT (M 127) (y : Int) (0 : Nat)))), some (.inl ((0 : Nat) : Int)), sv o4]) (e_c rfl (e_c rfl (e_c (e_i (by have := mT_0 hs (y := (y : Int)); have e : ((0 : Nat) : Int) = 0 := rfl; rw [e, this]; omega)) (e_c rfl (e_c rfl rfl))))) ?_
      exact keyI 0 (by omega) _ _ (fun m hm ho => c1 m hm (by have := mrt_rg hs m; omega))
  refine tw_const k132_0 ?_
  refine tw_istore k132_1 rfl (L' := [some (.inr (.inr (.inl 126))), some (.inl (0 : Int)), none, none, none]) rfl ?_
  refine tw_pad (M := M) (N := N) (l := []) (l' := [(140, M 140)]) [140] rfl ?_
  exact keyO 0 (by omega) none none none _ (fun m hm ho => by have := hs.1 (12 + m) (by omega); omega)
