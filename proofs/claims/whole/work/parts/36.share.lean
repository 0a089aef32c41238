-- the class: permits used, shared, measures done; all worked out
def tt (s dn : Nat → Int) (base : Int) : Nat → Int64
  | 0 => (Int64.ofInt 20) * ((Int32.ofInt base).toInt64)
  | m + 1 => tt s dn base m + ((Int32.ofInt (dn m)).toInt64) * ((Int32.ofInt (s (22 + m))).toInt64)
def wDv (s : Nat → Int) : Nat → Int := wDn s (wU s (wB s).1 (wG s))
def wSh (s : Nat → Int) : Int := pS (wLk s (wB s).1 (wG s)) 0 (wG s).1
def wTt (s : Nat → Int) : Int64 := tt s (wDv s) (wSh s) (s 11).toNat
def cPV (b : Nat) (M : Nat → Nat → Int) (N : Nat → Nat → Int64) (s : Nat → Int) : Prop := cPl b M s (wB s) ∧ (∀ y, y < (s 0).toNat → M (b + 15) y = ((gOf (wG s) y : Nat) : Int) ∧ M (b + 16) y = wU s (wB s).1 (wG s) y ∧ M (b + 17) y = wBk s (wB s).1 (wG s) y) ∧ (∀ g, g < (wG s).1 → M (b + 18) g = wLk s (wB s).1 (wG s) g) ∧ (∀ m : Nat, (m : Int) < s 11 → M (b + 19) m = wDv s m) ∧ (∀ i j, i ≤ j → j < (s 0).toNat → M (b + 21 + i) j = wFl s (wB s).1 (wG s) i j) ∧ N b 16 = wTt s
theorem wLk_rg {s perm : Nat → Int} (hs : pRg s) {G : GS} (hO : gOk (s 0).toNat G) (hB : ∀ y, y < 5 → 0 ≤ perm y ∧ perm y ≤ 1000) {g : Nat} (hg : g < G.1) : 0 ≤ wLk s perm G g ∧ wLk s perm G g ≤ 5000 := by
  have h5 := hs.2.1
  have a1 := hO.2.1 g hg
  have hr := pS_rg2 (f := fun k => perm k - wU s perm G k) (a := G.2.1 g) (A := 100) (B := 1000) (G.2.2.1 g + 1 - G.2.1 g) (fun k h1 h2 => by
    have := hB k (by omega)
    have := wU_rg hs (by omega) hO (fun y hy => (hB y hy).1) (y := k) (by omega)
    show _ ≤ perm k - wU s perm G k ∧ perm k - wU s perm G k ≤ _
    omega)
  unfold wLk
  omega
theorem wDn_rg {s us : Nat → Int} (hs : pRg s) {m : Nat} (hm : m < 10) : 0 ≤ wDn s us m ∧ wDn s us m ≤ 100 := by
  have := hs.1 (32 + m) (by omega)
  unfold wDn
  omega
theorem st1_u {α : Type} {M : Nat → Nat → α} {q j c f : Nat} {v w : α} (h : q ≠ c) : st (mj_u M q j v) [(c, pU ((mj_u M q j v) c) f w)] c = pU (M c) f w ∧ st (mj_u M q j v) [(c, pU ((mj_u M q j v) c) f w)] q = pU (M q) j v ∧ ∀ x, x ≠ c → x ≠ q → st (mj_u M q j v) [(c, pU ((mj_u M q j v) c) f w)] x = M x := by
  refine ⟨?_, ?_, fun x h1 h2 => ?_⟩
  · rw [st_c, if_pos rfl, tu_row (Ne.symm h)]
  · rw [st_c, if_neg h, st_nil]
    funext k
    unfold mj_u pU
    by_cases e : k = j
    · rw [if_pos ⟨rfl, e⟩, if_pos e]
    · rw [if_neg (fun q => e q.2), if_neg e]
  · rw [st_c, if_neg h1, st_nil, tu_row h2]
theorem fFl_e {fst : Nat → Nat} {us perm : Nat → Int} {i j a : Nat} (h : fst j = a) : fFl fst us perm i j = if a ≤ i ∧ i ≤ j then min (fWn (fLf fst us perm j) a (us j) (i - a)) (fLf fst us perm j i) else 0 := by subst h; rfl
theorem fLf_e {fst : Nat → Nat} {us perm : Nat → Int} {i j a : Nat} (h : fst j = a) : fLf fst us perm (j + 1) i = if a ≤ i ∧ i ≤ j then fLf fst us perm j i - fFl fst us perm i j else fLf fst us perm j i := by
  subst h
  rw [fLf_s]
  by_cases e : fst j ≤ i ∧ i ≤ j
  · rw [if_pos e, if_pos e, fFl, if_pos e]
  · rw [if_neg e, if_neg e]
theorem x_28_35 {K : mj_C} {d : Nat} {M : Nat → Nat → Int} {N : Nat → Nat → Int64} (hD : 2 ≤ d) (s : Nat → Int) (hs : pRg s) (G : GS) (hO : gOk (s 0).toNat G) (hG : gRel (M 44 3) (M 45) (M 46) (M 47) G) (perm : Nat → Int) (hP : ∀ y, y < (s 0).toNat → M 48 y = perm y) (hB : ∀ y, y < 5 → 0 ≤ perm y ∧ perm y ≤ 1000) (hDm : dM 38 M s) (g : Nat) (hg : g < G.1) (hp20 : G.2.2.2 g ≤ 20) : mj_X K d 28 [.inr (.inr (.inl 35)), .inl ((g : Nat) : Int)] (mj_Sh, M, N) (fun r Z => r = none ∧ ∃ f1 f2 f3, Z = (mj_Sh, st M [(50, f3), (51, f1), (52, f2), (53, pU (M 53) g (wLk s perm G g))], N) ∧ (∀ y, G.2.1 g ≤ y → y ≤ G.2.2.1 g → f1 y = wU s perm G y ∧ f2 y = wBk s perm G y ∧ f3 y = (g : Int)) ∧ (∀ y, ¬ (G.2.1 g ≤ y ∧ y ≤ G.2.2.1 g) → f1 y = M 51 y ∧ f2 y = M 52 y ∧ f3 y = M 50 y)) := by
  show mj_T K d 28 0 [some (.inr (.inr (.inl 35))), some (.inl ((g : Nat) : Int)), none, none, none, none, none, none, none] [] (mj_Sh, M, N) _
  have h0 := hs.1 0 (by omega)
  have h5 := hs.2.1
  have hO' := hO
  obtain ⟨hO1, hO2, hO3, hO4, hO5⟩ := hO
  have a1 := hO2 g hg
  have hPs := pS_rg (f := perm) (a := G.2.1 g) (B := 1000) (G.2.2.1 g + 1 - G.2.1 g) (fun i h1 h2 => hB i (by omega))
  obtain ⟨a, ha⟩ : ∃ a, a = G.2.1 g := ⟨_, rfl⟩
  obtain ⟨l, hl⟩ : ∃ l, l = G.2.2.1 g := ⟨_, rfl⟩
  obtain ⟨p, hp⟩ : ∃ p, p = G.2.2.2 g := ⟨_, rfl⟩
  rw [← ha, ← hl] at hPs a1
  rw [← hp] at hp20
  simp only [← ha, ← hl]
  have hUe : ∀ y, a ≤ y → y ≤ l → wU s perm G y = uUs s perm a l p y := by
    intro y h1 h2; rw [ha] at h1; rw [hl] at h2; rw [wU_eq hO' hg h1 h2, ha, hl, hp]
  have hUr : ∀ y, a ≤ y → y ≤ l → 0 ≤ wU s perm G y ∧ wU s perm G y ≤ 100 := by
    intro y h1 h2; have := uUs_rg hs (perm := perm) (p := p) (a := a) (l := l) (y := y) (by omega) (fun k _ _ => (hB k (by omega)).1) h1 h2; rw [hUe y h1 h2]; omega
  have hgO : ∀ y, a ≤ y → y ≤ l → gOf G y = g := by
    intro y h1 h2; rw [ha] at h1; rw [hl] at h2; exact gOf_eq hO' hg h1 h2
  have hk1 : M 45 g = (a : Int) := by rw [ha]; exact (hG.2 g hg).1
  have hk2 : M 46 g = (l : Int) := by rw [hl]; exact (hG.2 g hg).2.1
  have hk3 : M 47 g = (p : Int) := by rw [hp]; exact (hG.2 g hg).2.2
  have hHi := pS_rg (f := fun y => pEm s y ((p : Nat) : Int)) (a := a) (B := 100) (l + 1 - a) (fun k h1 h2 => pEm_rg hs (by omega) _)
  have keyB : ∀ i : Nat, i ≤ (l + 1 - a) → ∀ o8 (f1 f2 f3 : Nat → Int), (∀ y, a ≤ y → y < a + i → f1 y = wU s perm G y ∧ f2 y = wBk s perm G y ∧ f3 y = (g : Int)) → (∀ y, ¬ (a ≤ y ∧ y < a + i) → f1 y = M 51 y ∧ f2 y = M 52 y ∧ f3 y = M 50 y) → mj_T K d 28 67 [some (.inr (.inr (.inl 35))), some (.inl ((g : Nat) : Int)), some (.inl ((a : Nat) : Int)), some (.inl ((l : Nat) : Int)), some (.inl ((p : Nat) : Int)), some (.inl (uSp s perm a l p i)), some (.inl (pS (fun k => perm k - wU s perm G k) a i)), some (.inl (((a + i) : Nat) : Int)), sv o8] [] (mj_Sh, (st M [(50, f3), (51, f1), (52, f2)]), N) (fun r Z => r = none ∧ ∃ f1 f2 f3, Z = (mj_Sh, st M [(50, f3), (51, f1), (52, f2), (53, pU (M 53) g (wLk s perm G g))], N) ∧ (∀ y, a ≤ y → y ≤ l → f1 y = wU s perm G y ∧ f2 y = wBk s perm G y ∧ f3 y = (g : Int)) ∧ (∀ y, ¬ (a ≤ y ∧ y ≤ l) → f1 y = M 51 y ∧ f2 y = M 52 y ∧ f3 y = M 50 y)) := by
    refine up_to (l + 1 - a) ?_ ?_
    · show ∀ o8 (f1 f2 f3 : Nat → Int), (∀ y, a ≤ y → y < a + (l + 1 - a) → f1 y = wU s perm G y ∧ f2 y = wBk s perm G y ∧ f3 y = (g : Int)) → (∀ y, ¬ (a ≤ y ∧ y < a + (l + 1 - a)) → f1 y = M 51 y ∧ f2 y = M 52 y ∧ f3 y = M 50 y) → mj_T K d 28 67 [some (.inr (.inr (.inl 35))), some (.inl ((g : Nat) : Int)), some (.inl ((a : Nat) : Int)), some (.inl ((l : Nat) : Int)), some (.inl ((p : Nat) : Int)), some (.inl (uSp s perm a l p (l + 1 - a))), some (.inl (pS (fun k => perm k - wU s perm G k) a (l + 1 - a))), some (.inl (((a + (l + 1 - a)) : Nat) : Int)), sv o8] [] (mj_Sh, (st M [(50, f3), (51, f1), (52, f2)]), N) (fun r Z => r = none ∧ ∃ f1 f2 f3, Z = (mj_Sh, st M [(50, f3), (51, f1), (52, f2), (53, pU (M 53) g (wLk s perm G g))], N) ∧ (∀ y, a ≤ y → y ≤ l → f1 y = wU s perm G y ∧ f2 y = wBk s perm G y ∧ f3 y = (g : Int)) ∧ (∀ y, ¬ (a ≤ y ∧ y ≤ l) → f1 y = M 51 y ∧ f2 y = M 52 y ∧ f3 y = M 50 y))
      intro o8 f1 f2 f3 c1 c2
      have hr1 := pS_rg2 (f := fun k => perm k - wU s perm G k) (a := a) (A := 100) (B := 1000) (l + 1 - a) (fun k h1 h2 => by have := hB k (by omega); have := hUr k h1 (by omega); show _ ≤ perm k - wU s perm G k ∧ perm k - wU s perm G k ≤ _; omega)
      refine tw_iload k28_67 rfl ?_
      refine tw_iload k28_69 rfl ?_
      refine tw_cgtT k28_70 (by omega) ?_
      refine tw_aload k28_178 rfl ?_
      refine tw_getr k28_179 f35_7 ?_
      refine tw_iload k28_182 rfl ?_
      refine tw_const k28_183 ?_
      refine tw_iload k28_184 rfl ?_
      refine tw_ineg k28_186 (v := (-(pS (fun k => perm k - wU s perm G k) a (l + 1 - a)))) rfl (by omega) ?_
      refine tw_max k28_187 rfl ?_
      refine tw_iast (M := M) (N := N) (l := [(50, f3), (51, f1), (52, f2)]) (l' := [(50, f3), (51, f1), (52, f2), (53, (pU (M 53) g (max (0 : Int) (-(pS (fun k => perm k - wU s perm G k) a (l + 1 - a))))))]) (j := g) k28_190 al53 rfl (by omega) rfl ?_
      exact tw_rv k28_191 (⟨rfl, f1, f2, f3, by unfold wLk; rw [← ha, ← hl], fun y h1 h2 => c1 y h1 (by omega), fun y h => c2 y (by omega)⟩)
    · intro i hmi ih
      have ih : ∀ o8 (f1 f2 f3 : Nat → Int), (∀ y, a ≤ y → y < a + (i + 1) → f1 y = wU s perm G y ∧ f2 y = wBk s perm G y ∧ f3 y = (g : Int)) → (∀ y, ¬ (a ≤ y ∧ y < a + (i + 1)) → f1 y = M 51 y ∧ f2 y = M 52 y ∧ f3 y = M 50 y) → mj_T K d 28 67 [some (.inr (.inr (.inl 35))), some (.inl ((g : Nat) : Int)), some (.inl ((a : Nat) : Int)), some (.inl ((l : Nat) : Int)), some (.inl ((p : Nat) : Int)), some (.inl (uSp s perm a l p (i + 1))), some (.inl (pS (fun k => perm k - wU s perm G k) a (i + 1))), some (.inl (((a + (i + 1)) : Nat) : Int)), sv o8] [] (mj_Sh, (st M [(50, f3), (51, f1), (52, f2)]), N) (fun r Z => r = none ∧ ∃ f1 f2 f3, Z = (mj_Sh, st M [(50, f3), (51, f1), (52, f2), (53, pU (M 53) g (wLk s perm G g))], N) ∧ (∀ y, a ≤ y → y ≤ l → f1 y = wU s perm G y ∧ f2 y = wBk s perm G y ∧ f3 y = (g : Int)) ∧ (∀ y, ¬ (a ≤ y ∧ y ≤ l) → f1 y = M 51 y ∧ f2 y = M 52 y ∧ f3 y = M 50 y)) := ih
      show ∀ o8 (f1 f2 f3 : Nat → Int), (∀ y, a ≤ y → y < a + i → f1 y = wU s perm G y ∧ f2 y = wBk s perm G y ∧ f3 y = (g : Int)) → (∀ y, ¬ (a ≤ y ∧ y < a + i) → f1 y = M 51 y ∧ f2 y = M 52 y ∧ f3 y = M 50 y) → mj_T K d 28 67 [some (.inr (.inr (.inl 35))), some (.inl ((g : Nat) : Int)), some (.inl ((a : Nat) : Int)), some (.inl ((l : Nat) : Int)), some (.inl ((p : Nat) : Int)), some (.inl (uSp s perm a l p i)), some (.inl (pS (fun k => perm k - wU s perm G k) a i)), some (.inl (((a + i) : Nat) : Int)), sv o8] [] (mj_Sh, (st M [(50, f3), (51, f1), (52, f2)]), N) (fun r Z => r = none ∧ ∃ f1 f2 f3, Z = (mj_Sh, st M [(50, f3), (51, f1), (52, f2), (53, pU (M 53) g (wLk s perm G g))], N) ∧ (∀ y, a ≤ y → y ≤ l → f1 y = wU s perm G y ∧ f2 y = wBk s perm G y ∧ f3 y = (g : Int)) ∧ (∀ y, ¬ (a ≤ y ∧ y ≤ l) → f1 y = M 51 y ∧ f2 y = M 52 y ∧ f3 y = M 50 y))
      intro o8 f1 f2 f3 c1 c2
      have hr1 := pS_rg2 (f := fun k => perm k - wU s perm G k) (a := a) (A := 100) (B := 1000) i (fun k h1 h2 => by have := hB k (by omega); have := hUr k h1 (by omega); show _ ≤ perm k - wU s perm G k ∧ perm k - wU s perm G k ≤ _; omega)
      have hr2 := uSp_rg hs (perm := perm) (p := p) (a := a) (l := l) (by omega) (fun k _ _ => (hB k (by omega)).1) i (by omega)
      have hr3 := pEm_rg hs (y := a + i) (by omega) (p : Int)
      have hr4 := pEm_rg hs (y := a + i) (by omega) ((p + 1 : Nat) : Int)
      have hr5 := hUr (a + i) (by omega) (by omega)
      have hr6 := hB (a + i) (by omega)
      have hue : max (pLo s p (a + i)) (pEm s (a + i) (p : Int) - uSp s perm a l p i) = wU s perm G (a + i) := by
        rw [hUe _ (by omega) (by omega)]; unfold uUs; rw [Nat.add_sub_cancel_left]
      have hsp : uSp s perm a l p i - (pEm s (a + i) (p : Int) - wU s perm G (a + i)) = uSp s perm a l p (i + 1) := by rw [← hue]; rfl
      have hbk : max 0 (pS (fun k => perm k - wU s perm G k) a i + (perm (a + i) - wU s perm G (a + i))) = wBk s perm G (a + i) := by
        unfold wBk; rw [hgO _ (by omega) (by omega), ← ha]; have e : a + i + 1 - a = i + 1 := by omega
        rw [e]; rfl
      refine tw_iload k28_67 rfl ?_
      refine tw_iload k28_69 rfl ?_
      refine tw_cgtF k28_70 (by omega) ?_
      refine tw_aload k28_73 rfl ?_
      refine tw_getr k28_74 f35_0 ?_
      refine tw_iload k28_77 rfl ?_
      refine tw_iload k28_79 rfl ?_
      refine tw_iload k28_81 rfl ?_
      refine tw_callp (v := .inl (pEm s (a + i) ((p : Nat) : Int))) (by omega) (S' := []) (as := [.inr (.inr (.inl 36)), .inl (((a + i) : Nat) : Int), .inl (((a + i) : Nat) : Int), .inl ((p : Nat) : Int)]) k28_83 (x_3_35' (M := (st M [(50, f3), (51, f1), (52, f2)])) (N := N) (by omega) s hs (dM_fr hs hDm (fun c _ _ => by rw [st_c, if_neg (by omega), st_c, if_neg (by omega), st_c, if_neg (by omega), st_nil])) (a + i) p (by omega) (by omega)) rfl rfl rfl rfl rfl ?_
      refine tw_istore k28_86 rfl (L' := [some (.inr (.inr (.inl 35))), some (.inl ((g : Nat) : Int)), some (.inl ((a : Nat) : Int)), some (.inl ((l : Nat) : Int)), some (.inl ((p : Nat) : Int)), some (.inl (uSp s perm a l p i)), some (.inl (pS (fun k => perm k - wU s perm G k) a i)), some (.inl (((a + i) : Nat) : Int)), some (.inl (pEm s (a + i) ((p : Nat) : Int)))]) rfl ?_
      refine tw_aload k28_88 rfl ?_
      refine tw_getr k28_89 f35_4 ?_
      refine tw_iload k28_92 rfl ?_
      refine tw_iload k28_94 rfl ?_
      refine tw_iast (M := M) (N := N) (l := [(50, f3), (51, f1), (52, f2)]) (l' := [(50, (pU f3 (a + i) ((g : Nat) : Int))), (51, f1), (52, f2)]) (j := (a + i)) k28_95 al50 rfl (by omega) rfl ?_
      refine tw_aload k28_96 rfl ?_
      refine tw_getr k28_97 f35_5 ?_
      refine tw_iload k28_100 rfl ?_
      refine tw_aload k28_102 rfl ?_
      refine tw_getr k28_103 f35_0 ?_
      refine tw_iload k28_106 rfl ?_
      refine tw_iload k28_108 rfl ?_
      refine tw_iload k28_110 rfl ?_
      refine tw_callp (v := .inl (pLo s p (a + i))) (by omega) (S' := [.inl (((a + i) : Nat) : Int), .inr (.inr (.inl 51))]) (as := [.inr (.inr (.inl 36)), .inl (((a + i) : Nat) : Int), .inl (((a + i) : Nat) : Int), .inl ((p : Nat) : Int)]) k28_112 (x_2_35' (M := (st M [(50, (pU f3 (a + i) ((g : Nat) : Int))), (51, f1), (52, f2)])) (N := N) (by omega) s hs (dM_fr hs hDm (fun c _ _ => by rw [st_c, if_neg (by omega), st_c, if_neg (by omega), st_c, if_neg (by omega), st_nil])) (a + i) p (by omega) (by omega)) rfl rfl rfl rfl rfl ?_
      refine tw_iload k28_115 rfl ?_
      refine tw_iload k28_117 rfl ?_
      refine tw_isub k28_119 (v := ((pEm s (a + i) ((p : Nat) : Int)) - (uSp s perm a l p i))) rfl (by omega) ?_
      refine tw_max k28_120 rfl ?_
      refine tw_eqS (S' := [.inl (wU s perm G (a + i)), .inl (((a + i) : Nat) : Int), .inr (.inr (.inl 51))]) (e_c (congrArg Sum.inl hue) rfl) ?_
      refine tw_iast (M := M) (N := N) (l := [(50, (pU f3 (a + i) ((g : Nat) : Int))), (51, f1), (52, f2)]) (l' := [(50, (pU f3 (a + i) ((g : Nat) : Int))), (51, (pU f1 (a + i) (wU s perm G (a + i)))), (52, f2)]) (j := (a + i)) k28_123 al51 rfl (by omega) rfl ?_
      refine tw_iload k28_124 rfl ?_
      refine tw_iload k28_126 rfl ?_
      refine tw_aload k28_128 rfl ?_
      refine tw_getr k28_129 f35_5 ?_
      refine tw_iload k28_132 rfl ?_
      refine tw_iald (j := (a + i)) (v := (wU s perm G (a + i))) k28_134 al51 rfl (by omega) (show (pU f1 (a + i) (wU s perm G (a + i))) (a + i) = _ from (pU_eq)) ?_
      refine tw_isub k28_135 (v := ((pEm s (a + i) ((p : Nat) : Int)) - (wU s perm G (a + i)))) rfl (by omega) ?_
      refine tw_isub k28_136 (v := ((uSp s perm a l p i) - ((pEm s (a + i) ((p : Nat) : Int)) - (wU s perm G (a + i))))) rfl (by omega) ?_
      refine tw_istore k28_137 rfl (L' := [some (.inr (.inr (.inl 35))), some (.inl ((g : Nat) : Int)), some (.inl ((a : Nat) : Int)), some (.inl ((l : Nat) : Int)), some (.inl ((p : Nat) : Int)), some (.inl ((uSp s perm a l p i) - ((pEm s (a + i) ((p : Nat) : Int)) - (wU s perm G (a + i))))), some (.inl (pS (fun k => perm k - wU s perm G k) a i)), some (.inl (((a + i) : Nat) : Int)), some (.inl (pEm s (a + i) ((p : Nat) : Int)))]) rfl ?_
      refine tw_iload k28_139 rfl ?_
      refine tw_aload k28_141 rfl ?_
      refine tw_getr k28_142 f35_2 ?_
      refine tw_iload k28_145 rfl ?_
      refine tw_iald (j := (a + i)) (v := (perm (a + i))) k28_147 al48 rfl (by omega) (show M 48 (a + i) = _ from (hP (a + i) (by omega))) ?_
      refine tw_aload k28_148 rfl ?_
      refine tw_getr k28_149 f35_5 ?_
      refine tw_iload k28_152 rfl ?_
      refine tw_iald (j := (a + i)) (v := (wU s perm G (a + i))) k28_154 al51 rfl (by omega) (show (pU f1 (a + i) (wU s perm G (a + i))) (a + i) = _ from (pU_eq)) ?_
      refine tw_isub k28_155 (v := ((perm (a + i)) - (wU s perm G (a + i)))) rfl (by omega) ?_
      refine tw_iadd k28_156 (v := ((pS (fun k => perm k - wU s perm G k) a i) + ((perm (a + i)) - (wU s perm G (a + i))))) rfl (by omega) ?_
      refine tw_istore k28_157 rfl (L' := [some (.inr (.inr (.inl 35))), some (.inl ((g : Nat) : Int)), some (.inl ((a : Nat) : Int)), some (.inl ((l : Nat) : Int)), some (.inl ((p : Nat) : Int)), some (.inl ((uSp s perm a l p i) - ((pEm s (a + i) ((p : Nat) : Int)) - (wU s perm G (a + i))))), some (.inl ((pS (fun k => perm k - wU s perm G k) a i) + ((perm (a + i)) - (wU s perm G (a + i))))), some (.inl (((a + i) : Nat) : Int)), some (.inl (pEm s (a + i) ((p : Nat) : Int)))]) rfl ?_
      refine tw_aload k28_159 rfl ?_
      refine tw_getr k28_160 f35_6 ?_
      refine tw_iload k28_163 rfl ?_
      refine tw_const k28_165 ?_
      refine tw_iload k28_166 rfl ?_
      refine tw_max k28_168 rfl ?_
      refine tw_eqS (S' := [.inl (wBk s perm G (a + i)), .inl (((a + i) : Nat) : Int), .inr (.inr (.inl 52))]) (e_c (congrArg Sum.inl hbk) rfl) ?_
      refine tw_iast (M := M) (N := N) (l := [(50, (pU f3 (a + i) ((g : Nat) : Int))), (51, (pU f1 (a + i) (wU s perm G (a + i)))), (52, f2)]) (l' := [(50, (pU f3 (a + i) ((g : Nat) : Int))), (51, (pU f1 (a + i) (wU s perm G (a + i)))), (52, (pU f2 (a + i) (wBk s perm G (a + i))))]) (j := (a + i)) k28_171 al52 rfl (by omega) rfl ?_
      refine tw_iinc k28_172 rfl (v := (((a + i) + 1 : Nat) : Int)) rfl (by omega) rfl (L' := [some (.inr (.inr (.inl 35))), some (.inl ((g : Nat) : Int)), some (.inl ((a : Nat) : Int)), some (.inl ((l : Nat) : Int)), some (.inl ((p : Nat) : Int)), some (.inl ((uSp s perm a l p i) - ((pEm s (a + i) ((p : Nat) : Int)) - (wU s perm G (a + i))))), some (.inl ((pS (fun k => perm k - wU s perm G k) a i) + ((perm (a + i)) - (wU s perm G (a + i))))), some (.inl (((a + i) + 1 : Nat) : Int)), some (.inl (pEm s (a + i) ((p : Nat) : Int)))]) rfl ?_
      refine tw_goto k28_175 ?_
      refine tw_eqL (L' := [some (.inr (.inr (.inl 35))), some (.inl ((g : Nat) : Int)), some (.inl ((a : Nat) : Int)), some (.inl ((l : Nat) : Int)), some (.inl ((p : Nat) : Int)), some (.inl (uSp s perm a l p (i + 1))), some (.inl (pS (fun k => perm k - wU s perm G k) a (i + 1))), some (.inl (((a + (i + 1)) : Nat) : Int)), sv (some (.inl (pEm s (a + i) ((p : Nat) : Int))))]) (e_c rfl (e_c rfl (e_c rfl (e_c rfl (e_c rfl (e_c (e_i hsp) (e_c rfl (e_c rfl (e_c rfl rfl))))))))) ?_
      exact ih _ _ _ _ (fun y h1 h2 => by
        by_cases e : y = a + i
        · subst e; exact ⟨pU_eq, pU_eq, pU_eq⟩
        · rw [pU_ne e, pU_ne e, pU_ne e]; exact c1 y h1 (by omega)) (fun y h => by
        rw [pU_ne (by omega), pU_ne (by omega), pU_ne (by omega)]; exact c2 y (by omega))
  refine tw_aload k28_0 rfl ?_
  refine tw_getr k28_1 f35_1 ?_
  refine tw_getr k28_4 f44_0 ?_
  refine tw_iload k28_7 rfl ?_
  refine tw_iald (j := g) (v := ((a : Nat) : Int)) k28_8 al45 rfl (by omega) hk1 ?_
  refine tw_istore k28_9 rfl (L' := [some (.inr (.inr (.inl 35))), some (.inl ((g : Nat) : Int)), some (.inl ((a : Nat) : Int)), none, none, none, none, none, none]) rfl ?_
  refine tw_aload k28_10 rfl ?_
  refine tw_getr k28_11 f35_1 ?_
  refine tw_getr k28_14 f44_1 ?_
  refine tw_iload k28_17 rfl ?_
  refine tw_iald (j := g) (v := ((l : Nat) : Int)) k28_18 al46 rfl (by omega) hk2 ?_
  refine tw_istore k28_19 rfl (L' := [some (.inr (.inr (.inl 35))), some (.inl ((g : Nat) : Int)), some (.inl ((a : Nat) : Int)), some (.inl ((l : Nat) : Int)), none, none, none, none, none]) rfl ?_
  refine tw_aload k28_20 rfl ?_
  refine tw_getr k28_21 f35_1 ?_
  refine tw_getr k28_24 f44_2 ?_
  refine tw_iload k28_27 rfl ?_
  refine tw_iald (j := g) (v := ((p : Nat) : Int)) k28_28 al47 rfl (by omega) hk3 ?_
  refine tw_istore k28_29 rfl (L' := [some (.inr (.inr (.inl 35))), some (.inl ((g : Nat) : Int)), some (.inl ((a : Nat) : Int)), some (.inl ((l : Nat) : Int)), some (.inl ((p : Nat) : Int)), none, none, none, none]) rfl ?_
  refine tw_const k28_31 ?_
  refine tw_aload k28_32 rfl ?_
  refine tw_getr k28_33 f35_0 ?_
  refine tw_iload k28_36 rfl ?_
  refine tw_iload k28_37 rfl ?_
  refine tw_iload k28_38 rfl ?_
  refine tw_callp (v := .inl (pS (fun y => pEm s y ((p : Nat) : Int)) a (l + 1 - a))) (by omega) (S' := [.inl (0 : Int)]) (as := [.inr (.inr (.inl 36)), .inl ((a : Nat) : Int), .inl ((l : Nat) : Int), .inl ((p : Nat) : Int)]) k28_40 (x_3_35 (M := M) (N := N) (by omega) s hs hDm a l p (by omega) (by omega) (by omega)) rfl rfl rfl rfl rfl ?_
  refine tw_aload k28_43 rfl ?_
  refine tw_getr k28_44 f35_1 ?_
  refine tw_aload k28_47 rfl ?_
  refine tw_getr k28_48 f35_2 ?_
  refine tw_iload k28_51 rfl ?_
  refine tw_callp (v := .inl (pS perm a (l + 1 - a))) (by omega) (S' := [.inl (pS (fun y => pEm s y ((p : Nat) : Int)) a (l + 1 - a)), .inl (0 : Int)]) (as := [.inr (.inr (.inl 44)), .inr (.inr (.inl 48)), .inl ((g : Nat) : Int)]) k28_52 (x_8_35 (M := M) (N := N) g a l (by omega) hk1 hk2 (by omega) (by omega) perm (fun y _ _ => hP y (by omega)) (fun y _ _ => hB y (by omega))) rfl rfl rfl rfl rfl ?_
  refine tw_isub k28_55 (v := ((pS (fun y => pEm s y ((p : Nat) : Int)) a (l + 1 - a)) - (pS perm a (l + 1 - a)))) rfl (by omega) ?_
  refine tw_max k28_56 rfl ?_
  refine tw_eqS (S' := [.inl (uSp s perm a l p 0)]) (e_c (congrArg Sum.inl (by rw [uSp])) rfl) ?_
  refine tw_istore k28_59 rfl (L' := [some (.inr (.inr (.inl 35))), some (.inl ((g : Nat) : Int)), some (.inl ((a : Nat) : Int)), some (.inl ((l : Nat) : Int)), some (.inl ((p : Nat) : Int)), some (.inl (uSp s perm a l p 0)), none, none, none]) rfl ?_
  refine tw_const k28_61 ?_
  refine tw_istore k28_62 rfl (L' := [some (.inr (.inr (.inl 35))), some (.inl ((g : Nat) : Int)), some (.inl ((a : Nat) : Int)), some (.inl ((l : Nat) : Int)), some (.inl ((p : Nat) : Int)), some (.inl (uSp s perm a l p 0)), some (.inl (0 : Int)), none, none]) rfl ?_
  refine tw_iload k28_64 rfl ?_
  refine tw_istore k28_65 rfl (L' := [some (.inr (.inr (.inl 35))), some (.inl ((g : Nat) : Int)), some (.inl ((a : Nat) : Int)), some (.inl ((l : Nat) : Int)), some (.inl ((p : Nat) : Int)), some (.inl (uSp s perm a l p 0)), some (.inl (0 : Int)), some (.inl ((a : Nat) : Int)), none]) rfl ?_
  refine tw_pad (M := M) (N := N) (l := []) (l' := [(50, M 50), (51, M 51), (52, M 52)]) [50, 51, 52] rfl ?_
  refine tw_eqL (L' := [some (.inr (.inr (.inl 35))), some (.inl ((g : Nat) : Int)), some (.inl ((a : Nat) : Int)), some (.inl ((l : Nat) : Int)), some (.inl ((p : Nat) : Int)), some (.inl (uSp s perm a l p 0)), some (.inl (pS (fun k => perm k - wU s perm G k) a 0)), some (.inl (((a + 0) : Nat) : Int)), sv none]) (e_c rfl (e_c rfl (e_c rfl (e_c rfl (e_c rfl (e_c rfl (e_c (e_i rfl) (e_c (e_i rfl) (e_c rfl rfl))))))))) ?_
  exact keyB 0 (by omega) _ _ _ _ (fun y h1 h2 => by omega) (fun y _ => ⟨rfl, rfl, rfl⟩)
theorem x_29_35 {K : mj_C} {d : Nat} {M : Nat → Nat → Int} {N : Nat → Nat → Int64} (s : Nat → Int) (hs : pRg s) (G : GS) (hO : gOk (s 0).toNat G) (hG : gRel (M 44 3) (M 45) (M 46) (M 47) G) (perm : Nat → Int) (hP : ∀ y, y < (s 0).toNat → M 48 y = perm y) (hB : ∀ y, y < 5 → 0 ≤ perm y ∧ perm y ≤ 1000) (us : Nat → Int) (hU : ∀ y, y < (s 0).toNat → 0 ≤ us y ∧ us y ≤ 100) (g : Nat) (hg : g < G.1) (hUM : ∀ y, G.2.1 g ≤ y → y ≤ G.2.2.1 g → M 51 y = us y) (hL : ∀ i, i < G.2.1 g → 0 ≤ M 61 i ∧ M 61 i ≤ 1000) : mj_X K d 29 [.inr (.inr (.inl 35)), .inl ((g : Nat) : Int)] (mj_Sh, M, N) (fun r Z => r = none ∧ ∃ M1, Z = (mj_Sh, M1, N) ∧ (∀ c, c < 56 ∨ 61 < c → M1 c = M c) ∧ (∀ j, G.2.1 g ≤ j → j ≤ G.2.2.1 g → ∀ i, i ≤ j → M1 (56 + i) j = (fFl (fun j => G.2.1 (gOf G j)) us perm i j)) ∧ (∀ i j, i < 5 → ¬ (G.2.1 g ≤ j ∧ j ≤ G.2.2.1 g ∧ i ≤ j) → M1 (56 + i) j = M (56 + i) j) ∧ (∀ i, i ≤ G.2.2.1 g → 0 ≤ M1 61 i ∧ M1 61 i ≤ 1000)) := by
  show mj_T K d 29 0 [some (.inr (.inr (.inl 35))), some (.inl ((g : Nat) : Int)), none, none, none, none] [] (mj_Sh, M, N) _
  have h0 := hs.1 0 (by omega)
  have h5 := hs.2.1
  have hO' := hO
  obtain ⟨hO1, hO2, hO3, hO4, hO5⟩ := hO
  have a1 := hO2 g hg
  obtain ⟨a, ha⟩ : ∃ a, a = G.2.1 g := ⟨_, rfl⟩
  obtain ⟨l, hl⟩ : ∃ l, l = G.2.2.1 g := ⟨_, rfl⟩
  rw [← ha, ← hl] at a1 hUM
  rw [← ha] at hL
  simp only [← ha, ← hl]
  have hk1 : M 45 g = (a : Int) := by rw [ha]; exact (hG.2 g hg).1
  have hk2 : M 46 g = (l : Int) := by rw [hl]; exact (hG.2 g hg).2.1
  have hfs : ∀ j, a ≤ j → j ≤ l → G.2.1 (gOf G j) = a := by
    intro j h1 h2; rw [ha] at h1; rw [hl] at h2; rw [gOf_eq hO' hg h1 h2, ha]
  have hLr := fLf_rg (fst := (fun j => G.2.1 (gOf G j))) (us := us) (Y := (s 0).toNat) hB (fun y hy => (hU y hy).1)
  have keyT : ∀ t : Nat, t ≤ (l + 1 - a) → ∀ o3 o4 o5 (M1 : Nat → Nat → Int), (∀ c, c < 56 ∨ 61 < c → M1 c = M c) → (∀ j, a ≤ j → j < a + t → ∀ i, i ≤ j → M1 (56 + i) j = (fFl (fun j => G.2.1 (gOf G j)) us perm i j)) → (∀ i j, i < 5 → ¬ (a ≤ j ∧ j < a + t ∧ i ≤ j) → M1 (56 + i) j = M (56 + i) j) → (∀ i, i < a → 0 ≤ M1 61 i ∧ M1 61 i ≤ 1000) → (∀ i, a ≤ i → i < a + t → M1 61 i = (fLf (fun j => G.2.1 (gOf G j)) us perm (a + t)) i) → mj_T K d 29 10 [some (.inr (.inr (.inl 35))), some (.inl ((g : Nat) : Int)), some (.inl (((a + t) : Nat) : Int)), sv o3, sv o4, sv o5] [] (mj_Sh, M1, N) (fun r Z => r = none ∧ ∃ M1, Z = (mj_Sh, M1, N) ∧ (∀ c, c < 56 ∨ 61 < c → M1 c = M c) ∧ (∀ j, a ≤ j → j ≤ l → ∀ i, i ≤ j → M1 (56 + i) j = (fFl (fun j => G.2.1 (gOf G j)) us perm i j)) ∧ (∀ i j, i < 5 → ¬ (a ≤ j ∧ j ≤ l ∧ i ≤ j) → M1 (56 + i) j = M (56 + i) j) ∧ (∀ i, i ≤ l → 0 ≤ M1 61 i ∧ M1 61 i ≤ 1000)) := by
    refine up_to (l + 1 - a) ?_ ?_
    · show ∀ o3 o4 o5 (M1 : Nat → Nat → Int), (∀ c, c < 56 ∨ 61 < c → M1 c = M c) → (∀ j, a ≤ j → j < a + (l + 1 - a) → ∀ i, i ≤ j → M1 (56 + i) j = (fFl (fun j => G.2.1 (gOf G j)) us perm i j)) → (∀ i j, i < 5 → ¬ (a ≤ j ∧ j < a + (l + 1 - a) ∧ i ≤ j) → M1 (56 + i) j = M (56 + i) j) → (∀ i, i < a → 0 ≤ M1 61 i ∧ M1 61 i ≤ 1000) → (∀ i, a ≤ i → i < a + (l + 1 - a) → M1 61 i = (fLf (fun j => G.2.1 (gOf G j)) us perm (a + (l + 1 - a))) i) → mj_T K d 29 10 [some (.inr (.inr (.inl 35))), some (.inl ((g : Nat) : Int)), some (.inl (((a + (l + 1 - a)) : Nat) : Int)), sv o3, sv o4, sv o5] [] (mj_Sh, M1, N) (fun r Z => r = none ∧ ∃ M1, Z = (mj_Sh, M1, N) ∧ (∀ c, c < 56 ∨ 61 < c → M1 c = M c) ∧ (∀ j, a ≤ j → j ≤ l → ∀ i, i ≤ j → M1 (56 + i) j = (fFl (fun j => G.2.1 (gOf G j)) us perm i j)) ∧ (∀ i j, i < 5 → ¬ (a ≤ j ∧ j ≤ l ∧ i ≤ j) → M1 (56 + i) j = M (56 + i) j) ∧ (∀ i, i ≤ l → 0 ≤ M1 61 i ∧ M1 61 i ≤ 1000))
      intro o3 o4 o5 M1 f1 f2 f3 f4 f5
      refine tw_iload k29_10 rfl ?_
      refine tw_aload k29_11 rfl ?_
      refine tw_getr k29_12 f35_1 ?_
      refine tw_getr k29_15 f44_1 ?_
      refine tw_iload k29_18 rfl ?_
      refine tw_iald (j := g) (v := ((l : Nat) : Int)) k29_19 al46 rfl (by omega) (by rw [f1 _ (by omega)]; exact hk2) ?_
      refine tw_cgtT k29_20 (by omega) ?_
      exact tw_rv k29_122 (⟨rfl, M1, rfl, f1, fun j h1 h2 i hi => f2 j h1 (by omega) i hi, fun i j hi hn => f3 i j hi (by omega), fun i hi => by
        by_cases e : i < a
        · exact f4 i e
        · rw [f5 i (by omega) (by omega)]; exact hLr _ (by omega) (by omega) i (by omega)⟩)
    · intro t hmt ih
      have ih : ∀ o3 o4 o5 (M1 : Nat → Nat → Int), (∀ c, c < 56 ∨ 61 < c → M1 c = M c) → (∀ j, a ≤ j → j < a + (t + 1) → ∀ i, i ≤ j → M1 (56 + i) j = (fFl (fun j => G.2.1 (gOf G j)) us perm i j)) → (∀ i j, i < 5 → ¬ (a ≤ j ∧ j < a + (t + 1) ∧ i ≤ j) → M1 (56 + i) j = M (56 + i) j) → (∀ i, i < a → 0 ≤ M1 61 i ∧ M1 61 i ≤ 1000) → (∀ i, a ≤ i → i < a + (t + 1) → M1 61 i = (fLf (fun j => G.2.1 (gOf G j)) us perm (a + (t + 1))) i) → mj_T K d 29 10 [some (.inr (.inr (.inl 35))), some (.inl ((g : Nat) : Int)), some (.inl (((a + (t + 1)) : Nat) : Int)), sv o3, sv o4, sv o5] [] (mj_Sh, M1, N) (fun r Z => r = none ∧ ∃ M1, Z = (mj_Sh, M1, N) ∧ (∀ c, c < 56 ∨ 61 < c → M1 c = M c) ∧ (∀ j, a ≤ j → j ≤ l → ∀ i, i ≤ j → M1 (56 + i) j = (fFl (fun j => G.2.1 (gOf G j)) us perm i j)) ∧ (∀ i j, i < 5 → ¬ (a ≤ j ∧ j ≤ l ∧ i ≤ j) → M1 (56 + i) j = M (56 + i) j) ∧ (∀ i, i ≤ l → 0 ≤ M1 61 i ∧ M1 61 i ≤ 1000)) := ih
      show ∀ o3 o4 o5 (M1 : Nat → Nat → Int), (∀ c, c < 56 ∨ 61 < c → M1 c = M c) → (∀ j, a ≤ j → j < a + t → ∀ i, i ≤ j → M1 (56 + i) j = (fFl (fun j => G.2.1 (gOf G j)) us perm i j)) → (∀ i j, i < 5 → ¬ (a ≤ j ∧ j < a + t ∧ i ≤ j) → M1 (56 + i) j = M (56 + i) j) → (∀ i, i < a → 0 ≤ M1 61 i ∧ M1 61 i ≤ 1000) → (∀ i, a ≤ i → i < a + t → M1 61 i = (fLf (fun j => G.2.1 (gOf G j)) us perm (a + t)) i) → mj_T K d 29 10 [some (.inr (.inr (.inl 35))), some (.inl ((g : Nat) : Int)), some (.inl (((a + t) : Nat) : Int)), sv o3, sv o4, sv o5] [] (mj_Sh, M1, N) (fun r Z => r = none ∧ ∃ M1, Z = (mj_Sh, M1, N) ∧ (∀ c, c < 56 ∨ 61 < c → M1 c = M c) ∧ (∀ j, a ≤ j → j ≤ l → ∀ i, i ≤ j → M1 (56 + i) j = (fFl (fun j => G.2.1 (gOf G j)) us perm i j)) ∧ (∀ i j, i < 5 → ¬ (a ≤ j ∧ j ≤ l ∧ i ≤ j) → M1 (56 + i) j = M (56 + i) j) ∧ (∀ i, i ≤ l → 0 ≤ M1 61 i ∧ M1 61 i ≤ 1000))
      intro o3 o4 o5 M1 f1 f2 f3 f4 f5
      refine tw_iload k29_10 rfl ?_
      refine tw_aload k29_11 rfl ?_
      refine tw_getr k29_12 f35_1 ?_
      refine tw_getr k29_15 f44_1 ?_
      refine tw_iload k29_18 rfl ?_
      refine tw_iald (j := g) (v := ((l : Nat) : Int)) k29_19 al46 rfl (by omega) (by rw [f1 _ (by omega)]; exact hk2) ?_
      refine tw_cgtF k29_20 (by omega) ?_
      refine tw_aload k29_23 rfl ?_
      refine tw_getr k29_24 f35_10 ?_
      refine tw_iload k29_27 rfl ?_
      refine tw_aload k29_28 rfl ?_
      refine tw_getr k29_29 f35_2 ?_
      refine tw_iload k29_32 rfl ?_
      refine tw_iald (j := (a + t)) (v := (perm (a + t))) k29_33 al48 rfl (by omega) (by rw [f1 _ (by omega)]; exact hP (a + t) (by omega)) ?_
      refine tw_iast (M := M1) (N := N) (l := []) (l' := [(61, (pU (M1 61) (a + t) (perm (a + t))))]) (j := (a + t)) k29_34 al61 rfl (by omega) rfl ?_
      refine tw_aload k29_35 rfl ?_
      refine tw_getr k29_36 f35_5 ?_
      refine tw_iload k29_39 rfl ?_
      refine tw_iald (j := (a + t)) (v := (us (a + t))) k29_40 al51 rfl (by omega) (show M1 51 (a + t) = _ from (by rw [f1 _ (by omega)]; exact hUM (a + t) (by omega) (by omega))) ?_
      refine tw_istore k29_41 rfl (L' := [some (.inr (.inr (.inl 35))), some (.inl ((g : Nat) : Int)), some (.inl (((a + t) : Nat) : Int)), some (.inl (us (a + t))), sv o4, sv o5]) rfl ?_
      refine tw_const k29_42 ?_
      refine tw_istore k29_43 rfl (L' := [some (.inr (.inr (.inl 35))), some (.inl ((g : Nat) : Int)), some (.inl (((a + t) : Nat) : Int)), some (.inl (us (a + t))), some (.inl (0 : Int)), sv o5]) rfl ?_
      have iht := ih
      have keyI : ∀ f : Nat, f ≤ (a + t + 1) → ∀ o5 (M2 : Nat → Nat → Int), (∀ c, c < 56 ∨ 61 < c → M2 c = M c) → (∀ j, a ≤ j → j < a + t → ∀ i, i ≤ j → M2 (56 + i) j = (fFl (fun j => G.2.1 (gOf G j)) us perm i j)) → (∀ i, i < f → M2 (56 + i) (a + t) = (fFl (fun j => G.2.1 (gOf G j)) us perm i (a + t))) → (∀ i j, i < 5 → ¬ (a ≤ j ∧ j < a + t ∧ i ≤ j) → ¬ (j = a + t ∧ i < f) → M2 (56 + i) j = M (56 + i) j) → (∀ i, i < a → 0 ≤ M2 61 i ∧ M2 61 i ≤ 1000) → (∀ i, a ≤ i → i ≤ a + t → M2 61 i = if i < f then (fLf (fun j => G.2.1 (gOf G j)) us perm (a + t)) i - (fFl (fun j => G.2.1 (gOf G j)) us perm i (a + t)) else (fLf (fun j => G.2.1 (gOf G j)) us perm (a + t)) i) → mj_T K d 29 45 [some (.inr (.inr (.inl 35))), some (.inl ((g : Nat) : Int)), some (.inl (((a + t) : Nat) : Int)), some (.inl (fWn (fLf (fun j => G.2.1 (gOf G j)) us perm (a + t)) a (us (a + t)) (f - a))), some (.inl ((f : Nat) : Int)), sv o5] [] (mj_Sh, M2, N) (fun r Z => r = none ∧ ∃ M1, Z = (mj_Sh, M1, N) ∧ (∀ c, c < 56 ∨ 61 < c → M1 c = M c) ∧ (∀ j, a ≤ j → j ≤ l → ∀ i, i ≤ j → M1 (56 + i) j = (fFl (fun j => G.2.1 (gOf G j)) us perm i j)) ∧ (∀ i j, i < 5 → ¬ (a ≤ j ∧ j ≤ l ∧ i ≤ j) → M1 (56 + i) j = M (56 + i) j) ∧ (∀ i, i ≤ l → 0 ≤ M1 61 i ∧ M1 61 i ≤ 1000)) := by
        refine up_to (a + t + 1) ?_ ?_
        · show ∀ o5 (M2 : Nat → Nat → Int), (∀ c, c < 56 ∨ 61 < c → M2 c = M c) → (∀ j, a ≤ j → j < a + t → ∀ i, i ≤ j → M2 (56 + i) j = (fFl (fun j => G.2.1 (gOf G j)) us perm i j)) → (∀ i, i < (a + t + 1) → M2 (56 + i) (a + t) = (fFl (fun j => G.2.1 (gOf G j)) us perm i (a + t))) → (∀ i j, i < 5 → ¬ (a ≤ j ∧ j < a + t ∧ i ≤ j) → ¬ (j = a + t ∧ i < (a + t + 1)) → M2 (56 + i) j = M (56 + i) j) → (∀ i, i < a → 0 ≤ M2 61 i ∧ M2 61 i ≤ 1000) → (∀ i, a ≤ i → i ≤ a + t → M2 61 i = if i < (a + t + 1) then (fLf (fun j => G.2.1 (gOf G j)) us perm (a + t)) i - (fFl (fun j => G.2.1 (gOf G j)) us perm i (a + t)) else (fLf (fun j => G.2.1 (gOf G j)) us perm (a + t)) i) → mj_T K d 29 45 [some (.inr (.inr (.inl 35))), some (.inl ((g : Nat) : Int)), some (.inl (((a + t) : Nat) : Int)), some (.inl (fWn (fLf (fun j => G.2.1 (gOf G j)) us perm (a + t)) a (us (a + t)) ((a + t + 1) - a))), some (.inl (((a + t + 1) : Nat) : Int)), sv o5] [] (mj_Sh, M2, N) (fun r Z => r = none ∧ ∃ M1, Z = (mj_Sh, M1, N) ∧ (∀ c, c < 56 ∨ 61 < c → M1 c = M c) ∧ (∀ j, a ≤ j → j ≤ l → ∀ i, i ≤ j → M1 (56 + i) j = (fFl (fun j => G.2.1 (gOf G j)) us perm i j)) ∧ (∀ i j, i < 5 → ¬ (a ≤ j ∧ j ≤ l ∧ i ≤ j) → M1 (56 + i) j = M (56 + i) j) ∧ (∀ i, i ≤ l → 0 ≤ M1 61 i ∧ M1 61 i ≤ 1000))
          intro o5 M2 e1 e2 e3 e4 e5 e6
          refine tw_iload k29_45 rfl ?_
          refine tw_iload k29_47 rfl ?_
          refine tw_cgtT k29_48 (by omega) ?_
          refine tw_iinc k29_116 rfl (v := (((a + t) + 1 : Nat) : Int)) rfl (by omega) rfl (L' := [some (.inr (.inr (.inl 35))), some (.inl ((g : Nat) : Int)), some (.inl (((a + t) + 1 : Nat) : Int)), some (.inl (fWn (fLf (fun j => G.2.1 (gOf G j)) us perm (a + t)) a (us (a + t)) ((a + t + 1) - a))), some (.inl (((a + t + 1) : Nat) : Int)), sv o5]) rfl ?_
          refine tw_goto k29_119 ?_
          refine iht (some (.inl (fWn (fLf (fun j => G.2.1 (gOf G j)) us perm (a + t)) a (us (a + t)) ((a + t + 1) - a)))) (some (.inl (((a + t + 1) : Nat) : Int))) o5 M2 e1 (fun j h1 h2 i hi => ?_) (fun i j hi h => e4 i j hi (by omega) (by omega)) e5 (fun i h1 h2 => ?_)
          · by_cases e : j = a + t
            · subst e; exact e3 i (by omega)
            · exact e2 j h1 (by omega) i hi
          · rw [e6 i h1 (by omega), if_pos (by omega), show a + (t + 1) = (a + t) + 1 by omega, fLf_e (fst := (fun j => G.2.1 (gOf G j))) (hfs (a + t) (by omega) (by omega)), if_pos (by omega)]
        · intro f hmf ih
          have ih : ∀ o5 (M2 : Nat → Nat → Int), (∀ c, c < 56 ∨ 61 < c → M2 c = M c) → (∀ j, a ≤ j → j < a + t → ∀ i, i ≤ j → M2 (56 + i) j = (fFl (fun j => G.2.1 (gOf G j)) us perm i j)) → (∀ i, i < (f + 1) → M2 (56 + i) (a + t) = (fFl (fun j => G.2.1 (gOf G j)) us perm i (a + t))) → (∀ i j, i < 5 → ¬ (a ≤ j ∧ j < a + t ∧ i ≤ j) → ¬ (j = a + t ∧ i < (f + 1)) → M2 (56 + i) j = M (56 + i) j) → (∀ i, i < a → 0 ≤ M2 61 i ∧ M2 61 i ≤ 1000) → (∀ i, a ≤ i → i ≤ a + t → M2 61 i = if i < (f + 1) then (fLf (fun j => G.2.1 (gOf G j)) us perm (a + t)) i - (fFl (fun j => G.2.1 (gOf G j)) us perm i (a + t)) else (fLf (fun j => G.2.1 (gOf G j)) us perm (a + t)) i) → mj_T K d 29 45 [some (.inr (.inr (.inl 35))), some (.inl ((g : Nat) : Int)), some (.inl (((a + t) : Nat) : Int)), some (.inl (fWn (fLf (fun j => G.2.1 (gOf G j)) us perm (a + t)) a (us (a + t)) ((f + 1) - a))), some (.inl (((f + 1) : Nat) : Int)), sv o5] [] (mj_Sh, M2, N) (fun r Z => r = none ∧ ∃ M1, Z = (mj_Sh, M1, N) ∧ (∀ c, c < 56 ∨ 61 < c → M1 c = M c) ∧ (∀ j, a ≤ j → j ≤ l → ∀ i, i ≤ j → M1 (56 + i) j = (fFl (fun j => G.2.1 (gOf G j)) us perm i j)) ∧ (∀ i j, i < 5 → ¬ (a ≤ j ∧ j ≤ l ∧ i ≤ j) → M1 (56 + i) j = M (56 + i) j) ∧ (∀ i, i ≤ l → 0 ≤ M1 61 i ∧ M1 61 i ≤ 1000)) := ih
          show ∀ o5 (M2 : Nat → Nat → Int), (∀ c, c < 56 ∨ 61 < c → M2 c = M c) → (∀ j, a ≤ j → j < a + t → ∀ i, i ≤ j → M2 (56 + i) j = (fFl (fun j => G.2.1 (gOf G j)) us perm i j)) → (∀ i, i < f → M2 (56 + i) (a + t) = (fFl (fun j => G.2.1 (gOf G j)) us perm i (a + t))) → (∀ i j, i < 5 → ¬ (a ≤ j ∧ j < a + t ∧ i ≤ j) → ¬ (j = a + t ∧ i < f) → M2 (56 + i) j = M (56 + i) j) → (∀ i, i < a → 0 ≤ M2 61 i ∧ M2 61 i ≤ 1000) → (∀ i, a ≤ i → i ≤ a + t → M2 61 i = if i < f then (fLf (fun j => G.2.1 (gOf G j)) us perm (a + t)) i - (fFl (fun j => G.2.1 (gOf G j)) us perm i (a + t)) else (fLf (fun j => G.2.1 (gOf G j)) us perm (a + t)) i) → mj_T K d 29 45 [some (.inr (.inr (.inl 35))), some (.inl ((g : Nat) : Int)), some (.inl (((a + t) : Nat) : Int)), some (.inl (fWn (fLf (fun j => G.2.1 (gOf G j)) us perm (a + t)) a (us (a + t)) (f - a))), some (.inl ((f : Nat) : Int)), sv o5] [] (mj_Sh, M2, N) (fun r Z => r = none ∧ ∃ M1, Z = (mj_Sh, M1, N) ∧ (∀ c, c < 56 ∨ 61 < c → M1 c = M c) ∧ (∀ j, a ≤ j → j ≤ l → ∀ i, i ≤ j → M1 (56 + i) j = (fFl (fun j => G.2.1 (gOf G j)) us perm i j)) ∧ (∀ i j, i < 5 → ¬ (a ≤ j ∧ j ≤ l ∧ i ≤ j) → M1 (56 + i) j = M (56 + i) j) ∧ (∀ i, i ≤ l → 0 ≤ M1 61 i ∧ M1 61 i ≤ 1000))
          intro o5 M2 e1 e2 e3 e4 e5 e6
          have hut := hU (a + t) (by omega)
          by_cases hlo : f < a
          · have hle5 := e5 f hlo
            have hw0 : fWn (fLf (fun j => G.2.1 (gOf G j)) us perm (a + t)) a (us (a + t)) (f - a) = us (a + t) := by rw [show f - a = 0 by omega, fWn]
            refine tw_iload k29_45 rfl ?_
            refine tw_iload k29_47 rfl ?_
            refine tw_cgtF k29_48 (by omega) ?_
            refine tw_iload k29_51 rfl ?_
            refine tw_aload k29_53 rfl ?_
            refine tw_getr k29_54 f35_1 ?_
            refine tw_getr k29_57 f44_0 ?_
            refine tw_iload k29_60 rfl ?_
            refine tw_iald (j := g) (v := ((a : Nat) : Int)) k29_61 al45 rfl (by omega) (by rw [e1 _ (by omega)]; exact hk1) ?_
            refine tw_cgeF k29_62 (by omega) ?_
            refine tw_const k29_65 ?_
            refine tw_goto k29_66 ?_
            refine tw_istore k29_80 rfl (L' := [some (.inr (.inr (.inl 35))), some (.inl ((g : Nat) : Int)), some (.inl (((a + t) : Nat) : Int)), some (.inl (fWn (fLf (fun j => G.2.1 (gOf G j)) us perm (a + t)) a (us (a + t)) (f - a))), some (.inl ((f : Nat) : Int)), some (.inl (0 : Int))]) rfl ?_
            refine tw_aload k29_82 rfl ?_
            refine tw_getr k29_83 f35_9 ?_
            refine tw_iload k29_86 rfl ?_
            refine tw_aald (j := f) (u := (56 + f)) k29_88 rfl (rr55 (by omega)) ?_
            refine tw_iload k29_89 rfl ?_
            refine tw_iload k29_90 rfl ?_
            refine tw_iastu (j := (a + t)) k29_92 (alF (by omega)) rfl (by omega) ?_
            refine tw_aload k29_93 rfl ?_
            refine tw_getr k29_94 f35_10 ?_
            refine tw_iload k29_97 rfl ?_
            refine tw_dup2 k29_99 ?_
            refine tw_iald (j := f) (v := (M2 61 f)) k29_100 al61 rfl (by omega) (by rw [tu_row (by omega)]) ?_
            refine tw_iload k29_101 rfl ?_
            refine tw_isub k29_103 (v := ((M2 61 f) - (0 : Int))) rfl (by omega) ?_
            refine tw_iast (M := (mj_u M2 (56 + f) (a + t) (0 : Int))) (N := N) (l := []) (l' := [(61, (pU ((mj_u M2 (56 + f) (a + t) (0 : Int)) 61) f ((M2 61 f) - (0 : Int))))]) (j := f) k29_104 al61 rfl (by omega) rfl ?_
            refine tw_iload k29_105 rfl ?_
            refine tw_iload k29_106 rfl ?_
            refine tw_isub k29_108 (v := ((fWn (fLf (fun j => G.2.1 (gOf G j)) us perm (a + t)) a (us (a + t)) (f - a)) - (0 : Int))) rfl (by omega) ?_
            refine tw_istore k29_109 rfl (L' := [some (.inr (.inr (.inl 35))), some (.inl ((g : Nat) : Int)), some (.inl (((a + t) : Nat) : Int)), some (.inl ((fWn (fLf (fun j => G.2.1 (gOf G j)) us perm (a + t)) a (us (a + t)) (f - a)) - (0 : Int))), some (.inl ((f : Nat) : Int)), some (.inl (0 : Int))]) rfl ?_
            refine tw_iinc k29_110 rfl (v := ((f + 1 : Nat) : Int)) rfl (by omega) rfl (L' := [some (.inr (.inr (.inl 35))), some (.inl ((g : Nat) : Int)), some (.inl (((a + t) : Nat) : Int)), some (.inl ((fWn (fLf (fun j => G.2.1 (gOf G j)) us perm (a + t)) a (us (a + t)) (f - a)) - (0 : Int))), some (.inl ((f + 1 : Nat) : Int)), some (.inl (0 : Int))]) rfl ?_
            refine tw_goto k29_113 ?_
            obtain ⟨u1, u2, u3⟩ := st1_u (M := M2) (q := (56 + f)) (j := (a + t)) (c := 61) (f := f) (v := (0 : Int)) (w := (M2 61 f - 0)) (by omega)
            refine tw_eqL (L' := [some (.inr (.inr (.inl 35))), some (.inl ((g : Nat) : Int)), some (.inl (((a + t) : Nat) : Int)), some (.inl (fWn (fLf (fun j => G.2.1 (gOf G j)) us perm (a + t)) a (us (a + t)) ((f + 1) - a))), some (.inl (((f + 1) : Nat) : Int)), sv (some (.inl (0 : Int)))]) (e_c rfl (e_c rfl (e_c rfl (e_c (e_i (by rw [show f + 1 - a = f - a by omega]; omega)) (e_c rfl (e_c rfl rfl)))))) ?_
            refine ih _ _ (fun c hc => by rw [u3 c (by omega) (by omega)]; exact e1 c hc) (fun j h1 h2 i hi => ?_) (fun i hi => ?_) (fun i j hi h1 h2 => ?_) (fun i hi => ?_) (fun i h1 h2 => ?_)
            · by_cases e : i = f
              · subst e; rw [u2, pU_ne (by omega)]; exact e2 j h1 h2 i hi
              · rw [u3 _ (by omega) (by omega)]; exact e2 j h1 h2 i hi
            · by_cases e : i = f
              · subst e; rw [u2, pU_eq]; rw [fFl_e (fst := (fun j => G.2.1 (gOf G j))) (hfs (a + t) (by omega) (by omega)), if_neg (by omega)]
              · rw [u3 _ (by omega) (by omega)]; exact e3 i (by omega)
            · by_cases e : i = f
              · subst e; rw [u2, pU_ne (by omega)]; exact e4 i j hi h1 (by omega)
              · rw [u3 _ (by omega) (by omega)]; exact e4 i j hi h1 (by omega)
            · rw [u1]; by_cases e : i = f
              · subst e; rw [pU_eq, Int.sub_zero]; exact e5 i hi
              · rw [pU_ne e]; exact e5 i hi
            · rw [u1, pU_ne (by omega), e6 i h1 h2, if_neg (by omega), if_neg (by omega)]
          · have hl1 := hLr (a + t) (by omega) (by omega) f (by omega)
            have hw1 := fWn_rg (left := (fLf (fun j => G.2.1 (gOf G j)) us perm (a + t))) (a := a) (hU (a + t) (by omega)).1 (f - a) (fun k hk => (hLr (a + t) (by omega) (by omega) _ (by omega)).1)
            have hfl : min (fWn (fLf (fun j => G.2.1 (gOf G j)) us perm (a + t)) a (us (a + t)) (f - a)) ((fLf (fun j => G.2.1 (gOf G j)) us perm (a + t)) f) = (fFl (fun j => G.2.1 (gOf G j)) us perm f (a + t)) := by
              rw [fFl_e (fst := (fun j => G.2.1 (gOf G j))) (hfs (a + t) (by omega) (by omega)), if_pos (by omega)]
            have hflr : 0 ≤ (fFl (fun j => G.2.1 (gOf G j)) us perm f (a + t)) ∧ (fFl (fun j => G.2.1 (gOf G j)) us perm f (a + t)) ≤ 1000 := by omega
            refine tw_iload k29_45 rfl ?_
            refine tw_iload k29_47 rfl ?_
            refine tw_cgtF k29_48 (by omega) ?_
            refine tw_iload k29_51 rfl ?_
            refine tw_aload k29_53 rfl ?_
            refine tw_getr k29_54 f35_1 ?_
            refine tw_getr k29_57 f44_0 ?_
            refine tw_iload k29_60 rfl ?_
            refine tw_iald (j := g) (v := ((a : Nat) : Int)) k29_61 al45 rfl (by omega) (by rw [e1 _ (by omega)]; exact hk1) ?_
            refine tw_cgeT k29_62 (by omega) ?_
            refine tw_iload k29_69 rfl ?_
            refine tw_aload k29_70 rfl ?_
            refine tw_getr k29_71 f35_10 ?_
            refine tw_iload k29_74 rfl ?_
            refine tw_iald (j := f) (v := ((fLf (fun j => G.2.1 (gOf G j)) us perm (a + t)) f)) k29_76 al61 rfl (by omega) (by rw [e6 _ (by omega) (by omega), if_neg (by omega)]) ?_
            refine tw_min k29_77 rfl ?_
            refine tw_eqS (S' := [.inl (fFl (fun j => G.2.1 (gOf G j)) us perm f (a + t))]) (e_c (congrArg Sum.inl hfl) rfl) ?_
            refine tw_istore k29_80 rfl (L' := [some (.inr (.inr (.inl 35))), some (.inl ((g : Nat) : Int)), some (.inl (((a + t) : Nat) : Int)), some (.inl (fWn (fLf (fun j => G.2.1 (gOf G j)) us perm (a + t)) a (us (a + t)) (f - a))), some (.inl ((f : Nat) : Int)), some (.inl (fFl (fun j => G.2.1 (gOf G j)) us perm f (a + t)))]) rfl ?_
            refine tw_aload k29_82 rfl ?_
            refine tw_getr k29_83 f35_9 ?_
            refine tw_iload k29_86 rfl ?_
            refine tw_aald (j := f) (u := (56 + f)) k29_88 rfl (rr55 (by omega)) ?_
            refine tw_iload k29_89 rfl ?_
            refine tw_iload k29_90 rfl ?_
            refine tw_iastu (j := (a + t)) k29_92 (alF (by omega)) rfl (by omega) ?_
            refine tw_aload k29_93 rfl ?_
            refine tw_getr k29_94 f35_10 ?_
            refine tw_iload k29_97 rfl ?_
            refine tw_dup2 k29_99 ?_
            refine tw_iald (j := f) (v := ((fLf (fun j => G.2.1 (gOf G j)) us perm (a + t)) f)) k29_100 al61 rfl (by omega) (by rw [tu_row (by omega), e6 _ (by omega) (by omega), if_neg (by omega)]) ?_
            refine tw_iload k29_101 rfl ?_
            refine tw_isub k29_103 (v := (((fLf (fun j => G.2.1 (gOf G j)) us perm (a + t)) f) - (fFl (fun j => G.2.1 (gOf G j)) us perm f (a + t)))) rfl (by omega) ?_
            refine tw_iast (M := (mj_u M2 (56 + f) (a + t) (fFl (fun j => G.2.1 (gOf G j)) us perm f (a + t)))) (N := N) (l := []) (l' := [(61, (pU ((mj_u M2 (56 + f) (a + t) (fFl (fun j => G.2.1 (gOf G j)) us perm f (a + t))) 61) f (((fLf (fun j => G.2.1 (gOf G j)) us perm (a + t)) f) - (fFl (fun j => G.2.1 (gOf G j)) us perm f (a + t)))))]) (j := f) k29_104 al61 rfl (by omega) rfl ?_
            refine tw_iload k29_105 rfl ?_
            refine tw_iload k29_106 rfl ?_
            refine tw_isub k29_108 (v := ((fWn (fLf (fun j => G.2.1 (gOf G j)) us perm (a + t)) a (us (a + t)) (f - a)) - (fFl (fun j => G.2.1 (gOf G j)) us perm f (a + t)))) rfl (by omega) ?_
            refine tw_istore k29_109 rfl (L' := [some (.inr (.inr (.inl 35))), some (.inl ((g : Nat) : Int)), some (.inl (((a + t) : Nat) : Int)), some (.inl ((fWn (fLf (fun j => G.2.1 (gOf G j)) us perm (a + t)) a (us (a + t)) (f - a)) - (fFl (fun j => G.2.1 (gOf G j)) us perm f (a + t)))), some (.inl ((f : Nat) : Int)), some (.inl (fFl (fun j => G.2.1 (gOf G j)) us perm f (a + t)))]) rfl ?_
            refine tw_iinc k29_110 rfl (v := ((f + 1 : Nat) : Int)) rfl (by omega) rfl (L' := [some (.inr (.inr (.inl 35))), some (.inl ((g : Nat) : Int)), some (.inl (((a + t) : Nat) : Int)), some (.inl ((fWn (fLf (fun j => G.2.1 (gOf G j)) us perm (a + t)) a (us (a + t)) (f - a)) - (fFl (fun j => G.2.1 (gOf G j)) us perm f (a + t)))), some (.inl ((f + 1 : Nat) : Int)), some (.inl (fFl (fun j => G.2.1 (gOf G j)) us perm f (a + t)))]) rfl ?_
            refine tw_goto k29_113 ?_
            obtain ⟨u1, u2, u3⟩ := st1_u (M := M2) (q := (56 + f)) (j := (a + t)) (c := 61) (f := f) (v := (fFl (fun j => G.2.1 (gOf G j)) us perm f (a + t))) (w := ((fLf (fun j => G.2.1 (gOf G j)) us perm (a + t)) f - (fFl (fun j => G.2.1 (gOf G j)) us perm f (a + t)))) (by omega)
            refine tw_eqL (L' := [some (.inr (.inr (.inl 35))), some (.inl ((g : Nat) : Int)), some (.inl (((a + t) : Nat) : Int)), some (.inl (fWn (fLf (fun j => G.2.1 (gOf G j)) us perm (a + t)) a (us (a + t)) ((f + 1) - a))), some (.inl (((f + 1) : Nat) : Int)), sv (some (.inl (fFl (fun j => G.2.1 (gOf G j)) us perm f (a + t))))]) (e_c rfl (e_c rfl (e_c rfl (e_c (e_i (by rw [show f + 1 - a = (f - a) + 1 by omega, fWn, show a + (f - a) = f by omega, hfl])) (e_c rfl (e_c rfl rfl)))))) ?_
            refine ih _ _ (fun c hc => by rw [u3 c (by omega) (by omega)]; exact e1 c hc) (fun j h1 h2 i hi => ?_) (fun i hi => ?_) (fun i j hi h1 h2 => ?_) (fun i hi => ?_) (fun i h1 h2 => ?_)
            · by_cases e : i = f
              · subst e; rw [u2, pU_ne (by omega)]; exact e2 j h1 h2 i hi
              · rw [u3 _ (by omega) (by omega)]; exact e2 j h1 h2 i hi
            · by_cases e : i = f
              · subst e; rw [u2, pU_eq]
              · rw [u3 _ (by omega) (by omega)]; exact e3 i (by omega)
            · by_cases e : i = f
              · subst e; rw [u2, pU_ne (by omega)]; exact e4 i j hi h1 (by omega)
              · rw [u3 _ (by omega) (by omega)]; exact e4 i j hi h1 (by omega)
            · rw [u1, pU_ne (by omega)]; exact e5 i hi
            · rw [u1]; by_cases e : i = f
              · subst e; rw [pU_eq, if_pos (by omega)]
              · rw [pU_ne e, e6 i h1 h2]
                by_cases e7 : i < f
                · rw [if_pos e7, if_pos (by omega)]
                · rw [if_neg e7, if_neg (by omega)]
      refine tw_eqL (L' := [some (.inr (.inr (.inl 35))), some (.inl ((g : Nat) : Int)), some (.inl (((a + t) : Nat) : Int)), some (.inl (fWn (fLf (fun j => G.2.1 (gOf G j)) us perm (a + t)) a (us (a + t)) (0 - a))), some (.inl ((0 : Nat) : Int)), sv o5]) (e_c rfl (e_c rfl (e_c rfl (e_c (e_i (by rw [show 0 - a = 0 by omega, fWn])) (e_c (e_i rfl) (e_c rfl rfl)))))) ?_
      refine keyI 0 (by omega) _ _ (fun c hc => by rw [st_c, if_neg (by omega), st_nil]; exact f1 c hc) (fun j h1 h2 i hi => ?_) (fun i hi => by omega) (fun i j hi h1 h2 => ?_) (fun i hi => ?_) (fun i h1 h2 => ?_)
      · rw [st_c, if_neg (by omega), st_nil]; exact f2 j h1 h2 i hi
      · rw [st_c, if_neg (by omega), st_nil]; exact f3 i j hi h1
      · show 0 ≤ pU (M1 61) _ _ i ∧ pU (M1 61) _ _ i ≤ 1000
        rw [pU_ne (by omega)]; exact f4 i hi
      · show pU (M1 61) _ _ i = _
        rw [if_neg (by omega)]
        by_cases e : i = a + t
        · subst e; rw [pU_eq, fLf_up _ _ (Nat.le_refl _)]
        · rw [pU_ne e, f5 i h1 (by omega)]
  refine tw_aload k29_0 rfl ?_
  refine tw_getr k29_1 f35_1 ?_
  refine tw_getr k29_4 f44_0 ?_
  refine tw_iload k29_7 rfl ?_
  refine tw_iald (j := g) (v := ((a : Nat) : Int)) k29_8 al45 rfl (by omega) hk1 ?_
  refine tw_istore k29_9 rfl (L' := [some (.inr (.inr (.inl 35))), some (.inl ((g : Nat) : Int)), some (.inl ((a : Nat) : Int)), none, none, none]) rfl ?_
  refine tw_eqL (L' := [some (.inr (.inr (.inl 35))), some (.inl ((g : Nat) : Int)), some (.inl (((a + 0) : Nat) : Int)), sv none, sv none, sv none]) (e_c rfl (e_c rfl (e_c (e_i rfl) (e_c rfl (e_c rfl (e_c rfl rfl)))))) ?_
  exact keyT 0 (by omega) _ _ _ _ (fun c _ => rfl) (fun j h1 h2 => by omega) (fun i j _ _ => rfl) hL (fun i h1 h2 => by omega)
theorem x_55_35 {K : mj_C} {d : Nat} {M : Nat → Nat → Int} {N : Nat → Nat → Int64} (s : Nat → Int) (hS : cSV 2 M s) (m q : Nat) (hm : m < 10) (hq : q < 10) : mj_X K d 55 [.inr (.inr (.inl 2)), .inl ((m : Nat) : Int), .inl ((q : Nat) : Int)] (mj_Sh, M, N) (fun r Z => r = some (.inl (if s (12 + m) = s (12 + q) ∧ isA s m q then 1 else 0)) ∧ Z = (mj_Sh, M, N)) := by
  show mj_T K d 55 0 [some (.inr (.inr (.inl 2))), some (.inl ((m : Nat) : Int)), some (.inl ((q : Nat) : Int))] [] (mj_Sh, M, N) _
  refine tw_aload k55_0 rfl ?_
  refine tw_getr k55_1 f2_2 ?_
  refine tw_iload k55_4 rfl ?_
  refine tw_iald (j := m) (v := (s (12 + m))) k55_5 al5 rfl (by omega) (hS.2.2.2.1 m (by omega)).1 ?_
  refine tw_aload k55_6 rfl ?_
  refine tw_getr k55_7 f2_2 ?_
  refine tw_iload k55_10 rfl ?_
  refine tw_iald (j := q) (v := (s (12 + q))) k55_11 al5 rfl (by omega) (hS.2.2.2.1 q (by omega)).1 ?_
  refine tw_cne k55_12 (fun h12 => ?_) (fun h12 => ?_)
  · refine tw_const k55_54 ?_
    exact tw_rb k55_55 (by decide) (⟨by rw [if_neg (by unfold isA; omega)], rfl⟩)
  · refine tw_aload k55_15 rfl ?_
    refine tw_getr k55_16 f2_3 ?_
    refine tw_iload k55_19 rfl ?_
    refine tw_iald (j := m) (v := (s (22 + m))) k55_20 al6 rfl (by omega) (hS.2.2.2.1 m (by omega)).2.1 ?_
    refine tw_aload k55_21 rfl ?_
    refine tw_getr k55_22 f2_3 ?_
    refine tw_iload k55_25 rfl ?_
    refine tw_iald (j := q) (v := (s (22 + q))) k55_26 al6 rfl (by omega) (hS.2.2.2.1 q (by omega)).2.1 ?_
    refine tw_clt k55_27 (fun h27 => ?_) (fun h27 => ?_)
    · refine tw_const k55_50 ?_
      refine tw_goto k55_51 ?_
      exact tw_rb k55_55 (by decide) (⟨by rw [if_pos (by unfold isA; omega)], rfl⟩)
    · refine tw_aload k55_30 rfl ?_
      refine tw_getr k55_31 f2_3 ?_
      refine tw_iload k55_34 rfl ?_
      refine tw_iald (j := m) (v := (s (22 + m))) k55_35 al6 rfl (by omega) (hS.2.2.2.1 m (by omega)).2.1 ?_
      refine tw_aload k55_36 rfl ?_
      refine tw_getr k55_37 f2_3 ?_
      refine tw_iload k55_40 rfl ?_
      refine tw_iald (j := q) (v := (s (22 + q))) k55_41 al6 rfl (by omega) (hS.2.2.2.1 q (by omega)).2.1 ?_
      refine tw_cne k55_42 (fun h42 => ?_) (fun h42 => ?_)
      · refine tw_const k55_54 ?_
        exact tw_rb k55_55 (by decide) (⟨by rw [if_neg (by unfold isA; omega)], rfl⟩)
      · refine tw_iload k55_45 rfl ?_
        refine tw_iload k55_46 rfl ?_
        refine tw_cge k55_47 (fun h47 => ?_) (fun h47 => ?_)
        · refine tw_const k55_54 ?_
          exact tw_rb k55_55 (by decide) (⟨by rw [if_neg (by unfold isA; omega)], rfl⟩)
        · refine tw_const k55_50 ?_
          refine tw_goto k55_51 ?_
          exact tw_rb k55_55 (by decide) (⟨by rw [if_pos (by unfold isA; omega)], rfl⟩)
theorem x_15_35 {K : mj_C} {d : Nat} {M : Nat → Nat → Int} {N : Nat → Nat → Int64} (G : GS) (h5 : G.1 ≤ 5) (hG : gRel (M 44 3) (M 45) (M 46) (M 47) G) (lk : Nat → Int) (hk : ∀ g, g < G.1 → M 53 g = lk g ∧ 0 ≤ lk g ∧ lk g ≤ 5000) : mj_X K d 15 [.inr (.inr (.inl 35))] (mj_Sh, M, N) (fun r Z => r = some (.inl (pS lk 0 G.1)) ∧ Z = (mj_Sh, M, N)) := by
  show mj_T K d 15 0 [some (.inr (.inr (.inl 35))), none, none] [] (mj_Sh, M, N) _
  have key : ∀ g : Nat, g ≤ G.1 → mj_T K d 15 4 [some (.inr (.inr (.inl 35))), some (.inl (pS lk 0 g)), some (.inl ((g : Nat) : Int))] [] (mj_Sh, M, N) (fun r Z => r = some (.inl (pS lk 0 G.1)) ∧ Z = (mj_Sh, M, N)) := by
    refine up_to G.1 ?_ ?_
    · show mj_T K d 15 4 [some (.inr (.inr (.inl 35))), some (.inl (pS lk 0 G.1)), some (.inl ((G.1 : Nat) : Int))] [] (mj_Sh, M, N) (fun r Z => r = some (.inl (pS lk 0 G.1)) ∧ Z = (mj_Sh, M, N))
      refine tw_iload k15_4 rfl ?_
      refine tw_aload k15_5 rfl ?_
      refine tw_getr k15_6 f35_1 ?_
      refine tw_geti k15_9 f44_3 rfl (v := ((G.1 : Nat) : Int)) hG.1 ?_
      refine tw_cgeT k15_12 (by omega) ?_
      refine tw_iload k15_30 rfl ?_
      exact tw_ri k15_31 (⟨rfl, rfl⟩)
    · intro g hmg ih
      have ih : mj_T K d 15 4 [some (.inr (.inr (.inl 35))), some (.inl (pS lk 0 (g + 1))), some (.inl (((g + 1) : Nat) : Int))] [] (mj_Sh, M, N) (fun r Z => r = some (.inl (pS lk 0 G.1)) ∧ Z = (mj_Sh, M, N)) := ih
      show mj_T K d 15 4 [some (.inr (.inr (.inl 35))), some (.inl (pS lk 0 g)), some (.inl ((g : Nat) : Int))] [] (mj_Sh, M, N) (fun r Z => r = some (.inl (pS lk 0 G.1)) ∧ Z = (mj_Sh, M, N))
      have hr := pS_rg (f := lk) (a := 0) (B := 5000) g (fun i _ hi => (hk i (by omega)).2)
      have hr2 := hk g (by omega)
      refine tw_iload k15_4 rfl ?_
      refine tw_aload k15_5 rfl ?_
      refine tw_getr k15_6 f35_1 ?_
      refine tw_geti k15_9 f44_3 rfl (v := ((G.1 : Nat) : Int)) hG.1 ?_
      refine tw_cgeF k15_12 (by omega) ?_
      refine tw_iload k15_15 rfl ?_
      refine tw_aload k15_16 rfl ?_
      refine tw_getr k15_17 f35_7 ?_
      refine tw_iload k15_20 rfl ?_
      refine tw_iald (j := g) (v := (lk g)) k15_21 al53 rfl (by omega) (hk g (by omega)).1 ?_
      refine tw_iadd k15_22 (v := ((pS lk 0 g) + (lk g))) rfl (by omega) ?_
      refine tw_istore k15_23 rfl (L' := [some (.inr (.inr (.inl 35))), some (.inl ((pS lk 0 g) + (lk g))), some (.inl ((g : Nat) : Int))]) rfl ?_
      refine tw_iinc k15_24 rfl (v := ((g + 1 : Nat) : Int)) rfl (by omega) rfl (L' := [some (.inr (.inr (.inl 35))), some (.inl ((pS lk 0 g) + (lk g))), some (.inl ((g + 1 : Nat) : Int))]) rfl ?_
      refine tw_goto k15_27 ?_
      refine tw_eqL (L' := [some (.inr (.inr (.inl 35))), some (.inl (pS lk 0 (g + 1))), some (.inl (((g + 1) : Nat) : Int))]) (e_c rfl (e_c (e_i (by rw [pS, Nat.zero_add])) (e_c rfl rfl))) ?_
      exact ih
  refine tw_const k15_0 ?_
  refine tw_istore k15_1 rfl (L' := [some (.inr (.inr (.inl 35))), some (.inl (0 : Int)), none]) rfl ?_
  refine tw_const k15_2 ?_
  refine tw_istore k15_3 rfl (L' := [some (.inr (.inr (.inl 35))), some (.inl (0 : Int)), some (.inl (0 : Int))]) rfl ?_
  refine tw_eqL (L' := [some (.inr (.inr (.inl 35))), some (.inl (pS lk 0 0)), some (.inl ((0 : Nat) : Int))]) (e_c rfl (e_c (e_i rfl) (e_c (e_i rfl) rfl))) ?_
  exact key 0 (by omega)
theorem x_30_35 {K : mj_C} {d : Nat} {M : Nat → Nat → Int} {N : Nat → Nat → Int64} (hD : 1 ≤ d) (s : Nat → Int) (hs : pRg s) (hS : cSV 2 M s) (G : GS) (h5G : G.1 ≤ 5) (hG : gRel (M 44 3) (M 45) (M 46) (M 47) G) (us lk : Nat → Int) (hU : ∀ y, y < (s 0).toNat → M 51 y = us y ∧ 0 ≤ us y ∧ us y ≤ 100) (hk : ∀ g, g < G.1 → M 53 g = lk g ∧ 0 ≤ lk g ∧ lk g ≤ 5000) : mj_X K d 30 [.inr (.inr (.inl 35)), .inr (.inr (.inl 2))] (mj_Sh, M, N) (fun r Z => r = none ∧ ∃ f1, Z = (mj_Sh, st M [(54, f1)], st N [(35, pU (N 35) 16 (tt s (wDn s us) (pS lk 0 G.1) (s 11).toNat))]) ∧ ∀ m : Nat, (m : Int) < s 11 → f1 m = wDn s us m) := by
  show mj_T K d 30 0 [some (.inr (.inr (.inl 35))), some (.inr (.inr (.inl 2))), none, none, none] [] (mj_Sh, M, N) _
  have h0 := hs.1 0 (by omega)
  have h5 := hs.2.1
  obtain ⟨Y, hYe⟩ : ∃ Y : Nat, Y = (s 0).toNat := ⟨_, rfl⟩
  have hY0 : s 0 = (Y : Int) := by omega
  have h11 := hs.1 11 (by omega)
  have hc11 := hs.2.2.1
  have keyO : ∀ k : Nat, k ≤ (s 11).toNat → ∀ o3 o4 (f1 : Nat → Int), (∀ q, q < k → f1 q = wDn s us q) → mj_T K d 30 15 [some (.inr (.inr (.inl 35))), some (.inr (.inr (.inl 2))), some (.inl ((k : Nat) : Int)), sv o3, sv o4] [] (mj_Sh, (st M [(54, f1)]), (st N [(35, (pU (N 35) 16 (tt s (wDn s us) (pS lk 0 G.1) k)))])) (fun r Z => r = none ∧ ∃ f1, Z = (mj_Sh, st M [(54, f1)], st N [(35, pU (N 35) 16 (tt s (wDn s us) (pS lk 0 G.1) (s 11).toNat))]) ∧ ∀ m : Nat, (m : Int) < s 11 → f1 m = wDn s us m) := by
    refine up_to (s 11).toNat ?_ ?_
    · show ∀ o3 o4 (f1 : Nat → Int), (∀ q, q < (s 11).toNat → f1 q = wDn s us q) → mj_T K d 30 15 [some (.inr (.inr (.inl 35))), some (.inr (.inr (.inl 2))), some (.inl (((s 11).toNat : Nat) : Int)), sv o3, sv o4] [] (mj_Sh, (st M [(54, f1)]), (st N [(35, (pU (N 35) 16 (tt s (wDn s us) (pS lk 0 G.1) (s 11).toNat)))])) (fun r Z => r = none ∧ ∃ f1, Z = (mj_Sh, st M [(54, f1)], st N [(35, pU (N 35) 16 (tt s (wDn s us) (pS lk 0 G.1) (s 11).toNat))]) ∧ ∀ m : Nat, (m : Int) < s 11 → f1 m = wDn s us m)
      intro o3 o4 f1 c1
      refine tw_iload k30_15 rfl ?_
      refine tw_aload k30_16 rfl ?_
      refine tw_geti k30_17 f2_7 rfl (v := (s 11)) (show M 2 7 = _ from hS.2.1) ?_
      refine tw_cgeT k30_20 (by omega) ?_
      exact tw_rv k30_139 (⟨rfl, f1, rfl, fun m hm => c1 m (by omega)⟩)
    · intro k hmk ih
      have ih : ∀ o3 o4 (f1 : Nat → Int), (∀ q, q < (k + 1) → f1 q = wDn s us q) → mj_T K d 30 15 [some (.inr (.inr (.inl 35))), some (.inr (.inr (.inl 2))), some (.inl (((k + 1) : Nat) : Int)), sv o3, sv o4] [] (mj_Sh, (st M [(54, f1)]), (st N [(35, (pU (N 35) 16 (tt s (wDn s us) (pS lk 0 G.1) (k + 1))))])) (fun r Z => r = none ∧ ∃ f1, Z = (mj_Sh, st M [(54, f1)], st N [(35, pU (N 35) 16 (tt s (wDn s us) (pS lk 0 G.1) (s 11).toNat))]) ∧ ∀ m : Nat, (m : Int) < s 11 → f1 m = wDn s us m) := ih
      show ∀ o3 o4 (f1 : Nat → Int), (∀ q, q < k → f1 q = wDn s us q) → mj_T K d 30 15 [some (.inr (.inr (.inl 35))), some (.inr (.inr (.inl 2))), some (.inl ((k : Nat) : Int)), sv o3, sv o4] [] (mj_Sh, (st M [(54, f1)]), (st N [(35, (pU (N 35) 16 (tt s (wDn s us) (pS lk 0 G.1) k)))])) (fun r Z => r = none ∧ ∃ f1, Z = (mj_Sh, st M [(54, f1)], st N [(35, pU (N 35) 16 (tt s (wDn s us) (pS lk 0 G.1) (s 11).toNat))]) ∧ ∀ m : Nat, (m : Int) < s 11 → f1 m = wDn s us m)
      intro o3 o4 f1 c1
      have how := hs.2.2.2.1 k (by omega)
      have how0 := hs.1 (12 + k) (by omega)
      have h6 := hs.1 (6 + (s (12 + k)).toNat) (by omega)
      have hu := hU (s (12 + k)).toNat (by omega)
      refine tw_iload k30_15 rfl ?_
      refine tw_aload k30_16 rfl ?_
      refine tw_geti k30_17 f2_7 rfl (v := (s 11)) (show M 2 7 = _ from hS.2.1) ?_
      refine tw_cgeF k30_20 (by omega) ?_
      refine tw_aload k30_23 rfl ?_
      refine tw_getr k30_24 f2_1 ?_
      refine tw_aload k30_27 rfl ?_
      refine tw_getr k30_28 f2_2 ?_
      refine tw_iload k30_31 rfl ?_
      refine tw_iald (j := k) (v := ((((s (12 + k)).toNat) : Nat) : Int)) k30_32 al5 rfl (by omega) (show M 5 k = _ from ((hS.2.2.2.1 k (by omega)).1.trans (by omega))) ?_
      refine tw_iald (j := ((s (12 + k)).toNat)) (v := (s (6 + (s (12 + k)).toNat))) k30_33 al4 rfl (by omega) (show M 4 ((s (12 + k)).toNat) = _ from (hS.2.2.1 _ (by omega)).2) ?_
      refine tw_aload k30_34 rfl ?_
      refine tw_getr k30_35 f35_5 ?_
      refine tw_aload k30_38 rfl ?_
      refine tw_getr k30_39 f2_2 ?_
      refine tw_iload k30_42 rfl ?_
      refine tw_iald (j := k) (v := ((((s (12 + k)).toNat) : Nat) : Int)) k30_43 al5 rfl (by omega) (show M 5 k = _ from ((hS.2.2.2.1 k (by omega)).1.trans (by omega))) ?_
      refine tw_iald (j := ((s (12 + k)).toNat)) (v := (us (s (12 + k)).toNat)) k30_44 al51 rfl (by omega) (show M 51 ((s (12 + k)).toNat) = _ from (hU _ (by omega)).1) ?_
      refine tw_isub k30_45 (v := ((s (6 + (s (12 + k)).toNat)) - (us (s (12 + k)).toNat))) rfl (by omega) ?_
      refine tw_istore k30_46 rfl (L' := [some (.inr (.inr (.inl 35))), some (.inr (.inr (.inl 2))), some (.inl ((k : Nat) : Int)), some (.inl ((s (6 + (s (12 + k)).toNat)) - (us (s (12 + k)).toNat))), sv o4]) rfl ?_
      refine tw_const k30_47 ?_
      refine tw_istore k30_48 rfl (L' := [some (.inr (.inr (.inl 35))), some (.inr (.inr (.inl 2))), some (.inl ((k : Nat) : Int)), some (.inl ((s (6 + (s (12 + k)).toNat)) - (us (s (12 + k)).toNat))), some (.inl (0 : Int))]) rfl ?_
      have ih2 := ih
      have keyI : ∀ i : Nat, i ≤ (s 11).toNat → mj_T K d 30 50 [some (.inr (.inr (.inl 35))), some (.inr (.inr (.inl 2))), some (.inl ((k : Nat) : Int)), some (.inl (s (6 + (s (12 + k)).toNat) - us (s (12 + k)).toNat - pS (fun q => if s (12 + q) = s (12 + k) ∧ isA s q k then s (32 + q) else 0) 0 i)), some (.inl ((i : Nat) : Int))] [] (mj_Sh, (st M [(54, f1)]), (st N [(35, (pU (N 35) 16 (tt s (wDn s us) (pS lk 0 G.1) k)))])) (fun r Z => r = none ∧ ∃ f1, Z = (mj_Sh, st M [(54, f1)], st N [(35, pU (N 35) 16 (tt s (wDn s us) (pS lk 0 G.1) (s 11).toNat))]) ∧ ∀ m : Nat, (m : Int) < s 11 → f1 m = wDn s us m) := by
        refine up_to (s 11).toNat ?_ ?_
        · show mj_T K d 30 50 [some (.inr (.inr (.inl 35))), some (.inr (.inr (.inl 2))), some (.inl ((k : Nat) : Int)), some (.inl (s (6 + (s (12 + k)).toNat) - us (s (12 + k)).toNat - pS (fun q => if s (12 + q) = s (12 + k) ∧ isA s q k then s (32 + q) else 0) 0 (s 11).toNat)), some (.inl (((s 11).toNat : Nat) : Int))] [] (mj_Sh, (st M [(54, f1)]), (st N [(35, (pU (N 35) 16 (tt s (wDn s us) (pS lk 0 G.1) k)))])) (fun r Z => r = none ∧ ∃ f1, Z = (mj_Sh, st M [(54, f1)], st N [(35, pU (N 35) 16 (tt s (wDn s us) (pS lk 0 G.1) (s 11).toNat))]) ∧ ∀ m : Nat, (m : Int) < s 11 → f1 m = wDn s us m)
          have hpr := pS_rg (f := (fun q => if s (12 + q) = s (12 + k) ∧ isA s q k then s (32 + q) else 0)) (a := 0) (B := 100) (s 11).toNat (fun q _ hq => by have := hs.1 (32 + q) (by omega); (try dsimp only); split <;> omega)
          have h32 := hs.1 (32 + k) (by omega)
          refine tw_iload k30_50 rfl ?_
          refine tw_aload k30_52 rfl ?_
          refine tw_geti k30_53 f2_7 rfl (v := (s 11)) (show M 2 7 = _ from hS.2.1) ?_
          refine tw_cgeT k30_56 (by omega) ?_
          refine tw_aload k30_89 rfl ?_
          refine tw_getr k30_90 f35_8 ?_
          refine tw_iload k30_93 rfl ?_
          refine tw_const k30_94 ?_
          refine tw_iload k30_95 rfl ?_
          refine tw_aload k30_96 rfl ?_
          refine tw_getr k30_97 f2_4 ?_
          refine tw_iload k30_100 rfl ?_
          refine tw_iald (j := k) (v := (s (32 + k))) k30_101 al7 rfl (by omega) (show M 7 k = _ from (hS.2.2.2.1 k (by omega)).2.2) ?_
          refine tw_min k30_102 rfl ?_
          refine tw_max k30_105 rfl ?_
          refine tw_eqS (S' := [.inl (wDn s us k), .inl ((k : Nat) : Int), .inr (.inr (.inl 54))]) (e_c (congrArg Sum.inl (by unfold wDn; rfl)) rfl) ?_
          refine tw_iast (M := M) (N := (st N [(35, (pU (N 35) 16 (tt s (wDn s us) (pS lk 0 G.1) k)))])) (l := [(54, f1)]) (l' := [(54, (pU f1 k (wDn s us k)))]) (j := k) k30_108 al54 rfl (by omega) rfl ?_
          refine tw_aload k30_109 rfl ?_
          refine tw_dupr k30_110 ?_
          refine tw_getl k30_111 f35_16 (v := (tt s (wDn s us) (pS lk 0 G.1) k)) rfl ?_
          refine tw_aload k30_114 rfl ?_
          refine tw_getr k30_115 f35_8 ?_
          refine tw_iload k30_118 rfl ?_
          refine tw_iald (j := k) (v := (wDn s us k)) k30_119 al54 rfl (by omega) (show (pU f1 k (wDn s us k)) k = _ from pU_eq) ?_
          refine tw_i2l k30_120 ?_
          refine tw_aload k30_121 rfl ?_
          refine tw_getr k30_122 f2_3 ?_
          refine tw_iload k30_125 rfl ?_
          refine tw_iald (j := k) (v := (s (22 + k))) k30_126 al6 rfl (by omega) (show M 6 k = _ from (hS.2.2.2.1 k (by omega)).2.1) ?_
          refine tw_i2l k30_127 ?_
          refine tw_lmul k30_128 ?_
          refine tw_ladd k30_129 ?_
          refine tw_putl (M := (st M [(54, (pU f1 k (wDn s us k)))])) (N := N) (l := [(35, (pU (N 35) 16 (tt s (wDn s us) (pS lk 0 G.1) k)))]) (l' := [(35, (pU (pU (N 35) 16 (tt s (wDn s us) (pS lk 0 G.1) k)) 16 ((tt s (wDn s us) (pS lk 0 G.1) k) + (((Int32.ofInt (wDn s us k)).toInt64) * ((Int32.ofInt (s (22 + k))).toInt64)))))]) k30_130 f35_16 rfl ?_
          refine tw_iinc k30_133 rfl (v := ((k + 1 : Nat) : Int)) rfl (by omega) rfl (L' := [some (.inr (.inr (.inl 35))), some (.inr (.inr (.inl 2))), some (.inl ((k + 1 : Nat) : Int)), some (.inl (s (6 + (s (12 + k)).toNat) - us (s (12 + k)).toNat - pS (fun q => if s (12 + q) = s (12 + k) ∧ isA s q k then s (32 + q) else 0) 0 (s 11).toNat)), some (.inl (((s 11).toNat : Nat) : Int))]) rfl ?_
          refine tw_goto k30_136 ?_
          refine tw_as (M := (st M [(54, pU f1 k (wDn s us k))])) (N := (st N [(35, (pU (N 35) 16 (tt s (wDn s us) (pS lk 0 G.1) (k + 1))))])) rfl (by rw [pU_pU]; rfl) ?_
          refine ih2 (some (.inl (s (6 + (s (12 + k)).toNat) - us (s (12 + k)).toNat - pS (fun q => if s (12 + q) = s (12 + k) ∧ isA s q k then s (32 + q) else 0) 0 (s 11).toNat))) (some (.inl (((s 11).toNat : Nat) : Int))) _ (fun q hq => ?_)
          by_cases e : q = k
          · subst e; rw [pU_eq]
          · rw [pU_ne e]; exact c1 q (by omega)
        · intro i hmi ih
          have ih : mj_T K d 30 50 [some (.inr (.inr (.inl 35))), some (.inr (.inr (.inl 2))), some (.inl ((k : Nat) : Int)), some (.inl (s (6 + (s (12 + k)).toNat) - us (s (12 + k)).toNat - pS (fun q => if s (12 + q) = s (12 + k) ∧ isA s q k then s (32 + q) else 0) 0 (i + 1))), some (.inl (((i + 1) : Nat) : Int))] [] (mj_Sh, (st M [(54, f1)]), (st N [(35, (pU (N 35) 16 (tt s (wDn s us) (pS lk 0 G.1) k)))])) (fun r Z => r = none ∧ ∃ f1, Z = (mj_Sh, st M [(54, f1)], st N [(35, pU (N 35) 16 (tt s (wDn s us) (pS lk 0 G.1) (s 11).toNat))]) ∧ ∀ m : Nat, (m : Int) < s 11 → f1 m = wDn s us m) := ih
          show mj_T K d 30 50 [some (.inr (.inr (.inl 35))), some (.inr (.inr (.inl 2))), some (.inl ((k : Nat) : Int)), some (.inl (s (6 + (s (12 + k)).toNat) - us (s (12 + k)).toNat - pS (fun q => if s (12 + q) = s (12 + k) ∧ isA s q k then s (32 + q) else 0) 0 i)), some (.inl ((i : Nat) : Int))] [] (mj_Sh, (st M [(54, f1)]), (st N [(35, (pU (N 35) 16 (tt s (wDn s us) (pS lk 0 G.1) k)))])) (fun r Z => r = none ∧ ∃ f1, Z = (mj_Sh, st M [(54, f1)], st N [(35, pU (N 35) 16 (tt s (wDn s us) (pS lk 0 G.1) (s 11).toNat))]) ∧ ∀ m : Nat, (m : Int) < s 11 → f1 m = wDn s us m)
          have hpr := pS_rg (f := (fun q => if s (12 + q) = s (12 + k) ∧ isA s q k then s (32 + q) else 0)) (a := 0) (B := 100) i (fun q _ hq => by have := hs.1 (32 + q) (by omega); (try dsimp only); split <;> omega)
          have h32 := hs.1 (32 + i) (by omega)
          refine tw_iload k30_50 rfl ?_
          refine tw_aload k30_52 rfl ?_
          refine tw_geti k30_53 f2_7 rfl (v := (s 11)) (show M 2 7 = _ from hS.2.1) ?_
          refine tw_cgeF k30_56 (by omega) ?_
          refine tw_iload k30_59 rfl ?_
          refine tw_aload k30_60 rfl ?_
          refine tw_iload k30_61 rfl ?_
          refine tw_iload k30_63 rfl ?_
          refine tw_callb (by omega) (S' := [.inl (s (6 + (s (12 + k)).toNat) - us (s (12 + k)).toNat - pS (fun q => if s (12 + q) = s (12 + k) ∧ isA s q k then s (32 + q) else 0) 0 i)]) (as := [.inr (.inr (.inl 2)), .inl ((i : Nat) : Int), .inl ((k : Nat) : Int)]) k30_64 (x_55_35 (M := (st M [(54, f1)])) (N := (st N [(35, (pU (N 35) 16 (tt s (wDn s us) (pS lk 0 G.1) k)))])) s hS i k (by omega) (by omega)) rfl rfl rfl rfl rfl (fun h64 => ?_) (fun h64 => ?_)
          · refine tw_zeqF k30_67 (by decide) ?_
            refine tw_aload k30_70 rfl ?_
            refine tw_getr k30_71 f2_4 ?_
            refine tw_iload k30_74 rfl ?_
            refine tw_iald (j := i) (v := (s (32 + i))) k30_76 al7 rfl (by omega) (show M 7 i = _ from (hS.2.2.2.1 i (by omega)).2.2) ?_
            refine tw_goto k30_77 ?_
            refine tw_isub k30_81 (v := ((s (6 + (s (12 + k)).toNat) - us (s (12 + k)).toNat - pS (fun q => if s (12 + q) = s (12 + k) ∧ isA s q k then s (32 + q) else 0) 0 i) - (s (32 + i)))) rfl (by omega) ?_
            refine tw_istore k30_82 rfl (L' := [some (.inr (.inr (.inl 35))), some (.inr (.inr (.inl 2))), some (.inl ((k : Nat) : Int)), some (.inl ((s (6 + (s (12 + k)).toNat) - us (s (12 + k)).toNat - pS (fun q => if s (12 + q) = s (12 + k) ∧ isA s q k then s (32 + q) else 0) 0 i) - (s (32 + i)))), some (.inl ((i : Nat) : Int))]) rfl ?_
            refine tw_iinc k30_83 rfl (v := ((i + 1 : Nat) : Int)) rfl (by omega) rfl (L' := [some (.inr (.inr (.inl 35))), some (.inr (.inr (.inl 2))), some (.inl ((k : Nat) : Int)), some (.inl ((s (6 + (s (12 + k)).toNat) - us (s (12 + k)).toNat - pS (fun q => if s (12 + q) = s (12 + k) ∧ isA s q k then s (32 + q) else 0) 0 i) - (s (32 + i)))), some (.inl ((i + 1 : Nat) : Int))]) rfl ?_
            refine tw_goto k30_86 ?_
            refine tw_eqL (L' := [some (.inr (.inr (.inl 35))), some (.inr (.inr (.inl 2))), some (.inl ((k : Nat) : Int)), some (.inl (s (6 + (s (12 + k)).toNat) - us (s (12 + k)).toNat - pS (fun q => if s (12 + q) = s (12 + k) ∧ isA s q k then s (32 + q) else 0) 0 (i + 1))), some (.inl (((i + 1) : Nat) : Int))]) (e_c rfl (e_c rfl (e_c rfl (e_c (e_i (by rw [pS]; (try dsimp only); rw [Nat.zero_add, if_pos h64]; omega)) (e_c rfl rfl))))) ?_
            exact ih
          · refine tw_zeqT k30_67 (by decide) ?_
            refine tw_const k30_80 ?_
            refine tw_isub k30_81 (v := ((s (6 + (s (12 + k)).toNat) - us (s (12 + k)).toNat - pS (fun q => if s (12 + q) = s (12 + k) ∧ isA s q k then s (32 + q) else 0) 0 i) - (0 : Int))) rfl (by omega) ?_
            refine tw_istore k30_82 rfl (L' := [some (.inr (.inr (.inl 35))), some (.inr (.inr (.inl 2))), some (.inl ((k : Nat) : Int)), some (.inl ((s (6 + (s (12 + k)).toNat) - us (s (12 + k)).toNat - pS (fun q => if s (12 + q) = s (12 + k) ∧ isA s q k then s (32 + q) else 0) 0 i) - (0 : Int))), some (.inl ((i : Nat) : Int))]) rfl ?_
            refine tw_iinc k30_83 rfl (v := ((i + 1 : Nat) : Int)) rfl (by omega) rfl (L' := [some (.inr (.inr (.inl 35))), some (.inr (.inr (.inl 2))), some (.inl ((k : Nat) : Int)), some (.inl ((s (6 + (s (12 + k)).toNat) - us (s (12 + k)).toNat - pS (fun q => if s (12 + q) = s (12 + k) ∧ isA s q k then s (32 + q) else 0) 0 i) - (0 : Int))), some (.inl ((i + 1 : Nat) : Int))]) rfl ?_
            refine tw_goto k30_86 ?_
            refine tw_eqL (L' := [some (.inr (.inr (.inl 35))), some (.inr (.inr (.inl 2))), some (.inl ((k : Nat) : Int)), some (.inl (s (6 + (s (12 + k)).toNat) - us (s (12 + k)).toNat - pS (fun q => if s (12 + q) = s (12 + k) ∧ isA s q k then s (32 + q) else 0) 0 (i + 1))), some (.inl (((i + 1) : Nat) : Int))]) (e_c rfl (e_c rfl (e_c rfl (e_c (e_i (by rw [pS]; (try dsimp only); rw [Nat.zero_add, if_neg h64]; omega)) (e_c rfl rfl))))) ?_
            exact ih
      refine tw_eqL (L' := [some (.inr (.inr (.inl 35))), some (.inr (.inr (.inl 2))), some (.inl ((k : Nat) : Int)), some (.inl (s (6 + (s (12 + k)).toNat) - us (s (12 + k)).toNat - pS (fun q => if s (12 + q) = s (12 + k) ∧ isA s q k then s (32 + q) else 0) 0 0)), some (.inl ((0 : Nat) : Int))]) (e_c rfl (e_c rfl (e_c rfl (e_c (e_i (by rw [pS]; omega)) (e_c (e_i rfl) rfl))))) ?_
      exact keyI 0 (by omega)
  refine tw_aload k30_0 rfl ?_
  refine tw_lconst k30_1 ?_
  refine tw_aload k30_4 rfl ?_
  refine tw_callp (v := .inl (pS lk 0 G.1)) (by omega) (S' := [.inr (.inl (Int64.ofInt 20)), .inr (.inr (.inl 35))]) (as := [.inr (.inr (.inl 35))]) k30_5 (x_15_35 (M := M) (N := N) G h5G hG lk hk) rfl rfl rfl rfl rfl ?_
  refine tw_i2l k30_8 ?_
  refine tw_lmul k30_9 ?_
  refine tw_putl (M := M) (N := N) (l := []) (l' := [(35, (pU (N 35) 16 ((Int64.ofInt 20) * ((Int32.ofInt (pS lk 0 G.1)).toInt64))))]) k30_10 f35_16 rfl ?_
  refine tw_const k30_13 ?_
  refine tw_istore k30_14 rfl (L' := [some (.inr (.inr (.inl 35))), some (.inr (.inr (.inl 2))), some (.inl (0 : Int)), none, none]) rfl ?_
  refine tw_pad (M := M) (N := (st N [(35, (pU (N 35) 16 ((Int64.ofInt 20) * ((Int32.ofInt (pS lk 0 G.1)).toInt64))))])) (l := []) (l' := [(54, M 54)]) [54] rfl ?_
  exact keyO 0 (by omega) none none _ (fun q hq => by omega)
theorem x_28_69 {K : mj_C} {d : Nat} {M : Nat → Nat → Int} {N : Nat → Nat → Int64} (hD : 2 ≤ d) (s : Nat → Int) (hs : pRg s) (G : GS) (hO : gOk (s 0).toNat G) (hG : gRel (M 78 3) (M 79) (M 80) (M 81) G) (perm : Nat → Int) (hP : ∀ y, y < (s 0).toNat → M 82 y = perm y) (hB : ∀ y, y < 5 → 0 ≤ perm y ∧ perm y ≤ 1000) (hDm : dM 72 M s) (g : Nat) (hg : g < G.1) (hp20 : G.2.2.2 g ≤ 20) : mj_X K d 28 [.inr (.inr (.inl 69)), .inl ((g : Nat) : Int)] (mj_Sh, M, N) (fun r Z => r = none ∧ ∃ f1 f2 f3, Z = (mj_Sh, st M [(84, f3), (85, f1), (86, f2), (87, pU (M 87) g (wLk s perm G g))], N) ∧ (∀ y, G.2.1 g ≤ y → y ≤ G.2.2.1 g → f1 y = wU s perm G y ∧ f2 y = wBk s perm G y ∧ f3 y = (g : Int)) ∧ (∀ y, ¬ (G.2.1 g ≤ y ∧ y ≤ G.2.2.1 g) → f1 y = M 85 y ∧ f2 y = M 86 y ∧ f3 y = M 84 y)) := by
  show mj_T K d 28 0 [some (.inr (.inr (.inl 69))), some (.inl ((g : Nat) : Int)), none, none, none, none, none, none, none] [] (mj_Sh, M, N) _
  have h0 := hs.1 0 (by omega)
  have h5 := hs.2.1
  have hO' := hO
  obtain ⟨hO1, hO2, hO3, hO4, hO5⟩ := hO
  have a1 := hO2 g hg
  have hPs := pS_rg (f := perm) (a := G.2.1 g) (B := 1000) (G.2.2.1 g + 1 - G.2.1 g) (fun i h1 h2 => hB i (by omega))
  obtain ⟨a, ha⟩ : ∃ a, a = G.2.1 g := ⟨_, rfl⟩
  obtain ⟨l, hl⟩ : ∃ l, l = G.2.2.1 g := ⟨_, rfl⟩
  obtain ⟨p, hp⟩ : ∃ p, p = G.2.2.2 g := ⟨_, rfl⟩
  rw [← ha, ← hl] at hPs a1
  rw [← hp] at hp20
  simp only [← ha, ← hl]
  have hUe : ∀ y, a ≤ y → y ≤ l → wU s perm G y = uUs s perm a l p y := by
    intro y h1 h2; rw [ha] at h1; rw [hl] at h2; rw [wU_eq hO' hg h1 h2, ha, hl, hp]
  have hUr : ∀ y, a ≤ y → y ≤ l → 0 ≤ wU s perm G y ∧ wU s perm G y ≤ 100 := by
    intro y h1 h2; have := uUs_rg hs (perm := perm) (p := p) (a := a) (l := l) (y := y) (by omega) (fun k _ _ => (hB k (by omega)).1) h1 h2; rw [hUe y h1 h2]; omega
  have hgO : ∀ y, a ≤ y → y ≤ l → gOf G y = g := by
    intro y h1 h2; rw [ha] at h1; rw [hl] at h2; exact gOf_eq hO' hg h1 h2
  have hk1 : M 79 g = (a : Int) := by rw [ha]; exact (hG.2 g hg).1
  have hk2 : M 80 g = (l : Int) := by rw [hl]; exact (hG.2 g hg).2.1
  have hk3 : M 81 g = (p : Int) := by rw [hp]; exact (hG.2 g hg).2.2
  have hHi := pS_rg (f := fun y => pEm s y ((p : Nat) : Int)) (a := a) (B := 100) (l + 1 - a) (fun k h1 h2 => pEm_rg hs (by omega) _)
  have keyB : ∀ i : Nat, i ≤ (l + 1 - a) → ∀ o8 (f1 f2 f3 : Nat → Int), (∀ y, a ≤ y → y < a + i → f1 y = wU s perm G y ∧ f2 y = wBk s perm G y ∧ f3 y = (g : Int)) → (∀ y, ¬ (a ≤ y ∧ y < a + i) → f1 y = M 85 y ∧ f2 y = M 86 y ∧ f3 y = M 84 y) → mj_T K d 28 67 [some (.inr (.inr (.inl 69))), some (.inl ((g : Nat) : Int)), some (.inl ((a : Nat) : Int)), some (.inl ((l : Nat) : Int)), some (.inl ((p : Nat) : Int)), some (.inl (uSp s perm a l p i)), some (.inl (pS (fun k => perm k - wU s perm G k) a i)), some (.inl (((a + i) : Nat) : Int)), sv o8] [] (mj_Sh, (st M [(84, f3), (85, f1), (86, f2)]), N) (fun r Z => r = none ∧ ∃ f1 f2 f3, Z = (mj_Sh, st M [(84, f3), (85, f1), (86, f2), (87, pU (M 87) g (wLk s perm G g))], N) ∧ (∀ y, a ≤ y → y ≤ l → f1 y = wU s perm G y ∧ f2 y = wBk s perm G y ∧ f3 y = (g : Int)) ∧ (∀ y, ¬ (a ≤ y ∧ y ≤ l) → f1 y = M 85 y ∧ f2 y = M 86 y ∧ f3 y = M 84 y)) := by
    refine up_to (l + 1 - a) ?_ ?_
    · show ∀ o8 (f1 f2 f3 : Nat → Int), (∀ y, a ≤ y → y < a + (l + 1 - a) → f1 y = wU s perm G y ∧ f2 y = wBk s perm G y ∧ f3 y = (g : Int)) → (∀ y, ¬ (a ≤ y ∧ y < a + (l + 1 - a)) → f1 y = M 85 y ∧ f2 y = M 86 y ∧ f3 y = M 84 y) → mj_T K d 28 67 [some (.inr (.inr (.inl 69))), some (.inl ((g : Nat) : Int)), some (.inl ((a : Nat) : Int)), some (.inl ((l : Nat) : Int)), some (.inl ((p : Nat) : Int)), some (.inl (uSp s perm a l p (l + 1 - a))), some (.inl (pS (fun k => perm k - wU s perm G k) a (l + 1 - a))), some (.inl (((a + (l + 1 - a)) : Nat) : Int)), sv o8] [] (mj_Sh, (st M [(84, f3), (85, f1), (86, f2)]), N) (fun r Z => r = none ∧ ∃ f1 f2 f3, Z = (mj_Sh, st M [(84, f3), (85, f1), (86, f2), (87, pU (M 87) g (wLk s perm G g))], N) ∧ (∀ y, a ≤ y → y ≤ l → f1 y = wU s perm G y ∧ f2 y = wBk s perm G y ∧ f3 y = (g : Int)) ∧ (∀ y, ¬ (a ≤ y ∧ y ≤ l) → f1 y = M 85 y ∧ f2 y = M 86 y ∧ f3 y = M 84 y))
      intro o8 f1 f2 f3 c1 c2
      have hr1 := pS_rg2 (f := fun k => perm k - wU s perm G k) (a := a) (A := 100) (B := 1000) (l + 1 - a) (fun k h1 h2 => by have := hB k (by omega); have := hUr k h1 (by omega); show _ ≤ perm k - wU s perm G k ∧ perm k - wU s perm G k ≤ _; omega)
      refine tw_iload k28_67 rfl ?_
      refine tw_iload k28_69 rfl ?_
      refine tw_cgtT k28_70 (by omega) ?_
      refine tw_aload k28_178 rfl ?_
      refine tw_getr k28_179 f69_7 ?_
      refine tw_iload k28_182 rfl ?_
      refine tw_const k28_183 ?_
      refine tw_iload k28_184 rfl ?_
      refine tw_ineg k28_186 (v := (-(pS (fun k => perm k - wU s perm G k) a (l + 1 - a)))) rfl (by omega) ?_
      refine tw_max k28_187 rfl ?_
      refine tw_iast (M := M) (N := N) (l := [(84, f3), (85, f1), (86, f2)]) (l' := [(84, f3), (85, f1), (86, f2), (87, (pU (M 87) g (max (0 : Int) (-(pS (fun k => perm k - wU s perm G k) a (l + 1 - a))))))]) (j := g) k28_190 al87 rfl (by omega) rfl ?_
      exact tw_rv k28_191 (⟨rfl, f1, f2, f3, by unfold wLk; rw [← ha, ← hl], fun y h1 h2 => c1 y h1 (by omega), fun y h => c2 y (by omega)⟩)
    · intro i hmi ih
      have ih : ∀ o8 (f1 f2 f3 : Nat → Int), (∀ y, a ≤ y → y < a + (i + 1) → f1 y = wU s perm G y ∧ f2 y = wBk s perm G y ∧ f3 y = (g : Int)) → (∀ y, ¬ (a ≤ y ∧ y < a + (i + 1)) → f1 y = M 85 y ∧ f2 y = M 86 y ∧ f3 y = M 84 y) → mj_T K d 28 67 [some (.inr (.inr (.inl 69))), some (.inl ((g : Nat) : Int)), some (.inl ((a : Nat) : Int)), some (.inl ((l : Nat) : Int)), some (.inl ((p : Nat) : Int)), some (.inl (uSp s perm a l p (i + 1))), some (.inl (pS (fun k => perm k - wU s perm G k) a (i + 1))), some (.inl (((a + (i + 1)) : Nat) : Int)), sv o8] [] (mj_Sh, (st M [(84, f3), (85, f1), (86, f2)]), N) (fun r Z => r = none ∧ ∃ f1 f2 f3, Z = (mj_Sh, st M [(84, f3), (85, f1), (86, f2), (87, pU (M 87) g (wLk s perm G g))], N) ∧ (∀ y, a ≤ y → y ≤ l → f1 y = wU s perm G y ∧ f2 y = wBk s perm G y ∧ f3 y = (g : Int)) ∧ (∀ y, ¬ (a ≤ y ∧ y ≤ l) → f1 y = M 85 y ∧ f2 y = M 86 y ∧ f3 y = M 84 y)) := ih
      show ∀ o8 (f1 f2 f3 : Nat → Int), (∀ y, a ≤ y → y < a + i → f1 y = wU s perm G y ∧ f2 y = wBk s perm G y ∧ f3 y = (g : Int)) → (∀ y, ¬ (a ≤ y ∧ y < a + i) → f1 y = M 85 y ∧ f2 y = M 86 y ∧ f3 y = M 84 y) → mj_T K d 28 67 [some (.inr (.inr (.inl 69))), some (.inl ((g : Nat) : Int)), some (.inl ((a : Nat) : Int)), some (.inl ((l : Nat) : Int)), some (.inl ((p : Nat) : Int)), some (.inl (uSp s perm a l p i)), some (.inl (pS (fun k => perm k - wU s perm G k) a i)), some (.inl (((a + i) : Nat) : Int)), sv o8] [] (mj_Sh, (st M [(84, f3), (85, f1), (86, f2)]), N) (fun r Z => r = none ∧ ∃ f1 f2 f3, Z = (mj_Sh, st M [(84, f3), (85, f1), (86, f2), (87, pU (M 87) g (wLk s perm G g))], N) ∧ (∀ y, a ≤ y → y ≤ l → f1 y = wU s perm G y ∧ f2 y = wBk s perm G y ∧ f3 y = (g : Int)) ∧ (∀ y, ¬ (a ≤ y ∧ y ≤ l) → f1 y = M 85 y ∧ f2 y = M 86 y ∧ f3 y = M 84 y))
      intro o8 f1 f2 f3 c1 c2
      have hr1 := pS_rg2 (f := fun k => perm k - wU s perm G k) (a := a) (A := 100) (B := 1000) i (fun k h1 h2 => by have := hB k (by omega); have := hUr k h1 (by omega); show _ ≤ perm k - wU s perm G k ∧ perm k - wU s perm G k ≤ _; omega)
      have hr2 := uSp_rg hs (perm := perm) (p := p) (a := a) (l := l) (by omega) (fun k _ _ => (hB k (by omega)).1) i (by omega)
      have hr3 := pEm_rg hs (y := a + i) (by omega) (p : Int)
      have hr4 := pEm_rg hs (y := a + i) (by omega) ((p + 1 : Nat) : Int)
      have hr5 := hUr (a + i) (by omega) (by omega)
      have hr6 := hB (a + i) (by omega)
      have hue : max (pLo s p (a + i)) (pEm s (a + i) (p : Int) - uSp s perm a l p i) = wU s perm G (a + i) := by
        rw [hUe _ (by omega) (by omega)]; unfold uUs; rw [Nat.add_sub_cancel_left]
      have hsp : uSp s perm a l p i - (pEm s (a + i) (p : Int) - wU s perm G (a + i)) = uSp s perm a l p (i + 1) := by rw [← hue]; rfl
      have hbk : max 0 (pS (fun k => perm k - wU s perm G k) a i + (perm (a + i) - wU s perm G (a + i))) = wBk s perm G (a + i) := by
        unfold wBk; rw [hgO _ (by omega) (by omega), ← ha]; have e : a + i + 1 - a = i + 1 := by omega
        rw [e]; rfl
      refine tw_iload k28_67 rfl ?_
      refine tw_iload k28_69 rfl ?_
      refine tw_cgtF k28_70 (by omega) ?_
      refine tw_aload k28_73 rfl ?_
      refine tw_getr k28_74 f69_0 ?_
      refine tw_iload k28_77 rfl ?_
      refine tw_iload k28_79 rfl ?_
      refine tw_iload k28_81 rfl ?_
      refine tw_callp (v := .inl (pEm s (a + i) ((p : Nat) : Int))) (by omega) (S' := []) (as := [.inr (.inr (.inl 70)), .inl (((a + i) : Nat) : Int), .inl (((a + i) : Nat) : Int), .inl ((p : Nat) : Int)]) k28_83 (x_3_69' (M := (st M [(84, f3), (85, f1), (86, f2)])) (N := N) (by omega) s hs (dM_fr hs hDm (fun c _ _ => by rw [st_c, if_neg (by omega), st_c, if_neg (by omega), st_c, if_neg (by omega), st_nil])) (a + i) p (by omega) (by omega)) rfl rfl rfl rfl rfl ?_
      refine tw_istore k28_86 rfl (L' := [some (.inr (.inr (.inl 69))), some (.inl ((g : Nat) : Int)), some (.inl ((a : Nat) : Int)), some (.inl ((l : Nat) : Int)), some (.inl ((p : Nat) : Int)), some (.inl (uSp s perm a l p i)), some (.inl (pS (fun k => perm k - wU s perm G k) a i)), some (.inl (((a + i) : Nat) : Int)), some (.inl (pEm s (a + i) ((p : Nat) : Int)))]) rfl ?_
      refine tw_aload k28_88 rfl ?_
      refine tw_getr k28_89 f69_4 ?_
      refine tw_iload k28_92 rfl ?_
      refine tw_iload k28_94 rfl ?_
      refine tw_iast (M := M) (N := N) (l := [(84, f3), (85, f1), (86, f2)]) (l' := [(84, (pU f3 (a + i) ((g : Nat) : Int))), (85, f1), (86, f2)]) (j := (a + i)) k28_95 al84 rfl (by omega) rfl ?_
      refine tw_aload k28_96 rfl ?_
      refine tw_getr k28_97 f69_5 ?_
      refine tw_iload k28_100 rfl ?_
      refine tw_aload k28_102 rfl ?_
      refine tw_getr k28_103 f69_0 ?_
      refine tw_iload k28_106 rfl ?_
      refine tw_iload k28_108 rfl ?_
      refine tw_iload k28_110 rfl ?_
      refine tw_callp (v := .inl (pLo s p (a + i))) (by omega) (S' := [.inl (((a + i) : Nat) : Int), .inr (.inr (.inl 85))]) (as := [.inr (.inr (.inl 70)), .inl (((a + i) : Nat) : Int), .inl (((a + i) : Nat) : Int), .inl ((p : Nat) : Int)]) k28_112 (x_2_69' (M := (st M [(84, (pU f3 (a + i) ((g : Nat) : Int))), (85, f1), (86, f2)])) (N := N) (by omega) s hs (dM_fr hs hDm (fun c _ _ => by rw [st_c, if_neg (by omega), st_c, if_neg (by omega), st_c, if_neg (by omega), st_nil])) (a + i) p (by omega) (by omega)) rfl rfl rfl rfl rfl ?_
      refine tw_iload k28_115 rfl ?_
      refine tw_iload k28_117 rfl ?_
      refine tw_isub k28_119 (v := ((pEm s (a + i) ((p : Nat) : Int)) - (uSp s perm a l p i))) rfl (by omega) ?_
      refine tw_max k28_120 rfl ?_
      refine tw_eqS (S' := [.inl (wU s perm G (a + i)), .inl (((a + i) : Nat) : Int), .inr (.inr (.inl 85))]) (e_c (congrArg Sum.inl hue) rfl) ?_
      refine tw_iast (M := M) (N := N) (l := [(84, (pU f3 (a + i) ((g : Nat) : Int))), (85, f1), (86, f2)]) (l' := [(84, (pU f3 (a + i) ((g : Nat) : Int))), (85, (pU f1 (a + i) (wU s perm G (a + i)))), (86, f2)]) (j := (a + i)) k28_123 al85 rfl (by omega) rfl ?_
      refine tw_iload k28_124 rfl ?_
      refine tw_iload k28_126 rfl ?_
      refine tw_aload k28_128 rfl ?_
      refine tw_getr k28_129 f69_5 ?_
      refine tw_iload k28_132 rfl ?_
      refine tw_iald (j := (a + i)) (v := (wU s perm G (a + i))) k28_134 al85 rfl (by omega) (show (pU f1 (a + i) (wU s perm G (a + i))) (a + i) = _ from (pU_eq)) ?_
      refine tw_isub k28_135 (v := ((pEm s (a + i) ((p : Nat) : Int)) - (wU s perm G (a + i)))) rfl (by omega) ?_
      refine tw_isub k28_136 (v := ((uSp s perm a l p i) - ((pEm s (a + i) ((p : Nat) : Int)) - (wU s perm G (a + i))))) rfl (by omega) ?_
      refine tw_istore k28_137 rfl (L' := [some (.inr (.inr (.inl 69))), some (.inl ((g : Nat) : Int)), some (.inl ((a : Nat) : Int)), some (.inl ((l : Nat) : Int)), some (.inl ((p : Nat) : Int)), some (.inl ((uSp s perm a l p i) - ((pEm s (a + i) ((p : Nat) : Int)) - (wU s perm G (a + i))))), some (.inl (pS (fun k => perm k - wU s perm G k) a i)), some (.inl (((a + i) : Nat) : Int)), some (.inl (pEm s (a + i) ((p : Nat) : Int)))]) rfl ?_
      refine tw_iload k28_139 rfl ?_
      refine tw_aload k28_141 rfl ?_
      refine tw_getr k28_142 f69_2 ?_
      refine tw_iload k28_145 rfl ?_
      refine tw_iald (j := (a + i)) (v := (perm (a + i))) k28_147 al82 rfl (by omega) (show M 82 (a + i) = _ from (hP (a + i) (by omega))) ?_
      refine tw_aload k28_148 rfl ?_
      refine tw_getr k28_149 f69_5 ?_
      refine tw_iload k28_152 rfl ?_
      refine tw_iald (j := (a + i)) (v := (wU s perm G (a + i))) k28_154 al85 rfl (by omega) (show (pU f1 (a + i) (wU s perm G (a + i))) (a + i) = _ from (pU_eq)) ?_
      refine tw_isub k28_155 (v := ((perm (a + i)) - (wU s perm G (a + i)))) rfl (by omega) ?_
      refine tw_iadd k28_156 (v := ((pS (fun k => perm k - wU s perm G k) a i) + ((perm (a + i)) - (wU s perm G (a + i))))) rfl (by omega) ?_
      refine tw_istore k28_157 rfl (L' := [some (.inr (.inr (.inl 69))), some (.inl ((g : Nat) : Int)), some (.inl ((a : Nat) : Int)), some (.inl ((l : Nat) : Int)), some (.inl ((p : Nat) : Int)), some (.inl ((uSp s perm a l p i) - ((pEm s (a + i) ((p : Nat) : Int)) - (wU s perm G (a + i))))), some (.inl ((pS (fun k => perm k - wU s perm G k) a i) + ((perm (a + i)) - (wU s perm G (a + i))))), some (.inl (((a + i) : Nat) : Int)), some (.inl (pEm s (a + i) ((p : Nat) : Int)))]) rfl ?_
      refine tw_aload k28_159 rfl ?_
      refine tw_getr k28_160 f69_6 ?_
      refine tw_iload k28_163 rfl ?_
      refine tw_const k28_165 ?_
      refine tw_iload k28_166 rfl ?_
      refine tw_max k28_168 rfl ?_
      refine tw_eqS (S' := [.inl (wBk s perm G (a + i)), .inl (((a + i) : Nat) : Int), .inr (.inr (.inl 86))]) (e_c (congrArg Sum.inl hbk) rfl) ?_
      refine tw_iast (M := M) (N := N) (l := [(84, (pU f3 (a + i) ((g : Nat) : Int))), (85, (pU f1 (a + i) (wU s perm G (a + i)))), (86, f2)]) (l' := [(84, (pU f3 (a + i) ((g : Nat) : Int))), (85, (pU f1 (a + i) (wU s perm G (a + i)))), (86, (pU f2 (a + i) (wBk s perm G (a + i))))]) (j := (a + i)) k28_171 al86 rfl (by omega) rfl ?_
      refine tw_iinc k28_172 rfl (v := (((a + i) + 1 : Nat) : Int)) rfl (by omega) rfl (L' := [some (.inr (.inr (.inl 69))), some (.inl ((g : Nat) : Int)), some (.inl ((a : Nat) : Int)), some (.inl ((l : Nat) : Int)), some (.inl ((p : Nat) : Int)), some (.inl ((uSp s perm a l p i) - ((pEm s (a + i) ((p : Nat) : Int)) - (wU s perm G (a + i))))), some (.inl ((pS (fun k => perm k - wU s perm G k) a i) + ((perm (a + i)) - (wU s perm G (a + i))))), some (.inl (((a + i) + 1 : Nat) : Int)), some (.inl (pEm s (a + i) ((p : Nat) : Int)))]) rfl ?_
      refine tw_goto k28_175 ?_
      refine tw_eqL (L' := [some (.inr (.inr (.inl 69))), some (.inl ((g : Nat) : Int)), some (.inl ((a : Nat) : Int)), some (.inl ((l : Nat) : Int)), some (.inl ((p : Nat) : Int)), some (.inl (uSp s perm a l p (i + 1))), some (.inl (pS (fun k => perm k - wU s perm G k) a (i + 1))), some (.inl (((a + (i + 1)) : Nat) : Int)), sv (some (.inl (pEm s (a + i) ((p : Nat) : Int))))]) (e_c rfl (e_c rfl (e_c rfl (e_c rfl (e_c rfl (e_c (e_i hsp) (e_c rfl (e_c rfl (e_c rfl rfl))))))))) ?_
      exact ih _ _ _ _ (fun y h1 h2 => by
        by_cases e : y = a + i
        · subst e; exact ⟨pU_eq, pU_eq, pU_eq⟩
        · rw [pU_ne e, pU_ne e, pU_ne e]; exact c1 y h1 (by omega)) (fun y h => by
        rw [pU_ne (by omega), pU_ne (by omega), pU_ne (by omega)]; exact c2 y (by omega))
  refine tw_aload k28_0 rfl ?_
  refine tw_getr k28_1 f69_1 ?_
  refine tw_getr k28_4 f78_0 ?_
  refine tw_iload k28_7 rfl ?_
  refine tw_iald (j := g) (v := ((a : Nat) : Int)) k28_8 al79 rfl (by omega) hk1 ?_
  refine tw_istore k28_9 rfl (L' := [some (.inr (.inr (.inl 69))), some (.inl ((g : Nat) : Int)), some (.inl ((a : Nat) : Int)), none, none, none, none, none, none]) rfl ?_
  refine tw_aload k28_10 rfl ?_
  refine tw_getr k28_11 f69_1 ?_
  refine tw_getr k28_14 f78_1 ?_
  refine tw_iload k28_17 rfl ?_
  refine tw_iald (j := g) (v := ((l : Nat) : Int)) k28_18 al80 rfl (by omega) hk2 ?_
  refine tw_istore k28_19 rfl (L' := [some (.inr (.inr (.inl 69))), some (.inl ((g : Nat) : Int)), some (.inl ((a : Nat) : Int)), some (.inl ((l : Nat) : Int)), none, none, none, none, none]) rfl ?_
  refine tw_aload k28_20 rfl ?_
  refine tw_getr k28_21 f69_1 ?_
  refine tw_getr k28_24 f78_2 ?_
  refine tw_iload k28_27 rfl ?_
  refine tw_iald (j := g) (v := ((p : Nat) : Int)) k28_28 al81 rfl (by omega) hk3 ?_
  refine tw_istore k28_29 rfl (L' := [some (.inr (.inr (.inl 69))), some (.inl ((g : Nat) : Int)), some (.inl ((a : Nat) : Int)), some (.inl ((l : Nat) : Int)), some (.inl ((p : Nat) : Int)), none, none, none, none]) rfl ?_
  refine tw_const k28_31 ?_
  refine tw_aload k28_32 rfl ?_
  refine tw_getr k28_33 f69_0 ?_
  refine tw_iload k28_36 rfl ?_
  refine tw_iload k28_37 rfl ?_
  refine tw_iload k28_38 rfl ?_
  refine tw_callp (v := .inl (pS (fun y => pEm s y ((p : Nat) : Int)) a (l + 1 - a))) (by omega) (S' := [.inl (0 : Int)]) (as := [.inr (.inr (.inl 70)), .inl ((a : Nat) : Int), .inl ((l : Nat) : Int), .inl ((p : Nat) : Int)]) k28_40 (x_3_69 (M := M) (N := N) (by omega) s hs hDm a l p (by omega) (by omega) (by omega)) rfl rfl rfl rfl rfl ?_
  refine tw_aload k28_43 rfl ?_
  refine tw_getr k28_44 f69_1 ?_
  refine tw_aload k28_47 rfl ?_
  refine tw_getr k28_48 f69_2 ?_
  refine tw_iload k28_51 rfl ?_
  refine tw_callp (v := .inl (pS perm a (l + 1 - a))) (by omega) (S' := [.inl (pS (fun y => pEm s y ((p : Nat) : Int)) a (l + 1 - a)), .inl (0 : Int)]) (as := [.inr (.inr (.inl 78)), .inr (.inr (.inl 82)), .inl ((g : Nat) : Int)]) k28_52 (x_8_69 (M := M) (N := N) g a l (by omega) hk1 hk2 (by omega) (by omega) perm (fun y _ _ => hP y (by omega)) (fun y _ _ => hB y (by omega))) rfl rfl rfl rfl rfl ?_
  refine tw_isub k28_55 (v := ((pS (fun y => pEm s y ((p : Nat) : Int)) a (l + 1 - a)) - (pS perm a (l + 1 - a)))) rfl (by omega) ?_
  refine tw_max k28_56 rfl ?_
  refine tw_eqS (S' := [.inl (uSp s perm a l p 0)]) (e_c (congrArg Sum.inl (by rw [uSp])) rfl) ?_
  refine tw_istore k28_59 rfl (L' := [some (.inr (.inr (.inl 69))), some (.inl ((g : Nat) : Int)), some (.inl ((a : Nat) : Int)), some (.inl ((l : Nat) : Int)), some (.inl ((p : Nat) : Int)), some (.inl (uSp s perm a l p 0)), none, none, none]) rfl ?_
  refine tw_const k28_61 ?_
  refine tw_istore k28_62 rfl (L' := [some (.inr (.inr (.inl 69))), some (.inl ((g : Nat) : Int)), some (.inl ((a : Nat) : Int)), some (.inl ((l : Nat) : Int)), some (.inl ((p : Nat) : Int)), some (.inl (uSp s perm a l p 0)), some (.inl (0 : Int)), none, none]) rfl ?_
  refine tw_iload k28_64 rfl ?_
  refine tw_istore k28_65 rfl (L' := [some (.inr (.inr (.inl 69))), some (.inl ((g : Nat) : Int)), some (.inl ((a : Nat) : Int)), some (.inl ((l : Nat) : Int)), some (.inl ((p : Nat) : Int)), some (.inl (uSp s perm a l p 0)), some (.inl (0 : Int)), some (.inl ((a : Nat) : Int)), none]) rfl ?_
  refine tw_pad (M := M) (N := N) (l := []) (l' := [(84, M 84), (85, M 85), (86, M 86)]) [84, 85, 86] rfl ?_
  refine tw_eqL (L' := [some (.inr (.inr (.inl 69))), some (.inl ((g : Nat) : Int)), some (.inl ((a : Nat) : Int)), some (.inl ((l : Nat) : Int)), some (.inl ((p : Nat) : Int)), some (.inl (uSp s perm a l p 0)), some (.inl (pS (fun k => perm k - wU s perm G k) a 0)), some (.inl (((a + 0) : Nat) : Int)), sv none]) (e_c rfl (e_c rfl (e_c rfl (e_c rfl (e_c rfl (e_c rfl (e_c (e_i rfl) (e_c (e_i rfl) (e_c rfl rfl))))))))) ?_
  exact keyB 0 (by omega) _ _ _ _ (fun y h1 h2 => by omega) (fun y _ => ⟨rfl, rfl, rfl⟩)
theorem x_29_69 {K : mj_C} {d : Nat} {M : Nat → Nat → Int} {N : Nat → Nat → Int64} (s : Nat → Int) (hs : pRg s) (G : GS) (hO : gOk (s 0).toNat G) (hG : gRel (M 78 3) (M 79) (M 80) (M 81) G) (perm : Nat → Int) (hP : ∀ y, y < (s 0).toNat → M 82 y = perm y) (hB : ∀ y, y < 5 → 0 ≤ perm y ∧ perm y ≤ 1000) (us : Nat → Int) (hU : ∀ y, y < (s 0).toNat → 0 ≤ us y ∧ us y ≤ 100) (g : Nat) (hg : g < G.1) (hUM : ∀ y, G.2.1 g ≤ y → y ≤ G.2.2.1 g → M 85 y = us y) (hL : ∀ i, i < G.2.1 g → 0 ≤ M 95 i ∧ M 95 i ≤ 1000) : mj_X K d 29 [.inr (.inr (.inl 69)), .inl ((g : Nat) : Int)] (mj_Sh, M, N) (fun r Z => r = none ∧ ∃ M1, Z = (mj_Sh, M1, N) ∧ (∀ c, c < 90 ∨ 95 < c → M1 c = M c) ∧ (∀ j, G.2.1 g ≤ j → j ≤ G.2.2.1 g → ∀ i, i ≤ j → M1 (90 + i) j = (fFl (fun j => G.2.1 (gOf G j)) us perm i j)) ∧ (∀ i j, i < 5 → ¬ (G.2.1 g ≤ j ∧ j ≤ G.2.2.1 g ∧ i ≤ j) → M1 (90 + i) j = M (90 + i) j) ∧ (∀ i, i ≤ G.2.2.1 g → 0 ≤ M1 95 i ∧ M1 95 i ≤ 1000)) := by
  show mj_T K d 29 0 [some (.inr (.inr (.inl 69))), some (.inl ((g : Nat) : Int)), none, none, none, none] [] (mj_Sh, M, N) _
  have h0 := hs.1 0 (by omega)
  have h5 := hs.2.1
  have hO' := hO
  obtain ⟨hO1, hO2, hO3, hO4, hO5⟩ := hO
  have a1 := hO2 g hg
  obtain ⟨a, ha⟩ : ∃ a, a = G.2.1 g := ⟨_, rfl⟩
  obtain ⟨l, hl⟩ : ∃ l, l = G.2.2.1 g := ⟨_, rfl⟩
  rw [← ha, ← hl] at a1 hUM
  rw [← ha] at hL
  simp only [← ha, ← hl]
  have hk1 : M 79 g = (a : Int) := by rw [ha]; exact (hG.2 g hg).1
  have hk2 : M 80 g = (l : Int) := by rw [hl]; exact (hG.2 g hg).2.1
  have hfs : ∀ j, a ≤ j → j ≤ l → G.2.1 (gOf G j) = a := by
    intro j h1 h2; rw [ha] at h1; rw [hl] at h2; rw [gOf_eq hO' hg h1 h2, ha]
  have hLr := fLf_rg (fst := (fun j => G.2.1 (gOf G j))) (us := us) (Y := (s 0).toNat) hB (fun y hy => (hU y hy).1)
  have keyT : ∀ t : Nat, t ≤ (l + 1 - a) → ∀ o3 o4 o5 (M1 : Nat → Nat → Int), (∀ c, c < 90 ∨ 95 < c → M1 c = M c) → (∀ j, a ≤ j → j < a + t → ∀ i, i ≤ j → M1 (90 + i) j = (fFl (fun j => G.2.1 (gOf G j)) us perm i j)) → (∀ i j, i < 5 → ¬ (a ≤ j ∧ j < a + t ∧ i ≤ j) → M1 (90 + i) j = M (90 + i) j) → (∀ i, i < a → 0 ≤ M1 95 i ∧ M1 95 i ≤ 1000) → (∀ i, a ≤ i → i < a + t → M1 95 i = (fLf (fun j => G.2.1 (gOf G j)) us perm (a + t)) i) → mj_T K d 29 10 [some (.inr (.inr (.inl 69))), some (.inl ((g : Nat) : Int)), some (.inl (((a + t) : Nat) : Int)), sv o3, sv o4, sv o5] [] (mj_Sh, M1, N) (fun r Z => r = none ∧ ∃ M1, Z = (mj_Sh, M1, N) ∧ (∀ c, c < 90 ∨ 95 < c → M1 c = M c) ∧ (∀ j, a ≤ j → j ≤ l → ∀ i, i ≤ j → M1 (90 + i) j = (fFl (fun j => G.2.1 (gOf G j)) us perm i j)) ∧ (∀ i j, i < 5 → ¬ (a ≤ j ∧ j ≤ l ∧ i ≤ j) → M1 (90 + i) j = M (90 + i) j) ∧ (∀ i, i ≤ l → 0 ≤ M1 95 i ∧ M1 95 i ≤ 1000)) := by
    refine up_to (l + 1 - a) ?_ ?_
    · show ∀ o3 o4 o5 (M1 : Nat → Nat → Int), (∀ c, c < 90 ∨ 95 < c → M1 c = M c) → (∀ j, a ≤ j → j < a + (l + 1 - a) → ∀ i, i ≤ j → M1 (90 + i) j = (fFl (fun j => G.2.1 (gOf G j)) us perm i j)) → (∀ i j, i < 5 → ¬ (a ≤ j ∧ j < a + (l + 1 - a) ∧ i ≤ j) → M1 (90 + i) j = M (90 + i) j) → (∀ i, i < a → 0 ≤ M1 95 i ∧ M1 95 i ≤ 1000) → (∀ i, a ≤ i → i < a + (l + 1 - a) → M1 95 i = (fLf (fun j => G.2.1 (gOf G j)) us perm (a + (l + 1 - a))) i) → mj_T K d 29 10 [some (.inr (.inr (.inl 69))), some (.inl ((g : Nat) : Int)), some (.inl (((a + (l + 1 - a)) : Nat) : Int)), sv o3, sv o4, sv o5] [] (mj_Sh, M1, N) (fun r Z => r = none ∧ ∃ M1, Z = (mj_Sh, M1, N) ∧ (∀ c, c < 90 ∨ 95 < c → M1 c = M c) ∧ (∀ j, a ≤ j → j ≤ l → ∀ i, i ≤ j → M1 (90 + i) j = (fFl (fun j => G.2.1 (gOf G j)) us perm i j)) ∧ (∀ i j, i < 5 → ¬ (a ≤ j ∧ j ≤ l ∧ i ≤ j) → M1 (90 + i) j = M (90 + i) j) ∧ (∀ i, i ≤ l → 0 ≤ M1 95 i ∧ M1 95 i ≤ 1000))
      intro o3 o4 o5 M1 f1 f2 f3 f4 f5
      refine tw_iload k29_10 rfl ?_
      refine tw_aload k29_11 rfl ?_
      refine tw_getr k29_12 f69_1 ?_
      refine tw_getr k29_15 f78_1 ?_
      refine tw_iload k29_18 rfl ?_
      refine tw_iald (j := g) (v := ((l : Nat) : Int)) k29_19 al80 rfl (by omega) (by rw [f1 _ (by omega)]; exact hk2) ?_
      refine tw_cgtT k29_20 (by omega) ?_
      exact tw_rv k29_122 (⟨rfl, M1, rfl, f1, fun j h1 h2 i hi => f2 j h1 (by omega) i hi, fun i j hi hn => f3 i j hi (by omega), fun i hi => by
        by_cases e : i < a
        · exact f4 i e
        · rw [f5 i (by omega) (by omega)]; exact hLr _ (by omega) (by omega) i (by omega)⟩)
    · intro t hmt ih
      have ih : ∀ o3 o4 o5 (M1 : Nat → Nat → Int), (∀ c, c < 90 ∨ 95 < c → M1 c = M c) → (∀ j, a ≤ j → j < a + (t + 1) → ∀ i, i ≤ j → M1 (90 + i) j = (fFl (fun j => G.2.1 (gOf G j)) us perm i j)) → (∀ i j, i < 5 → ¬ (a ≤ j ∧ j < a + (t + 1) ∧ i ≤ j) → M1 (90 + i) j = M (90 + i) j) → (∀ i, i < a → 0 ≤ M1 95 i ∧ M1 95 i ≤ 1000) → (∀ i, a ≤ i → i < a + (t + 1) → M1 95 i = (fLf (fun j => G.2.1 (gOf G j)) us perm (a + (t + 1))) i) → mj_T K d 29 10 [some (.inr (.inr (.inl 69))), some (.inl ((g : Nat) : Int)), some (.inl (((a + (t + 1)) : Nat) : Int)), sv o3, sv o4, sv o5] [] (mj_Sh, M1, N) (fun r Z => r = none ∧ ∃ M1, Z = (mj_Sh, M1, N) ∧ (∀ c, c < 90 ∨ 95 < c → M1 c = M c) ∧ (∀ j, a ≤ j → j ≤ l → ∀ i, i ≤ j → M1 (90 + i) j = (fFl (fun j => G.2.1 (gOf G j)) us perm i j)) ∧ (∀ i j, i < 5 → ¬ (a ≤ j ∧ j ≤ l ∧ i ≤ j) → M1 (90 + i) j = M (90 + i) j) ∧ (∀ i, i ≤ l → 0 ≤ M1 95 i ∧ M1 95 i ≤ 1000)) := ih
      show ∀ o3 o4 o5 (M1 : Nat → Nat → Int), (∀ c, c < 90 ∨ 95 < c → M1 c = M c) → (∀ j, a ≤ j → j < a + t → ∀ i, i ≤ j → M1 (90 + i) j = (fFl (fun j => G.2.1 (gOf G j)) us perm i j)) → (∀ i j, i < 5 → ¬ (a ≤ j ∧ j < a + t ∧ i ≤ j) → M1 (90 + i) j = M (90 + i) j) → (∀ i, i < a → 0 ≤ M1 95 i ∧ M1 95 i ≤ 1000) → (∀ i, a ≤ i → i < a + t → M1 95 i = (fLf (fun j => G.2.1 (gOf G j)) us perm (a + t)) i) → mj_T K d 29 10 [some (.inr (.inr (.inl 69))), some (.inl ((g : Nat) : Int)), some (.inl (((a + t) : Nat) : Int)), sv o3, sv o4, sv o5] [] (mj_Sh, M1, N) (fun r Z => r = none ∧ ∃ M1, Z = (mj_Sh, M1, N) ∧ (∀ c, c < 90 ∨ 95 < c → M1 c = M c) ∧ (∀ j, a ≤ j → j ≤ l → ∀ i, i ≤ j → M1 (90 + i) j = (fFl (fun j => G.2.1 (gOf G j)) us perm i j)) ∧ (∀ i j, i < 5 → ¬ (a ≤ j ∧ j ≤ l ∧ i ≤ j) → M1 (90 + i) j = M (90 + i) j) ∧ (∀ i, i ≤ l → 0 ≤ M1 95 i ∧ M1 95 i ≤ 1000))
      intro o3 o4 o5 M1 f1 f2 f3 f4 f5
      refine tw_iload k29_10 rfl ?_
      refine tw_aload k29_11 rfl ?_
      refine tw_getr k29_12 f69_1 ?_
      refine tw_getr k29_15 f78_1 ?_
      refine tw_iload k29_18 rfl ?_
      refine tw_iald (j := g) (v := ((l : Nat) : Int)) k29_19 al80 rfl (by omega) (by rw [f1 _ (by omega)]; exact hk2) ?_
      refine tw_cgtF k29_20 (by omega) ?_
      refine tw_aload k29_23 rfl ?_
      refine tw_getr k29_24 f69_10 ?_
      refine tw_iload k29_27 rfl ?_
      refine tw_aload k29_28 rfl ?_
      refine tw_getr k29_29 f69_2 ?_
      refine tw_iload k29_32 rfl ?_
      refine tw_iald (j := (a + t)) (v := (perm (a + t))) k29_33 al82 rfl (by omega) (by rw [f1 _ (by omega)]; exact hP (a + t) (by omega)) ?_
      refine tw_iast (M := M1) (N := N) (l := []) (l' := [(95, (pU (M1 95) (a + t) (perm (a + t))))]) (j := (a + t)) k29_34 al95 rfl (by omega) rfl ?_
      refine tw_aload k29_35 rfl ?_
      refine tw_getr k29_36 f69_5 ?_
      refine tw_iload k29_39 rfl ?_
      refine tw_iald (j := (a + t)) (v := (us (a + t))) k29_40 al85 rfl (by omega) (show M1 85 (a + t) = _ from (by rw [f1 _ (by omega)]; exact hUM (a + t) (by omega) (by omega))) ?_
      refine tw_istore k29_41 rfl (L' := [some (.inr (.inr (.inl 69))), some (.inl ((g : Nat) : Int)), some (.inl (((a + t) : Nat) : Int)), some (.inl (us (a + t))), sv o4, sv o5]) rfl ?_
      refine tw_const k29_42 ?_
      refine tw_istore k29_43 rfl (L' := [some (.inr (.inr (.inl 69))), some (.inl ((g : Nat) : Int)), some (.inl (((a + t) : Nat) : Int)), some (.inl (us (a + t))), some (.inl (0 : Int)), sv o5]) rfl ?_
      have iht := ih
      have keyI : ∀ f : Nat, f ≤ (a + t + 1) → ∀ o5 (M2 : Nat → Nat → Int), (∀ c, c < 90 ∨ 95 < c → M2 c = M c) → (∀ j, a ≤ j → j < a + t → ∀ i, i ≤ j → M2 (90 + i) j = (fFl (fun j => G.2.1 (gOf G j)) us perm i j)) → (∀ i, i < f → M2 (90 + i) (a + t) = (fFl (fun j => G.2.1 (gOf G j)) us perm i (a + t))) → (∀ i j, i < 5 → ¬ (a ≤ j ∧ j < a + t ∧ i ≤ j) → ¬ (j = a + t ∧ i < f) → M2 (90 + i) j = M (90 + i) j) → (∀ i, i < a → 0 ≤ M2 95 i ∧ M2 95 i ≤ 1000) → (∀ i, a ≤ i → i ≤ a + t → M2 95 i = if i < f then (fLf (fun j => G.2.1 (gOf G j)) us perm (a + t)) i - (fFl (fun j => G.2.1 (gOf G j)) us perm i (a + t)) else (fLf (fun j => G.2.1 (gOf G j)) us perm (a + t)) i) → mj_T K d 29 45 [some (.inr (.inr (.inl 69))), some (.inl ((g : Nat) : Int)), some (.inl (((a + t) : Nat) : Int)), some (.inl (fWn (fLf (fun j => G.2.1 (gOf G j)) us perm (a + t)) a (us (a + t)) (f - a))), some (.inl ((f : Nat) : Int)), sv o5] [] (mj_Sh, M2, N) (fun r Z => r = none ∧ ∃ M1, Z = (mj_Sh, M1, N) ∧ (∀ c, c < 90 ∨ 95 < c → M1 c = M c) ∧ (∀ j, a ≤ j → j ≤ l → ∀ i, i ≤ j → M1 (90 + i) j = (fFl (fun j => G.2.1 (gOf G j)) us perm i j)) ∧ (∀ i j, i < 5 → ¬ (a ≤ j ∧ j ≤ l ∧ i ≤ j) → M1 (90 + i) j = M (90 + i) j) ∧ (∀ i, i ≤ l → 0 ≤ M1 95 i ∧ M1 95 i ≤ 1000)) := by
        refine up_to (a + t + 1) ?_ ?_
        · show ∀ o5 (M2 : Nat → Nat → Int), (∀ c, c < 90 ∨ 95 < c → M2 c = M c) → (∀ j, a ≤ j → j < a + t → ∀ i, i ≤ j → M2 (90 + i) j = (fFl (fun j => G.2.1 (gOf G j)) us perm i j)) → (∀ i, i < (a + t + 1) → M2 (90 + i) (a + t) = (fFl (fun j => G.2.1 (gOf G j)) us perm i (a + t))) → (∀ i j, i < 5 → ¬ (a ≤ j ∧ j < a + t ∧ i ≤ j) → ¬ (j = a + t ∧ i < (a + t + 1)) → M2 (90 + i) j = M (90 + i) j) → (∀ i, i < a → 0 ≤ M2 95 i ∧ M2 95 i ≤ 1000) → (∀ i, a ≤ i → i ≤ a + t → M2 95 i = if i < (a + t + 1) then (fLf (fun j => G.2.1 (gOf G j)) us perm (a + t)) i - (fFl (fun j => G.2.1 (gOf G j)) us perm i (a + t)) else (fLf (fun j => G.2.1 (gOf G j)) us perm (a + t)) i) → mj_T K d 29 45 [some (.inr (.inr (.inl 69))), some (.inl ((g : Nat) : Int)), some (.inl (((a + t) : Nat) : Int)), some (.inl (fWn (fLf (fun j => G.2.1 (gOf G j)) us perm (a + t)) a (us (a + t)) ((a + t + 1) - a))), some (.inl (((a + t + 1) : Nat) : Int)), sv o5] [] (mj_Sh, M2, N) (fun r Z => r = none ∧ ∃ M1, Z = (mj_Sh, M1, N) ∧ (∀ c, c < 90 ∨ 95 < c → M1 c = M c) ∧ (∀ j, a ≤ j → j ≤ l → ∀ i, i ≤ j → M1 (90 + i) j = (fFl (fun j => G.2.1 (gOf G j)) us perm i j)) ∧ (∀ i j, i < 5 → ¬ (a ≤ j ∧ j ≤ l ∧ i ≤ j) → M1 (90 + i) j = M (90 + i) j) ∧ (∀ i, i ≤ l → 0 ≤ M1 95 i ∧ M1 95 i ≤ 1000))
          intro o5 M2 e1 e2 e3 e4 e5 e6
          refine tw_iload k29_45 rfl ?_
          refine tw_iload k29_47 rfl ?_
          refine tw_cgtT k29_48 (by omega) ?_
          refine tw_iinc k29_116 rfl (v := (((a + t) + 1 : Nat) : Int)) rfl (by omega) rfl (L' := [some (.inr (.inr (.inl 69))), some (.inl ((g : Nat) : Int)), some (.inl (((a + t) + 1 : Nat) : Int)), some (.inl (fWn (fLf (fun j => G.2.1 (gOf G j)) us perm (a + t)) a (us (a + t)) ((a + t + 1) - a))), some (.inl (((a + t + 1) : Nat) : Int)), sv o5]) rfl ?_
          refine tw_goto k29_119 ?_
          refine iht (some (.inl (fWn (fLf (fun j => G.2.1 (gOf G j)) us perm (a + t)) a (us (a + t)) ((a + t + 1) - a)))) (some (.inl (((a + t + 1) : Nat) : Int))) o5 M2 e1 (fun j h1 h2 i hi => ?_) (fun i j hi h => e4 i j hi (by omega) (by omega)) e5 (fun i h1 h2 => ?_)
          · by_cases e : j = a + t
            · subst e; exact e3 i (by omega)
            · exact e2 j h1 (by omega) i hi
          · rw [e6 i h1 (by omega), if_pos (by omega), show a + (t + 1) = (a + t) + 1 by omega, fLf_e (fst := (fun j => G.2.1 (gOf G j))) (hfs (a + t) (by omega) (by omega)), if_pos (by omega)]
        · intro f hmf ih
          have ih : ∀ o5 (M2 : Nat → Nat → Int), (∀ c, c < 90 ∨ 95 < c → M2 c = M c) → (∀ j, a ≤ j → j < a + t → ∀ i, i ≤ j → M2 (90 + i) j = (fFl (fun j => G.2.1 (gOf G j)) us perm i j)) → (∀ i, i < (f + 1) → M2 (90 + i) (a + t) = (fFl (fun j => G.2.1 (gOf G j)) us perm i (a + t))) → (∀ i j, i < 5 → ¬ (a ≤ j ∧ j < a + t ∧ i ≤ j) → ¬ (j = a + t ∧ i < (f + 1)) → M2 (90 + i) j = M (90 + i) j) → (∀ i, i < a → 0 ≤ M2 95 i ∧ M2 95 i ≤ 1000) → (∀ i, a ≤ i → i ≤ a + t → M2 95 i = if i < (f + 1) then (fLf (fun j => G.2.1 (gOf G j)) us perm (a + t)) i - (fFl (fun j => G.2.1 (gOf G j)) us perm i (a + t)) else (fLf (fun j => G.2.1 (gOf G j)) us perm (a + t)) i) → mj_T K d 29 45 [some (.inr (.inr (.inl 69))), some (.inl ((g : Nat) : Int)), some (.inl (((a + t) : Nat) : Int)), some (.inl (fWn (fLf (fun j => G.2.1 (gOf G j)) us perm (a + t)) a (us (a + t)) ((f + 1) - a))), some (.inl (((f + 1) : Nat) : Int)), sv o5] [] (mj_Sh, M2, N) (fun r Z => r = none ∧ ∃ M1, Z = (mj_Sh, M1, N) ∧ (∀ c, c < 90 ∨ 95 < c → M1 c = M c) ∧ (∀ j, a ≤ j → j ≤ l → ∀ i, i ≤ j → M1 (90 + i) j = (fFl (fun j => G.2.1 (gOf G j)) us perm i j)) ∧ (∀ i j, i < 5 → ¬ (a ≤ j ∧ j ≤ l ∧ i ≤ j) → M1 (90 + i) j = M (90 + i) j) ∧ (∀ i, i ≤ l → 0 ≤ M1 95 i ∧ M1 95 i ≤ 1000)) := ih
          show ∀ o5 (M2 : Nat → Nat → Int), (∀ c, c < 90 ∨ 95 < c → M2 c = M c) → (∀ j, a ≤ j → j < a + t → ∀ i, i ≤ j → M2 (90 + i) j = (fFl (fun j => G.2.1 (gOf G j)) us perm i j)) → (∀ i, i < f → M2 (90 + i) (a + t) = (fFl (fun j => G.2.1 (gOf G j)) us perm i (a + t))) → (∀ i j, i < 5 → ¬ (a ≤ j ∧ j < a + t ∧ i ≤ j) → ¬ (j = a + t ∧ i < f) → M2 (90 + i) j = M (90 + i) j) → (∀ i, i < a → 0 ≤ M2 95 i ∧ M2 95 i ≤ 1000) → (∀ i, a ≤ i → i ≤ a + t → M2 95 i = if i < f then (fLf (fun j => G.2.1 (gOf G j)) us perm (a + t)) i - (fFl (fun j => G.2.1 (gOf G j)) us perm i (a + t)) else (fLf (fun j => G.2.1 (gOf G j)) us perm (a + t)) i) → mj_T K d 29 45 [some (.inr (.inr (.inl 69))), some (.inl ((g : Nat) : Int)), some (.inl (((a + t) : Nat) : Int)), some (.inl (fWn (fLf (fun j => G.2.1 (gOf G j)) us perm (a + t)) a (us (a + t)) (f - a))), some (.inl ((f : Nat) : Int)), sv o5] [] (mj_Sh, M2, N) (fun r Z => r = none ∧ ∃ M1, Z = (mj_Sh, M1, N) ∧ (∀ c, c < 90 ∨ 95 < c → M1 c = M c) ∧ (∀ j, a ≤ j → j ≤ l → ∀ i, i ≤ j → M1 (90 + i) j = (fFl (fun j => G.2.1 (gOf G j)) us perm i j)) ∧ (∀ i j, i < 5 → ¬ (a ≤ j ∧ j ≤ l ∧ i ≤ j) → M1 (90 + i) j = M (90 + i) j) ∧ (∀ i, i ≤ l → 0 ≤ M1 95 i ∧ M1 95 i ≤ 1000))
          intro o5 M2 e1 e2 e3 e4 e5 e6
          have hut := hU (a + t) (by omega)
          by_cases hlo : f < a
          · have hle5 := e5 f hlo
            have hw0 : fWn (fLf (fun j => G.2.1 (gOf G j)) us perm (a + t)) a (us (a + t)) (f - a) = us (a + t) := by rw [show f - a = 0 by omega, fWn]
            refine tw_iload k29_45 rfl ?_
            refine tw_iload k29_47 rfl ?_
            refine tw_cgtF k29_48 (by omega) ?_
            refine tw_iload k29_51 rfl ?_
            refine tw_aload k29_53 rfl ?_
            refine tw_getr k29_54 f69_1 ?_
            refine tw_getr k29_57 f78_0 ?_
            refine tw_iload k29_60 rfl ?_
            refine tw_iald (j := g) (v := ((a : Nat) : Int)) k29_61 al79 rfl (by omega) (by rw [e1 _ (by omega)]; exact hk1) ?_
            refine tw_cgeF k29_62 (by omega) ?_
            refine tw_const k29_65 ?_
            refine tw_goto k29_66 ?_
            refine tw_istore k29_80 rfl (L' := [some (.inr (.inr (.inl 69))), some (.inl ((g : Nat) : Int)), some (.inl (((a + t) : Nat) : Int)), some (.inl (fWn (fLf (fun j => G.2.1 (gOf G j)) us perm (a + t)) a (us (a + t)) (f - a))), some (.inl ((f : Nat) : Int)), some (.inl (0 : Int))]) rfl ?_
            refine tw_aload k29_82 rfl ?_
            refine tw_getr k29_83 f69_9 ?_
            refine tw_iload k29_86 rfl ?_
            refine tw_aald (j := f) (u := (90 + f)) k29_88 rfl (rr89 (by omega)) ?_
            refine tw_iload k29_89 rfl ?_
            refine tw_iload k29_90 rfl ?_
            refine tw_iastu (j := (a + t)) k29_92 (alF (by omega)) rfl (by omega) ?_
            refine tw_aload k29_93 rfl ?_
            refine tw_getr k29_94 f69_10 ?_
            refine tw_iload k29_97 rfl ?_
            refine tw_dup2 k29_99 ?_
            refine tw_iald (j := f) (v := (M2 95 f)) k29_100 al95 rfl (by omega) (by rw [tu_row (by omega)]) ?_
            refine tw_iload k29_101 rfl ?_
            refine tw_isub k29_103 (v := ((M2 95 f) - (0 : Int))) rfl (by omega) ?_
            refine tw_iast (M := (mj_u M2 (90 + f) (a + t) (0 : Int))) (N := N) (l := []) (l' := [(95, (pU ((mj_u M2 (90 + f) (a + t) (0 : Int)) 95) f ((M2 95 f) - (0 : Int))))]) (j := f) k29_104 al95 rfl (by omega) rfl ?_
            refine tw_iload k29_105 rfl ?_
            refine tw_iload k29_106 rfl ?_
            refine tw_isub k29_108 (v := ((fWn (fLf (fun j => G.2.1 (gOf G j)) us perm (a + t)) a (us (a + t)) (f - a)) - (0 : Int))) rfl (by omega) ?_
            refine tw_istore k29_109 rfl (L' := [some (.inr (.inr (.inl 69))), some (.inl ((g : Nat) : Int)), some (.inl (((a + t) : Nat) : Int)), some (.inl ((fWn (fLf (fun j => G.2.1 (gOf G j)) us perm (a + t)) a (us (a + t)) (f - a)) - (0 : Int))), some (.inl ((f : Nat) : Int)), some (.inl (0 : Int))]) rfl ?_
            refine tw_iinc k29_110 rfl (v := ((f + 1 : Nat) : Int)) rfl (by omega) rfl (L' := [some (.inr (.inr (.inl 69))), some (.inl ((g : Nat) : Int)), some (.inl (((a + t) : Nat) : Int)), some (.inl ((fWn (fLf (fun j => G.2.1 (gOf G j)) us perm (a + t)) a (us (a + t)) (f - a)) - (0 : Int))), some (.inl ((f + 1 : Nat) : Int)), some (.inl (0 : Int))]) rfl ?_
            refine tw_goto k29_113 ?_
            obtain ⟨u1, u2, u3⟩ := st1_u (M := M2) (q := (90 + f)) (j := (a + t)) (c := 95) (f := f) (v := (0 : Int)) (w := (M2 95 f - 0)) (by omega)
            refine tw_eqL (L' := [some (.inr (.inr (.inl 69))), some (.inl ((g : Nat) : Int)), some (.inl (((a + t) : Nat) : Int)), some (.inl (fWn (fLf (fun j => G.2.1 (gOf G j)) us perm (a + t)) a (us (a + t)) ((f + 1) - a))), some (.inl (((f + 1) : Nat) : Int)), sv (some (.inl (0 : Int)))]) (e_c rfl (e_c rfl (e_c rfl (e_c (e_i (by rw [show f + 1 - a = f - a by omega]; omega)) (e_c rfl (e_c rfl rfl)))))) ?_
            refine ih _ _ (fun c hc => by rw [u3 c (by omega) (by omega)]; exact e1 c hc) (fun j h1 h2 i hi => ?_) (fun i hi => ?_) (fun i j hi h1 h2 => ?_) (fun i hi => ?_) (fun i h1 h2 => ?_)
            · by_cases e : i = f
              · subst e; rw [u2, pU_ne (by omega)]; exact e2 j h1 h2 i hi
              · rw [u3 _ (by omega) (by omega)]; exact e2 j h1 h2 i hi
            · by_cases e : i = f
              · subst e; rw [u2, pU_eq]; rw [fFl_e (fst := (fun j => G.2.1 (gOf G j))) (hfs (a + t) (by omega) (by omega)), if_neg (by omega)]
              · rw [u3 _ (by omega) (by omega)]; exact e3 i (by omega)
            · by_cases e : i = f
              · subst e; rw [u2, pU_ne (by omega)]; exact e4 i j hi h1 (by omega)
              · rw [u3 _ (by omega) (by omega)]; exact e4 i j hi h1 (by omega)
            · rw [u1]; by_cases e : i = f
              · subst e; rw [pU_eq, Int.sub_zero]; exact e5 i hi
              · rw [pU_ne e]; exact e5 i hi
            · rw [u1, pU_ne (by omega), e6 i h1 h2, if_neg (by omega), if_neg (by omega)]
          · have hl1 := hLr (a + t) (by omega) (by omega) f (by omega)
            have hw1 := fWn_rg (left := (fLf (fun j => G.2.1 (gOf G j)) us perm (a + t))) (a := a) (hU (a + t) (by omega)).1 (f - a) (fun k hk => (hLr (a + t) (by omega) (by omega) _ (by omega)).1)
            have hfl : min (fWn (fLf (fun j => G.2.1 (gOf G j)) us perm (a + t)) a (us (a + t)) (f - a)) ((fLf (fun j => G.2.1 (gOf G j)) us perm (a + t)) f) = (fFl (fun j => G.2.1 (gOf G j)) us perm f (a + t)) := by
              rw [fFl_e (fst := (fun j => G.2.1 (gOf G j))) (hfs (a + t) (by omega) (by omega)), if_pos (by omega)]
            have hflr : 0 ≤ (fFl (fun j => G.2.1 (gOf G j)) us perm f (a + t)) ∧ (fFl (fun j => G.2.1 (gOf G j)) us perm f (a + t)) ≤ 1000 := by omega
            refine tw_iload k29_45 rfl ?_
            refine tw_iload k29_47 rfl ?_
            refine tw_cgtF k29_48 (by omega) ?_
            refine tw_iload k29_51 rfl ?_
            refine tw_aload k29_53 rfl ?_
            refine tw_getr k29_54 f69_1 ?_
            refine tw_getr k29_57 f78_0 ?_
            refine tw_iload k29_60 rfl ?_
            refine tw_iald (j := g) (v := ((a : Nat) : Int)) k29_61 al79 rfl (by omega) (by rw [e1 _ (by omega)]; exact hk1) ?_
            refine tw_cgeT k29_62 (by omega) ?_
            refine tw_iload k29_69 rfl ?_
            refine tw_aload k29_70 rfl ?_
            refine tw_getr k29_71 f69_10 ?_
            refine tw_iload k29_74 rfl ?_
            refine tw_iald (j := f) (v := ((fLf (fun j => G.2.1 (gOf G j)) us perm (a + t)) f)) k29_76 al95 rfl (by omega) (by rw [e6 _ (by omega) (by omega), if_neg (by omega)]) ?_
            refine tw_min k29_77 rfl ?_
            refine tw_eqS (S' := [.inl (fFl (fun j => G.2.1 (gOf G j)) us perm f (a + t))]) (e_c (congrArg Sum.inl hfl) rfl) ?_
            refine tw_istore k29_80 rfl (L' := [some (.inr (.inr (.inl 69))), some (.inl ((g : Nat) : Int)), some (.inl (((a + t) : Nat) : Int)), some (.inl (fWn (fLf (fun j => G.2.1 (gOf G j)) us perm (a + t)) a (us (a + t)) (f - a))), some (.inl ((f : Nat) : Int)), some (.inl (fFl (fun j => G.2.1 (gOf G j)) us perm f (a + t)))]) rfl ?_
            refine tw_aload k29_82 rfl ?_
            refine tw_getr k29_83 f69_9 ?_
            refine tw_iload k29_86 rfl ?_
            refine tw_aald (j := f) (u := (90 + f)) k29_88 rfl (rr89 (by omega)) ?_
            refine tw_iload k29_89 rfl ?_
            refine tw_iload k29_90 rfl ?_
            refine tw_iastu (j := (a + t)) k29_92 (alF (by omega)) rfl (by omega) ?_
            refine tw_aload k29_93 rfl ?_
            refine tw_getr k29_94 f69_10 ?_
            refine tw_iload k29_97 rfl ?_
            refine tw_dup2 k29_99 ?_
            refine tw_iald (j := f) (v := ((fLf (fun j => G.2.1 (gOf G j)) us perm (a + t)) f)) k29_100 al95 rfl (by omega) (by rw [tu_row (by omega), e6 _ (by omega) (by omega), if_neg (by omega)]) ?_
            refine tw_iload k29_101 rfl ?_
            refine tw_isub k29_103 (v := (((fLf (fun j => G.2.1 (gOf G j)) us perm (a + t)) f) - (fFl (fun j => G.2.1 (gOf G j)) us perm f (a + t)))) rfl (by omega) ?_
            refine tw_iast (M := (mj_u M2 (90 + f) (a + t) (fFl (fun j => G.2.1 (gOf G j)) us perm f (a + t)))) (N := N) (l := []) (l' := [(95, (pU ((mj_u M2 (90 + f) (a + t) (fFl (fun j => G.2.1 (gOf G j)) us perm f (a + t))) 95) f (((fLf (fun j => G.2.1 (gOf G j)) us perm (a + t)) f) - (fFl (fun j => G.2.1 (gOf G j)) us perm f (a + t)))))]) (j := f) k29_104 al95 rfl (by omega) rfl ?_
            refine tw_iload k29_105 rfl ?_
            refine tw_iload k29_106 rfl ?_
            refine tw_isub k29_108 (v := ((fWn (fLf (fun j => G.2.1 (gOf G j)) us perm (a + t)) a (us (a + t)) (f - a)) - (fFl (fun j => G.2.1 (gOf G j)) us perm f (a + t)))) rfl (by omega) ?_
            refine tw_istore k29_109 rfl (L' := [some (.inr (.inr (.inl 69))), some (.inl ((g : Nat) : Int)), some (.inl (((a + t) : Nat) : Int)), some (.inl ((fWn (fLf (fun j => G.2.1 (gOf G j)) us perm (a + t)) a (us (a + t)) (f - a)) - (fFl (fun j => G.2.1 (gOf G j)) us perm f (a + t)))), some (.inl ((f : Nat) : Int)), some (.inl (fFl (fun j => G.2.1 (gOf G j)) us perm f (a + t)))]) rfl ?_
            refine tw_iinc k29_110 rfl (v := ((f + 1 : Nat) : Int)) rfl (by omega) rfl (L' := [some (.inr (.inr (.inl 69))), some (.inl ((g : Nat) : Int)), some (.inl (((a + t) : Nat) : Int)), some (.inl ((fWn (fLf (fun j => G.2.1 (gOf G j)) us perm (a + t)) a (us (a + t)) (f - a)) - (fFl (fun j => G.2.1 (gOf G j)) us perm f (a + t)))), some (.inl ((f + 1 : Nat) : Int)), some (.inl (fFl (fun j => G.2.1 (gOf G j)) us perm f (a + t)))]) rfl ?_
            refine tw_goto k29_113 ?_
            obtain ⟨u1, u2, u3⟩ := st1_u (M := M2) (q := (90 + f)) (j := (a + t)) (c := 95) (f := f) (v := (fFl (fun j => G.2.1 (gOf G j)) us perm f (a + t))) (w := ((fLf (fun j => G.2.1 (gOf G j)) us perm (a + t)) f - (fFl (fun j => G.2.1 (gOf G j)) us perm f (a + t)))) (by omega)
            refine tw_eqL (L' := [some (.inr (.inr (.inl 69))), some (.inl ((g : Nat) : Int)), some (.inl (((a + t) : Nat) : Int)), some (.inl (fWn (fLf (fun j => G.2.1 (gOf G j)) us perm (a + t)) a (us (a + t)) ((f + 1) - a))), some (.inl (((f + 1) : Nat) : Int)), sv (some (.inl (fFl (fun j => G.2.1 (gOf G j)) us perm f (a + t))))]) (e_c rfl (e_c rfl (e_c rfl (e_c (e_i (by rw [show f + 1 - a = (f - a) + 1 by omega, fWn, show a + (f - a) = f by omega, hfl])) (e_c rfl (e_c rfl rfl)))))) ?_
            refine ih _ _ (fun c hc => by rw [u3 c (by omega) (by omega)]; exact e1 c hc) (fun j h1 h2 i hi => ?_) (fun i hi => ?_) (fun i j hi h1 h2 => ?_) (fun i hi => ?_) (fun i h1 h2 => ?_)
            · by_cases e : i = f
              · subst e; rw [u2, pU_ne (by omega)]; exact e2 j h1 h2 i hi
              · rw [u3 _ (by omega) (by omega)]; exact e2 j h1 h2 i hi
            · by_cases e : i = f
              · subst e; rw [u2, pU_eq]
              · rw [u3 _ (by omega) (by omega)]; exact e3 i (by omega)
            · by_cases e : i = f
              · subst e; rw [u2, pU_ne (by omega)]; exact e4 i j hi h1 (by omega)
              · rw [u3 _ (by omega) (by omega)]; exact e4 i j hi h1 (by omega)
            · rw [u1, pU_ne (by omega)]; exact e5 i hi
            · rw [u1]; by_cases e : i = f
              · subst e; rw [pU_eq, if_pos (by omega)]
              · rw [pU_ne e, e6 i h1 h2]
                by_cases e7 : i < f
                · rw [if_pos e7, if_pos (by omega)]
                · rw [if_neg e7, if_neg (by omega)]
      refine tw_eqL (L' := [some (.inr (.inr (.inl 69))), some (.inl ((g : Nat) : Int)), some (.inl (((a + t) : Nat) : Int)), some (.inl (fWn (fLf (fun j => G.2.1 (gOf G j)) us perm (a + t)) a (us (a + t)) (0 - a))), some (.inl ((0 : Nat) : Int)), sv o5]) (e_c rfl (e_c rfl (e_c rfl (e_c (e_i (by rw [show 0 - a = 0 by omega, fWn])) (e_c (e_i rfl) (e_c rfl rfl)))))) ?_
      refine keyI 0 (by omega) _ _ (fun c hc => by rw [st_c, if_neg (by omega), st_nil]; exact f1 c hc) (fun j h1 h2 i hi => ?_) (fun i hi => by omega) (fun i j hi h1 h2 => ?_) (fun i hi => ?_) (fun i h1 h2 => ?_)
      · rw [st_c, if_neg (by omega), st_nil]; exact f2 j h1 h2 i hi
      · rw [st_c, if_neg (by omega), st_nil]; exact f3 i j hi h1
      · show 0 ≤ pU (M1 95) _ _ i ∧ pU (M1 95) _ _ i ≤ 1000
        rw [pU_ne (by omega)]; exact f4 i hi
      · show pU (M1 95) _ _ i = _
        rw [if_neg (by omega)]
        by_cases e : i = a + t
        · subst e; rw [pU_eq, fLf_up _ _ (Nat.le_refl _)]
        · rw [pU_ne e, f5 i h1 (by omega)]
  refine tw_aload k29_0 rfl ?_
  refine tw_getr k29_1 f69_1 ?_
  refine tw_getr k29_4 f78_0 ?_
  refine tw_iload k29_7 rfl ?_
  refine tw_iald (j := g) (v := ((a : Nat) : Int)) k29_8 al79 rfl (by omega) hk1 ?_
  refine tw_istore k29_9 rfl (L' := [some (.inr (.inr (.inl 69))), some (.inl ((g : Nat) : Int)), some (.inl ((a : Nat) : Int)), none, none, none]) rfl ?_
  refine tw_eqL (L' := [some (.inr (.inr (.inl 69))), some (.inl ((g : Nat) : Int)), some (.inl (((a + 0) : Nat) : Int)), sv none, sv none, sv none]) (e_c rfl (e_c rfl (e_c (e_i rfl) (e_c rfl (e_c rfl (e_c rfl rfl)))))) ?_
  exact keyT 0 (by omega) _ _ _ _ (fun c _ => rfl) (fun j h1 h2 => by omega) (fun i j _ _ => rfl) hL (fun i h1 h2 => by omega)
theorem x_55_69 {K : mj_C} {d : Nat} {M : Nat → Nat → Int} {N : Nat → Nat → Int64} (s : Nat → Int) (hS : cSV 62 M s) (m q : Nat) (hm : m < 10) (hq : q < 10) : mj_X K d 55 [.inr (.inr (.inl 62)), .inl ((m : Nat) : Int), .inl ((q : Nat) : Int)] (mj_Sh, M, N) (fun r Z => r = some (.inl (if s (12 + m) = s (12 + q) ∧ isA s m q then 1 else 0)) ∧ Z = (mj_Sh, M, N)) := by
  show mj_T K d 55 0 [some (.inr (.inr (.inl 62))), some (.inl ((m : Nat) : Int)), some (.inl ((q : Nat) : Int))] [] (mj_Sh, M, N) _
  refine tw_aload k55_0 rfl ?_
  refine tw_getr k55_1 f62_2 ?_
  refine tw_iload k55_4 rfl ?_
  refine tw_iald (j := m) (v := (s (12 + m))) k55_5 al65 rfl (by omega) (hS.2.2.2.1 m (by omega)).1 ?_
  refine tw_aload k55_6 rfl ?_
  refine tw_getr k55_7 f62_2 ?_
  refine tw_iload k55_10 rfl ?_
  refine tw_iald (j := q) (v := (s (12 + q))) k55_11 al65 rfl (by omega) (hS.2.2.2.1 q (by omega)).1 ?_
  refine tw_cne k55_12 (fun h12 => ?_) (fun h12 => ?_)
  · refine tw_const k55_54 ?_
    exact tw_rb k55_55 (by decide) (⟨by rw [if_neg (by unfold isA; omega)], rfl⟩)
  · refine tw_aload k55_15 rfl ?_
    refine tw_getr k55_16 f62_3 ?_
    refine tw_iload k55_19 rfl ?_
    refine tw_iald (j := m) (v := (s (22 + m))) k55_20 al66 rfl (by omega) (hS.2.2.2.1 m (by omega)).2.1 ?_
    refine tw_aload k55_21 rfl ?_
    refine tw_getr k55_22 f62_3 ?_
    refine tw_iload k55_25 rfl ?_
    refine tw_iald (j := q) (v := (s (22 + q))) k55_26 al66 rfl (by omega) (hS.2.2.2.1 q (by omega)).2.1 ?_
    refine tw_clt k55_27 (fun h27 => ?_) (fun h27 => ?_)
    · refine tw_const k55_50 ?_
      refine tw_goto k55_51 ?_
      exact tw_rb k55_55 (by decide) (⟨by rw [if_pos (by unfold isA; omega)], rfl⟩)
    · refine tw_aload k55_30 rfl ?_
      refine tw_getr k55_31 f62_3 ?_
      refine tw_iload k55_34 rfl ?_
      refine tw_iald (j := m) (v := (s (22 + m))) k55_35 al66 rfl (by omega) (hS.2.2.2.1 m (by omega)).2.1 ?_
      refine tw_aload k55_36 rfl ?_
      refine tw_getr k55_37 f62_3 ?_
      refine tw_iload k55_40 rfl ?_
      refine tw_iald (j := q) (v := (s (22 + q))) k55_41 al66 rfl (by omega) (hS.2.2.2.1 q (by omega)).2.1 ?_
      refine tw_cne k55_42 (fun h42 => ?_) (fun h42 => ?_)
      · refine tw_const k55_54 ?_
        exact tw_rb k55_55 (by decide) (⟨by rw [if_neg (by unfold isA; omega)], rfl⟩)
      · refine tw_iload k55_45 rfl ?_
        refine tw_iload k55_46 rfl ?_
        refine tw_cge k55_47 (fun h47 => ?_) (fun h47 => ?_)
        · refine tw_const k55_54 ?_
          exact tw_rb k55_55 (by decide) (⟨by rw [if_neg (by unfold isA; omega)], rfl⟩)
        · refine tw_const k55_50 ?_
          refine tw_goto k55_51 ?_
          exact tw_rb k55_55 (by decide) (⟨by rw [if_pos (by unfold isA; omega)], rfl⟩)
theorem x_15_69 {K : mj_C} {d : Nat} {M : Nat → Nat → Int} {N : Nat → Nat → Int64} (G : GS) (h5 : G.1 ≤ 5) (hG : gRel (M 78 3) (M 79) (M 80) (M 81) G) (lk : Nat → Int) (hk : ∀ g, g < G.1 → M 87 g = lk g ∧ 0 ≤ lk g ∧ lk g ≤ 5000) : mj_X K d 15 [.inr (.inr (.inl 69))] (mj_Sh, M, N) (fun r Z => r = some (.inl (pS lk 0 G.1)) ∧ Z = (mj_Sh, M, N)) := by
  show mj_T K d 15 0 [some (.inr (.inr (.inl 69))), none, none] [] (mj_Sh, M, N) _
  have key : ∀ g : Nat, g ≤ G.1 → mj_T K d 15 4 [some (.inr (.inr (.inl 69))), some (.inl (pS lk 0 g)), some (.inl ((g : Nat) : Int))] [] (mj_Sh, M, N) (fun r Z => r = some (.inl (pS lk 0 G.1)) ∧ Z = (mj_Sh, M, N)) := by
    refine up_to G.1 ?_ ?_
    · show mj_T K d 15 4 [some (.inr (.inr (.inl 69))), some (.inl (pS lk 0 G.1)), some (.inl ((G.1 : Nat) : Int))] [] (mj_Sh, M, N) (fun r Z => r = some (.inl (pS lk 0 G.1)) ∧ Z = (mj_Sh, M, N))
      refine tw_iload k15_4 rfl ?_
      refine tw_aload k15_5 rfl ?_
      refine tw_getr k15_6 f69_1 ?_
      refine tw_geti k15_9 f78_3 rfl (v := ((G.1 : Nat) : Int)) hG.1 ?_
      refine tw_cgeT k15_12 (by omega) ?_
      refine tw_iload k15_30 rfl ?_
      exact tw_ri k15_31 (⟨rfl, rfl⟩)
    · intro g hmg ih
      have ih : mj_T K d 15 4 [some (.inr (.inr (.inl 69))), some (.inl (pS lk 0 (g + 1))), some (.inl (((g + 1) : Nat) : Int))] [] (mj_Sh, M, N) (fun r Z => r = some (.inl (pS lk 0 G.1)) ∧ Z = (mj_Sh, M, N)) := ih
      show mj_T K d 15 4 [some (.inr (.inr (.inl 69))), some (.inl (pS lk 0 g)), some (.inl ((g : Nat) : Int))] [] (mj_Sh, M, N) (fun r Z => r = some (.inl (pS lk 0 G.1)) ∧ Z = (mj_Sh, M, N))
      have hr := pS_rg (f := lk) (a := 0) (B := 5000) g (fun i _ hi => (hk i (by omega)).2)
      have hr2 := hk g (by omega)
      refine tw_iload k15_4 rfl ?_
      refine tw_aload k15_5 rfl ?_
      refine tw_getr k15_6 f69_1 ?_
      refine tw_geti k15_9 f78_3 rfl (v := ((G.1 : Nat) : Int)) hG.1 ?_
      refine tw_cgeF k15_12 (by omega) ?_
      refine tw_iload k15_15 rfl ?_
      refine tw_aload k15_16 rfl ?_
      refine tw_getr k15_17 f69_7 ?_
      refine tw_iload k15_20 rfl ?_
      refine tw_iald (j := g) (v := (lk g)) k15_21 al87 rfl (by omega) (hk g (by omega)).1 ?_
      refine tw_iadd k15_22 (v := ((pS lk 0 g) + (lk g))) rfl (by omega) ?_
      refine tw_istore k15_23 rfl (L' := [some (.inr (.inr (.inl 69))), some (.inl ((pS lk 0 g) + (lk g))), some (.inl ((g : Nat) : Int))]) rfl ?_
      refine tw_iinc k15_24 rfl (v := ((g + 1 : Nat) : Int)) rfl (by omega) rfl (L' := [some (.inr (.inr (.inl 69))), some (.inl ((pS lk 0 g) + (lk g))), some (.inl ((g + 1 : Nat) : Int))]) rfl ?_
      refine tw_goto k15_27 ?_
      refine tw_eqL (L' := [some (.inr (.inr (.inl 69))), some (.inl (pS lk 0 (g + 1))), some (.inl (((g + 1) : Nat) : Int))]) (e_c rfl (e_c (e_i (by rw [pS, Nat.zero_add])) (e_c rfl rfl))) ?_
      exact ih
  refine tw_const k15_0 ?_
  refine tw_istore k15_1 rfl (L' := [some (.inr (.inr (.inl 69))), some (.inl (0 : Int)), none]) rfl ?_
  refine tw_const k15_2 ?_
  refine tw_istore k15_3 rfl (L' := [some (.inr (.inr (.inl 69))), some (.inl (0 : Int)), some (.inl (0 : Int))]) rfl ?_
  refine tw_eqL (L' := [some (.inr (.inr (.inl 69))), some (.inl (pS lk 0 0)), some (.inl ((0 : Nat) : Int))]) (e_c rfl (e_c (e_i rfl) (e_c (e_i rfl) rfl))) ?_
  exact key 0 (by omega)
theorem x_30_69 {K : mj_C} {d : Nat} {M : Nat → Nat → Int} {N : Nat → Nat → Int64} (hD : 1 ≤ d) (s : Nat → Int) (hs : pRg s) (hS : cSV 62 M s) (G : GS) (h5G : G.1 ≤ 5) (hG : gRel (M 78 3) (M 79) (M 80) (M 81) G) (us lk : Nat → Int) (hU : ∀ y, y < (s 0).toNat → M 85 y = us y ∧ 0 ≤ us y ∧ us y ≤ 100) (hk : ∀ g, g < G.1 → M 87 g = lk g ∧ 0 ≤ lk g ∧ lk g ≤ 5000) : mj_X K d 30 [.inr (.inr (.inl 69)), .inr (.inr (.inl 62))] (mj_Sh, M, N) (fun r Z => r = none ∧ ∃ f1, Z = (mj_Sh, st M [(88, f1)], st N [(69, pU (N 69) 16 (tt s (wDn s us) (pS lk 0 G.1) (s 11).toNat))]) ∧ ∀ m : Nat, (m : Int) < s 11 → f1 m = wDn s us m) := by
  show mj_T K d 30 0 [some (.inr (.inr (.inl 69))), some (.inr (.inr (.inl 62))), none, none, none] [] (mj_Sh, M, N) _
  have h0 := hs.1 0 (by omega)
  have h5 := hs.2.1
  obtain ⟨Y, hYe⟩ : ∃ Y : Nat, Y = (s 0).toNat := ⟨_, rfl⟩
  have hY0 : s 0 = (Y : Int) := by omega
  have h11 := hs.1 11 (by omega)
  have hc11 := hs.2.2.1
  have keyO : ∀ k : Nat, k ≤ (s 11).toNat → ∀ o3 o4 (f1 : Nat → Int), (∀ q, q < k → f1 q = wDn s us q) → mj_T K d 30 15 [some (.inr (.inr (.inl 69))), some (.inr (.inr (.inl 62))), some (.inl ((k : Nat) : Int)), sv o3, sv o4] [] (mj_Sh, (st M [(88, f1)]), (st N [(69, (pU (N 69) 16 (tt s (wDn s us) (pS lk 0 G.1) k)))])) (fun r Z => r = none ∧ ∃ f1, Z = (mj_Sh, st M [(88, f1)], st N [(69, pU (N 69) 16 (tt s (wDn s us) (pS lk 0 G.1) (s 11).toNat))]) ∧ ∀ m : Nat, (m : Int) < s 11 → f1 m = wDn s us m) := by
    refine up_to (s 11).toNat ?_ ?_
    · show ∀ o3 o4 (f1 : Nat → Int), (∀ q, q < (s 11).toNat → f1 q = wDn s us q) → mj_T K d 30 15 [some (.inr (.inr (.inl 69))), some (.inr (.inr (.inl 62))), some (.inl (((s 11).toNat : Nat) : Int)), sv o3, sv o4] [] (mj_Sh, (st M [(88, f1)]), (st N [(69, (pU (N 69) 16 (tt s (wDn s us) (pS lk 0 G.1) (s 11).toNat)))])) (fun r Z => r = none ∧ ∃ f1, Z = (mj_Sh, st M [(88, f1)], st N [(69, pU (N 69) 16 (tt s (wDn s us) (pS lk 0 G.1) (s 11).toNat))]) ∧ ∀ m : Nat, (m : Int) < s 11 → f1 m = wDn s us m)
      intro o3 o4 f1 c1
      refine tw_iload k30_15 rfl ?_
      refine tw_aload k30_16 rfl ?_
      refine tw_geti k30_17 f62_7 rfl (v := (s 11)) (show M 62 7 = _ from hS.2.1) ?_
      refine tw_cgeT k30_20 (by omega) ?_
      exact tw_rv k30_139 (⟨rfl, f1, rfl, fun m hm => c1 m (by omega)⟩)
    · intro k hmk ih
      have ih : ∀ o3 o4 (f1 : Nat → Int), (∀ q, q < (k + 1) → f1 q = wDn s us q) → mj_T K d 30 15 [some (.inr (.inr (.inl 69))), some (.inr (.inr (.inl 62))), some (.inl (((k + 1) : Nat) : Int)), sv o3, sv o4] [] (mj_Sh, (st M [(88, f1)]), (st N [(69, (pU (N 69) 16 (tt s (wDn s us) (pS lk 0 G.1) (k + 1))))])) (fun r Z => r = none ∧ ∃ f1, Z = (mj_Sh, st M [(88, f1)], st N [(69, pU (N 69) 16 (tt s (wDn s us) (pS lk 0 G.1) (s 11).toNat))]) ∧ ∀ m : Nat, (m : Int) < s 11 → f1 m = wDn s us m) := ih
      show ∀ o3 o4 (f1 : Nat → Int), (∀ q, q < k → f1 q = wDn s us q) → mj_T K d 30 15 [some (.inr (.inr (.inl 69))), some (.inr (.inr (.inl 62))), some (.inl ((k : Nat) : Int)), sv o3, sv o4] [] (mj_Sh, (st M [(88, f1)]), (st N [(69, (pU (N 69) 16 (tt s (wDn s us) (pS lk 0 G.1) k)))])) (fun r Z => r = none ∧ ∃ f1, Z = (mj_Sh, st M [(88, f1)], st N [(69, pU (N 69) 16 (tt s (wDn s us) (pS lk 0 G.1) (s 11).toNat))]) ∧ ∀ m : Nat, (m : Int) < s 11 → f1 m = wDn s us m)
      intro o3 o4 f1 c1
      have how := hs.2.2.2.1 k (by omega)
      have how0 := hs.1 (12 + k) (by omega)
      have h6 := hs.1 (6 + (s (12 + k)).toNat) (by omega)
      have hu := hU (s (12 + k)).toNat (by omega)
      refine tw_iload k30_15 rfl ?_
      refine tw_aload k30_16 rfl ?_
      refine tw_geti k30_17 f62_7 rfl (v := (s 11)) (show M 62 7 = _ from hS.2.1) ?_
      refine tw_cgeF k30_20 (by omega) ?_
      refine tw_aload k30_23 rfl ?_
      refine tw_getr k30_24 f62_1 ?_
      refine tw_aload k30_27 rfl ?_
      refine tw_getr k30_28 f62_2 ?_
      refine tw_iload k30_31 rfl ?_
      refine tw_iald (j := k) (v := ((((s (12 + k)).toNat) : Nat) : Int)) k30_32 al65 rfl (by omega) (show M 65 k = _ from ((hS.2.2.2.1 k (by omega)).1.trans (by omega))) ?_
      refine tw_iald (j := ((s (12 + k)).toNat)) (v := (s (6 + (s (12 + k)).toNat))) k30_33 al64 rfl (by omega) (show M 64 ((s (12 + k)).toNat) = _ from (hS.2.2.1 _ (by omega)).2) ?_
      refine tw_aload k30_34 rfl ?_
      refine tw_getr k30_35 f69_5 ?_
      refine tw_aload k30_38 rfl ?_
      refine tw_getr k30_39 f62_2 ?_
      refine tw_iload k30_42 rfl ?_
      refine tw_iald (j := k) (v := ((((s (12 + k)).toNat) : Nat) : Int)) k30_43 al65 rfl (by omega) (show M 65 k = _ from ((hS.2.2.2.1 k (by omega)).1.trans (by omega))) ?_
      refine tw_iald (j := ((s (12 + k)).toNat)) (v := (us (s (12 + k)).toNat)) k30_44 al85 rfl (by omega) (show M 85 ((s (12 + k)).toNat) = _ from (hU _ (by omega)).1) ?_
      refine tw_isub k30_45 (v := ((s (6 + (s (12 + k)).toNat)) - (us (s (12 + k)).toNat))) rfl (by omega) ?_
      refine tw_istore k30_46 rfl (L' := [some (.inr (.inr (.inl 69))), some (.inr (.inr (.inl 62))), some (.inl ((k : Nat) : Int)), some (.inl ((s (6 + (s (12 + k)).toNat)) - (us (s (12 + k)).toNat))), sv o4]) rfl ?_
      refine tw_const k30_47 ?_
      refine tw_istore k30_48 rfl (L' := [some (.inr (.inr (.inl 69))), some (.inr (.inr (.inl 62))), some (.inl ((k : Nat) : Int)), some (.inl ((s (6 + (s (12 + k)).toNat)) - (us (s (12 + k)).toNat))), some (.inl (0 : Int))]) rfl ?_
      have ih2 := ih
      have keyI : ∀ i : Nat, i ≤ (s 11).toNat → mj_T K d 30 50 [some (.inr (.inr (.inl 69))), some (.inr (.inr (.inl 62))), some (.inl ((k : Nat) : Int)), some (.inl (s (6 + (s (12 + k)).toNat) - us (s (12 + k)).toNat - pS (fun q => if s (12 + q) = s (12 + k) ∧ isA s q k then s (32 + q) else 0) 0 i)), some (.inl ((i : Nat) : Int))] [] (mj_Sh, (st M [(88, f1)]), (st N [(69, (pU (N 69) 16 (tt s (wDn s us) (pS lk 0 G.1) k)))])) (fun r Z => r = none ∧ ∃ f1, Z = (mj_Sh, st M [(88, f1)], st N [(69, pU (N 69) 16 (tt s (wDn s us) (pS lk 0 G.1) (s 11).toNat))]) ∧ ∀ m : Nat, (m : Int) < s 11 → f1 m = wDn s us m) := by
        refine up_to (s 11).toNat ?_ ?_
        · show mj_T K d 30 50 [some (.inr (.inr (.inl 69))), some (.inr (.inr (.inl 62))), some (.inl ((k : Nat) : Int)), some (.inl (s (6 + (s (12 + k)).toNat) - us (s (12 + k)).toNat - pS (fun q => if s (12 + q) = s (12 + k) ∧ isA s q k then s (32 + q) else 0) 0 (s 11).toNat)), some (.inl (((s 11).toNat : Nat) : Int))] [] (mj_Sh, (st M [(88, f1)]), (st N [(69, (pU (N 69) 16 (tt s (wDn s us) (pS lk 0 G.1) k)))])) (fun r Z => r = none ∧ ∃ f1, Z = (mj_Sh, st M [(88, f1)], st N [(69, pU (N 69) 16 (tt s (wDn s us) (pS lk 0 G.1) (s 11).toNat))]) ∧ ∀ m : Nat, (m : Int) < s 11 → f1 m = wDn s us m)
          have hpr := pS_rg (f := (fun q => if s (12 + q) = s (12 + k) ∧ isA s q k then s (32 + q) else 0)) (a := 0) (B := 100) (s 11).toNat (fun q _ hq => by have := hs.1 (32 + q) (by omega); (try dsimp only); split <;> omega)
          have h32 := hs.1 (32 + k) (by omega)
          refine tw_iload k30_50 rfl ?_
          refine tw_aload k30_52 rfl ?_
          refine tw_geti k30_53 f62_7 rfl (v := (s 11)) (show M 62 7 = _ from hS.2.1) ?_
          refine tw_cgeT k30_56 (by omega) ?_
          refine tw_aload k30_89 rfl ?_
          refine tw_getr k30_90 f69_8 ?_
          refine tw_iload k30_93 rfl ?_
          refine tw_const k30_94 ?_
          refine tw_iload k30_95 rfl ?_
          refine tw_aload k30_96 rfl ?_
          refine tw_getr k30_97 f62_4 ?_
          refine tw_iload k30_100 rfl ?_
          refine tw_iald (j := k) (v := (s (32 + k))) k30_101 al67 rfl (by omega) (show M 67 k = _ from (hS.2.2.2.1 k (by omega)).2.2) ?_
          refine tw_min k30_102 rfl ?_
          refine tw_max k30_105 rfl ?_
          refine tw_eqS (S' := [.inl (wDn s us k), .inl ((k : Nat) : Int), .inr (.inr (.inl 88))]) (e_c (congrArg Sum.inl (by unfold wDn; rfl)) rfl) ?_
          refine tw_iast (M := M) (N := (st N [(69, (pU (N 69) 16 (tt s (wDn s us) (pS lk 0 G.1) k)))])) (l := [(88, f1)]) (l' := [(88, (pU f1 k (wDn s us k)))]) (j := k) k30_108 al88 rfl (by omega) rfl ?_
          refine tw_aload k30_109 rfl ?_
          refine tw_dupr k30_110 ?_
          refine tw_getl k30_111 f69_16 (v := (tt s (wDn s us) (pS lk 0 G.1) k)) rfl ?_
          refine tw_aload k30_114 rfl ?_
          refine tw_getr k30_115 f69_8 ?_
          refine tw_iload k30_118 rfl ?_
          refine tw_iald (j := k) (v := (wDn s us k)) k30_119 al88 rfl (by omega) (show (pU f1 k (wDn s us k)) k = _ from pU_eq) ?_
          refine tw_i2l k30_120 ?_
          refine tw_aload k30_121 rfl ?_
          refine tw_getr k30_122 f62_3 ?_
          refine tw_iload k30_125 rfl ?_
          refine tw_iald (j := k) (v := (s (22 + k))) k30_126 al66 rfl (by omega) (show M 66 k = _ from (hS.2.2.2.1 k (by omega)).2.1) ?_
          refine tw_i2l k30_127 ?_
          refine tw_lmul k30_128 ?_
          refine tw_ladd k30_129 ?_
          refine tw_putl (M := (st M [(88, (pU f1 k (wDn s us k)))])) (N := N) (l := [(69, (pU (N 69) 16 (tt s (wDn s us) (pS lk 0 G.1) k)))]) (l' := [(69, (pU (pU (N 69) 16 (tt s (wDn s us) (pS lk 0 G.1) k)) 16 ((tt s (wDn s us) (pS lk 0 G.1) k) + (((Int32.ofInt (wDn s us k)).toInt64) * ((Int32.ofInt (s (22 + k))).toInt64)))))]) k30_130 f69_16 rfl ?_
          refine tw_iinc k30_133 rfl (v := ((k + 1 : Nat) : Int)) rfl (by omega) rfl (L' := [some (.inr (.inr (.inl 69))), some (.inr (.inr (.inl 62))), some (.inl ((k + 1 : Nat) : Int)), some (.inl (s (6 + (s (12 + k)).toNat) - us (s (12 + k)).toNat - pS (fun q => if s (12 + q) = s (12 + k) ∧ isA s q k then s (32 + q) else 0) 0 (s 11).toNat)), some (.inl (((s 11).toNat : Nat) : Int))]) rfl ?_
          refine tw_goto k30_136 ?_
          refine tw_as (M := (st M [(88, pU f1 k (wDn s us k))])) (N := (st N [(69, (pU (N 69) 16 (tt s (wDn s us) (pS lk 0 G.1) (k + 1))))])) rfl (by rw [pU_pU]; rfl) ?_
          refine ih2 (some (.inl (s (6 + (s (12 + k)).toNat) - us (s (12 + k)).toNat - pS (fun q => if s (12 + q) = s (12 + k) ∧ isA s q k then s (32 + q) else 0) 0 (s 11).toNat))) (some (.inl (((s 11).toNat : Nat) : Int))) _ (fun q hq => ?_)
          by_cases e : q = k
          · subst e; rw [pU_eq]
          · rw [pU_ne e]; exact c1 q (by omega)
        · intro i hmi ih
          have ih : mj_T K d 30 50 [some (.inr (.inr (.inl 69))), some (.inr (.inr (.inl 62))), some (.inl ((k : Nat) : Int)), some (.inl (s (6 + (s (12 + k)).toNat) - us (s (12 + k)).toNat - pS (fun q => if s (12 + q) = s (12 + k) ∧ isA s q k then s (32 + q) else 0) 0 (i + 1))), some (.inl (((i + 1) : Nat) : Int))] [] (mj_Sh, (st M [(88, f1)]), (st N [(69, (pU (N 69) 16 (tt s (wDn s us) (pS lk 0 G.1) k)))])) (fun r Z => r = none ∧ ∃ f1, Z = (mj_Sh, st M [(88, f1)], st N [(69, pU (N 69) 16 (tt s (wDn s us) (pS lk 0 G.1) (s 11).toNat))]) ∧ ∀ m : Nat, (m : Int) < s 11 → f1 m = wDn s us m) := ih
          show mj_T K d 30 50 [some (.inr (.inr (.inl 69))), some (.inr (.inr (.inl 62))), some (.inl ((k : Nat) : Int)), some (.inl (s (6 + (s (12 + k)).toNat) - us (s (12 + k)).toNat - pS (fun q => if s (12 + q) = s (12 + k) ∧ isA s q k then s (32 + q) else 0) 0 i)), some (.inl ((i : Nat) : Int))] [] (mj_Sh, (st M [(88, f1)]), (st N [(69, (pU (N 69) 16 (tt s (wDn s us) (pS lk 0 G.1) k)))])) (fun r Z => r = none ∧ ∃ f1, Z = (mj_Sh, st M [(88, f1)], st N [(69, pU (N 69) 16 (tt s (wDn s us) (pS lk 0 G.1) (s 11).toNat))]) ∧ ∀ m : Nat, (m : Int) < s 11 → f1 m = wDn s us m)
          have hpr := pS_rg (f := (fun q => if s (12 + q) = s (12 + k) ∧ isA s q k then s (32 + q) else 0)) (a := 0) (B := 100) i (fun q _ hq => by have := hs.1 (32 + q) (by omega); (try dsimp only); split <;> omega)
          have h32 := hs.1 (32 + i) (by omega)
          refine tw_iload k30_50 rfl ?_
          refine tw_aload k30_52 rfl ?_
          refine tw_geti k30_53 f62_7 rfl (v := (s 11)) (show M 62 7 = _ from hS.2.1) ?_
          refine tw_cgeF k30_56 (by omega) ?_
          refine tw_iload k30_59 rfl ?_
          refine tw_aload k30_60 rfl ?_
          refine tw_iload k30_61 rfl ?_
          refine tw_iload k30_63 rfl ?_
          refine tw_callb (by omega) (S' := [.inl (s (6 + (s (12 + k)).toNat) - us (s (12 + k)).toNat - pS (fun q => if s (12 + q) = s (12 + k) ∧ isA s q k then s (32 + q) else 0) 0 i)]) (as := [.inr (.inr (.inl 62)), .inl ((i : Nat) : Int), .inl ((k : Nat) : Int)]) k30_64 (x_55_69 (M := (st M [(88, f1)])) (N := (st N [(69, (pU (N 69) 16 (tt s (wDn s us) (pS lk 0 G.1) k)))])) s hS i k (by omega) (by omega)) rfl rfl rfl rfl rfl (fun h64 => ?_) (fun h64 => ?_)
          · refine tw_zeqF k30_67 (by decide) ?_
            refine tw_aload k30_70 rfl ?_
            refine tw_getr k30_71 f62_4 ?_
            refine tw_iload k30_74 rfl ?_
            refine tw_iald (j := i) (v := (s (32 + i))) k30_76 al67 rfl (by omega) (show M 67 i = _ from (hS.2.2.2.1 i (by omega)).2.2) ?_
            refine tw_goto k30_77 ?_
            refine tw_isub k30_81 (v := ((s (6 + (s (12 + k)).toNat) - us (s (12 + k)).toNat - pS (fun q => if s (12 + q) = s (12 + k) ∧ isA s q k then s (32 + q) else 0) 0 i) - (s (32 + i)))) rfl (by omega) ?_
            refine tw_istore k30_82 rfl (L' := [some (.inr (.inr (.inl 69))), some (.inr (.inr (.inl 62))), some (.inl ((k : Nat) : Int)), some (.inl ((s (6 + (s (12 + k)).toNat) - us (s (12 + k)).toNat - pS (fun q => if s (12 + q) = s (12 + k) ∧ isA s q k then s (32 + q) else 0) 0 i) - (s (32 + i)))), some (.inl ((i : Nat) : Int))]) rfl ?_
            refine tw_iinc k30_83 rfl (v := ((i + 1 : Nat) : Int)) rfl (by omega) rfl (L' := [some (.inr (.inr (.inl 69))), some (.inr (.inr (.inl 62))), some (.inl ((k : Nat) : Int)), some (.inl ((s (6 + (s (12 + k)).toNat) - us (s (12 + k)).toNat - pS (fun q => if s (12 + q) = s (12 + k) ∧ isA s q k then s (32 + q) else 0) 0 i) - (s (32 + i)))), some (.inl ((i + 1 : Nat) : Int))]) rfl ?_
            refine tw_goto k30_86 ?_
            refine tw_eqL (L' := [some (.inr (.inr (.inl 69))), some (.inr (.inr (.inl 62))), some (.inl ((k : Nat) : Int)), some (.inl (s (6 + (s (12 + k)).toNat) - us (s (12 + k)).toNat - pS (fun q => if s (12 + q) = s (12 + k) ∧ isA s q k then s (32 + q) else 0) 0 (i + 1))), some (.inl (((i + 1) : Nat) : Int))]) (e_c rfl (e_c rfl (e_c rfl (e_c (e_i (by rw [pS]; (try dsimp only); rw [Nat.zero_add, if_pos h64]; omega)) (e_c rfl rfl))))) ?_
            exact ih
          · refine tw_zeqT k30_67 (by decide) ?_
            refine tw_const k30_80 ?_
            refine tw_isub k30_81 (v := ((s (6 + (s (12 + k)).toNat) - us (s (12 + k)).toNat - pS (fun q => if s (12 + q) = s (12 + k) ∧ isA s q k then s (32 + q) else 0) 0 i) - (0 : Int))) rfl (by omega) ?_
            refine tw_istore k30_82 rfl (L' := [some (.inr (.inr (.inl 69))), some (.inr (.inr (.inl 62))), some (.inl ((k : Nat) : Int)), some (.inl ((s (6 + (s (12 + k)).toNat) - us (s (12 + k)).toNat - pS (fun q => if s (12 + q) = s (12 + k) ∧ isA s q k then s (32 + q) else 0) 0 i) - (0 : Int))), some (.inl ((i : Nat) : Int))]) rfl ?_
            refine tw_iinc k30_83 rfl (v := ((i + 1 : Nat) : Int)) rfl (by omega) rfl (L' := [some (.inr (.inr (.inl 69))), some (.inr (.inr (.inl 62))), some (.inl ((k : Nat) : Int)), some (.inl ((s (6 + (s (12 + k)).toNat) - us (s (12 + k)).toNat - pS (fun q => if s (12 + q) = s (12 + k) ∧ isA s q k then s (32 + q) else 0) 0 i) - (0 : Int))), some (.inl ((i + 1 : Nat) : Int))]) rfl ?_
            refine tw_goto k30_86 ?_
            refine tw_eqL (L' := [some (.inr (.inr (.inl 69))), some (.inr (.inr (.inl 62))), some (.inl ((k : Nat) : Int)), some (.inl (s (6 + (s (12 + k)).toNat) - us (s (12 + k)).toNat - pS (fun q => if s (12 + q) = s (12 + k) ∧ isA s q k then s (32 + q) else 0) 0 (i + 1))), some (.inl (((i + 1) : Nat) : Int))]) (e_c rfl (e_c rfl (e_c rfl (e_c (e_i (by rw [pS]; (try dsimp only); rw [Nat.zero_add, if_neg h64]; omega)) (e_c rfl rfl))))) ?_
            exact ih
      refine tw_eqL (L' := [some (.inr (.inr (.inl 69))), some (.inr (.inr (.inl 62))), some (.inl ((k : Nat) : Int)), some (.inl (s (6 + (s (12 + k)).toNat) - us (s (12 + k)).toNat - pS (fun q => if s (12 + q) = s (12 + k) ∧ isA s q k then s (32 + q) else 0) 0 0)), some (.inl ((0 : Nat) : Int))]) (e_c rfl (e_c rfl (e_c rfl (e_c (e_i (by rw [pS]; omega)) (e_c (e_i rfl) rfl))))) ?_
      exact keyI 0 (by omega)
  refine tw_aload k30_0 rfl ?_
  refine tw_lconst k30_1 ?_
  refine tw_aload k30_4 rfl ?_
  refine tw_callp (v := .inl (pS lk 0 G.1)) (by omega) (S' := [.inr (.inl (Int64.ofInt 20)), .inr (.inr (.inl 69))]) (as := [.inr (.inr (.inl 69))]) k30_5 (x_15_69 (M := M) (N := N) G h5G hG lk hk) rfl rfl rfl rfl rfl ?_
  refine tw_i2l k30_8 ?_
  refine tw_lmul k30_9 ?_
  refine tw_putl (M := M) (N := N) (l := []) (l' := [(69, (pU (N 69) 16 ((Int64.ofInt 20) * ((Int32.ofInt (pS lk 0 G.1)).toInt64))))]) k30_10 f69_16 rfl ?_
  refine tw_const k30_13 ?_
  refine tw_istore k30_14 rfl (L' := [some (.inr (.inr (.inl 69))), some (.inr (.inr (.inl 62))), some (.inl (0 : Int)), none, none]) rfl ?_
  refine tw_pad (M := M) (N := (st N [(69, (pU (N 69) 16 ((Int64.ofInt 20) * ((Int32.ofInt (pS lk 0 G.1)).toInt64))))])) (l := []) (l' := [(88, M 88)]) [88] rfl ?_
  exact keyO 0 (by omega) none none _ (fun q hq => by omega)
