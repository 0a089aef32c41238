-- all that is worked out: the words; the model's works
def itN (C : WS → Prop) (dC : ∀ W, Decidable (C W)) (S : WS → WS) : Nat → WS → WS
  | 0, W => W
  | n + 1, W => if C W then itN C dC S n (S W) else W
abbrev tkC (s : Nat → Int) (W : WS) : Prop := tkG s W (wGr s W) < (wGr s W).1
def tkS (s : Nat → Int) (W : WS) : WS := tkW W (pBk W.1 ((wGr s W).2.2.1 (tkG s W (wGr s W))))
abbrev gvC (s : Nat → Int) (W : WS) : Prop := 0 < W.2.2.1 ∧ gvG s (wGr s W) < (wGr s W).1
def gvS (s : Nat → Int) (W : WS) : WS := gvW W ((wGr s W).2.1 (gvG s (wGr s W)))
abbrev bwC (s : Nat → Int) (W : WS) : Prop := bwG s W (wGr s W) + 1 < (wGr s W).1
def bwS (s : Nat → Int) (W : WS) : WS := bwW W ((wGr s W).2.1 (bwG s W (wGr s W) + 1)) ((wGr s W).2.2.1 (bwG s W (wGr s W)))
def w0 (s : Nat → Int) : WS := (fun y => s (1 + y), fun _ => 0, s 44, 0, 0)
def wT (s : Nat → Int) : WS := itN (tkC s) (fun _ => inferInstance) (tkS s) 10000 (w0 s)
def wV (s : Nat → Int) : WS := itN (gvC s) (fun _ => inferInstance) (gvS s) 10000 (wT s)
def wB (s : Nat → Int) : WS := itN (bwC s) (fun _ => inferInstance) (bwS s) 10000 (wV s)
def wI (W : WS) : Prop := (∀ y, y < 5 → 0 ≤ W.1 y ∧ 0 ≤ W.2.1 y ∧ W.2.1 y ≤ 100) ∧ 0 ≤ W.2.2.1 ∧ pS W.1 0 5 + W.2.2.1 ≤ 600 ∧ 0 ≤ W.2.2.2.1 ∧ W.2.2.2.1 ≤ 600 ∧ 0 ≤ W.2.2.2.2 ∧ W.2.2.2.2 ≤ 600
theorem pS_mem {f : Nat → Int} {k : Nat} : ∀ n, (∀ i, i < n → 0 ≤ f i) → k < n → f k ≤ pS f 0 n ∧ 0 ≤ pS f 0 n
  | 0, _, hk => by omega
  | n + 1, h, hk => by
    have h0 := h n (by omega)
    have h1 : 0 ≤ pS f 0 n := by
      clear hk h0
      induction n with
      | zero => exact Int.le_refl _
      | succ n ih => rw [pS, Nat.zero_add]; have := ih (fun i hi => h i (by omega)); have := h n (by omega); omega
    rw [pS, Nat.zero_add]
    by_cases e : k = n
    · subst e; omega
    · have := (pS_mem n (fun i hi => h i (by omega)) (show k < n by omega)).1; omega
theorem wI_p {W : WS} (h : wI W) : ∀ y, y < 5 → 0 ≤ W.1 y ∧ W.1 y ≤ 1000 := fun y hy => by
  have := pS_mem 5 (fun i hi => (h.1 i hi).1) hy
  have := h.1 y hy
  have := h.2
  omega
theorem gPv_20 (s perm : Nat → Int) (a l : Nat) : gPv s perm a l ≤ 20 := by
  have ⟨h, _⟩ := pFd_sp (P := fun p => pS (pLo s p) a (l + 1 - a) ≤ pS perm a (l + 1 - a)) (dP := fun _ => inferInstance) 20 0
  unfold gPv pPr
  omega
theorem gDn_20 {s perm : Nat → Int} : ∀ (k : Nat) (G : GS), (∀ g, G.2.2.2 g ≤ 20) → ∀ g, (gDn s perm k G).2.2.2 g ≤ 20
  | 0, _, h => h
  | k + 1, G, h => by
    rw [gDn]
    by_cases e : gR G + 1 < G.1
    · rw [if_pos e]
      refine gDn_20 k _ (fun g => ?_)
      show (if g < gR G then G.2.2.2 g else if g = gR G then gPv s perm (G.2.1 (gR G)) (G.2.2.1 (gR G + 1)) else G.2.2.2 (g + 1)) ≤ 20
      split
      · exact h g
      · split
        · exact gPv_20 _ _ _ _
        · exact h _
    · rw [if_neg e]; exact h
theorem gF_20 (s perm : Nat → Int) (Y : Nat) : ∀ g, (gF s perm Y).2.2.2 g ≤ 20 := gDn_20 Y _ (fun g => gPv_20 s perm g g)
theorem wGr_ok (s : Nat → Int) (W : WS) : gOk (s 0).toNat (wGr s W) := gF_ok s W.1 _
theorem tk_y {s : Nat → Int} (hs : pRg s) {W : WS} (hI : wI W) (hC : tkC s W) : pBk W.1 ((wGr s W).2.2.1 (tkG s W (wGr s W))) < 5 ∧ 0 < W.1 (pBk W.1 ((wGr s W).2.2.1 (tkG s W (wGr s W)))) := by
  have h5 := hs.2.1
  have ⟨h1, _⟩ := pFd_sp (P := fun g => ((wGr s W).2.2.2 g : Int) < s 42 ∧ ¬ gTot W.1 (wGr s W) g = 0) (dP := fun _ => inferInstance) (wGr s W).1 0
  have h2 : ¬ gTot W.1 (wGr s W) (tkG s W (wGr s W)) = 0 := by
    rcases h1 with ⟨_, b, _⟩ | a
    · exact b.2
    · unfold tkC tkG at hC; omega
  have a1 := (wGr_ok s W).2.1 _ hC
  obtain ⟨b1, b2, b3, b4⟩ := pBk_sp (perm := W.1) _ _ a1.1 h2
  have := hI.1 (pBk W.1 ((wGr s W).2.2.1 (tkG s W (wGr s W)))) (by omega)
  omega
theorem tk_I {s : Nat → Int} (hs : pRg s) {W : WS} (hI : wI W) (hT : W.2.2.2.1 + pS W.1 0 5 ≤ 600) (hC : tkC s W) : wI (tkS s W) ∧ (tkS s W).2.2.2.1 + pS (tkS s W).1 0 5 ≤ 600 ∧ pS (tkS s W).1 0 5 + 1 = pS W.1 0 5 := by
  have ⟨hy, h0⟩ := tk_y hs hI hC
  obtain ⟨y, hye⟩ : ∃ y, y = pBk W.1 ((wGr s W).2.2.1 (tkG s W (wGr s W))) := ⟨_, rfl⟩
  rw [← hye] at hy h0
  have e : tkS s W = tkW W y := by unfold tkS; rw [hye]
  rw [e]
  obtain ⟨i1, i2, i3, i4, i5, i6, i7⟩ := hI
  have hp : pS (tkW W y).1 0 5 + 1 = pS W.1 0 5 := by
    show pS (pU W.1 y (W.1 y - 1)) 0 5 + 1 = _
    rw [pS_pU, if_pos (by omega)]; omega
  have hq := pS_mem 5 (fun i hi => (i1 i hi).1) hy
  refine ⟨⟨fun k hk => ?_, ?_, ?_, ?_, ?_, i6, i7⟩, ?_, hp⟩
  · have := i1 k hk
    show 0 ≤ pU W.1 y (W.1 y - 1) k ∧ _
    refine ⟨?_, this.2⟩
    by_cases e : k = y
    · subst e; rw [pU_eq]; omega
    · rw [pU_ne e]; exact this.1
  · show 0 ≤ W.2.2.1 + 1; omega
  · show _ + (W.2.2.1 + 1) ≤ 600; omega
  · show 0 ≤ W.2.2.2.1 + 1; omega
  · show W.2.2.2.1 + 1 ≤ 600; omega
  · show W.2.2.2.1 + 1 + _ ≤ 600; omega
theorem gv_y {s : Nat → Int} (hs : pRg s) {W : WS} (hC : gvC s W) : (wGr s W).2.1 (gvG s (wGr s W)) < 5 := by
  have h5 := hs.2.1
  have a1 := (wGr_ok s W).2.1 _ hC.2
  omega
theorem gv_I {s : Nat → Int} (hs : pRg s) {W : WS} (hI : wI W) (hT : W.2.2.2.2 + W.2.2.1 ≤ 600) (hC : gvC s W) : wI (gvS s W) ∧ (gvS s W).2.2.2.2 + (gvS s W).2.2.1 ≤ 600 ∧ (gvS s W).2.2.1 + 1 = W.2.2.1 := by
  have hy := gv_y hs hC
  obtain ⟨y, hye⟩ : ∃ y, y = (wGr s W).2.1 (gvG s (wGr s W)) := ⟨_, rfl⟩
  rw [← hye] at hy
  have h0 := hC.1
  have e : gvS s W = gvW W y := by unfold gvS; rw [hye]
  rw [e]
  obtain ⟨i1, i2, i3, i4, i5, i6, i7⟩ := hI
  have hp : pS (gvW W y).1 0 5 = pS W.1 0 5 + 1 := by
    show pS (pU W.1 y (W.1 y + 1)) 0 5 = _
    rw [pS_pU, if_pos (by omega)]; omega
  refine ⟨⟨fun k hk => ?_, ?_, ?_, i4, i5, ?_, ?_⟩, ?_, ?_⟩
  · have := i1 k hk
    show 0 ≤ pU W.1 y (W.1 y + 1) k ∧ _
    refine ⟨?_, this.2⟩
    by_cases e : k = y
    · subst e; rw [pU_eq]; omega
    · rw [pU_ne e]; exact this.1
  · show 0 ≤ W.2.2.1 - 1; omega
  · show _ + (W.2.2.1 - 1) ≤ 600; omega
  · show 0 ≤ W.2.2.2.2 + 1; omega
  · show W.2.2.2.2 + 1 ≤ 600; omega
  · show W.2.2.2.2 + 1 + (W.2.2.1 - 1) ≤ 600; omega
  · show W.2.2.1 - 1 + 1 = _; omega
theorem bw_y {s : Nat → Int} (hs : pRg s) {W : WS} (hI : wI W) (hC : bwC s W) : (wGr s W).2.2.1 (bwG s W (wGr s W)) < 5 ∧ (wGr s W).2.1 (bwG s W (wGr s W) + 1) < 5 ∧ (wGr s W).2.2.1 (bwG s W (wGr s W)) < (wGr s W).2.1 (bwG s W (wGr s W) + 1) ∧ 0 < W.1 ((wGr s W).2.1 (bwG s W (wGr s W) + 1)) ∧ W.2.1 ((wGr s W).2.2.1 (bwG s W (wGr s W))) < s 45 := by
  have h5 := hs.2.1
  have ⟨h1, _⟩ := pFd_sp (P := fun g => (wGr s W).2.2.2 (g + 1) < (wGr s W).2.2.2 g ∧ W.2.1 ((wGr s W).2.2.1 g) < s 45 ∧ ¬ W.1 ((wGr s W).2.1 (g + 1)) = 0) (dP := fun _ => inferInstance) ((wGr s W).1 - 1) 0
  have h2 : W.2.1 ((wGr s W).2.2.1 (bwG s W (wGr s W))) < s 45 ∧ ¬ W.1 ((wGr s W).2.1 (bwG s W (wGr s W) + 1)) = 0 := by
    rcases h1 with ⟨_, b, _⟩ | a
    · exact b.2
    · unfold bwC bwG at hC; omega
  have hC' : bwG s W (wGr s W) + 1 < (wGr s W).1 := hC
  have a1 := (wGr_ok s W).2.1 (bwG s W (wGr s W)) (by omega)
  have a2 := (wGr_ok s W).2.1 (bwG s W (wGr s W) + 1) hC
  have a3 := (wGr_ok s W).2.2.1 (bwG s W (wGr s W)) hC
  have := hI.1 ((wGr s W).2.1 (bwG s W (wGr s W) + 1)) (by omega)
  omega
theorem bw_I {s : Nat → Int} (hs : pRg s) {W : WS} (hI : wI W) (hC : bwC s W) : wI (bwS s W) ∧ pS (bwS s W).2.1 0 5 = pS W.2.1 0 5 + 1 ∧ pS W.2.1 0 5 ≤ 500 ∧ pS (bwS s W).2.1 0 5 ≤ 500 := by
  obtain ⟨hy, hz, hyz, h0, hb⟩ := bw_y hs hI hC
  obtain ⟨y, hye⟩ : ∃ y, y = (wGr s W).2.2.1 (bwG s W (wGr s W)) := ⟨_, rfl⟩
  obtain ⟨z, hze⟩ : ∃ z, z = (wGr s W).2.1 (bwG s W (wGr s W) + 1) := ⟨_, rfl⟩
  rw [← hye] at hy hyz hb
  rw [← hze] at hz hyz h0
  have h45 := hs.1 45 (by omega)
  have e : bwS s W = bwW W z y := by unfold bwS; rw [hye, hze]
  rw [e]
  obtain ⟨i1, i2, i3, i4, i5, i6, i7⟩ := hI
  have hp : pS (bwW W z y).1 0 5 = pS W.1 0 5 := by
    show pS (pU (pU W.1 z (W.1 z - 1)) y (W.1 y + 1)) 0 5 = _
    rw [pS_pU, if_pos (by omega), pS_pU, if_pos (by omega), pU_ne (by omega)]; omega
  have hq : pS (bwW W z y).2.1 0 5 = pS W.2.1 0 5 + 1 := by
    show pS (pU W.2.1 y (W.2.1 y + 1)) 0 5 = _
    rw [pS_pU, if_pos (by omega)]; omega
  have hbr : ∀ k, k < 5 → 0 ≤ (bwW W z y).2.1 k ∧ (bwW W z y).2.1 k ≤ 100 := by
    intro k hk
    have := i1 k hk
    show 0 ≤ pU W.2.1 y (W.2.1 y + 1) k ∧ pU W.2.1 y (W.2.1 y + 1) k ≤ 100
    by_cases e : k = y
    · subst e; rw [pU_eq]; omega
    · rw [pU_ne e]; exact this.2
  have hr1 := pS_rg (f := W.2.1) (a := 0) (B := 100) 5 (fun i _ hi => (i1 i (by omega)).2)
  have hr2 := pS_rg (f := (bwW W z y).2.1) (a := 0) (B := 100) 5 (fun i _ hi => hbr i (by omega))
  refine ⟨⟨fun k hk => ⟨?_, hbr k hk⟩, i2, by rw [hp]; exact i3, i4, i5, i6, i7⟩, hq, by omega, by omega⟩
  have := i1 k hk
  show 0 ≤ pU (pU W.1 z (W.1 z - 1)) y (W.1 y + 1) k
  by_cases e : k = y
  · subst e; rw [pU_eq]; omega
  · rw [pU_ne e]
    by_cases e2 : k = z
    · subst e2; rw [pU_eq]; omega
    · rw [pU_ne e2]; exact this.1
theorem w0_I {s : Nat → Int} (hs : pRg s) : wI (w0 s) ∧ (w0 s).2.2.2.1 + pS (w0 s).1 0 5 ≤ 600 := by
  have hp := pS_rg (f := (w0 s).1) (a := 0) (B := 100) 5 (fun i _ hi => hs.1 (1 + i) (by omega))
  have h44 := hs.1 44 (by omega)
  refine ⟨⟨fun y hy => ⟨(hs.1 (1 + y) (by omega)).1, Int.le_refl _, by show (0 : Int) ≤ 100; omega⟩, h44.1, by show _ + s 44 ≤ 600; omega, Int.le_refl _, by show (0 : Int) ≤ 600; omega, Int.le_refl _, by show (0 : Int) ≤ 600; omega⟩, by show (0 : Int) + _ ≤ 600; omega⟩
theorem itN_I {C : WS → Prop} {dC : ∀ W, Decidable (C W)} {S : WS → WS} (P : WS → Prop) (h : ∀ W, P W → C W → P (S W)) : ∀ n W, P W → P (itN C dC S n W)
  | 0, _, hW => hW
  | n + 1, W, hW => by
    rw [itN]
    by_cases e : C W
    · rw [if_pos e]; exact itN_I P h n _ (h W hW e)
    · rw [if_neg e]; exact hW
theorem wT_I {s : Nat → Int} (hs : pRg s) : wI (wT s) ∧ (wT s).2.2.2.2 + (wT s).2.2.1 ≤ 600 := by
  have h1 := itN_I (C := tkC s) (dC := fun _ => inferInstance) (S := tkS s) (fun W => (wI W ∧ W.2.2.2.1 + pS W.1 0 5 ≤ 600) ∧ W.2.2.2.2 = 0) (fun W hW hC => ⟨⟨(tk_I hs hW.1.1 hW.1.2 hC).1, (tk_I hs hW.1.1 hW.1.2 hC).2.1⟩, hW.2⟩) 10000 (w0 s) ⟨w0_I hs, rfl⟩
  refine ⟨h1.1.1, ?_⟩
  have h2 : (wT s).2.2.2.2 = 0 := h1.2
  have h3 : wI (wT s) := h1.1.1
  have h4 := (pS_mem 5 (fun i hi => (h3.1 i hi).1) (show 0 < 5 by omega)).2
  have := h3.2.2.1
  omega
theorem wV_I {s : Nat → Int} (hs : pRg s) : wI (wV s) :=
  (itN_I (C := gvC s) (dC := fun _ => inferInstance) (S := gvS s) (fun W => wI W ∧ W.2.2.2.2 + W.2.2.1 ≤ 600) (fun W hW hC => ⟨(gv_I hs hW.1 hW.2 hC).1, (gv_I hs hW.1 hW.2 hC).2.1⟩) 10000 (wT s) (wT_I hs)).1
theorem wB_I {s : Nat → Int} (hs : pRg s) : wI (wB s) :=
  itN_I (C := bwC s) (dC := fun _ => inferInstance) (S := bwS s) wI (fun W hW hC => (bw_I hs hW hC).1) 10000 (wV s) (wV_I hs)
def wG (s : Nat → Int) : GS := wGr s (wB s)
def mWk (M : Nat → Nat → Int) (s : Nat → Int) (W : WS) (G : GS) : Prop :=
  gRel (M 126 17) (M 136) (M 137) (M 138) G ∧ (M 126 18 = W.2.2.1 ∧ M 126 19 = W.2.2.2.1 ∧ M 126 20 = W.2.2.2.2) ∧ (∀ y, y < 5 → M 130 y = W.1 y ∧ M 131 y = W.2.1 y) ∧
  (∀ y, y < (s 0).toNat → M 132 y = ((gOf G y : Nat) : Int) ∧ M 133 y = wU s W.1 G y ∧ M 134 y = wBk s W.1 G y) ∧ (∀ g, g < G.1 → M 139 g = wLk s W.1 G g) ∧
  (∀ m : Nat, (m : Int) < s 11 → M 140 m = wDn s (wU s W.1 G) m) ∧ (∀ i j, i < 5 → j < 5 → M 141 (5 * i + j) = if j < (s 0).toNat then wFl s W.1 G i j else 0)
def mFr (M M1 : Nat → Nat → Int) : Prop := (∀ c, c < 126 ∨ 126 < c ∧ c < 130 ∨ 141 < c → M1 c = M c) ∧ ∀ j, j < 17 ∨ 20 < j → M1 126 j = M 126 j
theorem wU_cg {s p q : Nat → Int} {Y : Nat} {G : GS} (hO : gOk Y G) (h : ∀ y, y < Y → p y = q y) {y : Nat} (hy : y < Y) : wU s p G y = wU s q G y := by
  have ⟨h1, h2, h3⟩ := gOf_in hO hy
  have h4 := hO.2.1 _ h1
  have e : ∀ i, uSp s p (G.2.1 (gOf G y)) (G.2.2.1 (gOf G y)) (G.2.2.2 (gOf G y)) i = uSp s q (G.2.1 (gOf G y)) (G.2.2.1 (gOf G y)) (G.2.2.2 (gOf G y)) i := by
    intro i
    induction i with
    | zero => rw [uSp, uSp, pS_congr (f := p) (g := q) _ (fun k hk1 hk2 => h k (by omega))]
    | succ i ih => rw [uSp, uSp, ih]
  unfold wU uUs
  rw [e]
theorem x_133 {K : mj_C} {d : Nat} {M : Nat → Nat → Int} {N : Nat → Nat → Int64} (hD : 6 ≤ d) (hs : pRg (M 127)) : mj_X K d 133 [.inr (.inr (.inl 126))] (mj_Sh, M, N) (fun r Z => r = none ∧ ∃ M1, Z = (mj_Sh, M1, N) ∧ mWk M1 (M 127) (wB (M 127)) (wG (M 127)) ∧ mFr M M1) := by
  show mj_T K d 133 0 [some (.inr (.inr (.inl 126))), none] [] (mj_Sh, M, N) _
  have h0 := hs.1 0 (by omega)
  have h5 := hs.2.1
  have keyU : ∀ (o1 : Option (Int ⊕ (Nat ⊕ Nat))) (p1 p2 p3 f1 f2 f3 : Nat → Int), (∀ y, y < 5 → p1 y = (wB (M 127)).1 y ∧ p2 y = (wB (M 127)).2.1 y) → p3 18 = (wB (M 127)).2.2.1 → p3 19 = (wB (M 127)).2.2.2.1 → p3 20 = (wB (M 127)).2.2.2.2 → (∀ j, j < 17 ∨ 20 < j → p3 j = M 126 j) → gRel (p3 17) f1 f2 f3 (wG (M 127)) → mj_T K d 133 88 [some (.inr (.inr (.inl 126))), sv o1] [] (mj_Sh, (st M [(130, p1), (131, p2), (126, p3), (136, f1), (137, f2), (138, f3)]), N) (fun r Z => r = none ∧ ∃ M1, Z = (mj_Sh, M1, N) ∧ mWk M1 (M 127) (wB (M 127)) (wG (M 127)) ∧ mFr M M1) := by
    intro o1 p1 p2 p3 f1 f2 f3 hp h18 h19 h20 hfr hG
    have keyg : ∀ g : Nat, g ≤ (wG (M 127)).1 → ∀ q1 q2 q3 q4 : Nat → Int, (∀ k, k < g → (∀ y, (wG (M 127)).2.1 k ≤ y → y ≤ (wG (M 127)).2.2.1 k → q1 y = wU (M 127) (wB (M 127)).1 (wG (M 127)) y ∧ q2 y = wBk (M 127) (wB (M 127)).1 (wG (M 127)) y ∧ q3 y = (k : Int)) ∧ q4 k = wLk (M 127) (wB (M 127)).1 (wG (M 127)) k) → mj_T K d 133 90 [some (.inr (.inr (.inl 126))), some (.inl ((g : Nat) : Int))] [] (mj_Sh, (st M [(130, p1), (131, p2), (126, p3), (136, f1), (137, f2), (138, f3), (133, q1), (134, q2), (132, q3), (139, q4)]), N) (fun r Z => r = none ∧ ∃ M1, Z = (mj_Sh, M1, N) ∧ mWk M1 (M 127) (wB (M 127)) (wG (M 127)) ∧ mFr M M1) := by
      refine up_to (wG (M 127)).1 ?_ ?_
      · show ∀ q1 q2 q3 q4 : Nat → Int, (∀ k, k < (wG (M 127)).1 → (∀ y, (wG (M 127)).2.1 k ≤ y → y ≤ (wG (M 127)).2.2.1 k → q1 y = wU (M 127) (wB (M 127)).1 (wG (M 127)) y ∧ q2 y = wBk (M 127) (wB (M 127)).1 (wG (M 127)) y ∧ q3 y = (k : Int)) ∧ q4 k = wLk (M 127) (wB (M 127)).1 (wG (M 127)) k) → mj_T K d 133 90 [some (.inr (.inr (.inl 126))), some (.inl (((wG (M 127)).1 : Nat) : Int))] [] (mj_Sh, (st M [(130, p1), (131, p2), (126, p3), (136, f1), (137, f2), (138, f3), (133, q1), (134, q2), (132, q3), (139, q4)]), N) (fun r Z => r = none ∧ ∃ M1, Z = (mj_Sh, M1, N) ∧ mWk M1 (M 127) (wB (M 127)) (wG (M 127)) ∧ mFr M M1)
        intro q1 q2 q3 q4 hu
        have hus : ∀ y, y < (M 127 0).toNat → q3 y = ((gOf (wG (M 127)) y : Nat) : Int) ∧ q1 y = wU (M 127) (wB (M 127)).1 (wG (M 127)) y ∧ q2 y = wBk (M 127) (wB (M 127)).1 (wG (M 127)) y := by
          intro y hy
          have ⟨g1, g2, g3⟩ := gOf_in (wGr_ok (M 127) (wB (M 127))) hy
          have := (hu _ g1).1 y g2 g3
          exact ⟨this.2.2, this.1, this.2.1⟩
        have hur := fun y (hy : y < (M 127 0).toNat) => wU_rg hs (by omega) (wGr_ok (M 127) (wB (M 127))) (fun k hk => (wI_p (wB_I hs) k hk).1) hy
        refine tw_iload k133_90 rfl ?_
        refine tw_aload k133_91 rfl ?_
        refine tw_geti k133_92 f126_17 rfl (v := (((wG (M 127)).1 : Nat) : Int)) (show p3 17 = _ from hG.1) ?_
        refine tw_cgeT k133_95 (by omega) ?_
        refine tw_aload k133_109 rfl ?_
        refine tw_call (by omega) (S' := []) (as := [.inr (.inr (.inl 126))]) k133_110 (x_128 (M := (st M [(130, p1), (131, p2), (126, p3), (136, f1), (137, f2), (138, f3), (133, q1), (134, q2), (132, q3), (139, q4)])) (N := N) hs (wG (M 127)) (wGr_ok _ _) hG (wB (M 127)).1 (fun y hy => (hp y hy).1) (wI_p (wB_I hs)) (wU (M 127) (wB (M 127)).1 (wG (M 127))) (fun y hy => ⟨(hus y hy).2.1, (hur y hy).1, (hur y hy).2.1⟩) (fun y hy => (hus y hy).1)) rfl rfl rfl rfl rfl (fun r110 Z110 hq110 => ?_)
        obtain ⟨rfl, v1, v2, rfl, hv⟩ := hq110
        refine tw_as (S := []) (M := (st M [(130, p1), (131, p2), (126, p3), (136, f1), (137, f2), (138, f3), (133, q1), (134, q2), (132, q3), (139, q4), (135, v2), (141, v1)])) (N := N) (by rw [st_mg]; rfl) rfl ?_
        refine tw_aload k133_113 rfl ?_
        refine tw_call (by omega) (S' := []) (as := [.inr (.inr (.inl 126))]) k133_114 (x_132 (M := (st M [(130, p1), (131, p2), (126, p3), (136, f1), (137, f2), (138, f3), (133, q1), (134, q2), (132, q3), (139, q4), (135, v2), (141, v1)])) (N := N) (by omega) hs (wU (M 127) (wB (M 127)).1 (wG (M 127))) (fun y hy => ⟨(hus y hy).2.1, hur y hy⟩)) rfl rfl rfl rfl rfl (fun r114 Z114 hq114 => ?_)
        obtain ⟨rfl, v3, rfl, hd⟩ := hq114
        refine tw_as (S := []) (M := (st M [(130, p1), (131, p2), (126, p3), (136, f1), (137, f2), (138, f3), (133, q1), (134, q2), (132, q3), (139, q4), (135, v2), (141, v1), (140, v3)])) (N := N) (by rw [st_mg]; rfl) rfl ?_
        refine tw_rv k133_117 (⟨rfl, _, rfl, ⟨hG, ⟨h18, h19, h20⟩, hp, hus, fun g hg => (hu g hg).2, hd, hv⟩, fun c hc => ?_, hfr⟩)
        show st M [(130, p1), (131, p2), (126, p3), (136, f1), (137, f2), (138, f3), (133, q1), (134, q2), (132, q3), (139, q4), (135, v2), (141, v1), (140, v3)] c = M c
        rw [st_c, if_neg (by omega), st_c, if_neg (by omega), st_c, if_neg (by omega), st_c, if_neg (by omega), st_c, if_neg (by omega), st_c, if_neg (by omega), st_c, if_neg (by omega), st_c, if_neg (by omega), st_c, if_neg (by omega), st_c, if_neg (by omega), st_c, if_neg (by omega), st_c, if_neg (by omega), st_c, if_neg (by omega)]
        rfl
      · intro g hmg ih
        have ih : ∀ q1 q2 q3 q4 : Nat → Int, (∀ k, k < (g + 1) → (∀ y, (wG (M 127)).2.1 k ≤ y → y ≤ (wG (M 127)).2.2.1 k → q1 y = wU (M 127) (wB (M 127)).1 (wG (M 127)) y ∧ q2 y = wBk (M 127) (wB (M 127)).1 (wG (M 127)) y ∧ q3 y = (k : Int)) ∧ q4 k = wLk (M 127) (wB (M 127)).1 (wG (M 127)) k) → mj_T K d 133 90 [some (.inr (.inr (.inl 126))), some (.inl (((g + 1) : Nat) : Int))] [] (mj_Sh, (st M [(130, p1), (131, p2), (126, p3), (136, f1), (137, f2), (138, f3), (133, q1), (134, q2), (132, q3), (139, q4)]), N) (fun r Z => r = none ∧ ∃ M1, Z = (mj_Sh, M1, N) ∧ mWk M1 (M 127) (wB (M 127)) (wG (M 127)) ∧ mFr M M1) := ih
        show ∀ q1 q2 q3 q4 : Nat → Int, (∀ k, k < g → (∀ y, (wG (M 127)).2.1 k ≤ y → y ≤ (wG (M 127)).2.2.1 k → q1 y = wU (M 127) (wB (M 127)).1 (wG (M 127)) y ∧ q2 y = wBk (M 127) (wB (M 127)).1 (wG (M 127)) y ∧ q3 y = (k : Int)) ∧ q4 k = wLk (M 127) (wB (M 127)).1 (wG (M 127)) k) → mj_T K d 133 90 [some (.inr (.inr (.inl 126))), some (.inl ((g : Nat) : Int))] [] (mj_Sh, (st M [(130, p1), (131, p2), (126, p3), (136, f1), (137, f2), (138, f3), (133, q1), (134, q2), (132, q3), (139, q4)]), N) (fun r Z => r = none ∧ ∃ M1, Z = (mj_Sh, M1, N) ∧ mWk M1 (M 127) (wB (M 127)) (wG (M 127)) ∧ mFr M M1)
        intro q1 q2 q3 q4 hu
        have hO1 : (wG (M 127)).1 ≤ (M 127 0).toNat := (wGr_ok (M 127) (wB (M 127))).1
        refine tw_iload k133_90 rfl ?_
        refine tw_aload k133_91 rfl ?_
        refine tw_geti k133_92 f126_17 rfl (v := (((wG (M 127)).1 : Nat) : Int)) (show p3 17 = _ from hG.1) ?_
        refine tw_cgeF k133_95 (by omega) ?_
        refine tw_aload k133_98 rfl ?_
        refine tw_iload k133_99 rfl ?_
        refine tw_call (by omega) (S' := []) (as := [.inr (.inr (.inl 126)), .inl ((g : Nat) : Int)]) k133_100 (x_127 (M := (st M [(130, p1), (131, p2), (126, p3), (136, f1), (137, f2), (138, f3), (133, q1), (134, q2), (132, q3), (139, q4)])) (N := N) (by omega) hs (wG (M 127)) (wGr_ok _ _) hG (wB (M 127)).1 (fun y hy => (hp y hy).1) (wI_p (wB_I hs)) g hmg (gF_20 _ _ _ _)) rfl rfl rfl rfl rfl (fun r100 Z100 hq100 => ?_)
        obtain ⟨rfl, r1, r2, r3, rfl, hr1, hr2⟩ := hq100
        refine tw_as (S := []) (M := (st M [(130, p1), (131, p2), (126, p3), (136, f1), (137, f2), (138, f3), (133, r1), (134, r2), (132, r3), (139, (pU q4 g (wLk (M 127) (wB (M 127)).1 (wG (M 127)) g)))])) (N := N) (by rw [st_mg]; rfl) rfl ?_
        refine tw_iinc k133_103 rfl (v := ((g + 1 : Nat) : Int)) rfl (by omega) rfl (L' := [some (.inr (.inr (.inl 126))), some (.inl ((g + 1 : Nat) : Int))]) rfl ?_
        refine tw_goto k133_106 ?_
        refine ih r1 r2 r3 _ (fun k hk => ?_)
        by_cases e : k = g
        · subst e; exact ⟨hr1, pU_eq⟩
        · refine ⟨fun y h1 h2 => ?_, ?_⟩
          · have hlt := gOk_lt (wGr_ok (M 127) (wB (M 127))) (j := k) (g - k - 1) (by show _ < (wG (M 127)).1; omega)
            have e2 : k + 1 + (g - k - 1) = g := by omega
            rw [e2] at hlt
            have hlt : (wG (M 127)).2.2.1 k < (wG (M 127)).2.1 g := hlt
            have hr := hr2 y (by omega)
            rw [hr.1, hr.2.1, hr.2.2]
            exact (hu k (by omega)).1 y h1 h2
          · rw [pU_ne e]; exact (hu k (by omega)).2
    refine tw_const k133_88 ?_
    refine tw_istore k133_89 rfl (L' := [some (.inr (.inr (.inl 126))), some (.inl (0 : Int))]) rfl ?_
    refine tw_pad (M := M) (N := N) (l := [(130, p1), (131, p2), (126, p3), (136, f1), (137, f2), (138, f3)]) (l' := [(130, p1), (131, p2), (126, p3), (136, f1), (137, f2), (138, f3), (133, M 133), (134, M 134), (132, M 132), (139, M 139)]) [133, 134, 132, 139] rfl ?_
    exact keyg 0 (by omega) _ _ _ _ (fun k hk => by omega)
  have keybw : ∀ n : Nat, ∀ (W : WS) (o1 : Option (Int ⊕ (Nat ⊕ Nat))) (p1 p2 p3 f1 f2 f3 : Nat → Int), (wI W) → (∀ y, y < 5 → p1 y = W.1 y ∧ p2 y = W.2.1 y) → p3 18 = W.2.2.1 → p3 19 = W.2.2.2.1 → p3 20 = W.2.2.2.2 → (∀ j, j < 17 ∨ 20 < j → p3 j = M 126 j) → 500 - pS W.2.1 0 5 ≤ (n : Int) → itN (bwC (M 127)) (fun _ => inferInstance) (bwS (M 127)) n W = wB (M 127) → mj_T K d 133 77 [some (.inr (.inr (.inl 126))), sv o1] [] (mj_Sh, (st M [(130, p1), (131, p2), (126, p3), (136, f1), (137, f2), (138, f3)]), N) (fun r Z => r = none ∧ ∃ M1, Z = (mj_Sh, M1, N) ∧ mWk M1 (M 127) (wB (M 127)) (wG (M 127)) ∧ mFr M M1) := by
    intro n
    induction n with
    | zero =>
      intro W o1 p1 p2 p3 f1 f2 f3 hI hp h18 h19 h20 hfr hmu hit
      refine tw_aload k133_77 rfl ?_
      refine tw_call (by omega) (S' := []) (as := [.inr (.inr (.inl 126))]) k133_78 (x_123 (M := (st M [(130, p1), (131, p2), (126, p3), (136, f1), (137, f2), (138, f3)])) (N := N) (by omega) hs W.1 (fun y hy => (hp y hy).1) (wI_p hI)) rfl rfl rfl rfl rfl (fun r78 Z78 hq78 => ?_)
      obtain ⟨rfl, k1, k2, k3, rfl, hG⟩ := hq78
      refine tw_as (S := []) (M := (st M [(130, p1), (131, p2), (126, (pU p3 17 (((gF (M 127) W.1 (M 127 0).toNat).1 : Nat) : Int))), (136, k1), (137, k2), (138, k3)])) (N := N) (by rw [st_mg]; rfl) rfl ?_
      refine tw_aload k133_81 rfl ?_
      refine tw_call (by omega) (S' := []) (as := [.inr (.inr (.inl 126))]) k133_82 (x_126 (M := (st M [(130, p1), (131, p2), (126, (pU p3 17 (((gF (M 127) W.1 (M 127 0).toNat).1 : Nat) : Int))), (136, k1), (137, k2), (138, k3)])) (N := N) hs (wGr (M 127) W) (wGr_ok _ W) (show gRel (pU p3 17 _ 17) k1 k2 k3 _ from by rw [pU_eq]; exact hG) W (fun y hy => (hp y hy).1) (wI_p hI) (fun y hy => ⟨(hp y hy).2, (hI.1 y hy).2.1, by have := (hI.1 y hy).2.2; omega⟩)) rfl rfl rfl rfl rfl (fun r82 Z82 hq82 => ?_)
      rcases hq82 with ⟨hC, rfl, rfl⟩ | ⟨hC, rfl, rfl⟩
      · have hC : bwC (M 127) W := hC
        refine tw_as (S := [.inl (1 : Int)]) (M := (st M [(130, (pU (pU p1 ((wGr (M 127) W).2.1 ((bwG (M 127) W (wGr (M 127) W)) + 1)) (W.1 ((wGr (M 127) W).2.1 ((bwG (M 127) W (wGr (M 127) W)) + 1)) - 1)) ((wGr (M 127) W).2.2.1 (bwG (M 127) W (wGr (M 127) W))) (W.1 ((wGr (M 127) W).2.2.1 (bwG (M 127) W (wGr (M 127) W))) + 1))), (131, (pU p2 ((wGr (M 127) W).2.2.1 (bwG (M 127) W (wGr (M 127) W))) (W.2.1 ((wGr (M 127) W).2.2.1 (bwG (M 127) W (wGr (M 127) W))) + 1))), (126, (pU p3 17 (((gF (M 127) W.1 (M 127 0).toNat).1 : Nat) : Int))), (136, k1), (137, k2), (138, k3)])) (N := N) (by rw [st_mg]; rfl) rfl ?_
        refine tw_zneT k133_85 (by decide) ?_
        exfalso
        have hI2 := bw_I hs hI hC
        omega
      · have hC : ¬ bwC (M 127) W := hC
        refine tw_as (S := [.inl (0 : Int)]) (M := (st M [(130, p1), (131, p2), (126, (pU p3 17 (((gF (M 127) W.1 (M 127 0).toNat).1 : Nat) : Int))), (136, k1), (137, k2), (138, k3)])) (N := N) rfl rfl ?_
        refine tw_zneF k133_85 (by decide) ?_
        have hW : W = wB (M 127) := by
          rw [← hit]
          first | rfl | rw [itN, if_neg hC]
        subst hW
        exact keyU o1 _ _ _ _ _ _ hp (by rw [pU_ne (by omega)]; exact h18) (by rw [pU_ne (by omega)]; exact h19) (by rw [pU_ne (by omega)]; exact h20) (fun j hj => by rw [pU_ne (by omega)]; exact hfr j hj) (by rw [pU_eq]; exact hG)
    | succ n ih =>
      intro W o1 p1 p2 p3 f1 f2 f3 hI hp h18 h19 h20 hfr hmu hit
      refine tw_aload k133_77 rfl ?_
      refine tw_call (by omega) (S' := []) (as := [.inr (.inr (.inl 126))]) k133_78 (x_123 (M := (st M [(130, p1), (131, p2), (126, p3), (136, f1), (137, f2), (138, f3)])) (N := N) (by omega) hs W.1 (fun y hy => (hp y hy).1) (wI_p hI)) rfl rfl rfl rfl rfl (fun r78 Z78 hq78 => ?_)
      obtain ⟨rfl, k1, k2, k3, rfl, hG⟩ := hq78
      refine tw_as (S := []) (M := (st M [(130, p1), (131, p2), (126, (pU p3 17 (((gF (M 127) W.1 (M 127 0).toNat).1 : Nat) : Int))), (136, k1), (137, k2), (138, k3)])) (N := N) (by rw [st_mg]; rfl) rfl ?_
      refine tw_aload k133_81 rfl ?_
      refine tw_call (by omega) (S' := []) (as := [.inr (.inr (.inl 126))]) k133_82 (x_126 (M := (st M [(130, p1), (131, p2), (126, (pU p3 17 (((gF (M 127) W.1 (M 127 0).toNat).1 : Nat) : Int))), (136, k1), (137, k2), (138, k3)])) (N := N) hs (wGr (M 127) W) (wGr_ok _ W) (show gRel (pU p3 17 _ 17) k1 k2 k3 _ from by rw [pU_eq]; exact hG) W (fun y hy => (hp y hy).1) (wI_p hI) (fun y hy => ⟨(hp y hy).2, (hI.1 y hy).2.1, by have := (hI.1 y hy).2.2; omega⟩)) rfl rfl rfl rfl rfl (fun r82 Z82 hq82 => ?_)
      rcases hq82 with ⟨hC, rfl, rfl⟩ | ⟨hC, rfl, rfl⟩
      · have hC : bwC (M 127) W := hC
        refine tw_as (S := [.inl (1 : Int)]) (M := (st M [(130, (pU (pU p1 ((wGr (M 127) W).2.1 ((bwG (M 127) W (wGr (M 127) W)) + 1)) (W.1 ((wGr (M 127) W).2.1 ((bwG (M 127) W (wGr (M 127) W)) + 1)) - 1)) ((wGr (M 127) W).2.2.1 (bwG (M 127) W (wGr (M 127) W))) (W.1 ((wGr (M 127) W).2.2.1 (bwG (M 127) W (wGr (M 127) W))) + 1))), (131, (pU p2 ((wGr (M 127) W).2.2.1 (bwG (M 127) W (wGr (M 127) W))) (W.2.1 ((wGr (M 127) W).2.2.1 (bwG (M 127) W (wGr (M 127) W))) + 1))), (126, (pU p3 17 (((gF (M 127) W.1 (M 127 0).toNat).1 : Nat) : Int))), (136, k1), (137, k2), (138, k3)])) (N := N) (by rw [st_mg]; rfl) rfl ?_
        refine tw_zneT k133_85 (by decide) ?_
        have hI2 := bw_I hs hI hC
        rw [itN, if_pos hC] at hit
        refine ih (bwS (M 127) W) o1 _ _ _ _ _ _ hI2.1 (fun y hy => ⟨?_, ?_⟩) ?_ ?_ ?_ ?_ (by have := hI2.2.1; omega) hit
        · show pU (pU p1 _ _) _ _ y = pU (pU W.1 _ _) _ _ y
          unfold pU; rw [(hp y hy).1]
        · show pU p2 _ _ y = pU W.2.1 _ _ y
          unfold pU; rw [(hp y hy).2]
        · rw [pU_ne (by omega)]; exact h18
        · rw [pU_ne (by omega)]; exact h19
        · rw [pU_ne (by omega)]; exact h20
        · intro j hj; rw [pU_ne (by omega)]; exact hfr j hj
      · have hC : ¬ bwC (M 127) W := hC
        refine tw_as (S := [.inl (0 : Int)]) (M := (st M [(130, p1), (131, p2), (126, (pU p3 17 (((gF (M 127) W.1 (M 127 0).toNat).1 : Nat) : Int))), (136, k1), (137, k2), (138, k3)])) (N := N) rfl rfl ?_
        refine tw_zneF k133_85 (by decide) ?_
        have hW : W = wB (M 127) := by
          rw [← hit]
          first | rfl | rw [itN, if_neg hC]
        subst hW
        exact keyU o1 _ _ _ _ _ _ hp (by rw [pU_ne (by omega)]; exact h18) (by rw [pU_ne (by omega)]; exact h19) (by rw [pU_ne (by omega)]; exact h20) (fun j hj => by rw [pU_ne (by omega)]; exact hfr j hj) (by rw [pU_eq]; exact hG)
  have keygv : ∀ n : Nat, ∀ (W : WS) (o1 : Option (Int ⊕ (Nat ⊕ Nat))) (p1 p2 p3 f1 f2 f3 : Nat → Int), (wI W) → (∀ y, y < 5 → p1 y = W.1 y ∧ p2 y = W.2.1 y) → p3 18 = W.2.2.1 → p3 19 = W.2.2.2.1 → p3 20 = W.2.2.2.2 → (∀ j, j < 17 ∨ 20 < j → p3 j = M 126 j) → W.2.2.2.2 + W.2.2.1 ≤ 600 → W.2.2.1 ≤ (n : Int) → itN (gvC (M 127)) (fun _ => inferInstance) (gvS (M 127)) n W = wV (M 127) → mj_T K d 133 66 [some (.inr (.inr (.inl 126))), sv o1] [] (mj_Sh, (st M [(130, p1), (131, p2), (126, p3), (136, f1), (137, f2), (138, f3)]), N) (fun r Z => r = none ∧ ∃ M1, Z = (mj_Sh, M1, N) ∧ mWk M1 (M 127) (wB (M 127)) (wG (M 127)) ∧ mFr M M1) := by
    intro n
    induction n with
    | zero =>
      intro W o1 p1 p2 p3 f1 f2 f3 hI hp h18 h19 h20 hfr hV hmu hit
      refine tw_aload k133_66 rfl ?_
      refine tw_call (by omega) (S' := []) (as := [.inr (.inr (.inl 126))]) k133_67 (x_123 (M := (st M [(130, p1), (131, p2), (126, p3), (136, f1), (137, f2), (138, f3)])) (N := N) (by omega) hs W.1 (fun y hy => (hp y hy).1) (wI_p hI)) rfl rfl rfl rfl rfl (fun r67 Z67 hq67 => ?_)
      obtain ⟨rfl, k1, k2, k3, rfl, hG⟩ := hq67
      refine tw_as (S := []) (M := (st M [(130, p1), (131, p2), (126, (pU p3 17 (((gF (M 127) W.1 (M 127 0).toNat).1 : Nat) : Int))), (136, k1), (137, k2), (138, k3)])) (N := N) (by rw [st_mg]; rfl) rfl ?_
      refine tw_aload k133_70 rfl ?_
      refine tw_call (by omega) (S' := []) (as := [.inr (.inr (.inl 126))]) k133_71 (x_125 (M := (st M [(130, p1), (131, p2), (126, (pU p3 17 (((gF (M 127) W.1 (M 127 0).toNat).1 : Nat) : Int))), (136, k1), (137, k2), (138, k3)])) (N := N) hs (wGr (M 127) W) (wGr_ok _ W) (show gRel (pU p3 17 _ 17) k1 k2 k3 _ from by rw [pU_eq]; exact hG) W (fun y hy => (hp y hy).1) (wI_p hI) (show pU p3 17 (((gF (M 127) W.1 (M 127 0).toNat).1 : Nat) : Int) 18 = _ from by rw [pU_ne (by omega)]; exact h18) (show pU p3 17 (((gF (M 127) W.1 (M 127 0).toNat).1 : Nat) : Int) 20 = _ from by rw [pU_ne (by omega)]; exact h20) (by have := hI.2; have := (pS_mem 5 (fun i hi => (hI.1 i hi).1) (show 0 < 5 by omega)).2; omega) (by have := hI.2; have := (pS_mem 5 (fun i hi => (hI.1 i hi).1) (show 0 < 5 by omega)).2; omega)) rfl rfl rfl rfl rfl (fun r71 Z71 hq71 => ?_)
      rcases hq71 with ⟨hC1, hC2, rfl, rfl⟩ | ⟨hC, rfl, rfl⟩
      · refine tw_as (S := [.inl (1 : Int)]) (M := (st M [(130, (pU p1 ((wGr (M 127) W).2.1 (gvG (M 127) (wGr (M 127) W))) (W.1 ((wGr (M 127) W).2.1 (gvG (M 127) (wGr (M 127) W))) + 1))), (131, p2), (126, (pU (pU (pU p3 17 (((gF (M 127) W.1 (M 127 0).toNat).1 : Nat) : Int)) 18 (W.2.2.1 - 1)) 20 (W.2.2.2.2 + 1))), (136, k1), (137, k2), (138, k3)])) (N := N) (by rw [st_mg]; rfl) rfl ?_
        refine tw_zneT k133_74 (by decide) ?_
        exfalso
        omega
      · have hC : ¬ gvC (M 127) W := hC
        refine tw_as (S := [.inl (0 : Int)]) (M := (st M [(130, p1), (131, p2), (126, (pU p3 17 (((gF (M 127) W.1 (M 127 0).toNat).1 : Nat) : Int))), (136, k1), (137, k2), (138, k3)])) (N := N) rfl rfl ?_
        refine tw_zneF k133_74 (by decide) ?_
        have hW : W = wV (M 127) := by
          rw [← hit]
          first | rfl | rw [itN, if_neg hC]
        subst hW
        exact keybw 10000 _ o1 _ _ _ _ _ _ hI hp (by rw [pU_ne (by omega)]; exact h18) (by rw [pU_ne (by omega)]; exact h19) (by rw [pU_ne (by omega)]; exact h20) (fun j hj => by rw [pU_ne (by omega)]; exact hfr j hj) (by have := pS_rg (f := (wV (M 127)).2.1) (a := 0) (B := 100) 5 (fun i _ hi => (hI.1 i (by omega)).2); omega) rfl
    | succ n ih =>
      intro W o1 p1 p2 p3 f1 f2 f3 hI hp h18 h19 h20 hfr hV hmu hit
      refine tw_aload k133_66 rfl ?_
      refine tw_call (by omega) (S' := []) (as := [.inr (.inr (.inl 126))]) k133_67 (x_123 (M := (st M [(130, p1), (131, p2), (126, p3), (136, f1), (137, f2), (138, f3)])) (N := N) (by omega) hs W.1 (fun y hy => (hp y hy).1) (wI_p hI)) rfl rfl rfl rfl rfl (fun r67 Z67 hq67 => ?_)
      obtain ⟨rfl, k1, k2, k3, rfl, hG⟩ := hq67
      refine tw_as (S := []) (M := (st M [(130, p1), (131, p2), (126, (pU p3 17 (((gF (M 127) W.1 (M 127 0).toNat).1 : Nat) : Int))), (136, k1), (137, k2), (138, k3)])) (N := N) (by rw [st_mg]; rfl) rfl ?_
      refine tw_aload k133_70 rfl ?_
      refine tw_call (by omega) (S' := []) (as := [.inr (.inr (.inl 126))]) k133_71 (x_125 (M := (st M [(130, p1), (131, p2), (126, (pU p3 17 (((gF (M 127) W.1 (M 127 0).toNat).1 : Nat) : Int))), (136, k1), (137, k2), (138, k3)])) (N := N) hs (wGr (M 127) W) (wGr_ok _ W) (show gRel (pU p3 17 _ 17) k1 k2 k3 _ from by rw [pU_eq]; exact hG) W (fun y hy => (hp y hy).1) (wI_p hI) (show pU p3 17 (((gF (M 127) W.1 (M 127 0).toNat).1 : Nat) : Int) 18 = _ from by rw [pU_ne (by omega)]; exact h18) (show pU p3 17 (((gF (M 127) W.1 (M 127 0).toNat).1 : Nat) : Int) 20 = _ from by rw [pU_ne (by omega)]; exact h20) (by have := hI.2; have := (pS_mem 5 (fun i hi => (hI.1 i hi).1) (show 0 < 5 by omega)).2; omega) (by have := hI.2; have := (pS_mem 5 (fun i hi => (hI.1 i hi).1) (show 0 < 5 by omega)).2; omega)) rfl rfl rfl rfl rfl (fun r71 Z71 hq71 => ?_)
      rcases hq71 with ⟨hC1, hC2, rfl, rfl⟩ | ⟨hC, rfl, rfl⟩
      · refine tw_as (S := [.inl (1 : Int)]) (M := (st M [(130, (pU p1 ((wGr (M 127) W).2.1 (gvG (M 127) (wGr (M 127) W))) (W.1 ((wGr (M 127) W).2.1 (gvG (M 127) (wGr (M 127) W))) + 1))), (131, p2), (126, (pU (pU (pU p3 17 (((gF (M 127) W.1 (M 127 0).toNat).1 : Nat) : Int)) 18 (W.2.2.1 - 1)) 20 (W.2.2.2.2 + 1))), (136, k1), (137, k2), (138, k3)])) (N := N) (by rw [st_mg]; rfl) rfl ?_
        refine tw_zneT k133_74 (by decide) ?_
        have hC : gvC (M 127) W := ⟨hC1, hC2⟩
        have hI2 := gv_I hs hI hV hC
        rw [itN, if_pos hC] at hit
        refine ih (gvS (M 127) W) o1 _ _ _ _ _ _ hI2.1 (fun y hy => ⟨?_, (hp y hy).2⟩) ?_ ?_ ?_ ?_ hI2.2.1 (by have := hI2.2.2; omega) hit
        · show pU p1 _ _ y = pU W.1 _ _ y
          unfold pU; rw [(hp y hy).1]
        · rw [pU_ne (by omega), pU_eq]; rfl
        · rw [pU_ne (by omega), pU_ne (by omega), pU_ne (by omega)]; exact h19
        · rw [pU_eq]; rfl
        · intro j hj; rw [pU_ne (by omega), pU_ne (by omega), pU_ne (by omega)]; exact hfr j hj
      · have hC : ¬ gvC (M 127) W := hC
        refine tw_as (S := [.inl (0 : Int)]) (M := (st M [(130, p1), (131, p2), (126, (pU p3 17 (((gF (M 127) W.1 (M 127 0).toNat).1 : Nat) : Int))), (136, k1), (137, k2), (138, k3)])) (N := N) rfl rfl ?_
        refine tw_zneF k133_74 (by decide) ?_
        have hW : W = wV (M 127) := by
          rw [← hit]
          first | rfl | rw [itN, if_neg hC]
        subst hW
        exact keybw 10000 _ o1 _ _ _ _ _ _ hI hp (by rw [pU_ne (by omega)]; exact h18) (by rw [pU_ne (by omega)]; exact h19) (by rw [pU_ne (by omega)]; exact h20) (fun j hj => by rw [pU_ne (by omega)]; exact hfr j hj) (by have := pS_rg (f := (wV (M 127)).2.1) (a := 0) (B := 100) 5 (fun i _ hi => (hI.1 i (by omega)).2); omega) rfl
  have keytk : ∀ n : Nat, ∀ (W : WS) (o1 : Option (Int ⊕ (Nat ⊕ Nat))) (p1 p2 p3 f1 f2 f3 : Nat → Int), (wI W) → (∀ y, y < 5 → p1 y = W.1 y ∧ p2 y = W.2.1 y) → p3 18 = W.2.2.1 → p3 19 = W.2.2.2.1 → p3 20 = W.2.2.2.2 → (∀ j, j < 17 ∨ 20 < j → p3 j = M 126 j) → W.2.2.2.1 + pS W.1 0 5 ≤ 600 → pS W.1 0 5 ≤ (n : Int) → itN (tkC (M 127)) (fun _ => inferInstance) (tkS (M 127)) n W = wT (M 127) → mj_T K d 133 55 [some (.inr (.inr (.inl 126))), sv o1] [] (mj_Sh, (st M [(130, p1), (131, p2), (126, p3), (136, f1), (137, f2), (138, f3)]), N) (fun r Z => r = none ∧ ∃ M1, Z = (mj_Sh, M1, N) ∧ mWk M1 (M 127) (wB (M 127)) (wG (M 127)) ∧ mFr M M1) := by
    intro n
    induction n with
    | zero =>
      intro W o1 p1 p2 p3 f1 f2 f3 hI hp h18 h19 h20 hfr hV hmu hit
      refine tw_aload k133_55 rfl ?_
      refine tw_call (by omega) (S' := []) (as := [.inr (.inr (.inl 126))]) k133_56 (x_123 (M := (st M [(130, p1), (131, p2), (126, p3), (136, f1), (137, f2), (138, f3)])) (N := N) (by omega) hs W.1 (fun y hy => (hp y hy).1) (wI_p hI)) rfl rfl rfl rfl rfl (fun r56 Z56 hq56 => ?_)
      obtain ⟨rfl, k1, k2, k3, rfl, hG⟩ := hq56
      refine tw_as (S := []) (M := (st M [(130, p1), (131, p2), (126, (pU p3 17 (((gF (M 127) W.1 (M 127 0).toNat).1 : Nat) : Int))), (136, k1), (137, k2), (138, k3)])) (N := N) (by rw [st_mg]; rfl) rfl ?_
      refine tw_aload k133_59 rfl ?_
      refine tw_call (by omega) (S' := []) (as := [.inr (.inr (.inl 126))]) k133_60 (x_124 (M := (st M [(130, p1), (131, p2), (126, (pU p3 17 (((gF (M 127) W.1 (M 127 0).toNat).1 : Nat) : Int))), (136, k1), (137, k2), (138, k3)])) (N := N) (by omega) hs (wGr (M 127) W) (wGr_ok _ W) (show gRel (pU p3 17 _ 17) k1 k2 k3 _ from by rw [pU_eq]; exact hG) W (fun y hy => (hp y hy).1) (wI_p hI) (show pU p3 17 (((gF (M 127) W.1 (M 127 0).toNat).1 : Nat) : Int) 18 = _ from by rw [pU_ne (by omega)]; exact h18) (show pU p3 17 (((gF (M 127) W.1 (M 127 0).toNat).1 : Nat) : Int) 19 = _ from by rw [pU_ne (by omega)]; exact h19) (by have := hI.2; have := (pS_mem 5 (fun i hi => (hI.1 i hi).1) (show 0 < 5 by omega)).2; omega) (by have := hI.2; have := (pS_mem 5 (fun i hi => (hI.1 i hi).1) (show 0 < 5 by omega)).2; omega)) rfl rfl rfl rfl rfl (fun r60 Z60 hq60 => ?_)
      rcases hq60 with ⟨hC, rfl, rfl⟩ | ⟨hC, rfl, rfl⟩
      · have hC : tkC (M 127) W := hC
        refine tw_as (S := [.inl (1 : Int)]) (M := (st M [(130, (pU p1 (pBk W.1 ((wGr (M 127) W).2.2.1 (tkG (M 127) W (wGr (M 127) W)))) (W.1 (pBk W.1 ((wGr (M 127) W).2.2.1 (tkG (M 127) W (wGr (M 127) W)))) - 1))), (131, p2), (126, (pU (pU (pU p3 17 (((gF (M 127) W.1 (M 127 0).toNat).1 : Nat) : Int)) 18 (W.2.2.1 + 1)) 19 (W.2.2.2.1 + 1))), (136, k1), (137, k2), (138, k3)])) (N := N) (by rw [st_mg]; rfl) rfl ?_
        refine tw_zneT k133_63 (by decide) ?_
        exfalso
        have hI2 := tk_I hs hI hV hC
        have := pS_mem 5 (fun i hi => (hI2.1.1 i hi).1) (show 0 < 5 by omega)
        omega
      · have hC : ¬ tkC (M 127) W := by have hC : tkG (M 127) W (wGr (M 127) W) = (wGr (M 127) W).1 := hC; unfold tkC; omega
        refine tw_as (S := [.inl (0 : Int)]) (M := (st M [(130, p1), (131, p2), (126, (pU p3 17 (((gF (M 127) W.1 (M 127 0).toNat).1 : Nat) : Int))), (136, k1), (137, k2), (138, k3)])) (N := N) rfl rfl ?_
        refine tw_zneF k133_63 (by decide) ?_
        have hW : W = wT (M 127) := by
          rw [← hit]
          first | rfl | rw [itN, if_neg hC]
        subst hW
        exact keygv 10000 _ o1 _ _ _ _ _ _ hI hp (by rw [pU_ne (by omega)]; exact h18) (by rw [pU_ne (by omega)]; exact h19) (by rw [pU_ne (by omega)]; exact h20) (fun j hj => by rw [pU_ne (by omega)]; exact hfr j hj) (wT_I hs).2 (by have := (wT_I hs).2; have := hI.2; omega) rfl
    | succ n ih =>
      intro W o1 p1 p2 p3 f1 f2 f3 hI hp h18 h19 h20 hfr hV hmu hit
      refine tw_aload k133_55 rfl ?_
      refine tw_call (by omega) (S' := []) (as := [.inr (.inr (.inl 126))]) k133_56 (x_123 (M := (st M [(130, p1), (131, p2), (126, p3), (136, f1), (137, f2), (138, f3)])) (N := N) (by omega) hs W.1 (fun y hy => (hp y hy).1) (wI_p hI)) rfl rfl rfl rfl rfl (fun r56 Z56 hq56 => ?_)
      obtain ⟨rfl, k1, k2, k3, rfl, hG⟩ := hq56
      refine tw_as (S := []) (M := (st M [(130, p1), (131, p2), (126, (pU p3 17 (((gF (M 127) W.1 (M 127 0).toNat).1 : Nat) : Int))), (136, k1), (137, k2), (138, k3)])) (N := N) (by rw [st_mg]; rfl) rfl ?_
      refine tw_aload k133_59 rfl ?_
      refine tw_call (by omega) (S' := []) (as := [.inr (.inr (.inl 126))]) k133_60 (x_124 (M := (st M [(130, p1), (131, p2), (126, (pU p3 17 (((gF (M 127) W.1 (M 127 0).toNat).1 : Nat) : Int))), (136, k1), (137, k2), (138, k3)])) (N := N) (by omega) hs (wGr (M 127) W) (wGr_ok _ W) (show gRel (pU p3 17 _ 17) k1 k2 k3 _ from by rw [pU_eq]; exact hG) W (fun y hy => (hp y hy).1) (wI_p hI) (show pU p3 17 (((gF (M 127) W.1 (M 127 0).toNat).1 : Nat) : Int) 18 = _ from by rw [pU_ne (by omega)]; exact h18) (show pU p3 17 (((gF (M 127) W.1 (M 127 0).toNat).1 : Nat) : Int) 19 = _ from by rw [pU_ne (by omega)]; exact h19) (by have := hI.2; have := (pS_mem 5 (fun i hi => (hI.1 i hi).1) (show 0 < 5 by omega)).2; omega) (by have := hI.2; have := (pS_mem 5 (fun i hi => (hI.1 i hi).1) (show 0 < 5 by omega)).2; omega)) rfl rfl rfl rfl rfl (fun r60 Z60 hq60 => ?_)
      rcases hq60 with ⟨hC, rfl, rfl⟩ | ⟨hC, rfl, rfl⟩
      · have hC : tkC (M 127) W := hC
        refine tw_as (S := [.inl (1 : Int)]) (M := (st M [(130, (pU p1 (pBk W.1 ((wGr (M 127) W).2.2.1 (tkG (M 127) W (wGr (M 127) W)))) (W.1 (pBk W.1 ((wGr (M 127) W).2.2.1 (tkG (M 127) W (wGr (M 127) W)))) - 1))), (131, p2), (126, (pU (pU (pU p3 17 (((gF (M 127) W.1 (M 127 0).toNat).1 : Nat) : Int)) 18 (W.2.2.1 + 1)) 19 (W.2.2.2.1 + 1))), (136, k1), (137, k2), (138, k3)])) (N := N) (by rw [st_mg]; rfl) rfl ?_
        refine tw_zneT k133_63 (by decide) ?_
        have hI2 := tk_I hs hI hV hC
        rw [itN, if_pos hC] at hit
        refine ih (tkS (M 127) W) o1 _ _ _ _ _ _ hI2.1 (fun y hy => ⟨?_, (hp y hy).2⟩) ?_ ?_ ?_ ?_ hI2.2.1 (by have := hI2.2.2; omega) hit
        · show pU p1 _ _ y = pU W.1 _ _ y
          unfold pU; rw [(hp y hy).1]
        · rw [pU_ne (by omega), pU_eq]; rfl
        · rw [pU_eq]; rfl
        · rw [pU_ne (by omega), pU_ne (by omega), pU_ne (by omega)]; exact h20
        · intro j hj; rw [pU_ne (by omega), pU_ne (by omega), pU_ne (by omega)]; exact hfr j hj
      · have hC : ¬ tkC (M 127) W := by have hC : tkG (M 127) W (wGr (M 127) W) = (wGr (M 127) W).1 := hC; unfold tkC; omega
        refine tw_as (S := [.inl (0 : Int)]) (M := (st M [(130, p1), (131, p2), (126, (pU p3 17 (((gF (M 127) W.1 (M 127 0).toNat).1 : Nat) : Int))), (136, k1), (137, k2), (138, k3)])) (N := N) rfl rfl ?_
        refine tw_zneF k133_63 (by decide) ?_
        have hW : W = wT (M 127) := by
          rw [← hit]
          first | rfl | rw [itN, if_neg hC]
        subst hW
        exact keygv 10000 _ o1 _ _ _ _ _ _ hI hp (by rw [pU_ne (by omega)]; exact h18) (by rw [pU_ne (by omega)]; exact h19) (by rw [pU_ne (by omega)]; exact h20) (fun j hj => by rw [pU_ne (by omega)]; exact hfr j hj) (wT_I hs).2 (by have := (wT_I hs).2; have := hI.2; omega) rfl
  have key0 : ∀ y : Nat, y ≤ 5 → ∀ p1 p2 : Nat → Int, (∀ k, k < y → p1 k = M 127 (1 + k) ∧ p2 k = 0) → mj_T K d 133 2 [some (.inr (.inr (.inl 126))), some (.inl ((y : Nat) : Int))] [] (mj_Sh, (st M [(130, p1), (131, p2)]), N) (fun r Z => r = none ∧ ∃ M1, Z = (mj_Sh, M1, N) ∧ mWk M1 (M 127) (wB (M 127)) (wG (M 127)) ∧ mFr M M1) := by
    refine up_to 5 ?_ ?_
    · show ∀ p1 p2 : Nat → Int, (∀ k, k < 5 → p1 k = M 127 (1 + k) ∧ p2 k = 0) → mj_T K d 133 2 [some (.inr (.inr (.inl 126))), some (.inl ((5 : Nat) : Int))] [] (mj_Sh, (st M [(130, p1), (131, p2)]), N) (fun r Z => r = none ∧ ∃ M1, Z = (mj_Sh, M1, N) ∧ mWk M1 (M 127) (wB (M 127)) (wG (M 127)) ∧ mFr M M1)
      intro p1 p2 h
      refine tw_iload k133_2 rfl ?_
      refine tw_const k133_3 ?_
      refine tw_cgeT k133_4 (by omega) ?_
      refine tw_aload k133_34 rfl ?_
      refine tw_aload k133_35 rfl ?_
      refine tw_getr k133_36 f126_0 ?_
      refine tw_const k133_39 ?_
      refine tw_iald (j := 44) (v := (M 127 44)) k133_41 al127 rfl (by decide) rfl ?_
      refine tw_puti (M := M) (N := N) (l := [(130, p1), (131, p2)]) (l' := [(130, p1), (131, p2), (126, (pU (M 126) 18 (M 127 44)))]) k133_42 f126_18 rfl ?_
      refine tw_aload k133_45 rfl ?_
      refine tw_const k133_46 ?_
      refine tw_puti (M := M) (N := N) (l := [(130, p1), (131, p2), (126, (pU (M 126) 18 (M 127 44)))]) (l' := [(130, p1), (131, p2), (126, (pU (pU (M 126) 18 (M 127 44)) 19 (0 : Int)))]) k133_47 f126_19 rfl ?_
      refine tw_aload k133_50 rfl ?_
      refine tw_const k133_51 ?_
      refine tw_puti (M := M) (N := N) (l := [(130, p1), (131, p2), (126, (pU (pU (M 126) 18 (M 127 44)) 19 (0 : Int)))]) (l' := [(130, p1), (131, p2), (126, (pU (pU (pU (M 126) 18 (M 127 44)) 19 (0 : Int)) 20 (0 : Int)))]) k133_52 f126_20 rfl ?_
      refine tw_pad (M := M) (N := N) (l := [(130, p1), (131, p2), (126, (pU (pU (pU (M 126) 18 (M 127 44)) 19 (0 : Int)) 20 (0 : Int)))]) (l' := [(130, p1), (131, p2), (126, (pU (pU (pU (M 126) 18 (M 127 44)) 19 (0 : Int)) 20 (0 : Int))), (136, M 136), (137, M 137), (138, M 138)]) [136, 137, 138] rfl ?_
      refine keytk 10000 (w0 (M 127)) (some (.inl ((5 : Nat) : Int))) _ _ _ _ _ _ (w0_I hs).1 (fun y hy => h y hy) ?_ ?_ ?_ ?_ (w0_I hs).2 (by have := (w0_I hs).2; have := (w0_I hs).1.2; omega) rfl
      · rw [pU_ne (by omega), pU_ne (by omega), pU_eq]; rfl
      · rw [pU_ne (by omega), pU_eq]; rfl
      · rw [pU_eq]; rfl
      · intro j hj; rw [pU_ne (by omega), pU_ne (by omega), pU_ne (by omega)]
    · intro y hmy ih
      have ih : ∀ p1 p2 : Nat → Int, (∀ k, k < (y + 1) → p1 k = M 127 (1 + k) ∧ p2 k = 0) → mj_T K d 133 2 [some (.inr (.inr (.inl 126))), some (.inl (((y + 1) : Nat) : Int))] [] (mj_Sh, (st M [(130, p1), (131, p2)]), N) (fun r Z => r = none ∧ ∃ M1, Z = (mj_Sh, M1, N) ∧ mWk M1 (M 127) (wB (M 127)) (wG (M 127)) ∧ mFr M M1) := ih
      show ∀ p1 p2 : Nat → Int, (∀ k, k < y → p1 k = M 127 (1 + k) ∧ p2 k = 0) → mj_T K d 133 2 [some (.inr (.inr (.inl 126))), some (.inl ((y : Nat) : Int))] [] (mj_Sh, (st M [(130, p1), (131, p2)]), N) (fun r Z => r = none ∧ ∃ M1, Z = (mj_Sh, M1, N) ∧ mWk M1 (M 127) (wB (M 127)) (wG (M 127)) ∧ mFr M M1)
      intro p1 p2 h
      refine tw_iload k133_2 rfl ?_
      refine tw_const k133_3 ?_
      refine tw_cgeF k133_4 (by omega) ?_
      refine tw_aload k133_7 rfl ?_
      refine tw_getr k133_8 f126_4 ?_
      refine tw_iload k133_11 rfl ?_
      refine tw_aload k133_12 rfl ?_
      refine tw_getr k133_13 f126_0 ?_
      refine tw_const k133_16 ?_
      refine tw_iload k133_17 rfl ?_
      refine tw_iadd k133_18 (v := ((1 + y : Nat) : Int)) rfl (by omega) ?_
      refine tw_iald (j := 1 + y) (v := (M 127 (1 + y))) k133_19 al127 rfl (by omega) rfl ?_
      refine tw_iast (M := M) (N := N) (l := [(130, p1), (131, p2)]) (l' := [(130, (pU p1 y (M 127 (1 + y)))), (131, p2)]) (j := y) k133_20 al130 rfl (by omega) rfl ?_
      refine tw_aload k133_21 rfl ?_
      refine tw_getr k133_22 f126_5 ?_
      refine tw_iload k133_25 rfl ?_
      refine tw_const k133_26 ?_
      refine tw_iast (M := M) (N := N) (l := [(130, (pU p1 y (M 127 (1 + y)))), (131, p2)]) (l' := [(130, (pU p1 y (M 127 (1 + y)))), (131, (pU p2 y (0 : Int)))]) (j := y) k133_27 al131 rfl (by omega) rfl ?_
      refine tw_iinc k133_28 rfl (v := ((y + 1 : Nat) : Int)) rfl (by omega) rfl (L' := [some (.inr (.inr (.inl 126))), some (.inl ((y + 1 : Nat) : Int))]) rfl ?_
      refine tw_goto k133_31 ?_
      refine ih _ _ (fun k hk => ?_)
      by_cases e : k = y
      · subst e; exact ⟨pU_eq, pU_eq⟩
      · rw [pU_ne e, pU_ne e]; exact h k (by omega)
  refine tw_const k133_0 ?_
  refine tw_istore k133_1 rfl (L' := [some (.inr (.inr (.inl 126))), some (.inl (0 : Int))]) rfl ?_
  refine tw_pad (M := M) (N := N) (l := []) (l' := [(130, M 130), (131, M 131)]) [130, 131] rfl ?_
  exact key0 0 (by omega) _ _ (fun k hk => by omega)
