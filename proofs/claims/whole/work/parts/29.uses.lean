-- words: who uses how much, what is left over, short; whose permits
def uSp (s perm : Nat → Int) (a l p : Nat) : Nat → Int
  | 0 => max 0 (pS (fun y => pEm s y (p : Int)) a (l + 1 - a) - pS perm a (l + 1 - a))
  | i + 1 => uSp s perm a l p i - (pEm s (a + i) (p : Int) - max (pLo s p (a + i)) (pEm s (a + i) (p : Int) - uSp s perm a l p i))
def uUs (s perm : Nat → Int) (a l p y : Nat) : Int := max (pLo s p y) (pEm s y (p : Int) - uSp s perm a l p (y - a))
def gOf (G : GS) (y : Nat) : Nat := pFd (fun g => y ≤ G.2.2.1 g) (fun _ => inferInstance) G.1 0
def wU (s perm : Nat → Int) (G : GS) (y : Nat) : Int := uUs s perm (G.2.1 (gOf G y)) (G.2.2.1 (gOf G y)) (G.2.2.2 (gOf G y)) y
def wBk (s perm : Nat → Int) (G : GS) (y : Nat) : Int := max 0 (pS (fun k => perm k - wU s perm G k) (G.2.1 (gOf G y)) (y + 1 - G.2.1 (gOf G y)))
def wLk (s perm : Nat → Int) (G : GS) (g : Nat) : Int := max 0 (-(pS (fun k => perm k - wU s perm G k) (G.2.1 g) (G.2.2.1 g + 1 - G.2.1 g)))
theorem pS_rg2 {f : Nat → Int} {a : Nat} {A B : Nat} : ∀ (n : Nat), (∀ i, a ≤ i → i < a + n → -(A : Int) ≤ f i ∧ f i ≤ B) → -((A : Int) * n) ≤ pS f a n ∧ pS f a n ≤ B * n
  | 0, _ => by simp [pS]
  | n + 1, h => by
    have h1 := pS_rg2 n (fun i hi hj => h i hi (by omega))
    have h2 := h (a + n) (by omega) (by omega)
    rw [pS]
    have e1 : (B : Int) * ((n + 1 : Nat) : Int) = B * n + B := by rw [Int.natCast_succ, Int.mul_add, Int.mul_one]
    have e2 : (A : Int) * ((n + 1 : Nat) : Int) = A * n + A := by rw [Int.natCast_succ, Int.mul_add, Int.mul_one]
    omega
theorem pE_mono {s : Nat → Int} (h : pRg s) {y : Nat} {b b' : Int} (hb : b ≤ b') : ∀ m, m ≤ 10 → pE s y b' m ≤ pE s y b m
  | 0, _ => Int.le_refl _
  | m + 1, hm => by
    have h1 := pE_mono h (y := y) hb m (by omega)
    have h2 := h.1 (32 + m) (by omega)
    simp only [pE]
    split <;> split <;> omega
theorem pEm_mono {s : Nat → Int} (h : pRg s) {y : Nat} {b b' : Int} (hb : b ≤ b') : pEm s y b' ≤ pEm s y b := by
  have h11 := h.1 11 (by omega)
  have h1 := pE_mono h (y := y) hb (s 11).toNat (by have := h.2.2.1; omega)
  unfold pEm
  omega
theorem pE_le {s : Nat → Int} (h : pRg s) {y : Nat} {b : Int} : ∀ m, m ≤ 10 → pE s y b m ≤ s (6 + y)
  | 0, _ => Int.le_refl _
  | m + 1, hm => by
    have h1 := pE_le h (y := y) (b := b) m (by omega)
    have h2 := h.1 (32 + m) (by omega)
    simp only [pE]
    split <;> omega
theorem pEm_le {s : Nat → Int} (h : pRg s) {y : Nat} (hy : y < 5) {b : Int} : pEm s y b ≤ s (6 + y) := by
  have h11 := h.1 11 (by omega)
  have h6 := h.1 (6 + y) (by omega)
  have h1 := pE_le h (y := y) (b := b) (s 11).toNat (by have := h.2.2.1; omega)
  unfold pEm
  omega
theorem pLo_hi {s : Nat → Int} (h : pRg s) (y p : Nat) : pLo s p y ≤ pEm s y (p : Int) := pEm_mono h (by omega)
theorem uSp_rg {s perm : Nat → Int} (h : pRg s) {a l p : Nat} (hl : l < 5) (hB : ∀ y, a ≤ y → y ≤ l → 0 ≤ perm y) : ∀ i, a + i ≤ l + 1 → 0 ≤ uSp s perm a l p i ∧ uSp s perm a l p i ≤ 600
  | 0, _ => by
    have h1 := pS_rg (f := fun y => pEm s y (p : Int)) (a := a) (B := 100) (l + 1 - a) (fun i h1 h2 => pEm_rg h (by omega) _)
    have h2 : ∀ n, n ≤ l + 1 - a → 0 ≤ pS perm a n := by
      intro n
      induction n with
      | zero => intro _; exact Int.le_refl _
      | succ n ih => intro hn; rw [pS]; have := ih (by omega); have := hB (a + n) (by omega) (by omega); omega
    have h3 := h2 _ (Nat.le_refl _)
    rw [uSp]
    omega
  | i + 1, hi => by
    have h1 := uSp_rg h (p := p) hl hB i (by omega)
    have h2 := pLo_hi h (a + i) p
    rw [uSp]
    omega
theorem uUs_rg {s perm : Nat → Int} (h : pRg s) {a l p y : Nat} (hl : l < 5) (hB : ∀ y, a ≤ y → y ≤ l → 0 ≤ perm y) (ha : a ≤ y) (hy : y ≤ l) : 0 ≤ uUs s perm a l p y ∧ uUs s perm a l p y ≤ 100 ∧ uUs s perm a l p y ≤ s (6 + y) := by
  have h1 := uSp_rg h (p := p) hl hB (y - a) (by omega)
  have h2 := pLo_hi h y p
  have h3 := pEm_rg h (y := y) (by omega) (p : Int)
  have h4 := pEm_rg h (y := y) (by omega) ((p + 1 : Nat) : Int)
  have h5 := pEm_le h (y := y) (by omega) (b := (p : Int))
  unfold uUs
  unfold pLo at *
  omega
theorem gOk_lt {Y : Nat} {G : GS} (hO : gOk Y G) {j : Nat} : ∀ k, j + 1 + k < G.1 → G.2.2.1 j < G.2.1 (j + 1 + k)
  | 0, h => by have := hO.2.2.1 j h; show G.2.2.1 j < G.2.1 (j + 1); omega
  | k + 1, h => by
    have h1 := gOk_lt hO (j := j) k (by omega)
    show G.2.2.1 j < G.2.1 (j + 1 + k + 1)
    have h : j + 1 + k + 1 < G.1 := h
    have h2 := hO.2.1 (j + 1 + k) (by omega)
    have h3 := hO.2.2.1 (j + 1 + k) (by omega)
    omega
theorem gOf_eq {Y : Nat} {G : GS} (hO : gOk Y G) {g y : Nat} (hg : g < G.1) (h1 : G.2.1 g ≤ y) (h2 : y ≤ G.2.2.1 g) : gOf G y = g := pFd_eq G.1 0 g (by omega) (by omega) h2 (fun j _ hj => by
  have := gOk_lt hO (j := j) (g - j - 1) (by omega)
  have e : j + 1 + (g - j - 1) = g := by omega
  rw [e] at this
  omega)
theorem gOf_in {Y : Nat} {G : GS} (hO : gOk Y G) {y : Nat} (hy : y < Y) : gOf G y < G.1 ∧ G.2.1 (gOf G y) ≤ y ∧ y ≤ G.2.2.1 (gOf G y) := by
  have hp := hO.2.2.2.2 (by omega)
  have hl := (hO.2.2.2.1 hp).2
  have ⟨h1, h2⟩ := pFd_sp (P := fun g => y ≤ G.2.2.1 g) (dP := fun _ => inferInstance) G.1 0
  have h3 : gOf G y < G.1 ∧ y ≤ G.2.2.1 (gOf G y) := by
    rcases h1 with ⟨a, b, _⟩ | a
    · exact ⟨by unfold gOf; omega, b⟩
    · have := h2 (G.1 - 1) (by omega) (by omega)
      omega
  refine ⟨h3.1, ?_, h3.2⟩
  by_cases e : gOf G y = 0
  · rw [e, (hO.2.2.2.1 hp).1]; omega
  · have h4 := hO.2.2.1 (gOf G y - 1) (by omega)
    have h5 := h2 (gOf G y - 1) (by omega) (by unfold gOf at *; omega)
    have e2 : gOf G y - 1 + 1 = gOf G y := by omega
    rw [e2] at h4
    omega
theorem wU_eq {s perm : Nat → Int} {Y : Nat} {G : GS} (hO : gOk Y G) {g y : Nat} (hg : g < G.1) (h1 : G.2.1 g ≤ y) (h2 : y ≤ G.2.2.1 g) : wU s perm G y = uUs s perm (G.2.1 g) (G.2.2.1 g) (G.2.2.2 g) y := by
  unfold wU; rw [gOf_eq hO hg h1 h2]
theorem wU_rg {s perm : Nat → Int} (h : pRg s) {Y : Nat} (hY : Y ≤ 5) {G : GS} (hO : gOk Y G) (hB : ∀ y, y < 5 → 0 ≤ perm y) {y : Nat} (hy : y < Y) : 0 ≤ wU s perm G y ∧ wU s perm G y ≤ 100 ∧ wU s perm G y ≤ s (6 + y) := by
  have ⟨h1, h2, h3⟩ := gOf_in hO hy
  have h4 := hO.2.1 _ h1
  exact uUs_rg h (by omega) (fun y _ _ => hB y (by omega)) h2 h3
def fWn (left : Nat → Int) (a : Nat) (w : Int) : Nat → Int
  | 0 => w
  | n + 1 => fWn left a w n - min (fWn left a w n) (left (a + n))
def fLf (fst : Nat → Nat) (us perm : Nat → Int) : Nat → Nat → Int
  | 0 => perm
  | j + 1 => fun i => if fst j ≤ i ∧ i ≤ j then fLf fst us perm j i - min (fWn (fLf fst us perm j) (fst j) (us j) (i - fst j)) (fLf fst us perm j i) else fLf fst us perm j i
def fFl (fst : Nat → Nat) (us perm : Nat → Int) (i j : Nat) : Int := if fst j ≤ i ∧ i ≤ j then min (fWn (fLf fst us perm j) (fst j) (us j) (i - fst j)) (fLf fst us perm j i) else 0
def wFl (s perm : Nat → Int) (G : GS) : Nat → Nat → Int := fFl (fun j => G.2.1 (gOf G j)) (wU s perm G) perm
theorem fWn_rg {left : Nat → Int} {a : Nat} {w : Int} (hw : 0 ≤ w) : ∀ n, (∀ k, k < n → 0 ≤ left (a + k)) → 0 ≤ fWn left a w n ∧ fWn left a w n ≤ w
  | 0, _ => by rw [fWn]; omega
  | n + 1, h => by
    have h1 := fWn_rg (left := left) (a := a) hw n (fun k hk => h k (by omega))
    have h2 := h n (by omega)
    rw [fWn]; omega
theorem fLf_s {fst : Nat → Nat} {us perm : Nat → Int} {j i : Nat} : fLf fst us perm (j + 1) i = if fst j ≤ i ∧ i ≤ j then fLf fst us perm j i - min (fWn (fLf fst us perm j) (fst j) (us j) (i - fst j)) (fLf fst us perm j i) else fLf fst us perm j i := rfl
theorem fLf_rg {fst : Nat → Nat} {us perm : Nat → Int} {Y : Nat} (hP : ∀ y, y < 5 → 0 ≤ perm y ∧ perm y ≤ 1000) (hU : ∀ y, y < Y → 0 ≤ us y) : ∀ j, j ≤ Y → j ≤ 5 → ∀ i, i < 5 → 0 ≤ fLf fst us perm j i ∧ fLf fst us perm j i ≤ 1000
  | 0, _, _, i, hi => hP i hi
  | j + 1, hj, hj5, i, hi => by
    have h1 := fLf_rg (fst := fst) hP hU j (by omega) (by omega)
    have h2 := h1 i hi
    rw [fLf_s]
    by_cases e : fst j ≤ i ∧ i ≤ j
    · rw [if_pos e]
      have h3 := fWn_rg (left := fLf fst us perm j) (a := fst j) (hU j (by omega)) (i - fst j) (fun k hk => (h1 _ (by omega)).1)
      omega
    · rw [if_neg e]; exact h2
theorem fLf_up {fst : Nat → Nat} {us perm : Nat → Int} : ∀ (j i : Nat), j ≤ i → fLf fst us perm j i = perm i
  | 0, _, _ => rfl
  | j + 1, i, h => by rw [fLf_s, if_neg (by omega)]; exact fLf_up j i (by omega)
theorem x_127 {K : mj_C} {d : Nat} {M : Nat → Nat → Int} {N : Nat → Nat → Int64} (hD : 2 ≤ d) (hs : pRg (M 127)) (G : GS) (hO : gOk (M 127 0).toNat G) (hG : gRel (M 126 17) (M 136) (M 137) (M 138) G) (perm : Nat → Int) (hP : ∀ y, y < 5 → M 130 y = perm y) (hB : ∀ y, y < 5 → 0 ≤ perm y ∧ perm y ≤ 1000) (g : Nat) (hg : g < G.1) (hp20 : G.2.2.2 g ≤ 20) : mj_X K d 127 [.inr (.inr (.inl 126)), .inl ((g : Nat) : Int)] (mj_Sh, M, N) (fun r Z => r = none ∧ ∃ f1 f2 f3, Z = (mj_Sh, st M [(133, f1), (134, f2), (132, f3), (139, pU (M 139) g (wLk (M 127) perm G g))], N) ∧ (∀ y, G.2.1 g ≤ y → y ≤ G.2.2.1 g → f1 y = wU (M 127) perm G y ∧ f2 y = wBk (M 127) perm G y ∧ f3 y = (g : Int)) ∧ (∀ y, ¬ (G.2.1 g ≤ y ∧ y ≤ G.2.2.1 g) → f1 y = M 133 y ∧ f2 y = M 134 y ∧ f3 y = M 132 y)) := by
  show mj_T K d 127 0 [some (.inr (.inr (.inl 126))), some (.inl ((g : Nat) : Int)), none, none, none, none] [] (mj_Sh, M, N) _
  have h0 := hs.1 0 (by omega)
  have h5 := hs.2.1
  have hO' := hO
  obtain ⟨hO1, hO2, hO3, hO4, hO5⟩ := hO
  have a1 := hO2 g hg
  have hPs := pS_rg (f := perm) (a := G.2.1 g) (B := 1000) (G.2.2.1 g + 1 - G.2.1 g) (fun i h1 h2 => hB i (by omega))
  obtain ⟨a, ha⟩ : ∃ a, a = G.2.1 g := ⟨_, rfl⟩
  obtain ⟨l, hl⟩ : ∃ l, l = G.2.2.1 g := ⟨_, rfl⟩
  obtain ⟨p, hp⟩ : ∃ p, p = G.2.2.2 g := ⟨_, rfl⟩
  rw [← ha, ← hl] at hPs a1
  rw [← hp] at hp20
  simp only [← ha, ← hl]
  have hUe : ∀ y, a ≤ y → y ≤ l → wU (M 127) perm G y = uUs (M 127) perm a l p y := by
    intro y h1 h2; rw [ha] at h1; rw [hl] at h2; rw [wU_eq hO' hg h1 h2, ha, hl, hp]
  have hUr : ∀ y, a ≤ y → y ≤ l → 0 ≤ wU (M 127) perm G y ∧ wU (M 127) perm G y ≤ 100 := by
    intro y h1 h2; have := uUs_rg hs (perm := perm) (p := p) (a := a) (l := l) (y := y) (by omega) (fun k _ _ => (hB k (by omega)).1) h1 h2; rw [hUe y h1 h2]; omega
  have hgO : ∀ y, a ≤ y → y ≤ l → gOf G y = g := by
    intro y h1 h2; rw [ha] at h1; rw [hl] at h2; exact gOf_eq hO' hg h1 h2
  have hk1 : M 136 g = (a : Int) := by rw [ha]; exact (hG.2 g hg).1
  have hk2 : M 137 g = (l : Int) := by rw [hl]; exact (hG.2 g hg).2.1
  have hk3 : M 138 g = (p : Int) := by rw [hp]; exact (hG.2 g hg).2.2
  have keyB : ∀ i : Nat, i ≤ (l + 1 - a) → ∀ f1 f2 f3 : Nat → Int, (∀ y, a ≤ y → y < a + i → f1 y = wU (M 127) perm G y ∧ f2 y = wBk (M 127) perm G y ∧ f3 y = (g : Int)) → (∀ y, ¬ (a ≤ y ∧ y < a + i) → f1 y = M 133 y ∧ f2 y = M 134 y ∧ f3 y = M 132 y) → mj_T K d 127 66 [some (.inr (.inr (.inl 126))), some (.inl ((g : Nat) : Int)), some (.inl ((p : Nat) : Int)), some (.inl (uSp (M 127) perm a l p i)), some (.inl (pS (fun k => perm k - wU (M 127) perm G k) a i)), some (.inl (((a + i) : Nat) : Int))] [] (mj_Sh, (st M [(133, f1), (134, f2), (132, f3)]), N) (fun r Z => r = none ∧ ∃ f1 f2 f3, Z = (mj_Sh, st M [(133, f1), (134, f2), (132, f3), (139, pU (M 139) g (wLk (M 127) perm G g))], N) ∧ (∀ y, a ≤ y → y ≤ l → f1 y = wU (M 127) perm G y ∧ f2 y = wBk (M 127) perm G y ∧ f3 y = (g : Int)) ∧ (∀ y, ¬ (a ≤ y ∧ y ≤ l) → f1 y = M 133 y ∧ f2 y = M 134 y ∧ f3 y = M 132 y)) := by
    refine up_to (l + 1 - a) ?_ ?_
    · show ∀ f1 f2 f3 : Nat → Int, (∀ y, a ≤ y → y < a + (l + 1 - a) → f1 y = wU (M 127) perm G y ∧ f2 y = wBk (M 127) perm G y ∧ f3 y = (g : Int)) → (∀ y, ¬ (a ≤ y ∧ y < a + (l + 1 - a)) → f1 y = M 133 y ∧ f2 y = M 134 y ∧ f3 y = M 132 y) → mj_T K d 127 66 [some (.inr (.inr (.inl 126))), some (.inl ((g : Nat) : Int)), some (.inl ((p : Nat) : Int)), some (.inl (uSp (M 127) perm a l p (l + 1 - a))), some (.inl (pS (fun k => perm k - wU (M 127) perm G k) a (l + 1 - a))), some (.inl (((a + (l + 1 - a)) : Nat) : Int))] [] (mj_Sh, (st M [(133, f1), (134, f2), (132, f3)]), N) (fun r Z => r = none ∧ ∃ f1 f2 f3, Z = (mj_Sh, st M [(133, f1), (134, f2), (132, f3), (139, pU (M 139) g (wLk (M 127) perm G g))], N) ∧ (∀ y, a ≤ y → y ≤ l → f1 y = wU (M 127) perm G y ∧ f2 y = wBk (M 127) perm G y ∧ f3 y = (g : Int)) ∧ (∀ y, ¬ (a ≤ y ∧ y ≤ l) → f1 y = M 133 y ∧ f2 y = M 134 y ∧ f3 y = M 132 y))
      intro f1 f2 f3 c1 c2
      have hr1 := pS_rg2 (f := fun k => perm k - wU (M 127) perm G k) (a := a) (A := 100) (B := 1000) (l + 1 - a) (fun k h1 h2 => by have := hB k (by omega); have := hUr k h1 (by omega); show _ ≤ perm k - wU (M 127) perm G k ∧ perm k - wU (M 127) perm G k ≤ _; omega)
      refine tw_iload k127_66 rfl ?_
      refine tw_aload k127_68 rfl ?_
      refine tw_getr k127_69 f126_11 ?_
      refine tw_iload k127_72 rfl ?_
      refine tw_iald (j := g) (v := ((l : Nat) : Int)) k127_73 al137 rfl (by omega) (show M 137 g = _ from hk2) ?_
      refine tw_cgtT k127_74 (by omega) ?_
      refine tw_aload k127_168 rfl ?_
      refine tw_getr k127_169 f126_13 ?_
      refine tw_iload k127_172 rfl ?_
      refine tw_const k127_173 ?_
      refine tw_iload k127_174 rfl ?_
      refine tw_ineg k127_176 (v := (-(pS (fun k => perm k - wU (M 127) perm G k) a (l + 1 - a)))) rfl (by omega) ?_
      refine tw_max k127_177 rfl ?_
      refine tw_iast (M := M) (N := N) (l := [(133, f1), (134, f2), (132, f3)]) (l' := [(133, f1), (134, f2), (132, f3), (139, (pU (M 139) g (max (0 : Int) (-(pS (fun k => perm k - wU (M 127) perm G k) a (l + 1 - a))))))]) (j := g) k127_180 al139 rfl (by omega) rfl ?_
      exact tw_rv k127_181 (⟨rfl, f1, f2, f3, by unfold wLk; rw [← ha, ← hl], fun y h1 h2 => c1 y h1 (by omega), fun y h => c2 y (by omega)⟩)
    · intro i hmi ih
      have ih : ∀ f1 f2 f3 : Nat → Int, (∀ y, a ≤ y → y < a + (i + 1) → f1 y = wU (M 127) perm G y ∧ f2 y = wBk (M 127) perm G y ∧ f3 y = (g : Int)) → (∀ y, ¬ (a ≤ y ∧ y < a + (i + 1)) → f1 y = M 133 y ∧ f2 y = M 134 y ∧ f3 y = M 132 y) → mj_T K d 127 66 [some (.inr (.inr (.inl 126))), some (.inl ((g : Nat) : Int)), some (.inl ((p : Nat) : Int)), some (.inl (uSp (M 127) perm a l p (i + 1))), some (.inl (pS (fun k => perm k - wU (M 127) perm G k) a (i + 1))), some (.inl (((a + (i + 1)) : Nat) : Int))] [] (mj_Sh, (st M [(133, f1), (134, f2), (132, f3)]), N) (fun r Z => r = none ∧ ∃ f1 f2 f3, Z = (mj_Sh, st M [(133, f1), (134, f2), (132, f3), (139, pU (M 139) g (wLk (M 127) perm G g))], N) ∧ (∀ y, a ≤ y → y ≤ l → f1 y = wU (M 127) perm G y ∧ f2 y = wBk (M 127) perm G y ∧ f3 y = (g : Int)) ∧ (∀ y, ¬ (a ≤ y ∧ y ≤ l) → f1 y = M 133 y ∧ f2 y = M 134 y ∧ f3 y = M 132 y)) := ih
      show ∀ f1 f2 f3 : Nat → Int, (∀ y, a ≤ y → y < a + i → f1 y = wU (M 127) perm G y ∧ f2 y = wBk (M 127) perm G y ∧ f3 y = (g : Int)) → (∀ y, ¬ (a ≤ y ∧ y < a + i) → f1 y = M 133 y ∧ f2 y = M 134 y ∧ f3 y = M 132 y) → mj_T K d 127 66 [some (.inr (.inr (.inl 126))), some (.inl ((g : Nat) : Int)), some (.inl ((p : Nat) : Int)), some (.inl (uSp (M 127) perm a l p i)), some (.inl (pS (fun k => perm k - wU (M 127) perm G k) a i)), some (.inl (((a + i) : Nat) : Int))] [] (mj_Sh, (st M [(133, f1), (134, f2), (132, f3)]), N) (fun r Z => r = none ∧ ∃ f1 f2 f3, Z = (mj_Sh, st M [(133, f1), (134, f2), (132, f3), (139, pU (M 139) g (wLk (M 127) perm G g))], N) ∧ (∀ y, a ≤ y → y ≤ l → f1 y = wU (M 127) perm G y ∧ f2 y = wBk (M 127) perm G y ∧ f3 y = (g : Int)) ∧ (∀ y, ¬ (a ≤ y ∧ y ≤ l) → f1 y = M 133 y ∧ f2 y = M 134 y ∧ f3 y = M 132 y))
      intro f1 f2 f3 c1 c2
      have hr1 := pS_rg2 (f := fun k => perm k - wU (M 127) perm G k) (a := a) (A := 100) (B := 1000) i (fun k h1 h2 => by have := hB k (by omega); have := hUr k h1 (by omega); show _ ≤ perm k - wU (M 127) perm G k ∧ perm k - wU (M 127) perm G k ≤ _; omega)
      have hr2 := uSp_rg hs (perm := perm) (p := p) (a := a) (l := l) (by omega) (fun k _ _ => (hB k (by omega)).1) i (by omega)
      have hr3 := pEm_rg hs (y := a + i) (by omega) (p : Int)
      have hr4 := pEm_rg hs (y := a + i) (by omega) ((p + 1 : Nat) : Int)
      have hr5 := hUr (a + i) (by omega) (by omega)
      have hr6 := hB (a + i) (by omega)
      have hue : max (pLo (M 127) p (a + i)) (pEm (M 127) (a + i) (p : Int) - uSp (M 127) perm a l p i) = wU (M 127) perm G (a + i) := by
        rw [hUe _ (by omega) (by omega)]; unfold uUs; rw [Nat.add_sub_cancel_left]
      have hsp : uSp (M 127) perm a l p i - (pEm (M 127) (a + i) (p : Int) - wU (M 127) perm G (a + i)) = uSp (M 127) perm a l p (i + 1) := by rw [← hue]; rfl
      have hbk : max 0 (pS (fun k => perm k - wU (M 127) perm G k) a i + (perm (a + i) - wU (M 127) perm G (a + i))) = wBk (M 127) perm G (a + i) := by
        unfold wBk; rw [hgO _ (by omega) (by omega), ← ha]; have e : a + i + 1 - a = i + 1 := by omega
        rw [e]; rfl
      refine tw_iload k127_66 rfl ?_
      refine tw_aload k127_68 rfl ?_
      refine tw_getr k127_69 f126_11 ?_
      refine tw_iload k127_72 rfl ?_
      refine tw_iald (j := g) (v := ((l : Nat) : Int)) k127_73 al137 rfl (by omega) (show M 137 g = _ from hk2) ?_
      refine tw_cgtF k127_74 (by omega) ?_
      refine tw_aload k127_77 rfl ?_
      refine tw_getr k127_78 f126_7 ?_
      refine tw_iload k127_81 rfl ?_
      refine tw_aload k127_83 rfl ?_
      refine tw_iload k127_84 rfl ?_
      refine tw_iload k127_86 rfl ?_
      refine tw_callp (v := .inl (pLo (M 127) p (a + i))) (by omega) (S' := [.inl (((a + i) : Nat) : Int), .inr (.inr (.inl 133))]) (as := [.inr (.inr (.inl 126)), .inl (((a + i) : Nat) : Int), .inl ((p : Nat) : Int)]) k127_87 (x_118 (M := (st M [(133, f1), (134, f2), (132, f3)])) (N := N) (by omega) hs (a + i) (by omega) p (by omega)) rfl rfl rfl rfl rfl ?_
      refine tw_aload k127_90 rfl ?_
      refine tw_iload k127_91 rfl ?_
      refine tw_iload k127_93 rfl ?_
      refine tw_callp (v := .inl (pEm (M 127) (a + i) (p : Int))) (by omega) (S' := [.inl (pLo (M 127) p (a + i)), .inl (((a + i) : Nat) : Int), .inr (.inr (.inl 133))]) (as := [.inr (.inr (.inl 126)), .inl (((a + i) : Nat) : Int), .inl ((p : Nat) : Int)]) k127_94 (x_117 (M := (st M [(133, f1), (134, f2), (132, f3)])) (N := N) (by omega) hs (a + i) (by omega) (p : Int)) rfl rfl rfl rfl rfl ?_
      refine tw_iload k127_97 rfl ?_
      refine tw_isub k127_98 (v := ((pEm (M 127) (a + i) (p : Int)) - (uSp (M 127) perm a l p i))) rfl (by omega) ?_
      refine tw_max k127_99 rfl ?_
      refine tw_eqS (S' := [.inl (wU (M 127) perm G (a + i)), .inl (((a + i) : Nat) : Int), .inr (.inr (.inl 133))]) (e_c (congrArg Sum.inl hue) rfl) ?_
      refine tw_iast (M := M) (N := N) (l := [(133, f1), (134, f2), (132, f3)]) (l' := [(133, (pU f1 (a + i) (wU (M 127) perm G (a + i)))), (134, f2), (132, f3)]) (j := (a + i)) k127_102 al133 rfl (by omega) rfl ?_
      refine tw_iload k127_103 rfl ?_
      refine tw_aload k127_104 rfl ?_
      refine tw_iload k127_105 rfl ?_
      refine tw_iload k127_107 rfl ?_
      refine tw_callp (v := .inl (pEm (M 127) (a + i) (p : Int))) (by omega) (S' := [.inl (uSp (M 127) perm a l p i)]) (as := [.inr (.inr (.inl 126)), .inl (((a + i) : Nat) : Int), .inl ((p : Nat) : Int)]) k127_108 (x_117 (M := (st M [(133, (pU f1 (a + i) (wU (M 127) perm G (a + i)))), (134, f2), (132, f3)])) (N := N) (by omega) hs (a + i) (by omega) (p : Int)) rfl rfl rfl rfl rfl ?_
      refine tw_aload k127_111 rfl ?_
      refine tw_getr k127_112 f126_7 ?_
      refine tw_iload k127_115 rfl ?_
      refine tw_iald (j := (a + i)) (v := (wU (M 127) perm G (a + i))) k127_117 al133 rfl (by omega) (show (pU f1 (a + i) (wU (M 127) perm G (a + i))) (a + i) = _ from (pU_eq)) ?_
      refine tw_isub k127_118 (v := ((pEm (M 127) (a + i) (p : Int)) - (wU (M 127) perm G (a + i)))) rfl (by omega) ?_
      refine tw_isub k127_119 (v := ((uSp (M 127) perm a l p i) - ((pEm (M 127) (a + i) (p : Int)) - (wU (M 127) perm G (a + i))))) rfl (by omega) ?_
      refine tw_istore k127_120 rfl (L' := [some (.inr (.inr (.inl 126))), some (.inl ((g : Nat) : Int)), some (.inl ((p : Nat) : Int)), some (.inl ((uSp (M 127) perm a l p i) - ((pEm (M 127) (a + i) (p : Int)) - (wU (M 127) perm G (a + i))))), some (.inl (pS (fun k => perm k - wU (M 127) perm G k) a i)), some (.inl (((a + i) : Nat) : Int))]) rfl ?_
      refine tw_iload k127_121 rfl ?_
      refine tw_aload k127_123 rfl ?_
      refine tw_getr k127_124 f126_4 ?_
      refine tw_iload k127_127 rfl ?_
      refine tw_iald (j := (a + i)) (v := (perm (a + i))) k127_129 al130 rfl (by omega) (show M 130 (a + i) = _ from (hP (a + i) (by omega))) ?_
      refine tw_aload k127_130 rfl ?_
      refine tw_getr k127_131 f126_7 ?_
      refine tw_iload k127_134 rfl ?_
      refine tw_iald (j := (a + i)) (v := (wU (M 127) perm G (a + i))) k127_136 al133 rfl (by omega) (show (pU f1 (a + i) (wU (M 127) perm G (a + i))) (a + i) = _ from (pU_eq)) ?_
      refine tw_isub k127_137 (v := ((perm (a + i)) - (wU (M 127) perm G (a + i)))) rfl (by omega) ?_
      refine tw_iadd k127_138 (v := ((pS (fun k => perm k - wU (M 127) perm G k) a i) + ((perm (a + i)) - (wU (M 127) perm G (a + i))))) rfl (by omega) ?_
      refine tw_istore k127_139 rfl (L' := [some (.inr (.inr (.inl 126))), some (.inl ((g : Nat) : Int)), some (.inl ((p : Nat) : Int)), some (.inl ((uSp (M 127) perm a l p i) - ((pEm (M 127) (a + i) (p : Int)) - (wU (M 127) perm G (a + i))))), some (.inl ((pS (fun k => perm k - wU (M 127) perm G k) a i) + ((perm (a + i)) - (wU (M 127) perm G (a + i))))), some (.inl (((a + i) : Nat) : Int))]) rfl ?_
      refine tw_aload k127_141 rfl ?_
      refine tw_getr k127_142 f126_8 ?_
      refine tw_iload k127_145 rfl ?_
      refine tw_const k127_147 ?_
      refine tw_iload k127_148 rfl ?_
      refine tw_max k127_150 rfl ?_
      refine tw_eqS (S' := [.inl (wBk (M 127) perm G (a + i)), .inl (((a + i) : Nat) : Int), .inr (.inr (.inl 134))]) (e_c (congrArg Sum.inl hbk) rfl) ?_
      refine tw_iast (M := M) (N := N) (l := [(133, (pU f1 (a + i) (wU (M 127) perm G (a + i)))), (134, f2), (132, f3)]) (l' := [(133, (pU f1 (a + i) (wU (M 127) perm G (a + i)))), (134, (pU f2 (a + i) (wBk (M 127) perm G (a + i)))), (132, f3)]) (j := (a + i)) k127_153 al134 rfl (by omega) rfl ?_
      refine tw_aload k127_154 rfl ?_
      refine tw_getr k127_155 f126_6 ?_
      refine tw_iload k127_158 rfl ?_
      refine tw_iload k127_160 rfl ?_
      refine tw_iast (M := M) (N := N) (l := [(133, (pU f1 (a + i) (wU (M 127) perm G (a + i)))), (134, (pU f2 (a + i) (wBk (M 127) perm G (a + i)))), (132, f3)]) (l' := [(133, (pU f1 (a + i) (wU (M 127) perm G (a + i)))), (134, (pU f2 (a + i) (wBk (M 127) perm G (a + i)))), (132, (pU f3 (a + i) ((g : Nat) : Int)))]) (j := (a + i)) k127_161 al132 rfl (by omega) rfl ?_
      refine tw_iinc k127_162 rfl (v := (((a + i) + 1 : Nat) : Int)) rfl (by omega) rfl (L' := [some (.inr (.inr (.inl 126))), some (.inl ((g : Nat) : Int)), some (.inl ((p : Nat) : Int)), some (.inl ((uSp (M 127) perm a l p i) - ((pEm (M 127) (a + i) (p : Int)) - (wU (M 127) perm G (a + i))))), some (.inl ((pS (fun k => perm k - wU (M 127) perm G k) a i) + ((perm (a + i)) - (wU (M 127) perm G (a + i))))), some (.inl (((a + i) + 1 : Nat) : Int))]) rfl ?_
      refine tw_goto k127_165 ?_
      refine tw_eqL (L' := [some (.inr (.inr (.inl 126))), some (.inl ((g : Nat) : Int)), some (.inl ((p : Nat) : Int)), some (.inl (uSp (M 127) perm a l p (i + 1))), some (.inl (pS (fun k => perm k - wU (M 127) perm G k) a (i + 1))), some (.inl (((a + (i + 1)) : Nat) : Int))]) (e_c rfl (e_c rfl (e_c rfl (e_c (e_i hsp) (e_c rfl (e_c rfl rfl)))))) ?_
      exact ih _ _ _ (fun y h1 h2 => by
        by_cases e : y = a + i
        · subst e; exact ⟨pU_eq, pU_eq, pU_eq⟩
        · rw [pU_ne e, pU_ne e, pU_ne e]; exact c1 y h1 (by omega)) (fun y h => by
        rw [pU_ne (by omega), pU_ne (by omega), pU_ne (by omega)]; exact c2 y (by omega))
  have keyA : ∀ i : Nat, i ≤ (l + 1 - a) → mj_T K d 127 22 [some (.inr (.inr (.inl 126))), some (.inl ((g : Nat) : Int)), some (.inl ((p : Nat) : Int)), some (.inl (pS (fun y => pEm (M 127) y (p : Int)) a i - pS perm a (l + 1 - a))), some (.inl (((a + i) : Nat) : Int)), none] [] (mj_Sh, M, N) (fun r Z => r = none ∧ ∃ f1 f2 f3, Z = (mj_Sh, st M [(133, f1), (134, f2), (132, f3), (139, pU (M 139) g (wLk (M 127) perm G g))], N) ∧ (∀ y, a ≤ y → y ≤ l → f1 y = wU (M 127) perm G y ∧ f2 y = wBk (M 127) perm G y ∧ f3 y = (g : Int)) ∧ (∀ y, ¬ (a ≤ y ∧ y ≤ l) → f1 y = M 133 y ∧ f2 y = M 134 y ∧ f3 y = M 132 y)) := by
    refine up_to (l + 1 - a) ?_ ?_
    · show mj_T K d 127 22 [some (.inr (.inr (.inl 126))), some (.inl ((g : Nat) : Int)), some (.inl ((p : Nat) : Int)), some (.inl (pS (fun y => pEm (M 127) y (p : Int)) a (l + 1 - a) - pS perm a (l + 1 - a))), some (.inl (((a + (l + 1 - a)) : Nat) : Int)), none] [] (mj_Sh, M, N) (fun r Z => r = none ∧ ∃ f1 f2 f3, Z = (mj_Sh, st M [(133, f1), (134, f2), (132, f3), (139, pU (M 139) g (wLk (M 127) perm G g))], N) ∧ (∀ y, a ≤ y → y ≤ l → f1 y = wU (M 127) perm G y ∧ f2 y = wBk (M 127) perm G y ∧ f3 y = (g : Int)) ∧ (∀ y, ¬ (a ≤ y ∧ y ≤ l) → f1 y = M 133 y ∧ f2 y = M 134 y ∧ f3 y = M 132 y))
      refine tw_iload k127_22 rfl ?_
      refine tw_aload k127_24 rfl ?_
      refine tw_getr k127_25 f126_11 ?_
      refine tw_iload k127_28 rfl ?_
      refine tw_iald (j := g) (v := ((l : Nat) : Int)) k127_29 al137 rfl (by omega) hk2 ?_
      refine tw_cgtT k127_30 (by omega) ?_
      refine tw_const k127_49 ?_
      refine tw_iload k127_50 rfl ?_
      refine tw_max k127_51 rfl ?_
      refine tw_eqS (S' := [.inl (uSp (M 127) perm a l p 0)]) (e_c (congrArg Sum.inl (by rw [uSp])) rfl) ?_
      refine tw_istore k127_54 rfl (L' := [some (.inr (.inr (.inl 126))), some (.inl ((g : Nat) : Int)), some (.inl ((p : Nat) : Int)), some (.inl (uSp (M 127) perm a l p 0)), some (.inl (((a + (l + 1 - a)) : Nat) : Int)), none]) rfl ?_
      refine tw_const k127_55 ?_
      refine tw_istore k127_56 rfl (L' := [some (.inr (.inr (.inl 126))), some (.inl ((g : Nat) : Int)), some (.inl ((p : Nat) : Int)), some (.inl (uSp (M 127) perm a l p 0)), some (.inl (0 : Int)), none]) rfl ?_
      refine tw_aload k127_58 rfl ?_
      refine tw_getr k127_59 f126_10 ?_
      refine tw_iload k127_62 rfl ?_
      refine tw_iald (j := g) (v := ((a : Nat) : Int)) k127_63 al136 rfl (by omega) hk1 ?_
      refine tw_istore k127_64 rfl (L' := [some (.inr (.inr (.inl 126))), some (.inl ((g : Nat) : Int)), some (.inl ((p : Nat) : Int)), some (.inl (uSp (M 127) perm a l p 0)), some (.inl (0 : Int)), some (.inl ((a : Nat) : Int))]) rfl ?_
      refine tw_pad (M := M) (N := N) (l := []) (l' := [(133, M 133), (134, M 134), (132, M 132)]) [133, 134, 132] rfl ?_
      refine tw_eqL (L' := [some (.inr (.inr (.inl 126))), some (.inl ((g : Nat) : Int)), some (.inl ((p : Nat) : Int)), some (.inl (uSp (M 127) perm a l p 0)), some (.inl (pS (fun k => perm k - wU (M 127) perm G k) a 0)), some (.inl (((a + 0) : Nat) : Int))]) (e_c rfl (e_c rfl (e_c rfl (e_c rfl (e_c (e_i rfl) (e_c (e_i rfl) rfl)))))) ?_
      exact keyB 0 (by omega) _ _ _ (fun y h1 h2 => by omega) (fun y _ => ⟨rfl, rfl, rfl⟩)
    · intro i hmi ih
      have ih : mj_T K d 127 22 [some (.inr (.inr (.inl 126))), some (.inl ((g : Nat) : Int)), some (.inl ((p : Nat) : Int)), some (.inl (pS (fun y => pEm (M 127) y (p : Int)) a (i + 1) - pS perm a (l + 1 - a))), some (.inl (((a + (i + 1)) : Nat) : Int)), none] [] (mj_Sh, M, N) (fun r Z => r = none ∧ ∃ f1 f2 f3, Z = (mj_Sh, st M [(133, f1), (134, f2), (132, f3), (139, pU (M 139) g (wLk (M 127) perm G g))], N) ∧ (∀ y, a ≤ y → y ≤ l → f1 y = wU (M 127) perm G y ∧ f2 y = wBk (M 127) perm G y ∧ f3 y = (g : Int)) ∧ (∀ y, ¬ (a ≤ y ∧ y ≤ l) → f1 y = M 133 y ∧ f2 y = M 134 y ∧ f3 y = M 132 y)) := ih
      show mj_T K d 127 22 [some (.inr (.inr (.inl 126))), some (.inl ((g : Nat) : Int)), some (.inl ((p : Nat) : Int)), some (.inl (pS (fun y => pEm (M 127) y (p : Int)) a i - pS perm a (l + 1 - a))), some (.inl (((a + i) : Nat) : Int)), none] [] (mj_Sh, M, N) (fun r Z => r = none ∧ ∃ f1 f2 f3, Z = (mj_Sh, st M [(133, f1), (134, f2), (132, f3), (139, pU (M 139) g (wLk (M 127) perm G g))], N) ∧ (∀ y, a ≤ y → y ≤ l → f1 y = wU (M 127) perm G y ∧ f2 y = wBk (M 127) perm G y ∧ f3 y = (g : Int)) ∧ (∀ y, ¬ (a ≤ y ∧ y ≤ l) → f1 y = M 133 y ∧ f2 y = M 134 y ∧ f3 y = M 132 y))
      have hr1 := pS_rg (f := fun y => pEm (M 127) y (p : Int)) (a := a) (B := 100) i (fun k h1 h2 => pEm_rg hs (by omega) _)
      have hr3 := pEm_rg hs (y := a + i) (by omega) (p : Int)
      refine tw_iload k127_22 rfl ?_
      refine tw_aload k127_24 rfl ?_
      refine tw_getr k127_25 f126_11 ?_
      refine tw_iload k127_28 rfl ?_
      refine tw_iald (j := g) (v := ((l : Nat) : Int)) k127_29 al137 rfl (by omega) hk2 ?_
      refine tw_cgtF k127_30 (by omega) ?_
      refine tw_iload k127_33 rfl ?_
      refine tw_aload k127_34 rfl ?_
      refine tw_iload k127_35 rfl ?_
      refine tw_iload k127_37 rfl ?_
      refine tw_callp (v := .inl (pEm (M 127) (a + i) (p : Int))) (by omega) (S' := [.inl (pS (fun y => pEm (M 127) y (p : Int)) a i - pS perm a (l + 1 - a))]) (as := [.inr (.inr (.inl 126)), .inl (((a + i) : Nat) : Int), .inl ((p : Nat) : Int)]) k127_38 (x_117 (M := M) (N := N) (by omega) hs (a + i) (by omega) (p : Int)) rfl rfl rfl rfl rfl ?_
      refine tw_iadd k127_41 (v := ((pS (fun y => pEm (M 127) y (p : Int)) a i - pS perm a (l + 1 - a)) + (pEm (M 127) (a + i) (p : Int)))) rfl (by omega) ?_
      refine tw_istore k127_42 rfl (L' := [some (.inr (.inr (.inl 126))), some (.inl ((g : Nat) : Int)), some (.inl ((p : Nat) : Int)), some (.inl ((pS (fun y => pEm (M 127) y (p : Int)) a i - pS perm a (l + 1 - a)) + (pEm (M 127) (a + i) (p : Int)))), some (.inl (((a + i) : Nat) : Int)), none]) rfl ?_
      refine tw_iinc k127_43 rfl (v := (((a + i) + 1 : Nat) : Int)) rfl (by omega) rfl (L' := [some (.inr (.inr (.inl 126))), some (.inl ((g : Nat) : Int)), some (.inl ((p : Nat) : Int)), some (.inl ((pS (fun y => pEm (M 127) y (p : Int)) a i - pS perm a (l + 1 - a)) + (pEm (M 127) (a + i) (p : Int)))), some (.inl (((a + i) + 1 : Nat) : Int)), none]) rfl ?_
      refine tw_goto k127_46 ?_
      refine tw_eqL (L' := [some (.inr (.inr (.inl 126))), some (.inl ((g : Nat) : Int)), some (.inl ((p : Nat) : Int)), some (.inl (pS (fun y => pEm (M 127) y (p : Int)) a (i + 1) - pS perm a (l + 1 - a))), some (.inl (((a + (i + 1)) : Nat) : Int)), none]) (e_c rfl (e_c rfl (e_c rfl (e_c (e_i (by rw [pS]; omega)) (e_c rfl (e_c rfl rfl)))))) ?_
      exact ih
  refine tw_aload k127_0 rfl ?_
  refine tw_getr k127_1 f126_12 ?_
  refine tw_iload k127_4 rfl ?_
  refine tw_iald (j := g) (v := ((p : Nat) : Int)) k127_5 al138 rfl (by omega) hk3 ?_
  refine tw_istore k127_6 rfl (L' := [some (.inr (.inr (.inl 126))), some (.inl ((g : Nat) : Int)), some (.inl ((p : Nat) : Int)), none, none, none]) rfl ?_
  refine tw_aload k127_7 rfl ?_
  refine tw_iload k127_8 rfl ?_
  refine tw_callp (v := .inl (pS perm a (l + 1 - a))) (by omega) (S' := []) (as := [.inr (.inr (.inl 126)), .inl ((g : Nat) : Int)]) k127_9 (x_120 (M := M) (N := N) g a l (by omega) hk1 hk2 (by omega) (by omega) perm (fun y _ _ => hP y (by omega)) (fun y _ _ => hB y (by omega))) rfl rfl rfl rfl rfl ?_
  refine tw_ineg k127_12 (v := (-(pS perm a (l + 1 - a)))) rfl (by omega) ?_
  refine tw_istore k127_13 rfl (L' := [some (.inr (.inr (.inl 126))), some (.inl ((g : Nat) : Int)), some (.inl ((p : Nat) : Int)), some (.inl (-(pS perm a (l + 1 - a)))), none, none]) rfl ?_
  refine tw_aload k127_14 rfl ?_
  refine tw_getr k127_15 f126_10 ?_
  refine tw_iload k127_18 rfl ?_
  refine tw_iald (j := g) (v := ((a : Nat) : Int)) k127_19 al136 rfl (by omega) hk1 ?_
  refine tw_istore k127_20 rfl (L' := [some (.inr (.inr (.inl 126))), some (.inl ((g : Nat) : Int)), some (.inl ((p : Nat) : Int)), some (.inl (-(pS perm a (l + 1 - a)))), some (.inl ((a : Nat) : Int)), none]) rfl ?_
  refine tw_eqL (L' := [some (.inr (.inr (.inl 126))), some (.inl ((g : Nat) : Int)), some (.inl ((p : Nat) : Int)), some (.inl (pS (fun y => pEm (M 127) y (p : Int)) a 0 - pS perm a (l + 1 - a))), some (.inl (((a + 0) : Nat) : Int)), none]) (e_c rfl (e_c rfl (e_c rfl (e_c (e_i (by rw [pS]; omega)) (e_c rfl (e_c rfl rfl)))))) ?_
  exact keyA 0 (by omega)
