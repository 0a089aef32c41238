-- what is worked out looks at the first 46 numbers of a set-up alone
theorem pFd_cg {P P' : Nat → Prop} {dP : ∀ i, Decidable (P i)} {dP' : ∀ i, Decidable (P' i)} : ∀ (k i : Nat), (∀ j, i ≤ j → j < i + k → (P' j ↔ P j)) → pFd P' dP' k i = pFd P dP k i
  | 0, _, _ => rfl
  | k + 1, i, h => by
    rw [pFd, pFd]
    have e := h i (Nat.le_refl _) (by omega)
    by_cases q : P i
    · rw [if_pos q, if_pos (e.mpr q)]
    · rw [if_neg q, if_neg (fun x => q (e.mp x))]
      exact pFd_cg k (i + 1) (fun j h1 h2 => h j (by omega) (by omega))
def sQ (s s' : Nat → Int) : Prop := ∀ i, i < 46 → s' i = s i
def GQ (G G' : GS) : Prop := G'.1 = G.1 ∧ ∀ g, g < G.1 → G'.2.1 g = G.2.1 g ∧ G'.2.2.1 g = G.2.2.1 g ∧ G'.2.2.2 g = G.2.2.2 g
def WQ (W W' : WS) : Prop := (∀ y, y < 5 → W'.1 y = W.1 y ∧ W'.2.1 y = W.2.1 y) ∧ W'.2.2 = W.2.2
theorem pRg_cg {s s' : Nat → Int} (h : sQ s s') (hs : pRg s) : pRg s' := by
  obtain ⟨h1, h2, h3, h4, h5⟩ := hs
  have e0 := h 0 (by omega)
  have e11 := h 11 (by omega)
  refine ⟨fun i hi => by rw [h i hi]; exact h1 i hi, by omega, by omega, fun m hm => ?_, fun m hm => ?_⟩
  · rw [h _ (by omega), e0]; exact h4 m (by omega)
  · rw [h _ (by omega)]; exact h5 m (by omega)
theorem cE {s s' : Nat → Int} (h : sQ s s') {y : Nat} {b : Int} (hy : y < 5) : ∀ m, m ≤ 10 → pE s' y b m = pE s y b m
  | 0, _ => h _ (by omega)
  | m + 1, hm => by rw [pE_s, pE_s, cE h hy m (by omega), h _ (by omega), h _ (by omega), h _ (by omega)]
theorem cEm {s s' : Nat → Int} (h : sQ s s') (hs : pRg s) {y : Nat} {b : Int} (hy : y < 5) : pEm s' y b = pEm s y b := by
  have h11 := hs.1 11 (by omega)
  have := hs.2.2.1
  unfold pEm
  rw [h 11 (by omega), cE h hy _ (by omega)]
theorem cPr {s s' : Nat → Int} (h : sQ s s') (hs : pRg s) {a n : Nat} {all : Int} (ha : a + n ≤ 5) : pPr s' a n all = pPr s a n all := by
  unfold pPr
  refine pFd_cg 20 0 (fun p _ _ => ?_)
  rw [pS_congr (f := pLo s' p) (g := pLo s p) n (fun i h1 h2 => cEm h hs (by omega))]
theorem cPv {s s' : Nat → Int} (h : sQ s s') (hs : pRg s) {p p' : Nat → Int} (hp : ∀ y, y < 5 → p' y = p y) {a l : Nat} (hl : l < 5) (ha : a ≤ l) : gPv s' p' a l = gPv s p a l := by
  unfold gPv
  rw [pS_congr (f := p') (g := p) _ (fun i h1 h2 => hp i (by omega)), cPr h hs (by omega)]
theorem cR {G G' : GS} (q : GQ G G') : gR G' = gR G := by
  unfold gR
  rw [q.1]
  refine pFd_cg _ 0 (fun j _ hj => ?_)
  rw [(q.2 j (by omega)).2.2, (q.2 (j + 1) (by omega)).2.2]
theorem cJ {s s' : Nat → Int} (h : sQ s s') (hs : pRg s) {p p' : Nat → Int} (hp : ∀ y, y < 5 → p' y = p y) {G G' : GS} {Y : Nat} (hY : Y ≤ 5) (hO : gOk Y G) (q : GQ G G') {g : Nat} (hg : g + 1 < G.1) : GQ (gJ s p g G) (gJ s' p' g G') := by
  have a1 := hO.2.1 g (by omega)
  have a2 := hO.2.1 (g + 1) hg
  have a3 := hO.2.2.1 g hg
  refine ⟨by show G'.1 - 1 = G.1 - 1; rw [q.1], fun i hi => ?_⟩
  have hi : i < G.1 - 1 := hi
  have q1 := q.2 i (by omega)
  have q2 := q.2 (i + 1) (by omega)
  refine ⟨?_, ?_, ?_⟩
  · show (if i ≤ g then G'.2.1 i else G'.2.1 (i + 1)) = if i ≤ g then G.2.1 i else G.2.1 (i + 1)
    rw [q1.1, q2.1]
  · show (if i < g then G'.2.2.1 i else G'.2.2.1 (i + 1)) = if i < g then G.2.2.1 i else G.2.2.1 (i + 1)
    rw [q1.2.1, q2.2.1]
  · show (if i < g then G'.2.2.2 i else if i = g then gPv s' p' (G'.2.1 g) (G'.2.2.1 (g + 1)) else G'.2.2.2 (i + 1)) = if i < g then G.2.2.2 i else if i = g then gPv s p (G.2.1 g) (G.2.2.1 (g + 1)) else G.2.2.2 (i + 1)
    rw [q1.2.2, q2.2.2, (q.2 g (by omega)).1, (q.2 (g + 1) hg).2.1, cPv h hs hp (by omega) (by omega)]
theorem cDn {s s' : Nat → Int} (h : sQ s s') (hs : pRg s) {p p' : Nat → Int} (hp : ∀ y, y < 5 → p' y = p y) {Y : Nat} (hY : Y ≤ 5) : ∀ (k : Nat) (G G' : GS), gOk Y G → GQ G G' → GQ (gDn s p k G) (gDn s' p' k G')
  | 0, _, _, _, q => q
  | k + 1, G, G', hO, q => by
    rw [gDn, gDn, cR q, q.1]
    by_cases e : gR G + 1 < G.1
    · rw [if_pos e, if_pos e]
      exact cDn h hs hp hY k _ _ (gJ_ok hO e) (cJ h hs hp hY hO q e)
    · rw [if_neg e, if_neg e]; exact q
theorem cGr {s s' : Nat → Int} (h : sQ s s') (hs : pRg s) {W W' : WS} (q : WQ W W') : GQ (wGr s W) (wGr s' W') := by
  have h5 := hs.2.1
  have h0 := hs.1 0 (by omega)
  unfold wGr gF
  rw [h 0 (by omega)]
  refine cDn h hs (fun y hy => (q.1 y hy).1) (by omega) _ _ _ (g0_ok _ _ _) ⟨rfl, fun g hg => ⟨rfl, rfl, ?_⟩⟩
  have hg : g < (s 0).toNat := hg
  exact cPv h hs (fun y hy => (q.1 y hy).1) (by omega) (Nat.le_refl _)
theorem cBk {p p' : Nat → Int} (hp : ∀ y, y < 5 → p' y = p y) : ∀ l, l < 5 → pBk p' l = pBk p l
  | 0, _ => rfl
  | l + 1, hl => by rw [pBk, pBk, hp _ hl, cBk hp l (by omega)]
theorem cTot {p p' : Nat → Int} (hp : ∀ y, y < 5 → p' y = p y) {Y : Nat} (hY : Y ≤ 5) {G G' : GS} (hO : gOk Y G) (q : GQ G G') {g : Nat} (hg : g < G.1) : gTot p' G' g = gTot p G g := by
  have a1 := hO.2.1 g hg
  unfold gTot
  rw [(q.2 g hg).1, (q.2 g hg).2.1]
  exact pS_congr _ (fun i h1 h2 => hp i (by omega))
theorem cTkG {s s' : Nat → Int} (h : sQ s s') (hs : pRg s) {W W' : WS} (q : WQ W W') : tkG s' W' (wGr s' W') = tkG s W (wGr s W) := by
  have h5 := hs.2.1
  have qg := cGr h hs q
  unfold tkG
  rw [qg.1]
  refine pFd_cg _ 0 (fun j _ hj => ?_)
  rw [(qg.2 j (by omega)).2.2, h 42 (by omega), cTot (fun y hy => (q.1 y hy).1) (by omega) (wGr_ok s W) qg (by omega)]
theorem cGvG {s s' : Nat → Int} (h : sQ s s') (hs : pRg s) {W W' : WS} (q : WQ W W') : gvG s' (wGr s' W') = gvG s (wGr s W) := by
  have qg := cGr h hs q
  unfold gvG
  rw [qg.1]
  refine pFd_cg _ 0 (fun j _ hj => ?_)
  rw [(qg.2 j (by omega)).2.2, h 43 (by omega)]
theorem cBwG {s s' : Nat → Int} (h : sQ s s') (hs : pRg s) {W W' : WS} (q : WQ W W') : bwG s' W' (wGr s' W') = bwG s W (wGr s W) := by
  have h5 := hs.2.1
  have qg := cGr h hs q
  unfold bwG
  rw [qg.1]
  refine pFd_cg _ 0 (fun j _ hj => ?_)
  have a1 := (wGr_ok s W).2.1 j (by omega)
  have a2 := (wGr_ok s W).2.1 (j + 1) (by omega)
  rw [(qg.2 j (by omega)).2.2, (qg.2 (j + 1) (by omega)).2.2, (qg.2 j (by omega)).2.1, (qg.2 (j + 1) (by omega)).1, h 45 (by omega), (q.1 _ (by omega)).2, (q.1 _ (by omega)).1]
theorem cTk {s s' : Nat → Int} (h : sQ s s') (hs : pRg s) {W W' : WS} (q : WQ W W') (hC : tkC s W) : WQ (tkS s W) (tkS s' W') := by
  have h5 := hs.2.1
  have qg := cGr h hs q
  have a1 := (wGr_ok s W).2.1 _ hC
  have e : pBk W'.1 ((wGr s' W').2.2.1 (tkG s' W' (wGr s' W'))) = pBk W.1 ((wGr s W).2.2.1 (tkG s W (wGr s W))) := by
    rw [cTkG h hs q, (qg.2 _ hC).2.1, cBk (fun y hy => (q.1 y hy).1) _ (by omega)]
  have e2 : W'.2.2.1 = W.2.2.1 ∧ W'.2.2.2.1 = W.2.2.2.1 ∧ W'.2.2.2.2 = W.2.2.2.2 := by rw [q.2]; exact ⟨rfl, rfl, rfl⟩
  have hb : ∀ l, pBk W.1 l ≤ l := by
    intro l; induction l with
    | zero => exact Nat.le_refl _
    | succ l ih => rw [pBk]; split <;> omega
  have hb2 := hb ((wGr s W).2.2.1 (tkG s W (wGr s W)))
  unfold tkS
  rw [e]
  refine ⟨fun y hy => ⟨?_, (q.1 y hy).2⟩, ?_⟩
  · show pU W'.1 _ (W'.1 _ - 1) y = pU W.1 _ (W.1 _ - 1) y
    unfold pU; rw [(q.1 y hy).1, (q.1 _ (by omega)).1]
  · show (W'.2.2.1 + 1, W'.2.2.2.1 + 1, W'.2.2.2.2) = (W.2.2.1 + 1, W.2.2.2.1 + 1, W.2.2.2.2)
    rw [e2.1, e2.2.1, e2.2.2]
theorem cGv {s s' : Nat → Int} (h : sQ s s') (hs : pRg s) {W W' : WS} (q : WQ W W') (hC : gvC s W) : WQ (gvS s W) (gvS s' W') := by
  have h5 := hs.2.1
  have qg := cGr h hs q
  have a1 := (wGr_ok s W).2.1 _ hC.2
  have e : (wGr s' W').2.1 (gvG s' (wGr s' W')) = (wGr s W).2.1 (gvG s (wGr s W)) := by rw [cGvG h hs q, (qg.2 _ hC.2).1]
  have e2 : W'.2.2.1 = W.2.2.1 ∧ W'.2.2.2.1 = W.2.2.2.1 ∧ W'.2.2.2.2 = W.2.2.2.2 := by rw [q.2]; exact ⟨rfl, rfl, rfl⟩
  unfold gvS
  rw [e]
  refine ⟨fun y hy => ⟨?_, (q.1 y hy).2⟩, ?_⟩
  · show pU W'.1 _ (W'.1 _ + 1) y = pU W.1 _ (W.1 _ + 1) y
    unfold pU; rw [(q.1 y hy).1, (q.1 _ (by omega)).1]
  · show (W'.2.2.1 - 1, W'.2.2.2.1, W'.2.2.2.2 + 1) = (W.2.2.1 - 1, W.2.2.2.1, W.2.2.2.2 + 1)
    rw [e2.1, e2.2.1, e2.2.2]
theorem cBw {s s' : Nat → Int} (h : sQ s s') (hs : pRg s) {W W' : WS} (q : WQ W W') (hC : bwC s W) : WQ (bwS s W) (bwS s' W') := by
  have h5 := hs.2.1
  have qg := cGr h hs q
  have hC' : bwG s W (wGr s W) + 1 < (wGr s W).1 := hC
  have a1 := (wGr_ok s W).2.1 (bwG s W (wGr s W)) (by omega)
  have a2 := (wGr_ok s W).2.1 _ hC
  have e : (wGr s' W').2.1 (bwG s' W' (wGr s' W') + 1) = (wGr s W).2.1 (bwG s W (wGr s W) + 1) := by rw [cBwG h hs q, (qg.2 _ hC).1]
  have e1 : (wGr s' W').2.2.1 (bwG s' W' (wGr s' W')) = (wGr s W).2.2.1 (bwG s W (wGr s W)) := by rw [cBwG h hs q, (qg.2 _ (by omega)).2.1]
  unfold bwS
  rw [e, e1]
  refine ⟨fun y hy => ⟨?_, ?_⟩, q.2⟩
  · show pU (pU W'.1 _ (W'.1 _ - 1)) _ (W'.1 _ + 1) y = pU (pU W.1 _ (W.1 _ - 1)) _ (W.1 _ + 1) y
    unfold pU; rw [(q.1 y hy).1, (q.1 _ (show (wGr s W).2.1 (bwG s W (wGr s W) + 1) < 5 by omega)).1, (q.1 _ (show (wGr s W).2.2.1 (bwG s W (wGr s W)) < 5 by omega)).1]
  · show pU W'.2.1 _ (W'.2.1 _ + 1) y = pU W.2.1 _ (W.2.1 _ + 1) y
    unfold pU; rw [(q.1 y hy).2, (q.1 _ (show (wGr s W).2.2.1 (bwG s W (wGr s W)) < 5 by omega)).2]
theorem cIt {C C' : WS → Prop} {dC : ∀ W, Decidable (C W)} {dC' : ∀ W, Decidable (C' W)} {S S' : WS → WS} (hC : ∀ W W', WQ W W' → (C' W' ↔ C W)) (hS : ∀ W W', WQ W W' → C W → WQ (S W) (S' W')) : ∀ n W W', WQ W W' → WQ (itN C dC S n W) (itN C' dC' S' n W')
  | 0, _, _, q => q
  | n + 1, W, W', q => by
    rw [itN, itN]
    have e := hC W W' q
    by_cases x : C W
    · rw [if_pos x, if_pos (e.mpr x)]
      exact cIt hC hS n _ _ (hS W W' q x)
    · rw [if_neg x, if_neg (fun y => x (e.mp y))]; exact q
theorem cWB {s s' : Nat → Int} (h : sQ s s') (hs : pRg s) : WQ (wB s) (wB s') := by
  have q0 : WQ (w0 s) (w0 s') := ⟨fun y hy => ⟨h _ (by omega), rfl⟩, by show (s' 44, (0 : Int), (0 : Int)) = (s 44, 0, 0); rw [h 44 (by omega)]⟩
  have q1 : WQ (wT s) (wT s') := cIt (fun W W' q => by unfold tkC; rw [cTkG h hs q, (cGr h hs q).1]) (fun W W' q x => cTk h hs q x) 10000 _ _ q0
  have q2 : WQ (wV s) (wV s') := cIt (fun W W' q => by unfold gvC; rw [cGvG h hs q, (cGr h hs q).1, q.2]) (fun W W' q x => cGv h hs q x) 10000 _ _ q1
  exact cIt (fun W W' q => by unfold bwC; rw [cBwG h hs q, (cGr h hs q).1]) (fun W W' q x => cBw h hs q x) 10000 _ _ q2
theorem cWG {s s' : Nat → Int} (h : sQ s s') (hs : pRg s) : GQ (wG s) (wG s') := cGr h hs (cWB h hs)
theorem cGO {s s' : Nat → Int} (h : sQ s s') (hs : pRg s) {y : Nat} : gOf (wG s') y = gOf (wG s) y := by
  have q := cWG h hs
  unfold gOf
  rw [q.1]
  refine pFd_cg _ 0 (fun j _ hj => ?_)
  rw [(q.2 j (by omega)).2.1]
theorem cWU {s s' : Nat → Int} (h : sQ s s') (hs : pRg s) {y : Nat} (hy : y < (s 0).toNat) : wU s' (wB s').1 (wG s') y = wU s (wB s).1 (wG s) y := by
  have h5 := hs.2.1
  have q := cWG h hs
  have w := cWB h hs
  have hO : gOk (s 0).toNat (wG s) := wGr_ok s (wB s)
  have ⟨g1, g2, g3⟩ := gOf_in hO hy
  have a1 := hO.2.1 _ g1
  obtain ⟨q1, q2, q3⟩ := q.2 _ g1
  have e : ∀ i, (wG s).2.1 (gOf (wG s) y) + i ≤ (wG s).2.2.1 (gOf (wG s) y) + 1 → uSp s' (wB s').1 ((wG s).2.1 (gOf (wG s) y)) ((wG s).2.2.1 (gOf (wG s) y)) ((wG s).2.2.2 (gOf (wG s) y)) i = uSp s (wB s).1 ((wG s).2.1 (gOf (wG s) y)) ((wG s).2.2.1 (gOf (wG s) y)) ((wG s).2.2.2 (gOf (wG s) y)) i := by
    intro i
    induction i with
    | zero =>
      intro _
      rw [uSp, uSp, pS_congr (f := (wB s').1) (g := (wB s).1) _ (fun k h1 h2 => (w.1 k (by omega)).1), pS_congr (f := fun y => pEm s' y _) (g := fun y => pEm s y _) _ (fun k h1 h2 => cEm h hs (by omega))]
    | succ i ih =>
      intro hi
      rw [uSp, uSp, ih (by omega)]
      unfold pLo
      rw [cEm h hs (by omega), cEm h hs (by omega)]
  unfold wU
  rw [cGO h hs, q1, q2, q3]
  unfold uUs pLo
  rw [e _ (by omega), cEm h hs (by omega), cEm h hs (by omega)]
theorem cBK {s s' : Nat → Int} (h : sQ s s') (hs : pRg s) {y : Nat} (hy : y < (s 0).toNat) : wBk s' (wB s').1 (wG s') y = wBk s (wB s).1 (wG s) y := by
  have h5 := hs.2.1
  have w := cWB h hs
  have hO : gOk (s 0).toNat (wG s) := wGr_ok s (wB s)
  have ⟨g1, g2, g3⟩ := gOf_in hO hy
  unfold wBk
  rw [cGO h hs, ((cWG h hs).2 _ g1).1]
  rw [pS_congr (f := fun k => (wB s').1 k - wU s' (wB s').1 (wG s') k) (g := fun k => (wB s).1 k - wU s (wB s).1 (wG s) k) _ (fun k h1 h2 => by
    (try dsimp only)
    rw [(w.1 k (by omega)).1, cWU h hs (by omega)])]
theorem cLK {s s' : Nat → Int} (h : sQ s s') (hs : pRg s) {g : Nat} (hg : g < (wG s).1) : wLk s' (wB s').1 (wG s') g = wLk s (wB s).1 (wG s) g := by
  have h5 := hs.2.1
  have w := cWB h hs
  have hO : gOk (s 0).toNat (wG s) := wGr_ok s (wB s)
  have a1 := hO.2.1 g hg
  unfold wLk
  rw [((cWG h hs).2 _ hg).1, ((cWG h hs).2 _ hg).2.1]
  rw [pS_congr (f := fun k => (wB s').1 k - wU s' (wB s').1 (wG s') k) (g := fun k => (wB s).1 k - wU s (wB s).1 (wG s) k) _ (fun k h1 h2 => by
    (try dsimp only)
    rw [(w.1 k (by omega)).1, cWU h hs (by omega)])]
theorem cDN {s s' : Nat → Int} (h : sQ s s') (hs : pRg s) {m : Nat} (hm : (m : Int) < s 11) : wDv s' m = wDv s m := by
  have h5 := hs.2.1
  have h11 := hs.2.2.1
  have ho := hs.2.2.2.1 m hm
  have ho2 := hs.1 (12 + m) (by omega)
  unfold wDv wDn
  rw [h (12 + m) (by omega), h 11 (by omega), h (6 + (s (12 + m)).toNat) (by omega), h (32 + m) (by omega), cWU h hs (by omega)]
  rw [pS_congr (f := fun o => if s' (12 + o) = s (12 + m) ∧ isA s' o m then s' (32 + o) else 0) (g := fun o => if s (12 + o) = s (12 + m) ∧ isA s o m then s (32 + o) else 0) _ (fun k h1 h2 => by
    (try dsimp only)
    unfold isA
    rw [h (12 + k) (by omega), h (32 + k) (by omega), h (22 + k) (by omega), h (22 + m) (by omega)])]
theorem cSH {s s' : Nat → Int} (h : sQ s s') (hs : pRg s) : wSh s' = wSh s := by
  unfold wSh
  rw [(cWG h hs).1]
  exact pS_congr _ (fun k h1 h2 => cLK h hs (by omega))
theorem cTT {s s' : Nat → Int} (h : sQ s s') (hs : pRg s) : wTt s' = wTt s := by
  have h11 := hs.2.2.1
  have h110 := hs.1 11 (by omega)
  unfold wTt
  rw [cSH h hs, h 11 (by omega)]
  have key : ∀ n, n ≤ (s 11).toNat → tt s' (wDv s') (wSh s) n = tt s (wDv s) (wSh s) n := by
    intro n
    induction n with
    | zero => intro _; rw [tt, tt]
    | succ n ih => intro hn; rw [tt, tt, ih (by omega), cDN h hs (by omega), h (22 + n) (by omega)]
  exact key _ (Nat.le_refl _)
theorem cFL {s s' : Nat → Int} (h : sQ s s') (hs : pRg s) {i j : Nat} (hj : j < (s 0).toNat) (hi : i < 5) : wFl s' (wB s').1 (wG s') i j = wFl s (wB s).1 (wG s) i j := by
  have h5 := hs.2.1
  have w := cWB h hs
  have hO : gOk (s 0).toNat (wG s) := wGr_ok s (wB s)
  have hf : ∀ j, j < (s 0).toNat → (wG s').2.1 (gOf (wG s') j) = (wG s).2.1 (gOf (wG s) j) := fun j hj => by
    have ⟨g1, _, _⟩ := gOf_in hO hj
    rw [cGO h hs, ((cWG h hs).2 _ g1).1]
  have hW : ∀ (f f' : Nat → Int) (a : Nat) (w : Int) (n : Nat), (∀ k, k < n → f' (a + k) = f (a + k)) → fWn f' a w n = fWn f a w n := by
    intro f f' a w n
    induction n with
    | zero => intro _; rfl
    | succ n ih => intro hk; rw [fWn, fWn, ih (fun k hk2 => hk k (by omega)), hk n (by omega)]
  have hF : ∀ j, j < (s 0).toNat → (∀ i, i < 5 → fLf (fun j => (wG s').2.1 (gOf (wG s') j)) (wU s' (wB s').1 (wG s')) (wB s').1 j i = fLf (fun j => (wG s).2.1 (gOf (wG s) j)) (wU s (wB s).1 (wG s)) (wB s).1 j i) → ∀ i, i < 5 → fFl (fun j => (wG s').2.1 (gOf (wG s') j)) (wU s' (wB s').1 (wG s')) (wB s').1 i j = fFl (fun j => (wG s).2.1 (gOf (wG s) j)) (wU s (wB s).1 (wG s)) (wB s).1 i j := by
    intro j hj hL i hi
    rw [fFl_e (fst := fun j => (wG s').2.1 (gOf (wG s') j)) (a := (wG s).2.1 (gOf (wG s) j)) (hf j hj), fFl_e (fst := fun j => (wG s).2.1 (gOf (wG s) j)) (a := (wG s).2.1 (gOf (wG s) j)) rfl, cWU h hs hj]
    by_cases e : (wG s).2.1 (gOf (wG s) j) ≤ i ∧ i ≤ j
    · rw [if_pos e, if_pos e, hL i hi, hW _ _ _ _ _ (fun k hk => hL _ (by omega))]
    · rw [if_neg e, if_neg e]
  have hL : ∀ j, j ≤ (s 0).toNat → ∀ i, i < 5 → fLf (fun j => (wG s').2.1 (gOf (wG s') j)) (wU s' (wB s').1 (wG s')) (wB s').1 j i = fLf (fun j => (wG s).2.1 (gOf (wG s) j)) (wU s (wB s).1 (wG s)) (wB s).1 j i := by
    intro j
    induction j with
    | zero => intro _ i hi; exact (w.1 i hi).1
    | succ j ih =>
      intro hj i hi
      rw [fLf_e (fst := fun j => (wG s').2.1 (gOf (wG s') j)) (a := (wG s).2.1 (gOf (wG s) j)) (hf j (by omega)), fLf_e (fst := fun j => (wG s).2.1 (gOf (wG s) j)) (a := (wG s).2.1 (gOf (wG s) j)) rfl]
      rw [hF j (by omega) (ih (by omega)) i hi, ih (by omega) i hi]
  exact hF j hj (hL j (by omega)) i hi
theorem mWk_cg {s s' : Nat → Int} (h : sQ s s') (hs : pRg s) {M : Nat → Nat → Int} (hM : mWk M s (wB s) (wG s)) : mWk M s' (wB s') (wG s') := by
  obtain ⟨⟨g1, g2⟩, hr, hp, hu, hl, hd, hv⟩ := hM
  have h5 := hs.2.1
  have w := cWB h hs
  have q := cWG h hs
  have e0 := h 0 (by omega)
  refine ⟨⟨by rw [q.1]; exact g1, fun g hg => ?_⟩, by rw [w.2]; exact hr, fun y hy => ?_, fun y hy => ?_, fun g hg => ?_, fun m hm => ?_, fun i j hi hj => ?_⟩
  · have hg : g < (wG s).1 := by rw [← q.1]; exact hg
    rw [(q.2 g hg).1, (q.2 g hg).2.1, (q.2 g hg).2.2]; exact g2 g hg
  · rw [(w.1 y hy).1, (w.1 y hy).2]; exact hp y hy
  · rw [e0] at hy
    rw [cGO h hs, cWU h hs hy, cBK h hs hy]; exact hu y hy
  · have hg : g < (wG s).1 := by rw [← q.1]; exact hg
    rw [cLK h hs hg]; exact hl g hg
  · rw [h 11 (by omega)] at hm
    have := cDN h hs hm
    unfold wDv at this
    rw [this]; exact hd m hm
  · rw [hv i j hi hj, e0]
    by_cases e : j < (s 0).toNat
    · rw [if_pos e, if_pos e, cFL h hs e hi]
    · rw [if_neg e, if_neg e]
theorem cPV_cg {s s' : Nat → Int} (h : sQ s s') (hs : pRg s) {b : Nat} {M : Nat → Nat → Int} {N : Nat → Nat → Int64} (hM : cPV b M N s) : cPV b M N s' := by
  obtain ⟨⟨p1, p2, p3, p4, p5, p6, ⟨p7, p7b⟩, p8⟩, hu, hl, hd, hv, hn⟩ := hM
  have h5 := hs.2.1
  have w := cWB h hs
  have q := cWG h hs
  have e0 := h 0 (by omega)
  refine ⟨⟨by rw [e0]; exact p1, by rw [w.2]; exact p2, by rw [w.2]; exact p3, by rw [w.2]; exact p4, ?_, fun y hy => ?_, ⟨by rw [show (wGr s' (wB s')).1 = _ from q.1]; exact p7, fun g hg => ?_⟩, fun k hk p hp => ?_⟩, fun y hy => ?_, fun g hg => ?_, fun m hm => ?_, fun i j hij hj => ?_, ?_⟩
  · rw [e0, pS_congr (f := (wB s').2.1) (g := (wB s).2.1) _ (fun k h1 h2 => (w.1 k (by omega)).2)]; exact p5
  · rw [e0] at hy
    rw [(w.1 y (by omega)).1, (w.1 y (by omega)).2]; exact p6 y hy
  · have hg : g < (wG s).1 := by rw [← q.1]; exact hg
    have q2 := q.2 g hg
    rw [show (wGr s' (wB s')).2.1 g = _ from q2.1, show (wGr s' (wB s')).2.2.1 g = _ from q2.2.1, show (wGr s' (wB s')).2.2.2 g = _ from q2.2.2]; exact p7b g hg
  · rw [e0] at hk
    rw [pS_congr (f := pLo s' p) (g := pLo s p) _ (fun i h1 h2 => cEm h hs (by omega))]; exact p8 k hk p hp
  · rw [e0] at hy
    rw [cGO h hs, cWU h hs hy, cBK h hs hy]; exact hu y hy
  · have hg : g < (wG s).1 := by rw [← q.1]; exact hg
    rw [cLK h hs hg]; exact hl g hg
  · rw [h 11 (by omega)] at hm
    rw [cDN h hs hm]; exact hd m hm
  · rw [e0] at hj
    rw [cFL h hs hj (by omega)]; exact hv i j hij hj
  · rw [cTT h hs]; exact hn
