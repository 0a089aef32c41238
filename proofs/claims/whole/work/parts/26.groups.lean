-- groups: joined until no price rises (both sides are tied to gDn); the model's groups
abbrev GS : Type := Nat × (Nat → Nat) × (Nat → Nat) × (Nat → Nat)
def gRel (sz : Int) (f l p : Nat → Int) (G : GS) : Prop := sz = G.1 ∧ ∀ g, g < G.1 → f g = G.2.1 g ∧ l g = G.2.2.1 g ∧ p g = G.2.2.2 g
def gOk (Y : Nat) (G : GS) : Prop := G.1 ≤ Y ∧ (∀ g, g < G.1 → G.2.1 g ≤ G.2.2.1 g ∧ G.2.2.1 g < Y) ∧ (∀ g, g + 1 < G.1 → G.2.1 (g + 1) = G.2.2.1 g + 1) ∧ (0 < G.1 → G.2.1 0 = 0 ∧ G.2.2.1 (G.1 - 1) + 1 = Y) ∧ (0 < Y → 0 < G.1)
def gPv (s perm : Nat → Int) (a l : Nat) : Nat := pPr s a (l + 1 - a) (pS perm a (l + 1 - a))
def gJ (s perm : Nat → Int) (g : Nat) (G : GS) : GS := (G.1 - 1, fun i => if i ≤ g then G.2.1 i else G.2.1 (i + 1), fun i => if i < g then G.2.2.1 i else G.2.2.1 (i + 1), fun i => if i < g then G.2.2.2 i else if i = g then gPv s perm (G.2.1 g) (G.2.2.1 (g + 1)) else G.2.2.2 (i + 1))
def gR (G : GS) : Nat := pFd (fun g => G.2.2.2 g < G.2.2.2 (g + 1)) (fun _ => inferInstance) (G.1 - 1) 0
def gDn (s perm : Nat → Int) : Nat → GS → GS
  | 0, G => G
  | k + 1, G => if gR G + 1 < G.1 then gDn s perm k (gJ s perm (gR G) G) else G
def g0 (s perm : Nat → Int) (Y : Nat) : GS := (Y, fun i => i, fun i => i, fun i => gPv s perm i i)
def gF (s perm : Nat → Int) (Y : Nat) : GS := gDn s perm Y (g0 s perm Y)
theorem gJ_ok {s perm : Nat → Int} {Y g : Nat} {G : GS} (h : gOk Y G) (hg : g + 1 < G.1) : gOk Y (gJ s perm g G) := by
  obtain ⟨h1, h2, h3, h4, h5⟩ := h
  refine ⟨?_, ?_, ?_, ?_, ?_⟩
  · show G.1 - 1 ≤ Y
    omega
  · intro i hi
    have hi : i < G.1 - 1 := hi
    show (if i ≤ g then G.2.1 i else G.2.1 (i + 1)) ≤ (if i < g then G.2.2.1 i else G.2.2.1 (i + 1)) ∧ (if i < g then G.2.2.1 i else G.2.2.1 (i + 1)) < Y
    have a1 := h2 i (by omega)
    have a2 := h2 (i + 1) (by omega)
    have a3 := h3 i (by omega)
    by_cases e : i < g
    · rw [if_pos (Nat.le_of_lt e), if_pos e]; exact a1
    · rw [if_neg e]
      by_cases e2 : i ≤ g
      · rw [if_pos e2]; omega
      · rw [if_neg e2]; exact a2
  · intro i hi
    have hi : i + 1 < G.1 - 1 := hi
    show (if i + 1 ≤ g then G.2.1 (i + 1) else G.2.1 (i + 1 + 1)) = (if i < g then G.2.2.1 i else G.2.2.1 (i + 1)) + 1
    by_cases e : i < g
    · rw [if_pos (by omega), if_pos e]; exact h3 i (by omega)
    · rw [if_neg (by omega), if_neg e]; exact h3 (i + 1) (by omega)
  · intro hp
    have hp : 0 < G.1 - 1 := hp
    have b := h4 (by omega)
    refine ⟨?_, ?_⟩
    · show (if 0 ≤ g then G.2.1 0 else G.2.1 (0 + 1)) = 0
      rw [if_pos (Nat.zero_le _)]; exact b.1
    · show (if G.1 - 1 - 1 < g then G.2.2.1 (G.1 - 1 - 1) else G.2.2.1 (G.1 - 1 - 1 + 1)) + 1 = Y
      rw [if_neg (by omega)]
      have : G.1 - 1 - 1 + 1 = G.1 - 1 := by omega
      rw [this]; exact b.2
  · intro _
    show 0 < G.1 - 1
    omega
theorem g0_ok (s perm : Nat → Int) (Y : Nat) : gOk Y (g0 s perm Y) := by
  refine ⟨Nat.le_refl _, fun g hg => ⟨Nat.le_refl _, hg⟩, fun g _ => rfl, fun h => ⟨rfl, ?_⟩, fun h => h⟩
  have h : 0 < Y := h
  show Y - 1 + 1 = Y
  omega
theorem gR_eq {G : GS} {g : Nat} (hg : g + 1 < G.1) (h : G.2.2.2 g < G.2.2.2 (g + 1)) (hb : ∀ j, j < g → ¬ G.2.2.2 j < G.2.2.2 (j + 1)) : gR G = g := pFd_eq _ 0 g (by omega) (Nat.zero_le _) h (fun j _ hj => hb j hj)
theorem gR_no {G : GS} (hb : ∀ j, j + 1 < G.1 → ¬ G.2.2.2 j < G.2.2.2 (j + 1)) : gR G = G.1 - 1 := by
  unfold gR
  rw [pFd_no _ 0 (fun j _ hj => hb j (by omega))]
  omega
theorem gDn_join {s perm : Nat → Int} {G : GS} {g : Nat} (hg : g + 1 < G.1) (h : G.2.2.2 g < G.2.2.2 (g + 1)) (hb : ∀ j, j < g → ¬ G.2.2.2 j < G.2.2.2 (j + 1)) : gDn s perm (gJ s perm g G).1 (gJ s perm g G) = gDn s perm G.1 G := by
  have e := gR_eq hg h hb
  have e1 : G.1 = (gJ s perm g G).1 + 1 := by show G.1 = G.1 - 1 + 1; omega
  rw [e1, gDn, e, if_pos hg]
theorem gDn_no {s perm : Nat → Int} {G : GS} (hb : ∀ j, j + 1 < G.1 → ¬ G.2.2.2 j < G.2.2.2 (j + 1)) : ∀ k, gDn s perm k G = G
  | 0 => rfl
  | k + 1 => by rw [gDn, gR_no hb, if_neg (by omega)]
theorem gDn_ok {s perm : Nat → Int} {Y : Nat} : ∀ (k : Nat) {G : GS}, gOk Y G → gOk Y (gDn s perm k G)
  | 0, _, h => h
  | k + 1, G, h => by
    rw [gDn]
    by_cases e : gR G + 1 < G.1
    · rw [if_pos e]; exact gDn_ok k (gJ_ok h e)
    · rw [if_neg e]; exact h
theorem gF_ok (s perm : Nat → Int) (Y : Nat) : gOk Y (gF s perm Y) := gDn_ok Y (g0_ok s perm Y)
theorem st_app {α : Type} (M : Nat → Nat → α) (l2 : List (Nat × (Nat → α))) : ∀ (l : List (Nat × (Nat → α))), st M (l ++ l2) = st (st M l2) l
  | [] => rfl
  | (c, f) :: l => by funext x; show st M ((c, f) :: (l ++ l2)) x = _; rw [st_c, st_c, st_app M l2 l]
theorem st_self {α : Type} (M : Nat → Nat → α) : ∀ (cs : List Nat), st M (cs.map (fun c => (c, M c))) = M
  | [] => rfl
  | c :: cs => by
    funext x
    show st M ((c, M c) :: cs.map (fun c => (c, M c))) x = _
    rw [st_c, st_self M cs]
    by_cases e : x = c
    · rw [if_pos e, e]
    · rw [if_neg e]
theorem st_pad {α : Type} {M : Nat → Nat → α} {l l' : List (Nat × (Nat → α))} (cs : List Nat) (h : l ++ cs.map (fun c => (c, M c)) = l') : st M l = st M l' := by rw [← h, st_app, st_self]
theorem tw_pad {K : mj_C} {d m pc : Nat} {L : mj_L} {S : List mj_V} {h : List mj_S} {M : Nat → Nat → Int} {N : Nat → Nat → Int64} {Q : Option mj_V → mj_Z → Prop} {l l' : List (Nat × (Nat → Int))} (cs : List Nat) (hp : l ++ cs.map (fun c => (c, M c)) = l') (kk : mj_T K d m pc L S (h, st M l', N) Q) : mj_T K d m pc L S (h, st M l, N) Q := by rw [st_pad cs hp]; exact kk
theorem x_122 {K : mj_C} {d : Nat} {M : Nat → Nat → Int} {N : Nat → Nat → Int64} (hD : 4 ≤ d) (hs : pRg (M 127)) (G : GS) (Y : Nat) (hY : Y ≤ 5) (hO : gOk Y G) (hG : gRel (M 126 17) (M 136) (M 137) (M 138) G) (g : Nat) (hg : g + 1 < G.1) (perm : Nat → Int) (hP : ∀ y, y < Y → M 130 y = perm y) (hB : ∀ y, y < Y → 0 ≤ perm y ∧ perm y ≤ 1000) : mj_X K d 122 [.inr (.inr (.inl 126)), .inl ((g : Nat) : Int)] (mj_Sh, M, N) (fun r Z => r = none ∧ ∃ f1 f2 f3, Z = (mj_Sh, st M [(137, f2), (126, pU (M 126) 17 ((G.1 - 1 : Nat) : Int)), (136, f1), (138, f3)], N) ∧ gRel ((G.1 - 1 : Nat) : Int) f1 f2 f3 (gJ (M 127) perm g G)) := by
  show mj_T K d 122 0 [some (.inr (.inr (.inl 126))), some (.inl ((g : Nat) : Int)), none] [] (mj_Sh, M, N) _
  obtain ⟨hO1, hO2, hO3, hO4, hO5⟩ := hO
  have a1 := hO2 g (by omega)
  have a2 := hO2 (g + 1) (by omega)
  have a3 := hO3 g (by omega)
  have key : ∀ i : Nat, i ≤ (G.1 - 2 - g) → ∀ f1 f2 f3 : Nat → Int, (∀ j, j < G.1 → f1 j = if g < j ∧ j < g + 1 + i then ((G.2.1 (j + 1)) : Int) else (G.2.1 j)) → (∀ j, j < G.1 → f2 j = if j = g then ((G.2.2.1 (g + 1)) : Int) else if g < j ∧ j < g + 1 + i then (G.2.2.1 (j + 1)) else (G.2.2.1 j)) → (∀ j, j < G.1 → f3 j = if g < j ∧ j < g + 1 + i then ((G.2.2.2 (j + 1)) : Int) else (G.2.2.2 j)) → mj_T K d 122 28 [some (.inr (.inr (.inl 126))), some (.inl ((g : Nat) : Int)), some (.inl (((g + 1 + i) : Nat) : Int))] [] (mj_Sh, (st M [(137, f2), (126, (pU (M 126) 17 ((G.1 - 1 : Nat) : Int))), (136, f1), (138, f3)]), N) (fun r Z => r = none ∧ ∃ f1 f2 f3, Z = (mj_Sh, st M [(137, f2), (126, pU (M 126) 17 ((G.1 - 1 : Nat) : Int)), (136, f1), (138, f3)], N) ∧ gRel ((G.1 - 1 : Nat) : Int) f1 f2 f3 (gJ (M 127) perm g G)) := by
    refine up_to (G.1 - 2 - g) ?_ ?_
    · show ∀ f1 f2 f3 : Nat → Int, (∀ j, j < G.1 → f1 j = if g < j ∧ j < g + 1 + (G.1 - 2 - g) then ((G.2.1 (j + 1)) : Int) else (G.2.1 j)) → (∀ j, j < G.1 → f2 j = if j = g then ((G.2.2.1 (g + 1)) : Int) else if g < j ∧ j < g + 1 + (G.1 - 2 - g) then (G.2.2.1 (j + 1)) else (G.2.2.1 j)) → (∀ j, j < G.1 → f3 j = if g < j ∧ j < g + 1 + (G.1 - 2 - g) then ((G.2.2.2 (j + 1)) : Int) else (G.2.2.2 j)) → mj_T K d 122 28 [some (.inr (.inr (.inl 126))), some (.inl ((g : Nat) : Int)), some (.inl (((g + 1 + (G.1 - 2 - g)) : Nat) : Int))] [] (mj_Sh, (st M [(137, f2), (126, (pU (M 126) 17 ((G.1 - 1 : Nat) : Int))), (136, f1), (138, f3)]), N) (fun r Z => r = none ∧ ∃ f1 f2 f3, Z = (mj_Sh, st M [(137, f2), (126, pU (M 126) 17 ((G.1 - 1 : Nat) : Int)), (136, f1), (138, f3)], N) ∧ gRel ((G.1 - 1 : Nat) : Int) f1 f2 f3 (gJ (M 127) perm g G))
      intro f1 f2 f3 c1 c2 c3
      refine tw_iload k122_28 rfl ?_
      refine tw_aload k122_29 rfl ?_
      refine tw_geti k122_30 f126_17 rfl (v := (((G.1 - 1) : Nat) : Int)) (show (pU (M 126) 17 ((G.1 - 1 : Nat) : Int)) 17 = _ from pU_eq) ?_
      refine tw_cgeT k122_33 (by omega) ?_
      refine tw_aload k122_84 rfl ?_
      refine tw_iload k122_85 rfl ?_
      refine tw_call (by omega) (S' := []) (as := [.inr (.inr (.inl 126)), .inl ((g : Nat) : Int)]) k122_86 (x_121 (M := (st M [(137, f2), (126, (pU (M 126) 17 ((G.1 - 1 : Nat) : Int))), (136, f1), (138, f3)])) (N := N) (by omega) hs g (G.2.1 g) (G.2.2.1 (g + 1)) (by omega) (by show f1 g = _; rw [c1 _ (by omega), if_neg (by omega)]) (by show f2 g = _; rw [c2 _ (by omega), if_pos rfl]) (by omega) (by omega) perm (fun y _ _ => hP y (by omega)) (fun y _ _ => hB y (by omega))) rfl rfl rfl rfl rfl (fun r86 Z86 hq86 => ?_)
      obtain ⟨rfl, rfl⟩ := hq86
      refine tw_as (S := []) (M := (st M [(137, f2), (126, (pU (M 126) 17 ((G.1 - 1 : Nat) : Int))), (136, f1), (138, (pU f3 g ((pPr (M 127) (G.2.1 g) ((G.2.2.1 (g + 1)) + 1 - (G.2.1 g)) (pS perm (G.2.1 g) ((G.2.2.1 (g + 1)) + 1 - (G.2.1 g))) : Nat) : Int)))])) (N := N) (by rw [st_mg]; rfl) rfl ?_
      exact tw_rv k122_89 (⟨rfl, f1, f2, (pU f3 g ((pPr (M 127) (G.2.1 g) ((G.2.2.1 (g + 1)) + 1 - (G.2.1 g)) (pS perm (G.2.1 g) ((G.2.2.1 (g + 1)) + 1 - (G.2.1 g))) : Nat) : Int)), rfl, rfl, fun j hj => by
        have hj : j < G.1 - 1 := hj
        have d1 := c1 j (by omega)
        have d2 := c2 j (by omega)
        have d3 := c3 j (by omega)
        refine ⟨?_, ?_, ?_⟩
        · rw [d1]; show _ = (((if j ≤ g then (G.2.1 j) else (G.2.1 (j + 1))) : Nat) : Int)
          by_cases e : j ≤ g
          · rw [if_neg (by omega), if_pos e]
          · rw [if_pos (by omega), if_neg e]
        · rw [d2]; show _ = (((if j < g then (G.2.2.1 j) else (G.2.2.1 (j + 1))) : Nat) : Int)
          by_cases e : j = g
          · subst e; rw [if_pos rfl, if_neg (by omega)]
          · rw [if_neg e]
            by_cases e2 : j < g
            · rw [if_neg (by omega), if_pos e2]
            · rw [if_pos (by omega), if_neg e2]
        · show _ = (((if j < g then (G.2.2.2 j) else if j = g then gPv (M 127) perm (G.2.1 g) (G.2.2.1 (g + 1)) else (G.2.2.2 (j + 1))) : Nat) : Int)
          by_cases e : j = g
          · subst e; rw [pU_eq, if_neg (by omega), if_pos rfl]; rfl
          · rw [pU_ne e, d3]
            by_cases e2 : j < g
            · rw [if_neg (by omega), if_pos e2]
            · rw [if_pos (by omega), if_neg e2, if_neg e]⟩)
    · intro i hmi ih
      have ih : ∀ f1 f2 f3 : Nat → Int, (∀ j, j < G.1 → f1 j = if g < j ∧ j < g + 1 + (i + 1) then ((G.2.1 (j + 1)) : Int) else (G.2.1 j)) → (∀ j, j < G.1 → f2 j = if j = g then ((G.2.2.1 (g + 1)) : Int) else if g < j ∧ j < g + 1 + (i + 1) then (G.2.2.1 (j + 1)) else (G.2.2.1 j)) → (∀ j, j < G.1 → f3 j = if g < j ∧ j < g + 1 + (i + 1) then ((G.2.2.2 (j + 1)) : Int) else (G.2.2.2 j)) → mj_T K d 122 28 [some (.inr (.inr (.inl 126))), some (.inl ((g : Nat) : Int)), some (.inl (((g + 1 + (i + 1)) : Nat) : Int))] [] (mj_Sh, (st M [(137, f2), (126, (pU (M 126) 17 ((G.1 - 1 : Nat) : Int))), (136, f1), (138, f3)]), N) (fun r Z => r = none ∧ ∃ f1 f2 f3, Z = (mj_Sh, st M [(137, f2), (126, pU (M 126) 17 ((G.1 - 1 : Nat) : Int)), (136, f1), (138, f3)], N) ∧ gRel ((G.1 - 1 : Nat) : Int) f1 f2 f3 (gJ (M 127) perm g G)) := ih
      show ∀ f1 f2 f3 : Nat → Int, (∀ j, j < G.1 → f1 j = if g < j ∧ j < g + 1 + i then ((G.2.1 (j + 1)) : Int) else (G.2.1 j)) → (∀ j, j < G.1 → f2 j = if j = g then ((G.2.2.1 (g + 1)) : Int) else if g < j ∧ j < g + 1 + i then (G.2.2.1 (j + 1)) else (G.2.2.1 j)) → (∀ j, j < G.1 → f3 j = if g < j ∧ j < g + 1 + i then ((G.2.2.2 (j + 1)) : Int) else (G.2.2.2 j)) → mj_T K d 122 28 [some (.inr (.inr (.inl 126))), some (.inl ((g : Nat) : Int)), some (.inl (((g + 1 + i) : Nat) : Int))] [] (mj_Sh, (st M [(137, f2), (126, (pU (M 126) 17 ((G.1 - 1 : Nat) : Int))), (136, f1), (138, f3)]), N) (fun r Z => r = none ∧ ∃ f1 f2 f3, Z = (mj_Sh, st M [(137, f2), (126, pU (M 126) 17 ((G.1 - 1 : Nat) : Int)), (136, f1), (138, f3)], N) ∧ gRel ((G.1 - 1 : Nat) : Int) f1 f2 f3 (gJ (M 127) perm g G))
      intro f1 f2 f3 c1 c2 c3
      refine tw_iload k122_28 rfl ?_
      refine tw_aload k122_29 rfl ?_
      refine tw_geti k122_30 f126_17 rfl (v := (((G.1 - 1) : Nat) : Int)) (show (pU (M 126) 17 ((G.1 - 1 : Nat) : Int)) 17 = _ from pU_eq) ?_
      refine tw_cgeF k122_33 (by omega) ?_
      refine tw_aload k122_36 rfl ?_
      refine tw_getr k122_37 f126_10 ?_
      refine tw_iload k122_40 rfl ?_
      refine tw_aload k122_41 rfl ?_
      refine tw_getr k122_42 f126_10 ?_
      refine tw_iload k122_45 rfl ?_
      refine tw_const k122_46 ?_
      refine tw_iadd k122_47 (v := (((g + 1 + i) + 1 : Nat) : Int)) rfl (by omega) ?_
      refine tw_iald (j := (g + 1 + i) + 1) (v := (((G.2.1 ((g + 1 + i) + 1)) : Nat) : Int)) k122_48 al136 rfl (by omega) (show f1 ((g + 1 + i) + 1) = _ from (by rw [c1 _ (by omega), if_neg (by omega)])) ?_
      refine tw_iast (M := M) (N := N) (l := [(137, f2), (126, (pU (M 126) 17 ((G.1 - 1 : Nat) : Int))), (136, f1), (138, f3)]) (l' := [(137, f2), (126, (pU (M 126) 17 ((G.1 - 1 : Nat) : Int))), (136, (pU f1 (g + 1 + i) (((G.2.1 ((g + 1 + i) + 1)) : Nat) : Int))), (138, f3)]) (j := (g + 1 + i)) k122_49 al136 rfl (by omega) rfl ?_
      refine tw_aload k122_50 rfl ?_
      refine tw_getr k122_51 f126_11 ?_
      refine tw_iload k122_54 rfl ?_
      refine tw_aload k122_55 rfl ?_
      refine tw_getr k122_56 f126_11 ?_
      refine tw_iload k122_59 rfl ?_
      refine tw_const k122_60 ?_
      refine tw_iadd k122_61 (v := (((g + 1 + i) + 1 : Nat) : Int)) rfl (by omega) ?_
      refine tw_iald (j := (g + 1 + i) + 1) (v := (((G.2.2.1 ((g + 1 + i) + 1)) : Nat) : Int)) k122_62 al137 rfl (by omega) (show f2 ((g + 1 + i) + 1) = _ from (by rw [c2 _ (by omega), if_neg (by omega), if_neg (by omega)])) ?_
      refine tw_iast (M := M) (N := N) (l := [(137, f2), (126, (pU (M 126) 17 ((G.1 - 1 : Nat) : Int))), (136, (pU f1 (g + 1 + i) (((G.2.1 ((g + 1 + i) + 1)) : Nat) : Int))), (138, f3)]) (l' := [(137, (pU f2 (g + 1 + i) (((G.2.2.1 ((g + 1 + i) + 1)) : Nat) : Int))), (126, (pU (M 126) 17 ((G.1 - 1 : Nat) : Int))), (136, (pU f1 (g + 1 + i) (((G.2.1 ((g + 1 + i) + 1)) : Nat) : Int))), (138, f3)]) (j := (g + 1 + i)) k122_63 al137 rfl (by omega) rfl ?_
      refine tw_aload k122_64 rfl ?_
      refine tw_getr k122_65 f126_12 ?_
      refine tw_iload k122_68 rfl ?_
      refine tw_aload k122_69 rfl ?_
      refine tw_getr k122_70 f126_12 ?_
      refine tw_iload k122_73 rfl ?_
      refine tw_const k122_74 ?_
      refine tw_iadd k122_75 (v := (((g + 1 + i) + 1 : Nat) : Int)) rfl (by omega) ?_
      refine tw_iald (j := (g + 1 + i) + 1) (v := (((G.2.2.2 ((g + 1 + i) + 1)) : Nat) : Int)) k122_76 al138 rfl (by omega) (show f3 ((g + 1 + i) + 1) = _ from (by rw [c3 _ (by omega), if_neg (by omega)])) ?_
      refine tw_iast (M := M) (N := N) (l := [(137, (pU f2 (g + 1 + i) (((G.2.2.1 ((g + 1 + i) + 1)) : Nat) : Int))), (126, (pU (M 126) 17 ((G.1 - 1 : Nat) : Int))), (136, (pU f1 (g + 1 + i) (((G.2.1 ((g + 1 + i) + 1)) : Nat) : Int))), (138, f3)]) (l' := [(137, (pU f2 (g + 1 + i) (((G.2.2.1 ((g + 1 + i) + 1)) : Nat) : Int))), (126, (pU (M 126) 17 ((G.1 - 1 : Nat) : Int))), (136, (pU f1 (g + 1 + i) (((G.2.1 ((g + 1 + i) + 1)) : Nat) : Int))), (138, (pU f3 (g + 1 + i) (((G.2.2.2 ((g + 1 + i) + 1)) : Nat) : Int)))]) (j := (g + 1 + i)) k122_77 al138 rfl (by omega) rfl ?_
      refine tw_iinc k122_78 rfl (v := (((g + 1 + i) + 1 : Nat) : Int)) rfl (by omega) rfl (L' := [some (.inr (.inr (.inl 126))), some (.inl ((g : Nat) : Int)), some (.inl (((g + 1 + i) + 1 : Nat) : Int))]) rfl ?_
      refine tw_goto k122_81 ?_
      refine ih _ _ _ ?_ ?_ ?_
      · intro j hj
        by_cases e : j = g + 1 + i
        · subst e; rw [pU_eq, if_pos (by omega)]
        · rw [pU_ne e, c1 j hj]
          by_cases e2 : g < j ∧ j < g + 1 + i
          · rw [if_pos e2, if_pos (by omega)]
          · rw [if_neg e2, if_neg (by omega)]
      · intro j hj
        by_cases e : j = g + 1 + i
        · subst e; rw [pU_eq, if_neg (by omega), if_pos (by omega)]
        · rw [pU_ne e, c2 j hj]
          by_cases e1 : j = g
          · rw [if_pos e1, if_pos e1]
          · rw [if_neg e1, if_neg e1]
            by_cases e2 : g < j ∧ j < g + 1 + i
            · rw [if_pos e2, if_pos (by omega)]
            · rw [if_neg e2, if_neg (by omega)]
      · intro j hj
        by_cases e : j = g + 1 + i
        · subst e; rw [pU_eq, if_pos (by omega)]
        · rw [pU_ne e, c3 j hj]
          by_cases e2 : g < j ∧ j < g + 1 + i
          · rw [if_pos e2, if_pos (by omega)]
          · rw [if_neg e2, if_neg (by omega)]
  refine tw_aload k122_0 rfl ?_
  refine tw_getr k122_1 f126_11 ?_
  refine tw_iload k122_4 rfl ?_
  refine tw_aload k122_5 rfl ?_
  refine tw_getr k122_6 f126_11 ?_
  refine tw_iload k122_9 rfl ?_
  refine tw_const k122_10 ?_
  refine tw_iadd k122_11 (v := ((g + 1 : Nat) : Int)) rfl (by omega) ?_
  refine tw_iald (j := g + 1) (v := (((G.2.2.1 (g + 1)) : Nat) : Int)) k122_12 al137 rfl (by omega) (hG.2 (g + 1) (by omega)).2.1 ?_
  refine tw_iast (M := M) (N := N) (l := []) (l' := [(137, (pU (M 137) g (((G.2.2.1 (g + 1)) : Nat) : Int)))]) (j := g) k122_13 al137 rfl (by omega) rfl ?_
  refine tw_aload k122_14 rfl ?_
  refine tw_dupr k122_15 ?_
  refine tw_geti k122_16 f126_17 rfl (v := ((G.1 : Nat) : Int)) (show M 126 17 = _ from hG.1) ?_
  refine tw_const k122_19 ?_
  refine tw_isub k122_20 (v := (((G.1 - 1) : Nat) : Int)) (by omega) (by omega) ?_
  refine tw_puti (M := M) (N := N) (l := [(137, (pU (M 137) g (((G.2.2.1 (g + 1)) : Nat) : Int)))]) (l' := [(137, (pU (M 137) g (((G.2.2.1 (g + 1)) : Nat) : Int))), (126, (pU (M 126) 17 (((G.1 - 1) : Nat) : Int)))]) k122_21 f126_17 rfl ?_
  refine tw_iload k122_24 rfl ?_
  refine tw_const k122_25 ?_
  refine tw_iadd k122_26 (v := ((g + 1 : Nat) : Int)) rfl (by omega) ?_
  refine tw_istore k122_27 rfl (L' := [some (.inr (.inr (.inl 126))), some (.inl ((g : Nat) : Int)), some (.inl ((g + 1 : Nat) : Int))]) rfl ?_
  refine tw_pad (M := M) (N := N) (l := [(137, (pU (M 137) g (((G.2.2.1 (g + 1)) : Nat) : Int))), (126, (pU (M 126) 17 (((G.1 - 1) : Nat) : Int)))]) (l' := [(137, (pU (M 137) g (((G.2.2.1 (g + 1)) : Nat) : Int))), (126, (pU (M 126) 17 (((G.1 - 1) : Nat) : Int))), (136, M 136), (138, M 138)]) [136, 138] rfl ?_
  refine key 0 (by omega) _ _ _ ?_ ?_ ?_
  · intro j hj; rw [if_neg (by omega)]; exact (hG.2 j hj).1
  · intro j hj
    by_cases e : j = g
    · subst e; rw [pU_eq, if_pos rfl]
    · rw [pU_ne e, if_neg e, if_neg (by omega)]; exact (hG.2 j hj).2.1
  · intro j hj; rw [if_neg (by omega)]; exact (hG.2 j hj).2.2
