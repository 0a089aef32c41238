-- what is asked: the words, and the model's answers
def mW (M : Nat → Nat → Int) : Prop := pRg (M 127) ∧ mWk M (M 127) (wB (M 127)) (wG (M 127))
def wPr (s : Nat → Int) (y : Nat) : Int := (((wG s).2.2.2 (gOf (wG s) y) : Nat) : Int)
def mO (s : Nat → Int) (y : Int) : Int := pS (fun m => if s (12 + m) = y then 1 else 0) 0 (s 11).toNat
def qOf (s : Nat → Int) (y what : Int) : Int := if 0 ≤ y ∧ y < s 0 then (if what = 0 then s (1 + y.toNat) else if what = 1 then s (6 + y.toNat) else if what = 2 then (wB s).1 y.toNat else if what = 3 then ((gOf (wG s) y.toNat : Nat) : Int) else if what = 4 then wPr s y.toNat else if what = 5 then wU s (wB s).1 (wG s) y.toNat else if what = 6 then wBk s (wB s).1 (wG s) y.toNat else if what = 7 then (wB s).2.1 y.toNat else if what = 8 then mO s y else -1) else -1
def qAbout (s : Nat → Int) (m what : Int) : Int := if 0 ≤ m ∧ m < s 11 then (if what = 0 then s (12 + m.toNat) else if what = 1 then s (22 + m.toNat) else if what = 2 then s (32 + m.toNat) else if what = 3 then wDv s m.toNat else -1) else -1
def qAt (s : Nat → Int) (y p what : Int) : Int := if 0 ≤ y ∧ y < s 0 ∧ 0 ≤ what ∧ what ≤ 1 then (if 0 ≤ p ∧ p ≤ 20 then (if what = 0 then pEm s y.toNat (p.toNat : Int) else pLo s p.toNat y.toNat) else -2) else -1
def qGroup (s : Nat → Int) (g what : Int) : Int := if 0 ≤ g ∧ g < ((wG s).1 : Int) then (if what = 0 then (((wG s).2.1 g.toNat : Nat) : Int) else if what = 1 then (((wG s).2.2.1 g.toNat : Nat) : Int) else if what = 2 then (((wG s).2.2.2 g.toNat : Nat) : Int) else if what = 3 then gTot (wB s).1 (wG s) g.toNat else if what = 4 then wLk s (wB s).1 (wG s) g.toNat else if what = 5 then gTot (wU s (wB s).1 (wG s)) (wG s) g.toNat else -1) else -1
def nW (G : GS) (g : Nat) : Nat → Int
  | 0 => 1
  | h + 1 => if G.2.2.2 h = G.2.2.2 g then 0 else nW G g h
def uN (G : GS) : Int := pS (fun g => nW G g g) 0 G.1
theorem nW_01 {G : GS} {g : Nat} : ∀ h, nW G g h = 0 ∨ nW G g h = 1
  | 0 => Or.inr rfl
  | h + 1 => by rw [nW]; split; exact Or.inl rfl; exact nW_01 h
theorem nW_no {G : GS} {g k : Nat} (e : G.2.2.2 k = G.2.2.2 g) : ∀ h, k < h → nW G g h = 0
  | 0, hk => by omega
  | h + 1, hk => by
    rw [nW]
    by_cases e2 : G.2.2.2 h = G.2.2.2 g
    · rw [if_pos e2]
    · rw [if_neg e2]
      exact nW_no e h (by by_cases e3 : k = h; (subst e3; exact absurd e e2); omega)
theorem nW_ye {G : GS} {g : Nat} : ∀ h, (∀ k, k < h → ¬ G.2.2.2 k = G.2.2.2 g) → nW G g h = 1
  | 0, _ => rfl
  | h + 1, hk => by rw [nW, if_neg (hk h (by omega))]; exact nW_ye h (fun k hh => hk k (by omega))
def qTold (s : Nat → Int) (what : Int) : Int := if what = 0 then s 0 else if what = 1 then s 11 else if what = 2 then s 42 else if what = 3 then s 43 else if what = 4 then s 44 else if what = 5 then s 45 else if what = 6 then ((wG s).1 : Int) else if what = 7 then (wB s).2.2.1 else if what = 8 then (wB s).2.2.2.1 else if what = 9 then (wB s).2.2.2.2 else if what = 10 then pS (wB s).2.1 0 (s 0).toNat else if what = 11 then wSh s else if what = 12 then uN (wG s) else -1
def qAlone (s : Nat → Int) (y : Int) : Int := if 0 ≤ y ∧ y < s 0 then ((pPr s y.toNat (y.toNat + 1 - y.toNat) (s (1 + y.toNat)) : Nat) : Int) else -1
def qWay (s : Nat → Int) (i j : Int) : Int := if (0 ≤ i ∧ i < s 0) ∧ 0 ≤ j ∧ j < s 0 then wFl s (wB s).1 (wG s) i.toNat j.toNat else -1
def fcI (f : Nat → Nat → Int) (j n : Nat) : Int := pS (fun i => if f i j = 0 then 0 else 1) 0 n
def fcJ (f : Nat → Nat → Int) (n : Nat) : Int := pS (fun j => fcI f j (j + 1)) 0 n
def fkJ (f : Nat → Nat → Int) (Y : Nat) (k : Int) : Nat := pFd (fun j => k < fcJ f (j + 1)) (fun _ => inferInstance) Y 0
def fkI (f : Nat → Nat → Int) (j : Nat) (k : Int) : Nat := pFd (fun i => k < fcJ f j + fcI f j (i + 1)) (fun _ => inferInstance) (j + 1) 0
def fPt (f : Nat → Nat → Int) (Y : Nat) (k what : Int) : Int := if fkJ f Y k < Y then (if what = 0 then ((fkI f (fkJ f Y k) k : Nat) : Int) else if what = 1 then ((fkJ f Y k : Nat) : Int) else f (fkI f (fkJ f Y k) k) (fkJ f Y k)) else -1
def qWays (s : Nat → Int) (k what : Int) : Int := if k = -1 then fcJ (wFl s (wB s).1 (wG s)) (s 0).toNat else if 0 ≤ k ∧ 0 ≤ what ∧ what ≤ 2 then fPt (wFl s (wB s).1 (wG s)) (s 0).toNat k what else -1
abbrev rkA (s dn : Nat → Int) (a b : Nat) : Prop := s (32 + b) - dn b < s (32 + a) - dn a ∨ s (32 + a) - dn a = s (32 + b) - dn b ∧ (s (22 + a) < s (22 + b) ∨ s (22 + a) = s (22 + b) ∧ b < a)
def rkN (s dn : Nat → Int) (m : Nat) : Int := pS (fun o => if rkA s dn o m then 1 else 0) 0 (s 11).toNat
def qRank (s : Nat → Int) (k : Int) : Int := if pFd (fun m => rkN s (wDv s) m = k) (fun _ => inferInstance) (s 11).toNat 0 < (s 11).toNat then ((pFd (fun m => rkN s (wDv s) m = k) (fun _ => inferInstance) (s 11).toNat 0 : Nat) : Int) else -1
def qMerit (s : Nat → Int) (y k : Int) : Int := if 0 ≤ y ∧ y < s 0 ∧ 0 ≤ k then byM s y k else -1
theorem fcI_s {f : Nat → Nat → Int} {j n : Nat} : fcI f j (n + 1) = fcI f j n + (if f n j = 0 then 0 else 1) := by
  unfold fcI; rw [pS, Nat.zero_add]
theorem fcI_rg {f : Nat → Nat → Int} {j : Nat} : ∀ n, 0 ≤ fcI f j n ∧ fcI f j n ≤ n
  | 0 => by unfold fcI; rw [pS]; omega
  | n + 1 => by have := fcI_rg (f := f) (j := j) n; rw [fcI_s]; split <;> omega
theorem fcI_mono {f : Nat → Nat → Int} {j : Nat} {n : Nat} : ∀ k, fcI f j n ≤ fcI f j (n + k)
  | 0 => Int.le_refl _
  | k + 1 => by have := fcI_mono (f := f) (j := j) (n := n) k; rw [← Nat.add_assoc, fcI_s]; split <;> omega
theorem fcJ_s {f : Nat → Nat → Int} {n : Nat} : fcJ f (n + 1) = fcJ f n + fcI f n (n + 1) := by
  unfold fcJ; rw [pS, Nat.zero_add]
theorem fcJ_rg {f : Nat → Nat → Int} : ∀ n, n ≤ 5 → 0 ≤ fcJ f n ∧ fcJ f n ≤ 10 * n
  | 0, _ => by unfold fcJ; rw [pS]; omega
  | n + 1, h => by have := fcJ_rg (f := f) n (by omega); have := fcI_rg (f := f) (j := n) (n + 1); rw [fcJ_s]; omega
theorem fcJ_mono {f : Nat → Nat → Int} {n : Nat} : ∀ k, fcJ f n ≤ fcJ f (n + k)
  | 0 => Int.le_refl _
  | k + 1 => by have := fcJ_mono (f := f) (n := n) k; have := fcI_rg (f := f) (j := n + k) (n + k + 1); rw [← Nat.add_assoc, fcJ_s]; omega
theorem fk_at {f : Nat → Nat → Int} {Y i j : Nat} {k : Int} (hj : j < Y) (hi : i ≤ j) (hf : ¬ f i j = 0) (hk : fcJ f j + fcI f j i = k) : fkJ f Y k = j ∧ fkI f j k = i := by
  have e1 : fcI f j (i + 1) = fcI f j i + 1 := by rw [fcI_s, if_neg hf]
  have e2 := fcI_mono (f := f) (j := j) (n := i + 1) (j - i)
  have e3 : i + 1 + (j - i) = j + 1 := by omega
  rw [e3] at e2
  have e4 := fcI_rg (f := f) (j := j) i
  refine ⟨pFd_eq Y 0 j (by omega) (by omega) (by rw [fcJ_s]; omega) (fun q _ hq => ?_), pFd_eq (j + 1) 0 i (by omega) (by omega) (by omega) (fun q _ hq => ?_)⟩
  · have := fcJ_mono (f := f) (n := q + 1) (j - (q + 1))
    have e5 : q + 1 + (j - (q + 1)) = j := by omega
    rw [e5] at this
    omega
  · have := fcI_mono (f := f) (j := j) (n := q + 1) (i - (q + 1))
    have e5 : q + 1 + (i - (q + 1)) = i := by omega
    rw [e5] at this
    omega
theorem fk_no {f : Nat → Nat → Int} {Y : Nat} {k : Int} (h : fcJ f Y ≤ k) : ¬ fkJ f Y k < Y := by
  unfold fkJ
  rw [pFd_no Y 0 (fun j _ hj => ?_)]
  · omega
  · have := fcJ_mono (f := f) (n := j + 1) (Y - (j + 1))
    have e5 : j + 1 + (Y - (j + 1)) = Y := by omega
    rw [e5] at this
    omega
theorem x_147 {K : mj_C} {d : Nat} {M : Nat → Nat → Int} {N : Nat → Nat → Int64} (hs : pRg (M 127)) (y : Int) : mj_X K d 147 [.inr (.inr (.inl 126)), .inl y] (mj_Sh, M, N) (fun r Z => r = some (.inl (mO (M 127) y)) ∧ Z = (mj_Sh, M, N)) := by
  show mj_T K d 147 0 [some (.inr (.inr (.inl 126))), some (.inl y), none, none] [] (mj_Sh, M, N) _
  have h11 := hs.1 11 (by omega)
  have hc11 := hs.2.2.1
  have key : ∀ i : Nat, i ≤ (M 127 11).toNat → mj_T K d 147 4 [some (.inr (.inr (.inl 126))), some (.inl y), some (.inl (pS (fun m => if M 127 (12 + m) = y then (1 : Int) else 0) 0 i)), some (.inl ((i : Nat) : Int))] [] (mj_Sh, M, N) (fun r Z => r = some (.inl (mO (M 127) y)) ∧ Z = (mj_Sh, M, N)) := by
    refine up_to (M 127 11).toNat ?_ ?_
    · show mj_T K d 147 4 [some (.inr (.inr (.inl 126))), some (.inl y), some (.inl (pS (fun m => if M 127 (12 + m) = y then (1 : Int) else 0) 0 (M 127 11).toNat)), some (.inl (((M 127 11).toNat : Nat) : Int))] [] (mj_Sh, M, N) (fun r Z => r = some (.inl (mO (M 127) y)) ∧ Z = (mj_Sh, M, N))
      refine tw_iload k147_4 rfl ?_
      refine tw_aload k147_5 rfl ?_
      refine tw_getr k147_6 f126_0 ?_
      refine tw_const k147_9 ?_
      refine tw_iald (j := 11) (v := (M 127 11)) k147_11 al127 rfl (by decide) rfl ?_
      refine tw_cgeT k147_12 (by omega) ?_
      refine tw_iload k147_42 rfl ?_
      exact tw_ri k147_43 (⟨rfl, rfl⟩)
    · intro i hmi ih
      have ih : mj_T K d 147 4 [some (.inr (.inr (.inl 126))), some (.inl y), some (.inl (pS (fun m => if M 127 (12 + m) = y then (1 : Int) else 0) 0 (i + 1))), some (.inl (((i + 1) : Nat) : Int))] [] (mj_Sh, M, N) (fun r Z => r = some (.inl (mO (M 127) y)) ∧ Z = (mj_Sh, M, N)) := ih
      show mj_T K d 147 4 [some (.inr (.inr (.inl 126))), some (.inl y), some (.inl (pS (fun m => if M 127 (12 + m) = y then (1 : Int) else 0) 0 i)), some (.inl ((i : Nat) : Int))] [] (mj_Sh, M, N) (fun r Z => r = some (.inl (mO (M 127) y)) ∧ Z = (mj_Sh, M, N))
      have hr := pS_rg (f := (fun m => if M 127 (12 + m) = y then (1 : Int) else 0)) (a := 0) (B := 1) i (fun k _ _ => by (try dsimp only); split <;> omega)
      refine tw_iload k147_4 rfl ?_
      refine tw_aload k147_5 rfl ?_
      refine tw_getr k147_6 f126_0 ?_
      refine tw_const k147_9 ?_
      refine tw_iald (j := 11) (v := (M 127 11)) k147_11 al127 rfl (by decide) rfl ?_
      refine tw_cgeF k147_12 (by omega) ?_
      refine tw_iload k147_15 rfl ?_
      refine tw_aload k147_16 rfl ?_
      refine tw_getr k147_17 f126_0 ?_
      refine tw_const k147_20 ?_
      refine tw_iload k147_22 rfl ?_
      refine tw_iadd k147_23 (v := ((12 + i : Nat) : Int)) rfl (by omega) ?_
      refine tw_iald (j := 12 + i) (v := (M 127 (12 + i))) k147_24 al127 rfl (by omega) rfl ?_
      refine tw_iload k147_25 rfl ?_
      refine tw_cne k147_26 (fun h26 => ?_) (fun h26 => ?_)
      · refine tw_const k147_33 ?_
        refine tw_iadd k147_34 (v := ((pS (fun m => if M 127 (12 + m) = y then (1 : Int) else 0) 0 i) + (0 : Int))) rfl (by omega) ?_
        refine tw_istore k147_35 rfl (L' := [some (.inr (.inr (.inl 126))), some (.inl y), some (.inl ((pS (fun m => if M 127 (12 + m) = y then (1 : Int) else 0) 0 i) + (0 : Int))), some (.inl ((i : Nat) : Int))]) rfl ?_
        refine tw_iinc k147_36 rfl (v := ((i + 1 : Nat) : Int)) rfl (by omega) rfl (L' := [some (.inr (.inr (.inl 126))), some (.inl y), some (.inl ((pS (fun m => if M 127 (12 + m) = y then (1 : Int) else 0) 0 i) + (0 : Int))), some (.inl ((i + 1 : Nat) : Int))]) rfl ?_
        refine tw_goto k147_39 ?_
        refine tw_eqL (L' := [some (.inr (.inr (.inl 126))), some (.inl y), some (.inl (pS (fun m => if M 127 (12 + m) = y then (1 : Int) else 0) 0 (i + 1))), some (.inl (((i + 1) : Nat) : Int))]) (e_c rfl (e_c rfl (e_c (e_i (by rw [pS]; (try dsimp only); rw [Nat.zero_add, if_neg h26, Int.add_zero])) (e_c rfl rfl)))) ?_
        exact ih
      · refine tw_const k147_29 ?_
        refine tw_goto k147_30 ?_
        refine tw_iadd k147_34 (v := ((pS (fun m => if M 127 (12 + m) = y then (1 : Int) else 0) 0 i) + (1 : Int))) rfl (by omega) ?_
        refine tw_istore k147_35 rfl (L' := [some (.inr (.inr (.inl 126))), some (.inl y), some (.inl ((pS (fun m => if M 127 (12 + m) = y then (1 : Int) else 0) 0 i) + (1 : Int))), some (.inl ((i : Nat) : Int))]) rfl ?_
        refine tw_iinc k147_36 rfl (v := ((i + 1 : Nat) : Int)) rfl (by omega) rfl (L' := [some (.inr (.inr (.inl 126))), some (.inl y), some (.inl ((pS (fun m => if M 127 (12 + m) = y then (1 : Int) else 0) 0 i) + (1 : Int))), some (.inl ((i + 1 : Nat) : Int))]) rfl ?_
        refine tw_goto k147_39 ?_
        refine tw_eqL (L' := [some (.inr (.inr (.inl 126))), some (.inl y), some (.inl (pS (fun m => if M 127 (12 + m) = y then (1 : Int) else 0) 0 (i + 1))), some (.inl (((i + 1) : Nat) : Int))]) (e_c rfl (e_c rfl (e_c (e_i (by rw [pS]; (try dsimp only); rw [Nat.zero_add, if_pos h26])) (e_c rfl rfl)))) ?_
        exact ih
  refine tw_const k147_0 ?_
  refine tw_istore k147_1 rfl (L' := [some (.inr (.inr (.inl 126))), some (.inl y), some (.inl (0 : Int)), none]) rfl ?_
  refine tw_const k147_2 ?_
  refine tw_istore k147_3 rfl (L' := [some (.inr (.inr (.inl 126))), some (.inl y), some (.inl (0 : Int)), some (.inl (0 : Int))]) rfl ?_
  refine tw_eqL (L' := [some (.inr (.inr (.inl 126))), some (.inl y), some (.inl (pS (fun m => if M 127 (12 + m) = y then (1 : Int) else 0) 0 0)), some (.inl ((0 : Nat) : Int))]) (e_c rfl (e_c rfl (e_c (e_i rfl) (e_c (e_i rfl) rfl)))) ?_
  exact key 0 (by omega)
theorem x_148 {K : mj_C} {d : Nat} {M : Nat → Nat → Int} {N : Nat → Nat → Int64} (hD : 2 ≤ d) (hM : mW M) (y what : Int) : mj_X K d 148 [.inr (.inr (.inl 126)), .inl y, .inl what] (mj_Sh, M, N) (fun r Z => r = some (.inl (qOf (M 127) y what)) ∧ Z = (mj_Sh, M, N)) := by
  show mj_T K d 148 0 [some (.inr (.inr (.inl 126))), some (.inl y), some (.inl what)] [] (mj_Sh, M, N) _
  obtain ⟨hs, hG, ⟨hr18, hr19, hr20⟩, hp, hu, hl, hd, hv⟩ := hM
  have h0 := hs.1 0 (by omega)
  have h5 := hs.2.1
  have h11 := hs.1 11 (by omega)
  have hc11 := hs.2.2.1
  have hGk : gOk (M 127 0).toNat (wG (M 127)) := wGr_ok (M 127) (wB (M 127))
  have hG1 : (wG (M 127)).1 ≤ (M 127 0).toNat := hGk.1
  by_cases hyy : 0 ≤ y ∧ y < M 127 0
  · obtain ⟨k, rfl⟩ : ∃ k : Nat, y = (k : Int) := ⟨y.toNat, by omega⟩
    obtain ⟨g1, g2, g3⟩ := gOf_in hGk (show k < (M 127 0).toNat by omega)
    have g1 : gOf (wG (M 127)) k < (wG (M 127)).1 := g1
    refine tw_aload k148_0 rfl ?_
    refine tw_iload k148_1 rfl ?_
    refine tw_callbT (by omega) (S' := []) (as := [.inr (.inr (.inl 126)), .inl ((k : Nat) : Int)]) k148_2 (x_113 (M := M) (N := N) (by omega) hs ((k : Nat) : Int)) rfl rfl rfl rfl rfl hyy ?_
    refine tw_zneT k148_5 (by decide) ?_
    refine tw_iload k148_10 rfl ?_
    refine tw_sw k148_11 ?_
    refine tw_pk (fun h11_0 => ?_) (fun h11_0 => ?_)
    · refine tw_aload k148_60 rfl ?_
      refine tw_getr k148_61 f126_0 ?_
      refine tw_const k148_64 ?_
      refine tw_iload k148_65 rfl ?_
      refine tw_iadd k148_66 (v := ((1 + k : Nat) : Int)) rfl (by omega) ?_
      refine tw_iald (j := 1 + k) (v := (M 127 (1 + k))) k148_67 al127 rfl (by omega) rfl ?_
      exact tw_ri k148_68 (⟨by unfold qOf; rw [if_pos hyy]; (try simp only [Int.toNat_natCast]); all_goals ((repeat' split) <;> first | rfl | omega), rfl⟩)
    · skip
      refine tw_pk (fun h11_1 => ?_) (fun h11_1 => ?_)
      · refine tw_aload k148_69 rfl ?_
        refine tw_getr k148_70 f126_0 ?_
        refine tw_const k148_73 ?_
        refine tw_iload k148_75 rfl ?_
        refine tw_iadd k148_76 (v := ((6 + k : Nat) : Int)) rfl (by omega) ?_
        refine tw_iald (j := 6 + k) (v := (M 127 (6 + k))) k148_77 al127 rfl (by omega) rfl ?_
        exact tw_ri k148_78 (⟨by unfold qOf; rw [if_pos hyy]; (try simp only [Int.toNat_natCast]); all_goals ((repeat' split) <;> first | rfl | omega), rfl⟩)
      · skip
        refine tw_pk (fun h11_2 => ?_) (fun h11_2 => ?_)
        · refine tw_aload k148_79 rfl ?_
          refine tw_getr k148_80 f126_4 ?_
          refine tw_iload k148_83 rfl ?_
          refine tw_iald (j := k) (v := ((wB (M 127)).1 k)) k148_84 al130 rfl (by omega) (hp k (by omega)).1 ?_
          exact tw_ri k148_85 (⟨by unfold qOf; rw [if_pos hyy]; (try simp only [Int.toNat_natCast]); all_goals ((repeat' split) <;> first | rfl | omega), rfl⟩)
        · skip
          refine tw_pk (fun h11_3 => ?_) (fun h11_3 => ?_)
          · refine tw_aload k148_86 rfl ?_
            refine tw_getr k148_87 f126_6 ?_
            refine tw_iload k148_90 rfl ?_
            refine tw_iald (j := k) (v := (((gOf (wG (M 127)) k) : Nat) : Int)) k148_91 al132 rfl (by omega) (hu k (by omega)).1 ?_
            exact tw_ri k148_92 (⟨by unfold qOf; rw [if_pos hyy]; (try simp only [Int.toNat_natCast]); all_goals ((repeat' split) <;> first | rfl | omega), rfl⟩)
          · skip
            refine tw_pk (fun h11_4 => ?_) (fun h11_4 => ?_)
            · refine tw_aload k148_93 rfl ?_
              refine tw_getr k148_94 f126_12 ?_
              refine tw_aload k148_97 rfl ?_
              refine tw_getr k148_98 f126_6 ?_
              refine tw_iload k148_101 rfl ?_
              refine tw_iald (j := k) (v := (((gOf (wG (M 127)) k) : Nat) : Int)) k148_102 al132 rfl (by omega) (hu k (by omega)).1 ?_
              refine tw_iald (j := (gOf (wG (M 127)) k)) (v := ((((wG (M 127)).2.2.2 (gOf (wG (M 127)) k)) : Nat) : Int)) k148_103 al138 rfl (by omega) (hG.2 (gOf (wG (M 127)) k) (by omega)).2.2 ?_
              exact tw_ri k148_104 (⟨by unfold qOf; rw [if_pos hyy]; (try simp only [Int.toNat_natCast]); all_goals ((repeat' split) <;> first | rfl | omega), rfl⟩)
            · skip
              refine tw_pk (fun h11_5 => ?_) (fun h11_5 => ?_)
              · refine tw_aload k148_105 rfl ?_
                refine tw_getr k148_106 f126_7 ?_
                refine tw_iload k148_109 rfl ?_
                refine tw_iald (j := k) (v := (wU (M 127) (wB (M 127)).1 (wG (M 127)) k)) k148_110 al133 rfl (by omega) (hu k (by omega)).2.1 ?_
                exact tw_ri k148_111 (⟨by unfold qOf; rw [if_pos hyy]; (try simp only [Int.toNat_natCast]); all_goals ((repeat' split) <;> first | rfl | omega), rfl⟩)
              · skip
                refine tw_pk (fun h11_6 => ?_) (fun h11_6 => ?_)
                · refine tw_aload k148_112 rfl ?_
                  refine tw_getr k148_113 f126_8 ?_
                  refine tw_iload k148_116 rfl ?_
                  refine tw_iald (j := k) (v := (wBk (M 127) (wB (M 127)).1 (wG (M 127)) k)) k148_117 al134 rfl (by omega) (hu k (by omega)).2.2 ?_
                  exact tw_ri k148_118 (⟨by unfold qOf; rw [if_pos hyy]; (try simp only [Int.toNat_natCast]); all_goals ((repeat' split) <;> first | rfl | omega), rfl⟩)
                · skip
                  refine tw_pk (fun h11_7 => ?_) (fun h11_7 => ?_)
                  · refine tw_aload k148_119 rfl ?_
                    refine tw_getr k148_120 f126_5 ?_
                    refine tw_iload k148_123 rfl ?_
                    refine tw_iald (j := k) (v := ((wB (M 127)).2.1 k)) k148_124 al131 rfl (by omega) (hp k (by omega)).2 ?_
                    exact tw_ri k148_125 (⟨by unfold qOf; rw [if_pos hyy]; (try simp only [Int.toNat_natCast]); all_goals ((repeat' split) <;> first | rfl | omega), rfl⟩)
                  · skip
                    refine tw_pk (fun h11_8 => ?_) (fun h11_8 => ?_)
                    · refine tw_aload k148_126 rfl ?_
                      refine tw_iload k148_127 rfl ?_
                      refine tw_callp (v := .inl (mO (M 127) (k : Int))) (by omega) (S' := []) (as := [.inr (.inr (.inl 126)), .inl ((k : Nat) : Int)]) k148_128 (x_147 (M := M) (N := N) hs (k : Int)) rfl rfl rfl rfl rfl ?_
                      exact tw_ri k148_131 (⟨by unfold qOf; rw [if_pos hyy]; (try simp only [Int.toNat_natCast]); all_goals ((repeat' split) <;> first | rfl | omega), rfl⟩)
                    · skip
                      refine tw_pk0 ?_
                      refine tw_const k148_132 ?_
                      exact tw_ri k148_133 (⟨by unfold qOf; rw [if_pos hyy]; (try simp only [Int.toNat_natCast]); all_goals ((repeat' split) <;> first | rfl | omega), rfl⟩)
  · refine tw_aload k148_0 rfl ?_
    refine tw_iload k148_1 rfl ?_
    refine tw_callbF (by omega) (S' := []) (as := [.inr (.inr (.inl 126)), .inl y]) k148_2 (x_113 (M := M) (N := N) (by omega) hs y) rfl rfl rfl rfl rfl hyy ?_
    refine tw_zneF k148_5 (by decide) ?_
    refine tw_const k148_8 ?_
    exact tw_ri k148_9 (⟨by unfold qOf; rw [if_neg hyy], rfl⟩)
theorem x_149 {K : mj_C} {d : Nat} {M : Nat → Nat → Int} {N : Nat → Nat → Int64} (hD : 2 ≤ d) (hM : mW M) (y what : Int) : mj_X K d 149 [.inr (.inr (.inl 126)), .inl y, .inl what] (mj_Sh, M, N) (fun r Z => r = some (.inl (qAbout (M 127) y what)) ∧ Z = (mj_Sh, M, N)) := by
  show mj_T K d 149 0 [some (.inr (.inr (.inl 126))), some (.inl y), some (.inl what)] [] (mj_Sh, M, N) _
  obtain ⟨hs, hG, ⟨hr18, hr19, hr20⟩, hp, hu, hl, hd, hv⟩ := hM
  have h0 := hs.1 0 (by omega)
  have h5 := hs.2.1
  have h11 := hs.1 11 (by omega)
  have hc11 := hs.2.2.1
  have hGk : gOk (M 127 0).toNat (wG (M 127)) := wGr_ok (M 127) (wB (M 127))
  have hG1 : (wG (M 127)).1 ≤ (M 127 0).toNat := hGk.1
  by_cases hyy : 0 ≤ y ∧ y < M 127 11
  · obtain ⟨k, rfl⟩ : ∃ k : Nat, y = (k : Int) := ⟨y.toNat, by omega⟩
    refine tw_aload k149_0 rfl ?_
    refine tw_iload k149_1 rfl ?_
    refine tw_callbT (by omega) (S' := []) (as := [.inr (.inr (.inl 126)), .inl ((k : Nat) : Int)]) k149_2 (x_114 (M := M) (N := N) (by omega) hs ((k : Nat) : Int)) rfl rfl rfl rfl rfl hyy ?_
    refine tw_zeqF k149_5 (by decide) ?_
    refine tw_iload k149_8 rfl ?_
    refine tw_const k149_9 ?_
    refine tw_const k149_10 ?_
    refine tw_callb (by omega) (S' := []) (as := [.inl what, .inl (0 : Int), .inl (3 : Int)]) k149_11 (x_112 what (0 : Int) (3 : Int)) rfl rfl rfl rfl rfl (fun h11 => ?_) (fun h11 => ?_)
    · refine tw_zneT k149_14 (by decide) ?_
      refine tw_iload k149_19 rfl ?_
      refine tw_zne k149_20 (fun h20 => ?_) (fun h20 => ?_)
      · refine tw_iload k149_35 rfl ?_
        refine tw_const k149_36 ?_
        refine tw_cne k149_37 (fun h37 => ?_) (fun h37 => ?_)
        · refine tw_iload k149_52 rfl ?_
          refine tw_const k149_53 ?_
          refine tw_cne k149_54 (fun h54 => ?_) (fun h54 => ?_)
          · refine tw_aload k149_69 rfl ?_
            refine tw_getr k149_70 f126_14 ?_
            refine tw_iload k149_73 rfl ?_
            refine tw_iald (j := k) (v := (wDv (M 127) k)) k149_74 al140 rfl (by omega) (hd k (by omega)) ?_
            exact tw_ri k149_75 (⟨by unfold qAbout; rw [if_pos hyy]; (try simp only [Int.toNat_natCast]); all_goals ((repeat' split) <;> first | rfl | omega), rfl⟩)
          · refine tw_aload k149_57 rfl ?_
            refine tw_getr k149_58 f126_0 ?_
            refine tw_const k149_61 ?_
            refine tw_iload k149_63 rfl ?_
            refine tw_iadd k149_64 (v := ((32 + k : Nat) : Int)) rfl (by omega) ?_
            refine tw_iald (j := 32 + k) (v := (M 127 (32 + k))) k149_65 al127 rfl (by omega) rfl ?_
            refine tw_goto k149_66 ?_
            exact tw_ri k149_75 (⟨by unfold qAbout; rw [if_pos hyy]; (try simp only [Int.toNat_natCast]); all_goals ((repeat' split) <;> first | rfl | omega), rfl⟩)
        · refine tw_aload k149_40 rfl ?_
          refine tw_getr k149_41 f126_0 ?_
          refine tw_const k149_44 ?_
          refine tw_iload k149_46 rfl ?_
          refine tw_iadd k149_47 (v := ((22 + k : Nat) : Int)) rfl (by omega) ?_
          refine tw_iald (j := 22 + k) (v := (M 127 (22 + k))) k149_48 al127 rfl (by omega) rfl ?_
          refine tw_goto k149_49 ?_
          exact tw_ri k149_75 (⟨by unfold qAbout; rw [if_pos hyy]; (try simp only [Int.toNat_natCast]); all_goals ((repeat' split) <;> first | rfl | omega), rfl⟩)
      · refine tw_aload k149_23 rfl ?_
        refine tw_getr k149_24 f126_0 ?_
        refine tw_const k149_27 ?_
        refine tw_iload k149_29 rfl ?_
        refine tw_iadd k149_30 (v := ((12 + k : Nat) : Int)) rfl (by omega) ?_
        refine tw_iald (j := 12 + k) (v := (M 127 (12 + k))) k149_31 al127 rfl (by omega) rfl ?_
        refine tw_goto k149_32 ?_
        exact tw_ri k149_75 (⟨by unfold qAbout; rw [if_pos hyy]; (try simp only [Int.toNat_natCast]); all_goals ((repeat' split) <;> first | rfl | omega), rfl⟩)
    · refine tw_zneF k149_14 (by decide) ?_
      refine tw_const k149_17 ?_
      exact tw_ri k149_18 (⟨by unfold qAbout; rw [if_pos hyy]; (try simp only [Int.toNat_natCast]); all_goals ((repeat' split) <;> first | rfl | omega), rfl⟩)
  · refine tw_aload k149_0 rfl ?_
    refine tw_iload k149_1 rfl ?_
    refine tw_callbF (by omega) (S' := []) (as := [.inr (.inr (.inl 126)), .inl y]) k149_2 (x_114 (M := M) (N := N) (by omega) hs y) rfl rfl rfl rfl rfl hyy ?_
    refine tw_zeqT k149_5 (by decide) ?_
    refine tw_const k149_17 ?_
    exact tw_ri k149_18 (⟨by unfold qAbout; rw [if_neg hyy], rfl⟩)
theorem x_150 {K : mj_C} {d : Nat} {M : Nat → Nat → Int} {N : Nat → Nat → Int64} (hD : 2 ≤ d) (hM : mW M) (y p what : Int) : mj_X K d 150 [.inr (.inr (.inl 126)), .inl y, .inl p, .inl what] (mj_Sh, M, N) (fun r Z => r = some (.inl (qAt (M 127) y p what)) ∧ Z = (mj_Sh, M, N)) := by
  show mj_T K d 150 0 [some (.inr (.inr (.inl 126))), some (.inl y), some (.inl p), some (.inl what)] [] (mj_Sh, M, N) _
  obtain ⟨hs, hG, ⟨hr18, hr19, hr20⟩, hp, hu, hl, hd, hv⟩ := hM
  have h0 := hs.1 0 (by omega)
  have h5 := hs.2.1
  have h11 := hs.1 11 (by omega)
  have hc11 := hs.2.2.1
  have hGk : gOk (M 127 0).toNat (wG (M 127)) := wGr_ok (M 127) (wB (M 127))
  have hG1 : (wG (M 127)).1 ≤ (M 127 0).toNat := hGk.1
  by_cases hyy : 0 ≤ y ∧ y < M 127 0
  · by_cases hpp : 0 ≤ p ∧ p ≤ 20
    · obtain ⟨k, rfl⟩ : ∃ k : Nat, y = (k : Int) := ⟨y.toNat, by omega⟩
      obtain ⟨q, rfl⟩ : ∃ q : Nat, p = (q : Int) := ⟨p.toNat, by omega⟩
      refine tw_aload k150_0 rfl ?_
      refine tw_iload k150_1 rfl ?_
      refine tw_callbT (by omega) (S' := []) (as := [.inr (.inr (.inl 126)), .inl ((k : Nat) : Int)]) k150_2 (x_113 (M := M) (N := N) (by omega) hs ((k : Nat) : Int)) rfl rfl rfl rfl rfl hyy ?_
      refine tw_zeqF k150_5 (by decide) ?_
      refine tw_iload k150_8 rfl ?_
      refine tw_const k150_9 ?_
      refine tw_const k150_10 ?_
      refine tw_callb (by omega) (S' := []) (as := [.inl what, .inl (0 : Int), .inl (1 : Int)]) k150_11 (x_112 what (0 : Int) (1 : Int)) rfl rfl rfl rfl rfl (fun h11 => ?_) (fun h11 => ?_)
      · refine tw_zneT k150_14 (by decide) ?_
        refine tw_iload k150_19 rfl ?_
        refine tw_const k150_20 ?_
        refine tw_const k150_21 ?_
        refine tw_callbT (by omega) (S' := []) (as := [.inl ((q : Nat) : Int), .inl (0 : Int), .inl (20 : Int)]) k150_23 (x_112 ((q : Nat) : Int) (0 : Int) (20 : Int)) rfl rfl rfl rfl rfl hpp ?_
        refine tw_zneT k150_26 (by decide) ?_
        refine tw_iload k150_34 rfl ?_
        refine tw_zne k150_35 (fun h35 => ?_) (fun h35 => ?_)
        · refine tw_aload k150_47 rfl ?_
          refine tw_iload k150_48 rfl ?_
          refine tw_iload k150_49 rfl ?_
          refine tw_callp (v := .inl (pLo (M 127) q k)) (by omega) (S' := []) (as := [.inr (.inr (.inl 126)), .inl ((k : Nat) : Int), .inl ((q : Nat) : Int)]) k150_50 (x_118 (M := M) (N := N) (by omega) hs k (by omega) q (by omega)) rfl rfl rfl rfl rfl ?_
          exact tw_ri k150_53 (⟨by unfold qAt; (try simp only [Int.toNat_natCast]); all_goals ((repeat' split) <;> first | rfl | omega), rfl⟩)
        · refine tw_aload k150_38 rfl ?_
          refine tw_iload k150_39 rfl ?_
          refine tw_iload k150_40 rfl ?_
          refine tw_callp (v := .inl (pEm (M 127) k (q : Int))) (by omega) (S' := []) (as := [.inr (.inr (.inl 126)), .inl ((k : Nat) : Int), .inl ((q : Nat) : Int)]) k150_41 (x_117 (M := M) (N := N) (by omega) hs k (by omega) (q : Int)) rfl rfl rfl rfl rfl ?_
          refine tw_goto k150_44 ?_
          exact tw_ri k150_53 (⟨by unfold qAt; (try simp only [Int.toNat_natCast]); all_goals ((repeat' split) <;> first | rfl | omega), rfl⟩)
      · refine tw_zneF k150_14 (by decide) ?_
        refine tw_const k150_17 ?_
        exact tw_ri k150_18 (⟨by unfold qAt; (try simp only [Int.toNat_natCast]); all_goals ((repeat' split) <;> first | rfl | omega), rfl⟩)
    · refine tw_aload k150_0 rfl ?_
      refine tw_iload k150_1 rfl ?_
      refine tw_callbT (by omega) (S' := []) (as := [.inr (.inr (.inl 126)), .inl y]) k150_2 (x_113 (M := M) (N := N) (by omega) hs y) rfl rfl rfl rfl rfl hyy ?_
      refine tw_zeqF k150_5 (by decide) ?_
      refine tw_iload k150_8 rfl ?_
      refine tw_const k150_9 ?_
      refine tw_const k150_10 ?_
      refine tw_callb (by omega) (S' := []) (as := [.inl what, .inl (0 : Int), .inl (1 : Int)]) k150_11 (x_112 what (0 : Int) (1 : Int)) rfl rfl rfl rfl rfl (fun h11 => ?_) (fun h11 => ?_)
      · refine tw_zneT k150_14 (by decide) ?_
        refine tw_iload k150_19 rfl ?_
        refine tw_const k150_20 ?_
        refine tw_const k150_21 ?_
        refine tw_callbF (by omega) (S' := []) (as := [.inl p, .inl (0 : Int), .inl (20 : Int)]) k150_23 (x_112 p (0 : Int) (20 : Int)) rfl rfl rfl rfl rfl hpp ?_
        refine tw_zneF k150_26 (by decide) ?_
        refine tw_const k150_29 ?_
        refine tw_goto k150_31 ?_
        exact tw_ri k150_53 (⟨by unfold qAt; (try simp only [Int.toNat_natCast]); all_goals ((repeat' split) <;> first | rfl | omega), rfl⟩)
      · refine tw_zneF k150_14 (by decide) ?_
        refine tw_const k150_17 ?_
        exact tw_ri k150_18 (⟨by unfold qAt; (try simp only [Int.toNat_natCast]); all_goals ((repeat' split) <;> first | rfl | omega), rfl⟩)
  · refine tw_aload k150_0 rfl ?_
    refine tw_iload k150_1 rfl ?_
    refine tw_callbF (by omega) (S' := []) (as := [.inr (.inr (.inl 126)), .inl y]) k150_2 (x_113 (M := M) (N := N) (by omega) hs y) rfl rfl rfl rfl rfl hyy ?_
    refine tw_zeqT k150_5 (by decide) ?_
    refine tw_const k150_17 ?_
    exact tw_ri k150_18 (⟨by unfold qAt; (try simp only [Int.toNat_natCast]); all_goals ((repeat' split) <;> first | rfl | omega), rfl⟩)
theorem x_151 {K : mj_C} {d : Nat} {M : Nat → Nat → Int} {N : Nat → Nat → Int64} (hD : 2 ≤ d) (hM : mW M) (y what : Int) : mj_X K d 151 [.inr (.inr (.inl 126)), .inl y, .inl what] (mj_Sh, M, N) (fun r Z => r = some (.inl (qGroup (M 127) y what)) ∧ Z = (mj_Sh, M, N)) := by
  show mj_T K d 151 0 [some (.inr (.inr (.inl 126))), some (.inl y), some (.inl what), none, none] [] (mj_Sh, M, N) _
  obtain ⟨hs, hG, ⟨hr18, hr19, hr20⟩, hp, hu, hl, hd, hv⟩ := hM
  have h0 := hs.1 0 (by omega)
  have h5 := hs.2.1
  have h11 := hs.1 11 (by omega)
  have hc11 := hs.2.2.1
  have hGk : gOk (M 127 0).toNat (wG (M 127)) := wGr_ok (M 127) (wB (M 127))
  have hG1 : (wG (M 127)).1 ≤ (M 127 0).toNat := hGk.1
  by_cases hyy : 0 ≤ y ∧ y < ((wG (M 127)).1 : Int)
  · obtain ⟨k, rfl⟩ : ∃ k : Nat, y = (k : Int) := ⟨y.toNat, by omega⟩
    have hgk := hGk.2.1 k (show k < (wG (M 127)).1 by omega)
    have hgk : ((wG (M 127)).2.1 k) ≤ ((wG (M 127)).2.2.1 k) ∧ ((wG (M 127)).2.2.1 k) < (M 127 0).toNat := hgk
    have hur := fun y (hy : y < (M 127 0).toNat) => wU_rg hs (by omega) hGk (fun k hk => (wI_p (wB_I hs) k hk).1) hy
    refine tw_iload k151_0 rfl ?_
    refine tw_const k151_1 ?_
    refine tw_aload k151_2 rfl ?_
    refine tw_geti k151_3 f126_17 rfl (v := (((wG (M 127)).1 : Nat) : Int)) hG.1 ?_
    refine tw_const k151_6 ?_
    refine tw_isub k151_7 (v := ((((wG (M 127)).1 : Nat) : Int) - (1 : Int))) rfl (by omega) ?_
    refine tw_callbT (by omega) (S' := []) (as := [.inl ((k : Nat) : Int), .inl (0 : Int), .inl ((((wG (M 127)).1 : Nat) : Int) - (1 : Int))]) k151_8 (x_112 ((k : Nat) : Int) (0 : Int) ((((wG (M 127)).1 : Nat) : Int) - (1 : Int))) rfl rfl rfl rfl rfl (by omega) ?_
    refine tw_zneT k151_11 (by decide) ?_
    refine tw_iload k151_16 rfl ?_
    refine tw_sw k151_17 ?_
    refine tw_pk (fun h17_0 => ?_) (fun h17_0 => ?_)
    · refine tw_aload k151_56 rfl ?_
      refine tw_getr k151_57 f126_10 ?_
      refine tw_iload k151_60 rfl ?_
      refine tw_iald (j := k) (v := ((((wG (M 127)).2.1 k) : Nat) : Int)) k151_61 al136 rfl (by omega) (hG.2 k (by omega)).1 ?_
      exact tw_ri k151_62 (⟨by unfold qGroup; rw [if_pos hyy]; (try simp only [Int.toNat_natCast]); all_goals ((repeat' split) <;> first | rfl | omega), rfl⟩)
    · skip
      refine tw_pk (fun h17_1 => ?_) (fun h17_1 => ?_)
      · refine tw_aload k151_63 rfl ?_
        refine tw_getr k151_64 f126_11 ?_
        refine tw_iload k151_67 rfl ?_
        refine tw_iald (j := k) (v := ((((wG (M 127)).2.2.1 k) : Nat) : Int)) k151_68 al137 rfl (by omega) (hG.2 k (by omega)).2.1 ?_
        exact tw_ri k151_69 (⟨by unfold qGroup; rw [if_pos hyy]; (try simp only [Int.toNat_natCast]); all_goals ((repeat' split) <;> first | rfl | omega), rfl⟩)
      · skip
        refine tw_pk (fun h17_2 => ?_) (fun h17_2 => ?_)
        · refine tw_aload k151_70 rfl ?_
          refine tw_getr k151_71 f126_12 ?_
          refine tw_iload k151_74 rfl ?_
          refine tw_iald (j := k) (v := ((((wG (M 127)).2.2.2 k) : Nat) : Int)) k151_75 al138 rfl (by omega) (hG.2 k (by omega)).2.2 ?_
          exact tw_ri k151_76 (⟨by unfold qGroup; rw [if_pos hyy]; (try simp only [Int.toNat_natCast]); all_goals ((repeat' split) <;> first | rfl | omega), rfl⟩)
        · skip
          refine tw_pk (fun h17_3 => ?_) (fun h17_3 => ?_)
          · refine tw_aload k151_77 rfl ?_
            refine tw_iload k151_78 rfl ?_
            refine tw_callp (v := .inl (pS (wB (M 127)).1 ((wG (M 127)).2.1 k) (((wG (M 127)).2.2.1 k) + 1 - ((wG (M 127)).2.1 k)))) (by omega) (S' := []) (as := [.inr (.inr (.inl 126)), .inl ((k : Nat) : Int)]) k151_79 (x_120 (M := M) (N := N) k ((wG (M 127)).2.1 k) ((wG (M 127)).2.2.1 k) (by omega) (hG.2 k (by omega)).1 (hG.2 k (by omega)).2.1 (by omega) (by omega) (wB (M 127)).1 (fun y _ _ => (hp y (by omega)).1) (fun y _ _ => wI_p (wB_I hs) y (by omega))) rfl rfl rfl rfl rfl ?_
            exact tw_ri k151_82 (⟨by unfold qGroup; rw [if_pos hyy]; (try simp only [Int.toNat_natCast]); all_goals ((repeat' split) <;> first | rfl | omega), rfl⟩)
          · skip
            refine tw_pk (fun h17_4 => ?_) (fun h17_4 => ?_)
            · refine tw_aload k151_83 rfl ?_
              refine tw_getr k151_84 f126_13 ?_
              refine tw_iload k151_87 rfl ?_
              refine tw_iald (j := k) (v := (wLk (M 127) (wB (M 127)).1 (wG (M 127)) k)) k151_88 al139 rfl (by omega) (hl k (by omega)) ?_
              exact tw_ri k151_89 (⟨by unfold qGroup; rw [if_pos hyy]; (try simp only [Int.toNat_natCast]); all_goals ((repeat' split) <;> first | rfl | omega), rfl⟩)
            · skip
              refine tw_pk (fun h17_5 => ?_) (fun h17_5 => ?_)
              · refine tw_const k151_90 ?_
                refine tw_istore k151_91 rfl (L' := [some (.inr (.inr (.inl 126))), some (.inl ((k : Nat) : Int)), some (.inl what), some (.inl (0 : Int)), none]) rfl ?_
                refine tw_aload k151_92 rfl ?_
                refine tw_getr k151_93 f126_10 ?_
                refine tw_iload k151_96 rfl ?_
                refine tw_iald (j := k) (v := ((((wG (M 127)).2.1 k) : Nat) : Int)) k151_97 al136 rfl (by omega) (hG.2 k (by omega)).1 ?_
                refine tw_istore k151_98 rfl (L' := [some (.inr (.inr (.inl 126))), some (.inl ((k : Nat) : Int)), some (.inl what), some (.inl (0 : Int)), some (.inl ((((wG (M 127)).2.1 k) : Nat) : Int))]) rfl ?_
                have key : ∀ i : Nat, i ≤ (((wG (M 127)).2.2.1 k) + 1 - ((wG (M 127)).2.1 k)) → mj_T K d 151 100 [some (.inr (.inr (.inl 126))), some (.inl ((k : Nat) : Int)), some (.inl what), some (.inl (pS (wU (M 127) (wB (M 127)).1 (wG (M 127))) ((wG (M 127)).2.1 k) i)), some (.inl (((((wG (M 127)).2.1 k) + i) : Nat) : Int))] [] (mj_Sh, M, N) (fun r Z => r = some (.inl (qGroup (M 127) ((k : Nat) : Int) what)) ∧ Z = (mj_Sh, M, N)) := by
                  refine up_to (((wG (M 127)).2.2.1 k) + 1 - ((wG (M 127)).2.1 k)) ?_ ?_
                  · show mj_T K d 151 100 [some (.inr (.inr (.inl 126))), some (.inl ((k : Nat) : Int)), some (.inl what), some (.inl (pS (wU (M 127) (wB (M 127)).1 (wG (M 127))) ((wG (M 127)).2.1 k) (((wG (M 127)).2.2.1 k) + 1 - ((wG (M 127)).2.1 k)))), some (.inl (((((wG (M 127)).2.1 k) + (((wG (M 127)).2.2.1 k) + 1 - ((wG (M 127)).2.1 k))) : Nat) : Int))] [] (mj_Sh, M, N) (fun r Z => r = some (.inl (qGroup (M 127) ((k : Nat) : Int) what)) ∧ Z = (mj_Sh, M, N))
                    refine tw_iload k151_100 rfl ?_
                    refine tw_aload k151_102 rfl ?_
                    refine tw_getr k151_103 f126_11 ?_
                    refine tw_iload k151_106 rfl ?_
                    refine tw_iald (j := k) (v := ((((wG (M 127)).2.2.1 k) : Nat) : Int)) k151_107 al137 rfl (by omega) (hG.2 k (by omega)).2.1 ?_
                    refine tw_cgtT k151_108 (by omega) ?_
                    refine tw_iload k151_127 rfl ?_
                    exact tw_ri k151_128 (⟨by unfold qGroup; rw [if_pos hyy]; (try simp only [Int.toNat_natCast]); all_goals ((repeat' split) <;> first | rfl | omega), rfl⟩)
                  · intro i hmi ih
                    have ih : mj_T K d 151 100 [some (.inr (.inr (.inl 126))), some (.inl ((k : Nat) : Int)), some (.inl what), some (.inl (pS (wU (M 127) (wB (M 127)).1 (wG (M 127))) ((wG (M 127)).2.1 k) (i + 1))), some (.inl (((((wG (M 127)).2.1 k) + (i + 1)) : Nat) : Int))] [] (mj_Sh, M, N) (fun r Z => r = some (.inl (qGroup (M 127) ((k : Nat) : Int) what)) ∧ Z = (mj_Sh, M, N)) := ih
                    show mj_T K d 151 100 [some (.inr (.inr (.inl 126))), some (.inl ((k : Nat) : Int)), some (.inl what), some (.inl (pS (wU (M 127) (wB (M 127)).1 (wG (M 127))) ((wG (M 127)).2.1 k) i)), some (.inl (((((wG (M 127)).2.1 k) + i) : Nat) : Int))] [] (mj_Sh, M, N) (fun r Z => r = some (.inl (qGroup (M 127) ((k : Nat) : Int) what)) ∧ Z = (mj_Sh, M, N))
                    have hr5 := pS_rg (f := (wU (M 127) (wB (M 127)).1 (wG (M 127)))) (a := ((wG (M 127)).2.1 k)) (B := 100) i (fun y h1 h2 => by have := hur y (by omega); omega)
                    have hr6 := hur (((wG (M 127)).2.1 k) + i) (by omega)
                    refine tw_iload k151_100 rfl ?_
                    refine tw_aload k151_102 rfl ?_
                    refine tw_getr k151_103 f126_11 ?_
                    refine tw_iload k151_106 rfl ?_
                    refine tw_iald (j := k) (v := ((((wG (M 127)).2.2.1 k) : Nat) : Int)) k151_107 al137 rfl (by omega) (hG.2 k (by omega)).2.1 ?_
                    refine tw_cgtF k151_108 (by omega) ?_
                    refine tw_iload k151_111 rfl ?_
                    refine tw_aload k151_112 rfl ?_
                    refine tw_getr k151_113 f126_7 ?_
                    refine tw_iload k151_116 rfl ?_
                    refine tw_iald (j := (((wG (M 127)).2.1 k) + i)) (v := (wU (M 127) (wB (M 127)).1 (wG (M 127)) (((wG (M 127)).2.1 k) + i))) k151_118 al133 rfl (by omega) (hu (((wG (M 127)).2.1 k) + i) (by omega)).2.1 ?_
                    refine tw_iadd k151_119 (v := ((pS (wU (M 127) (wB (M 127)).1 (wG (M 127))) ((wG (M 127)).2.1 k) i) + (wU (M 127) (wB (M 127)).1 (wG (M 127)) (((wG (M 127)).2.1 k) + i)))) rfl (by omega) ?_
                    refine tw_istore k151_120 rfl (L' := [some (.inr (.inr (.inl 126))), some (.inl ((k : Nat) : Int)), some (.inl what), some (.inl ((pS (wU (M 127) (wB (M 127)).1 (wG (M 127))) ((wG (M 127)).2.1 k) i) + (wU (M 127) (wB (M 127)).1 (wG (M 127)) (((wG (M 127)).2.1 k) + i)))), some (.inl (((((wG (M 127)).2.1 k) + i) : Nat) : Int))]) rfl ?_
                    refine tw_iinc k151_121 rfl (v := (((((wG (M 127)).2.1 k) + i) + 1 : Nat) : Int)) rfl (by omega) rfl (L' := [some (.inr (.inr (.inl 126))), some (.inl ((k : Nat) : Int)), some (.inl what), some (.inl ((pS (wU (M 127) (wB (M 127)).1 (wG (M 127))) ((wG (M 127)).2.1 k) i) + (wU (M 127) (wB (M 127)).1 (wG (M 127)) (((wG (M 127)).2.1 k) + i)))), some (.inl (((((wG (M 127)).2.1 k) + i) + 1 : Nat) : Int))]) rfl ?_
                    refine tw_goto k151_124 ?_
                    refine tw_eqL (L' := [some (.inr (.inr (.inl 126))), some (.inl ((k : Nat) : Int)), some (.inl what), some (.inl (pS (wU (M 127) (wB (M 127)).1 (wG (M 127))) ((wG (M 127)).2.1 k) (i + 1))), some (.inl (((((wG (M 127)).2.1 k) + (i + 1)) : Nat) : Int))]) (e_c rfl (e_c rfl (e_c rfl (e_c (e_i (by rw [pS])) (e_c rfl rfl))))) ?_
                    exact ih
                refine tw_eqL (L' := [some (.inr (.inr (.inl 126))), some (.inl ((k : Nat) : Int)), some (.inl what), some (.inl (pS (wU (M 127) (wB (M 127)).1 (wG (M 127))) ((wG (M 127)).2.1 k) 0)), some (.inl (((((wG (M 127)).2.1 k) + 0) : Nat) : Int))]) (e_c rfl (e_c rfl (e_c rfl (e_c (e_i rfl) (e_c (e_i rfl) rfl))))) ?_
                exact key 0 (by omega)
              · skip
                refine tw_pk0 ?_
                refine tw_const k151_129 ?_
                exact tw_ri k151_130 (⟨by unfold qGroup; rw [if_pos hyy]; (try simp only [Int.toNat_natCast]); all_goals ((repeat' split) <;> first | rfl | omega), rfl⟩)
  · refine tw_iload k151_0 rfl ?_
    refine tw_const k151_1 ?_
    refine tw_aload k151_2 rfl ?_
    refine tw_geti k151_3 f126_17 rfl (v := (((wG (M 127)).1 : Nat) : Int)) hG.1 ?_
    refine tw_const k151_6 ?_
    refine tw_isub k151_7 (v := ((((wG (M 127)).1 : Nat) : Int) - (1 : Int))) rfl (by omega) ?_
    refine tw_callbF (by omega) (S' := []) (as := [.inl y, .inl (0 : Int), .inl ((((wG (M 127)).1 : Nat) : Int) - (1 : Int))]) k151_8 (x_112 y (0 : Int) ((((wG (M 127)).1 : Nat) : Int) - (1 : Int))) rfl rfl rfl rfl rfl (by omega) ?_
    refine tw_zneF k151_11 (by decide) ?_
    refine tw_const k151_14 ?_
    exact tw_ri k151_15 (⟨by unfold qGroup; rw [if_neg hyy], rfl⟩)
theorem x_152 {K : mj_C} {d : Nat} {M : Nat → Nat → Int} {N : Nat → Nat → Int64} (hM : mW M) : mj_X K d 152 [.inr (.inr (.inl 126))] (mj_Sh, M, N) (fun r Z => r = some (.inl (wSh (M 127))) ∧ Z = (mj_Sh, M, N)) := by
  show mj_T K d 152 0 [some (.inr (.inr (.inl 126))), none, none] [] (mj_Sh, M, N) _
  obtain ⟨hs, hG, ⟨hr18, hr19, hr20⟩, hp, hu, hl, hd, hv⟩ := hM
  have h0 := hs.1 0 (by omega)
  have h5 := hs.2.1
  have h11 := hs.1 11 (by omega)
  have hc11 := hs.2.2.1
  have hGk : gOk (M 127 0).toNat (wG (M 127)) := wGr_ok (M 127) (wB (M 127))
  have hG1 : (wG (M 127)).1 ≤ (M 127 0).toNat := hGk.1
  have hlr := fun g (hg : g < (wG (M 127)).1) => wLk_rg hs hGk (wI_p (wB_I hs)) hg
  have key : ∀ i : Nat, i ≤ (wG (M 127)).1 → mj_T K d 152 4 [some (.inr (.inr (.inl 126))), some (.inl (pS (wLk (M 127) (wB (M 127)).1 (wG (M 127))) 0 i)), some (.inl ((i : Nat) : Int))] [] (mj_Sh, M, N) (fun r Z => r = some (.inl (wSh (M 127))) ∧ Z = (mj_Sh, M, N)) := by
    refine up_to (wG (M 127)).1 ?_ ?_
    · show mj_T K d 152 4 [some (.inr (.inr (.inl 126))), some (.inl (pS (wLk (M 127) (wB (M 127)).1 (wG (M 127))) 0 (wG (M 127)).1)), some (.inl (((wG (M 127)).1 : Nat) : Int))] [] (mj_Sh, M, N) (fun r Z => r = some (.inl (wSh (M 127))) ∧ Z = (mj_Sh, M, N))
      refine tw_iload k152_4 rfl ?_
      refine tw_aload k152_5 rfl ?_
      refine tw_geti k152_6 f126_17 rfl (v := (((wG (M 127)).1 : Nat) : Int)) hG.1 ?_
      refine tw_cgeT k152_9 (by omega) ?_
      refine tw_iload k152_27 rfl ?_
      exact tw_ri k152_28 (⟨rfl, rfl⟩)
    · intro i hmi ih
      have ih : mj_T K d 152 4 [some (.inr (.inr (.inl 126))), some (.inl (pS (wLk (M 127) (wB (M 127)).1 (wG (M 127))) 0 (i + 1))), some (.inl (((i + 1) : Nat) : Int))] [] (mj_Sh, M, N) (fun r Z => r = some (.inl (wSh (M 127))) ∧ Z = (mj_Sh, M, N)) := ih
      show mj_T K d 152 4 [some (.inr (.inr (.inl 126))), some (.inl (pS (wLk (M 127) (wB (M 127)).1 (wG (M 127))) 0 i)), some (.inl ((i : Nat) : Int))] [] (mj_Sh, M, N) (fun r Z => r = some (.inl (wSh (M 127))) ∧ Z = (mj_Sh, M, N))
      have hr5 := pS_rg (f := (wLk (M 127) (wB (M 127)).1 (wG (M 127)))) (a := 0) (B := 5000) i (fun y h1 h2 => by have := hlr y (by omega); exact this)
      have hr6 := hlr i (by omega)
      refine tw_iload k152_4 rfl ?_
      refine tw_aload k152_5 rfl ?_
      refine tw_geti k152_6 f126_17 rfl (v := (((wG (M 127)).1 : Nat) : Int)) hG.1 ?_
      refine tw_cgeF k152_9 (by omega) ?_
      refine tw_iload k152_12 rfl ?_
      refine tw_aload k152_13 rfl ?_
      refine tw_getr k152_14 f126_13 ?_
      refine tw_iload k152_17 rfl ?_
      refine tw_iald (j := i) (v := (wLk (M 127) (wB (M 127)).1 (wG (M 127)) i)) k152_18 al139 rfl (by omega) (hl i (by omega)) ?_
      refine tw_iadd k152_19 (v := ((pS (wLk (M 127) (wB (M 127)).1 (wG (M 127))) 0 i) + (wLk (M 127) (wB (M 127)).1 (wG (M 127)) i))) rfl (by omega) ?_
      refine tw_istore k152_20 rfl (L' := [some (.inr (.inr (.inl 126))), some (.inl ((pS (wLk (M 127) (wB (M 127)).1 (wG (M 127))) 0 i) + (wLk (M 127) (wB (M 127)).1 (wG (M 127)) i))), some (.inl ((i : Nat) : Int))]) rfl ?_
      refine tw_iinc k152_21 rfl (v := ((i + 1 : Nat) : Int)) rfl (by omega) rfl (L' := [some (.inr (.inr (.inl 126))), some (.inl ((pS (wLk (M 127) (wB (M 127)).1 (wG (M 127))) 0 i) + (wLk (M 127) (wB (M 127)).1 (wG (M 127)) i))), some (.inl ((i + 1 : Nat) : Int))]) rfl ?_
      refine tw_goto k152_24 ?_
      refine tw_eqL (L' := [some (.inr (.inr (.inl 126))), some (.inl (pS (wLk (M 127) (wB (M 127)).1 (wG (M 127))) 0 (i + 1))), some (.inl (((i + 1) : Nat) : Int))]) (e_c rfl (e_c (e_i (by rw [pS, Nat.zero_add])) (e_c rfl rfl))) ?_
      exact ih
  refine tw_const k152_0 ?_
  refine tw_istore k152_1 rfl (L' := [some (.inr (.inr (.inl 126))), some (.inl (0 : Int)), none]) rfl ?_
  refine tw_const k152_2 ?_
  refine tw_istore k152_3 rfl (L' := [some (.inr (.inr (.inl 126))), some (.inl (0 : Int)), some (.inl (0 : Int))]) rfl ?_
  refine tw_eqL (L' := [some (.inr (.inr (.inl 126))), some (.inl (pS (wLk (M 127) (wB (M 127)).1 (wG (M 127))) 0 0)), some (.inl ((0 : Nat) : Int))]) (e_c rfl (e_c (e_i rfl) (e_c (e_i rfl) rfl))) ?_
  exact key 0 (by omega)
theorem x_153 {K : mj_C} {d : Nat} {M : Nat → Nat → Int} {N : Nat → Nat → Int64} (hM : mW M) : mj_X K d 153 [.inr (.inr (.inl 126))] (mj_Sh, M, N) (fun r Z => r = some (.inl (uN (wG (M 127)))) ∧ Z = (mj_Sh, M, N)) := by
  show mj_T K d 153 0 [some (.inr (.inr (.inl 126))), none, none, none, none] [] (mj_Sh, M, N) _
  obtain ⟨hs, hG, ⟨hr18, hr19, hr20⟩, hp, hu, hl, hd, hv⟩ := hM
  have h0 := hs.1 0 (by omega)
  have h5 := hs.2.1
  have h11 := hs.1 11 (by omega)
  have hc11 := hs.2.2.1
  have hGk : gOk (M 127 0).toNat (wG (M 127)) := wGr_ok (M 127) (wB (M 127))
  have hG1 : (wG (M 127)).1 ≤ (M 127 0).toNat := hGk.1
  have keyO : ∀ g : Nat, g ≤ (wG (M 127)).1 → ∀ o3 o4, mj_T K d 153 4 [some (.inr (.inr (.inl 126))), some (.inl (pS (fun g => nW (wG (M 127)) g g) 0 g)), some (.inl ((g : Nat) : Int)), sv o3, sv o4] [] (mj_Sh, M, N) (fun r Z => r = some (.inl (uN (wG (M 127)))) ∧ Z = (mj_Sh, M, N)) := by
    refine up_to (wG (M 127)).1 ?_ ?_
    · show ∀ o3 o4, mj_T K d 153 4 [some (.inr (.inr (.inl 126))), some (.inl (pS (fun g => nW (wG (M 127)) g g) 0 (wG (M 127)).1)), some (.inl (((wG (M 127)).1 : Nat) : Int)), sv o3, sv o4] [] (mj_Sh, M, N) (fun r Z => r = some (.inl (uN (wG (M 127)))) ∧ Z = (mj_Sh, M, N))
      intro o3 o4
      refine tw_iload k153_4 rfl ?_
      refine tw_aload k153_5 rfl ?_
      refine tw_geti k153_6 f126_17 rfl (v := (((wG (M 127)).1 : Nat) : Int)) hG.1 ?_
      refine tw_cgeT k153_9 (by omega) ?_
      refine tw_iload k153_71 rfl ?_
      exact tw_ri k153_72 (⟨rfl, rfl⟩)
    · intro g hmg ih
      have ih : ∀ o3 o4, mj_T K d 153 4 [some (.inr (.inr (.inl 126))), some (.inl (pS (fun g => nW (wG (M 127)) g g) 0 (g + 1))), some (.inl (((g + 1) : Nat) : Int)), sv o3, sv o4] [] (mj_Sh, M, N) (fun r Z => r = some (.inl (uN (wG (M 127)))) ∧ Z = (mj_Sh, M, N)) := ih
      show ∀ o3 o4, mj_T K d 153 4 [some (.inr (.inr (.inl 126))), some (.inl (pS (fun g => nW (wG (M 127)) g g) 0 g)), some (.inl ((g : Nat) : Int)), sv o3, sv o4] [] (mj_Sh, M, N) (fun r Z => r = some (.inl (uN (wG (M 127)))) ∧ Z = (mj_Sh, M, N))
      intro o3 o4
      refine tw_iload k153_4 rfl ?_
      refine tw_aload k153_5 rfl ?_
      refine tw_geti k153_6 f126_17 rfl (v := (((wG (M 127)).1 : Nat) : Int)) hG.1 ?_
      refine tw_cgeF k153_9 (by omega) ?_
      refine tw_const k153_12 ?_
      refine tw_istore k153_13 rfl (L' := [some (.inr (.inr (.inl 126))), some (.inl (pS (fun g => nW (wG (M 127)) g g) 0 g)), some (.inl ((g : Nat) : Int)), some (.inl (1 : Int)), sv o4]) rfl ?_
      refine tw_const k153_14 ?_
      refine tw_istore k153_15 rfl (L' := [some (.inr (.inr (.inl 126))), some (.inl (pS (fun g => nW (wG (M 127)) g g) 0 g)), some (.inl ((g : Nat) : Int)), some (.inl (1 : Int)), some (.inl (0 : Int))]) rfl ?_
      have ih2 := ih
      have keyI : ∀ h : Nat, h ≤ g → mj_T K d 153 17 [some (.inr (.inr (.inl 126))), some (.inl (pS (fun g => nW (wG (M 127)) g g) 0 g)), some (.inl ((g : Nat) : Int)), some (.inl (nW (wG (M 127)) g h)), some (.inl ((h : Nat) : Int))] [] (mj_Sh, M, N) (fun r Z => r = some (.inl (uN (wG (M 127)))) ∧ Z = (mj_Sh, M, N)) := by
        refine up_to g ?_ ?_
        · show mj_T K d 153 17 [some (.inr (.inr (.inl 126))), some (.inl (pS (fun g => nW (wG (M 127)) g g) 0 g)), some (.inl ((g : Nat) : Int)), some (.inl (nW (wG (M 127)) g g)), some (.inl ((g : Nat) : Int))] [] (mj_Sh, M, N) (fun r Z => r = some (.inl (uN (wG (M 127)))) ∧ Z = (mj_Sh, M, N))
          have hr := pS_rg (f := (fun g => nW (wG (M 127)) g g)) (a := 0) (B := 1) g (fun k _ _ => by have := nW_01 (G := wG (M 127)) (g := k) k; (try dsimp only); omega)
          refine tw_iload k153_17 rfl ?_
          refine tw_iload k153_19 rfl ?_
          refine tw_cgeT k153_20 (by omega) ?_
          refine tw_iload k153_53 rfl ?_
          refine tw_iload k153_54 rfl ?_
          refine tw_zeq k153_55 (fun h55 => ?_) (fun h55 => ?_)
          · refine tw_const k153_62 ?_
            refine tw_iadd k153_63 (v := ((pS (fun g => nW (wG (M 127)) g g) 0 g) + (0 : Int))) rfl (by omega) ?_
            refine tw_istore k153_64 rfl (L' := [some (.inr (.inr (.inl 126))), some (.inl ((pS (fun g => nW (wG (M 127)) g g) 0 g) + (0 : Int))), some (.inl ((g : Nat) : Int)), some (.inl (nW (wG (M 127)) g g)), some (.inl ((g : Nat) : Int))]) rfl ?_
            refine tw_iinc k153_65 rfl (v := ((g + 1 : Nat) : Int)) rfl (by omega) rfl (L' := [some (.inr (.inr (.inl 126))), some (.inl ((pS (fun g => nW (wG (M 127)) g g) 0 g) + (0 : Int))), some (.inl ((g + 1 : Nat) : Int)), some (.inl (nW (wG (M 127)) g g)), some (.inl ((g : Nat) : Int))]) rfl ?_
            refine tw_goto k153_68 ?_
            have h01 := nW_01 (G := wG (M 127)) (g := g) g
            refine tw_eqL (L' := [some (.inr (.inr (.inl 126))), some (.inl (pS (fun g => nW (wG (M 127)) g g) 0 (g + 1))), some (.inl (((g + 1) : Nat) : Int)), sv (some (.inl (nW (wG (M 127)) g g))), sv (some (.inl ((g : Nat) : Int)))]) (e_c rfl (e_c (e_i (by rw [pS]; (try dsimp only); rw [Nat.zero_add]; omega)) (e_c rfl (e_c rfl (e_c rfl rfl))))) ?_
            exact ih2 _ _
          · refine tw_const k153_58 ?_
            refine tw_goto k153_59 ?_
            refine tw_iadd k153_63 (v := ((pS (fun g => nW (wG (M 127)) g g) 0 g) + (1 : Int))) rfl (by omega) ?_
            refine tw_istore k153_64 rfl (L' := [some (.inr (.inr (.inl 126))), some (.inl ((pS (fun g => nW (wG (M 127)) g g) 0 g) + (1 : Int))), some (.inl ((g : Nat) : Int)), some (.inl (nW (wG (M 127)) g g)), some (.inl ((g : Nat) : Int))]) rfl ?_
            refine tw_iinc k153_65 rfl (v := ((g + 1 : Nat) : Int)) rfl (by omega) rfl (L' := [some (.inr (.inr (.inl 126))), some (.inl ((pS (fun g => nW (wG (M 127)) g g) 0 g) + (1 : Int))), some (.inl ((g + 1 : Nat) : Int)), some (.inl (nW (wG (M 127)) g g)), some (.inl ((g : Nat) : Int))]) rfl ?_
            refine tw_goto k153_68 ?_
            have h01 := nW_01 (G := wG (M 127)) (g := g) g
            refine tw_eqL (L' := [some (.inr (.inr (.inl 126))), some (.inl (pS (fun g => nW (wG (M 127)) g g) 0 (g + 1))), some (.inl (((g + 1) : Nat) : Int)), sv (some (.inl (nW (wG (M 127)) g g))), sv (some (.inl ((g : Nat) : Int)))]) (e_c rfl (e_c (e_i (by rw [pS]; (try dsimp only); rw [Nat.zero_add]; omega)) (e_c rfl (e_c rfl (e_c rfl rfl))))) ?_
            exact ih2 _ _
        · intro h hmh ih
          have ih : mj_T K d 153 17 [some (.inr (.inr (.inl 126))), some (.inl (pS (fun g => nW (wG (M 127)) g g) 0 g)), some (.inl ((g : Nat) : Int)), some (.inl (nW (wG (M 127)) g (h + 1))), some (.inl (((h + 1) : Nat) : Int))] [] (mj_Sh, M, N) (fun r Z => r = some (.inl (uN (wG (M 127)))) ∧ Z = (mj_Sh, M, N)) := ih
          show mj_T K d 153 17 [some (.inr (.inr (.inl 126))), some (.inl (pS (fun g => nW (wG (M 127)) g g) 0 g)), some (.inl ((g : Nat) : Int)), some (.inl (nW (wG (M 127)) g h)), some (.inl ((h : Nat) : Int))] [] (mj_Sh, M, N) (fun r Z => r = some (.inl (uN (wG (M 127)))) ∧ Z = (mj_Sh, M, N))
          have hx01 := nW_01 (G := wG (M 127)) (g := g) h
          refine tw_iload k153_17 rfl ?_
          refine tw_iload k153_19 rfl ?_
          refine tw_cgeF k153_20 (by omega) ?_
          refine tw_iload k153_23 rfl ?_
          refine tw_aload k153_24 rfl ?_
          refine tw_getr k153_25 f126_12 ?_
          refine tw_iload k153_28 rfl ?_
          refine tw_iald (j := h) (v := ((((wG (M 127)).2.2.2 h) : Nat) : Int)) k153_30 al138 rfl (by omega) (hG.2 h (by omega)).2.2 ?_
          refine tw_aload k153_31 rfl ?_
          refine tw_getr k153_32 f126_12 ?_
          refine tw_iload k153_35 rfl ?_
          refine tw_iald (j := g) (v := ((((wG (M 127)).2.2.2 g) : Nat) : Int)) k153_36 al138 rfl (by omega) (hG.2 g (by omega)).2.2 ?_
          refine tw_ceq k153_37 (fun h37 => ?_) (fun h37 => ?_)
          · refine tw_const k153_44 ?_
            refine tw_and k153_45 (by omega) (by decide) (v := (0 : Int)) (by omega) ?_
            refine tw_istore k153_46 rfl (L' := [some (.inr (.inr (.inl 126))), some (.inl (pS (fun g => nW (wG (M 127)) g g) 0 g)), some (.inl ((g : Nat) : Int)), some (.inl (0 : Int)), some (.inl ((h : Nat) : Int))]) rfl ?_
            refine tw_iinc k153_47 rfl (v := ((h + 1 : Nat) : Int)) rfl (by omega) rfl (L' := [some (.inr (.inr (.inl 126))), some (.inl (pS (fun g => nW (wG (M 127)) g g) 0 g)), some (.inl ((g : Nat) : Int)), some (.inl (0 : Int)), some (.inl ((h + 1 : Nat) : Int))]) rfl ?_
            refine tw_goto k153_50 ?_
            refine tw_eqL (L' := [some (.inr (.inr (.inl 126))), some (.inl (pS (fun g => nW (wG (M 127)) g g) 0 g)), some (.inl ((g : Nat) : Int)), some (.inl (nW (wG (M 127)) g (h + 1))), some (.inl (((h + 1) : Nat) : Int))]) (e_c rfl (e_c rfl (e_c rfl (e_c (e_i (by rw [nW, if_pos (by omega)])) (e_c rfl rfl))))) ?_
            exact ih
          · refine tw_const k153_40 ?_
            refine tw_goto k153_41 ?_
            refine tw_and k153_45 (by omega) (by decide) (v := (nW (wG (M 127)) g h)) (by omega) ?_
            refine tw_istore k153_46 rfl (L' := [some (.inr (.inr (.inl 126))), some (.inl (pS (fun g => nW (wG (M 127)) g g) 0 g)), some (.inl ((g : Nat) : Int)), some (.inl (nW (wG (M 127)) g h)), some (.inl ((h : Nat) : Int))]) rfl ?_
            refine tw_iinc k153_47 rfl (v := ((h + 1 : Nat) : Int)) rfl (by omega) rfl (L' := [some (.inr (.inr (.inl 126))), some (.inl (pS (fun g => nW (wG (M 127)) g g) 0 g)), some (.inl ((g : Nat) : Int)), some (.inl (nW (wG (M 127)) g h)), some (.inl ((h + 1 : Nat) : Int))]) rfl ?_
            refine tw_goto k153_50 ?_
            refine tw_eqL (L' := [some (.inr (.inr (.inl 126))), some (.inl (pS (fun g => nW (wG (M 127)) g g) 0 g)), some (.inl ((g : Nat) : Int)), some (.inl (nW (wG (M 127)) g (h + 1))), some (.inl (((h + 1) : Nat) : Int))]) (e_c rfl (e_c rfl (e_c rfl (e_c (e_i (by rw [nW, if_neg (by omega)])) (e_c rfl rfl))))) ?_
            exact ih
      refine tw_eqL (L' := [some (.inr (.inr (.inl 126))), some (.inl (pS (fun g => nW (wG (M 127)) g g) 0 g)), some (.inl ((g : Nat) : Int)), some (.inl (nW (wG (M 127)) g 0)), some (.inl ((0 : Nat) : Int))]) (e_c rfl (e_c rfl (e_c rfl (e_c (e_i rfl) (e_c (e_i rfl) rfl))))) ?_
      exact keyI 0 (by omega)
  refine tw_const k153_0 ?_
  refine tw_istore k153_1 rfl (L' := [some (.inr (.inr (.inl 126))), some (.inl (0 : Int)), none, none, none]) rfl ?_
  refine tw_const k153_2 ?_
  refine tw_istore k153_3 rfl (L' := [some (.inr (.inr (.inl 126))), some (.inl (0 : Int)), some (.inl (0 : Int)), none, none]) rfl ?_
  refine tw_eqL (L' := [some (.inr (.inr (.inl 126))), some (.inl (pS (fun g => nW (wG (M 127)) g g) 0 0)), some (.inl ((0 : Nat) : Int)), sv none, sv none]) (e_c rfl (e_c (e_i rfl) (e_c (e_i rfl) (e_c rfl (e_c rfl rfl))))) ?_
  exact keyO 0 (by omega) none none
