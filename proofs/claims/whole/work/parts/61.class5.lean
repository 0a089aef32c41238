-- the class: lists, events, judging, the image, tapes
theorem rV_q {o c : Nat} {M : Nat → Nat → Int} {s s' : Nat → Int} (h : rV o M s c) {most : Nat} (hl : s c ≤ most) (hq : ∀ i, c ≤ i → i ≤ c + 2 * most → s' i = s i) : rV o M s' c :=
  ⟨by rw [hq c (by omega) (by omega)]; exact h.1, fun i hi => by rw [hq c (by omega) (by omega)] at hi; rw [hq _ (by omega) (by omega), hq _ (by omega) (by omega)]; exact h.2 i hi⟩
theorem sEv_L {s : Nat → Int} {w n : Int} : sEv s w n = sList s 57 w n := rfl
theorem sList_ne {s : Nat → Int} {c : Nat} {y p : Int} {i : Nat} (h : i < c ∨ c + 2 + 2 * (s c).toNat < i) : sList s c y p i = s i := by
  unfold sList; rw [pU_ne (by omega), pU_ne (by omega), pU_ne (by omega)]
theorem rV_ap {o c n : Nat} {M : Nat → Nat → Int} {s : Nat → Int} {a b : Int} (h : rV o M s c) (hn : n = (s c).toNat) (h0 : 0 ≤ s c) : rV o (st M [(o + 1, pU (M (o + 1)) n a), (o + 2, pU (M (o + 2)) n b), (o, pU (M o) 2 ((n + 1 : Nat) : Int))]) (sList s c a b) c := by
  have e0 : ∀ j, st M [(o + 1, pU (M (o + 1)) n a), (o + 2, pU (M (o + 2)) n b), (o, pU (M o) 2 ((n + 1 : Nat) : Int))] o j = pU (M o) 2 ((n + 1 : Nat) : Int) j := fun j => by rw [st_c, if_neg (by omega), st_c, if_neg (by omega), st_c, if_pos rfl]
  have e1 : ∀ j, st M [(o + 1, pU (M (o + 1)) n a), (o + 2, pU (M (o + 2)) n b), (o, pU (M o) 2 ((n + 1 : Nat) : Int))] (o + 1) j = pU (M (o + 1)) n a j := fun j => by rw [st_c, if_pos rfl]
  have e2 : ∀ j, st M [(o + 1, pU (M (o + 1)) n a), (o + 2, pU (M (o + 2)) n b), (o, pU (M o) 2 ((n + 1 : Nat) : Int))] (o + 2) j = pU (M (o + 2)) n b j := fun j => by rw [st_c, if_neg (by omega), st_c, if_pos rfl]
  have f0 : sList s c a b c = ((n + 1 : Nat) : Int) := by unfold sList; rw [pU_eq, hn]
  refine ⟨by rw [e0, pU_eq, f0], fun i hi => ?_⟩
  rw [f0] at hi
  rw [e1, e2]
  unfold sList
  rw [← hn]
  by_cases e : i = n
  · rw [e, pU_eq, pU_eq, pU_ne (by omega), pU_ne (by omega), pU_eq, pU_ne (by omega), pU_eq]; exact ⟨rfl, rfl⟩
  · rw [pU_ne e, pU_ne e, pU_ne (by omega), pU_ne (by omega), pU_ne (by omega), pU_ne (by omega), pU_ne (by omega), pU_ne (by omega)]; exact h.2 i (by omega)
section TRules3
variable {K : mj_C} {d m pc nx : Nat} {L L' : mj_L} {S : List mj_V} {h : List mj_S} {M : Nat → Nat → Int} {N : Nat → Nat → Int64} {Q : Option mj_V → mj_Z → Prop} {n : Int} {a b : Nat} {tb : List (Int × Nat)}
theorem tw_acplu {q r u w i' j' n' : Nat} {i j k : Int} (hc : mj_cod m pc = some ((35, n, a, b, tb), nx)) (hq : mj_al h 2 q = some u) (hr : mj_al h 2 r = some w) (hi : i = (i' : Int)) (hj : j = (j' : Int)) (hn : k = (n' : Int)) (h1 : i' + n' ≤ u) (h2 : j' + n' ≤ w) (hS : Nat.ble (mj_cat S) 8 = true) (kk : mj_T K d m nx L S (h, M, mj_cpy N q i' r j' n') Q) : mj_T K d m pc L (.inl k :: .inl j :: .inr (.inr (.inl r)) :: .inl i :: .inr (.inr (.inl q)) :: S) (h, M, N) Q := tw_step hc (by
  subst hi hj hn
  show mj_acp nx L (.inl (n' : Int) :: .inl (j' : Int) :: .inr (.inr (.inl r)) :: .inl (i' : Int) :: .inr (.inr (.inl q)) :: S) (h, M, N) = _
  unfold mj_acp
  simp only [hq, hr, al12 hq, al12 hr]
  rw [if_pos (Nat.le_of_ble_eq_true hS), if_pos (by omega), Int.toNat_natCast, Int.toNat_natCast, Int.toNat_natCast]) kk
end TRules3
theorem cp_c {α : Type} {M : Nat → Nat → α} {a i b j n c k : Nat} : mj_cpy M a i b j n c k = if c = b ∧ j ≤ k ∧ k < j + n then M a (i + (k - j)) else M c k := rfl
def qUndo (kp : Int) (im s : Nat → Int) : Int := if kp = 0 then -3 else pC im s 0
def aUndo (kp : Int) (im s : Nat → Int) : Nat → Int := if kp = 0 then s else pC im s
theorem tV_fr2 {M M1 : Nat → Nat → Int} {N N1 : Nat → Nat → Int64} {so it so1 it1 : Nat → Int} {ce ce1 : Nat → Int64} (hT : tOk so it) (h : tV M N so it ce) (t : Nat) (ht : t < 6) (h1 : M1 (114 + 2 * t) 1 = so1 t) (h2 : M1 (114 + 2 * t) 2 = it1 t) (h3 : ∀ i : Nat, (i : Int) < it1 t → N1 (115 + 2 * t) i = ce1 (60 * t + i)) (hM : ∀ c, c ≠ 114 + 2 * t → M1 c = M c) (hN : ∀ c, c ≠ 115 + 2 * t → N1 c = N c) (hso : ∀ i, i ≠ t → so1 i = so i) (hit : ∀ i, i ≠ t → it1 i = it i) (hce : ∀ i, i < 60 * t ∨ 60 * t + 60 ≤ i → ce1 i = ce i) : tV M1 N1 so1 it1 ce1 := fun q hq => by
  by_cases e : q = t
  · subst e; exact ⟨h1, h2, h3⟩
  · have hk := hT q hq
    rw [hM _ (by omega), hN _ (by omega), hso _ e, hit _ e]
    exact ⟨(h q hq).1, (h q hq).2.1, fun i hi => by rw [hce _ (by omega)]; exact (h q hq).2.2 i hi⟩
section
variable {s im : Nat → Int} {kp : Int} {tx : Nat → Int} {ln : Int} {so it so1 it1 : Nat → Int} {ce ce1 : Nat → Int64} {M M1 : Nat → Nat → Int} {N N1 : Nat → Nat → Int64}
theorem IC_t (hs : pRg s) (h : IC s im kp tx ln so it ce M N) (hM : ∀ c, c < 114 ∨ 125 < c → M1 c = M c) (hN : ∀ c, c < 114 ∨ 125 < c → N1 c = N c) (ht : tV M1 N1 so1 it1 ce1) : IC s im kp tx ln so1 it1 ce1 M1 N1 := by
  obtain ⟨i1, i2, i3, i4, i5, i6, i7⟩ := h
  refine ⟨stV_fr i1 (fun c _ _ => hM c (by omega)), by rw [hM 0 (by omega)]; exact i2, fun q => stV_fr (i3 q) (fun c _ _ => hM c (by omega)), ?_, ⟨fun p hp => by rw [hM 38 (by omega)]; exact i5.1 p hp, fun p hp => by rw [hM 72 (by omega)]; exact i5.2.1 p hp, fun i j hij hi => by rw [hM _ (by omega)]; exact i5.2.2 i j hij hi⟩, ⟨by rw [hM 96 (by omega)]; exact i6.1, fun i hi => by rw [hM 97 (by omega)]; exact i6.2 i hi⟩, ht⟩
  rw [hM 0 (by omega)]
  rcases i4 with q | ⟨q1, q2⟩
  · exact Or.inl q
  · exact Or.inr ⟨q1, cPV_fr hs q2 (fun c _ _ => hM c (by omega)) (hN 35 (by omega))⟩
theorem IC_em_9 (hV : pVI s) (h : IC s im kp tx ln so it ce M N) : IC (pU s 46 0) im kp tx ln so it ce (st M [(9, pU (M 9) 2 0)]) N := by
  have l46 := hV.2.2.1
  have l57 := hV.2.2.2.2
  have l74 := hV.2.2.2.1
  have a1 := l46.1
  have a2 := l46.2.1
  have a3 := l57.1
  have a4 := l57.2.1
  have a5 := l74.1
  have a6 := l74.2.1
  refine IC_r hV.1 h (fun i hi => pU_ne (by omega)) ?_ ?_ ?_ (fun c hc => by rw [st_c, if_neg (by omega), st_nil])
  · exact ⟨by rw [st_c, if_pos rfl, pU_eq, pU_eq], fun i hi => by rw [pU_eq] at hi; omega⟩
  · exact rV_q (most := 8) (rV_fr h.1.2.2.1 (fun x _ _ => by rw [st_c, if_neg (by omega), st_nil])) (by omega) (fun i _ _ => pU_ne (by omega))
  · exact rV_q (most := 8) (rV_fr h.1.2.2.2 (fun x _ _ => by rw [st_c, if_neg (by omega), st_nil])) (by omega) (fun i _ _ => pU_ne (by omega))
theorem IC_ap_9 {n : Nat} {a b : Int} (hV : pVI s) (h : IC s im kp tx ln so it ce M N) (hn : n = (s 46).toNat) (hlt : n < 5) : IC (sList s 46 a b) im kp tx ln so it ce (st M [(10, pU (M 10) n a), (11, pU (M 11) n b), (9, pU (M 9) 2 ((n + 1 : Nat) : Int))]) N := by
  have l46 := hV.2.2.1
  have l57 := hV.2.2.2.2
  have l74 := hV.2.2.2.1
  have a1 := l46.1
  have a2 := l46.2.1
  have a3 := l57.1
  have a4 := l57.2.1
  have a5 := l74.1
  have a6 := l74.2.1
  refine IC_r hV.1 h (fun i hi => sList_ne (by omega)) ?_ ?_ ?_ (fun c hc => by rw [st_c, if_neg (by omega), st_c, if_neg (by omega), st_c, if_neg (by omega), st_nil])
  · exact rV_ap (o := 9) h.1.2.1 hn (by omega)
  · exact rV_q (most := 8) (rV_fr h.1.2.2.1 (fun x _ _ => by rw [st_c, if_neg (by omega), st_c, if_neg (by omega), st_c, if_neg (by omega), st_nil])) (by omega) (fun i _ _ => sList_ne (by omega))
  · exact rV_q (most := 8) (rV_fr h.1.2.2.2 (fun x _ _ => by rw [st_c, if_neg (by omega), st_c, if_neg (by omega), st_c, if_neg (by omega), st_nil])) (by omega) (fun i _ _ => sList_ne (by omega))
theorem IC_em_12 (hV : pVI s) (h : IC s im kp tx ln so it ce M N) : IC (pU s 57 0) im kp tx ln so it ce (st M [(12, pU (M 12) 2 0)]) N := by
  have l46 := hV.2.2.1
  have l57 := hV.2.2.2.2
  have l74 := hV.2.2.2.1
  have a1 := l46.1
  have a2 := l46.2.1
  have a3 := l57.1
  have a4 := l57.2.1
  have a5 := l74.1
  have a6 := l74.2.1
  refine IC_r hV.1 h (fun i hi => pU_ne (by omega)) ?_ ?_ ?_ (fun c hc => by rw [st_c, if_neg (by omega), st_nil])
  · exact rV_q (most := 5) (rV_fr h.1.2.1 (fun x _ _ => by rw [st_c, if_neg (by omega), st_nil])) (by omega) (fun i _ _ => pU_ne (by omega))
  · exact ⟨by rw [st_c, if_pos rfl, pU_eq, pU_eq], fun i hi => by rw [pU_eq] at hi; omega⟩
  · exact rV_q (most := 8) (rV_fr h.1.2.2.2 (fun x _ _ => by rw [st_c, if_neg (by omega), st_nil])) (by omega) (fun i _ _ => pU_ne (by omega))
theorem IC_ap_12 {n : Nat} {a b : Int} (hV : pVI s) (h : IC s im kp tx ln so it ce M N) (hn : n = (s 57).toNat) (hlt : n < 8) : IC (sList s 57 a b) im kp tx ln so it ce (st M [(13, pU (M 13) n a), (14, pU (M 14) n b), (12, pU (M 12) 2 ((n + 1 : Nat) : Int))]) N := by
  have l46 := hV.2.2.1
  have l57 := hV.2.2.2.2
  have l74 := hV.2.2.2.1
  have a1 := l46.1
  have a2 := l46.2.1
  have a3 := l57.1
  have a4 := l57.2.1
  have a5 := l74.1
  have a6 := l74.2.1
  refine IC_r hV.1 h (fun i hi => sList_ne (by omega)) ?_ ?_ ?_ (fun c hc => by rw [st_c, if_neg (by omega), st_c, if_neg (by omega), st_c, if_neg (by omega), st_nil])
  · exact rV_q (most := 5) (rV_fr h.1.2.1 (fun x _ _ => by rw [st_c, if_neg (by omega), st_c, if_neg (by omega), st_c, if_neg (by omega), st_nil])) (by omega) (fun i _ _ => sList_ne (by omega))
  · exact rV_ap (o := 12) h.1.2.2.1 hn (by omega)
  · exact rV_q (most := 8) (rV_fr h.1.2.2.2 (fun x _ _ => by rw [st_c, if_neg (by omega), st_c, if_neg (by omega), st_c, if_neg (by omega), st_nil])) (by omega) (fun i _ _ => sList_ne (by omega))
theorem IC_em_15 (hV : pVI s) (h : IC s im kp tx ln so it ce M N) : IC (pU s 74 0) im kp tx ln so it ce (st M [(15, pU (M 15) 2 0)]) N := by
  have l46 := hV.2.2.1
  have l57 := hV.2.2.2.2
  have l74 := hV.2.2.2.1
  have a1 := l46.1
  have a2 := l46.2.1
  have a3 := l57.1
  have a4 := l57.2.1
  have a5 := l74.1
  have a6 := l74.2.1
  refine IC_r hV.1 h (fun i hi => pU_ne (by omega)) ?_ ?_ ?_ (fun c hc => by rw [st_c, if_neg (by omega), st_nil])
  · exact rV_q (most := 5) (rV_fr h.1.2.1 (fun x _ _ => by rw [st_c, if_neg (by omega), st_nil])) (by omega) (fun i _ _ => pU_ne (by omega))
  · exact rV_q (most := 8) (rV_fr h.1.2.2.1 (fun x _ _ => by rw [st_c, if_neg (by omega), st_nil])) (by omega) (fun i _ _ => pU_ne (by omega))
  · exact ⟨by rw [st_c, if_pos rfl, pU_eq, pU_eq], fun i hi => by rw [pU_eq] at hi; omega⟩
theorem IC_ap_15 {n : Nat} {a b : Int} (hV : pVI s) (h : IC s im kp tx ln so it ce M N) (hn : n = (s 74).toNat) (hlt : n < 8) : IC (sList s 74 a b) im kp tx ln so it ce (st M [(16, pU (M 16) n a), (17, pU (M 17) n b), (15, pU (M 15) 2 ((n + 1 : Nat) : Int))]) N := by
  have l46 := hV.2.2.1
  have l57 := hV.2.2.2.2
  have l74 := hV.2.2.2.1
  have a1 := l46.1
  have a2 := l46.2.1
  have a3 := l57.1
  have a4 := l57.2.1
  have a5 := l74.1
  have a6 := l74.2.1
  refine IC_r hV.1 h (fun i hi => sList_ne (by omega)) ?_ ?_ ?_ (fun c hc => by rw [st_c, if_neg (by omega), st_c, if_neg (by omega), st_c, if_neg (by omega), st_nil])
  · exact rV_q (most := 5) (rV_fr h.1.2.1 (fun x _ _ => by rw [st_c, if_neg (by omega), st_c, if_neg (by omega), st_c, if_neg (by omega), st_nil])) (by omega) (fun i _ _ => sList_ne (by omega))
  · exact rV_q (most := 8) (rV_fr h.1.2.2.1 (fun x _ _ => by rw [st_c, if_neg (by omega), st_c, if_neg (by omega), st_c, if_neg (by omega), st_nil])) (by omega) (fun i _ _ => sList_ne (by omega))
  · exact rV_ap (o := 15) h.1.2.2.2 hn (by omega)
end
theorem x_109_9 {K : mj_C} {d : Nat} {M : Nat → Nat → Int} {N : Nat → Nat → Int64} (hD : 2 ≤ d) (hK : kOk K) (s im : Nat → Int) (kp : Int) (tx : Nat → Int) (ln : Int) (so it : Nat → Int) (ce : Nat → Int64) (hI : IC s im kp tx ln so it ce M N) (hV : VI s im kp tx ln so it) (y p : Int) : mj_X K d 109 [.inr (.inr (.inl 0)), .inr (.inr (.inl 9)), .inl y, .inl p] (mj_Sh, M, N) (fun r Z => r = some (.inl (qList s 46 5 y p)) ∧ ∃ M1 N1, Z = (mj_Sh, M1, N1) ∧ IC (aList s 46 5 y p) im kp tx ln so it ce M1 N1 ∧ fr6 M N M1 N1) := by
  show mj_T K d 109 0 [some (.inr (.inr (.inl 0))), some (.inr (.inr (.inl 9))), some (.inl y), some (.inl p)] [] (mj_Sh, M, N) _
  have hVs := hV.1
  have hs := hVs.1
  have h0 := hs.1 0 (by omega)
  have h5 := hs.2.1
  have h11 := hs.1 11 (by omega)
  have hc11 := hs.2.2.1
  have hI0 := hI
  obtain ⟨⟨hS, hse, hev, hbo⟩, hkp, hkim, hfs, hzz, htxt, htp⟩ := hI
  have l46 := hVs.2.2.1
  have l74 := hVs.2.2.2.1
  have a1 := l46.1
  have a2 := l46.2.1
  have a5 := l74.1
  have a6 := l74.2.1
  obtain ⟨n, hn⟩ : ∃ n : Nat, n = (s 46).toNat := ⟨_, rfl⟩
  have hnR : M 9 2 = (n : Int) := hse.1.trans (by omega)
  by_cases hy1 : y = -1
  · refine tw_iload k109_0 rfl ?_
    refine tw_const k109_1 ?_
    refine tw_cneF k109_2 hy1 ?_
    refine tw_aload k109_5 rfl ?_
    refine tw_call (by omega) (S' := []) (as := [.inr (.inr (.inl 9))]) k109_6 (x_35_9 (M := M) (N := N)) rfl rfl rfl rfl rfl (fun r6 Z6 hq6 => ?_)
    obtain ⟨rfl, rfl⟩ := hq6
    refine tw_as (S := [.inl (0 : Int)]) (M := (st M [(9, (pU (M 9) 2 0))])) (N := N) rfl rfl ?_
    exact tw_ri k109_9 (⟨by unfold qList; rw [if_pos hy1], _, N, rfl, by rw [show (aList s 46 5 y p) = pU s 46 0 by unfold aList; rw [if_pos hy1]]; exact IC_em_9 hV.1 hI0, fun c hc => ⟨by rw [st_c, if_neg (by omega), st_nil], rfl⟩⟩)
  · refine tw_iload k109_0 rfl ?_
    refine tw_const k109_1 ?_
    refine tw_cneT k109_2 hy1 ?_
    refine tw_aload k109_10 rfl ?_
    refine tw_getr k109_11 f0_0 ?_
    refine tw_getr k109_14 f1_0 ?_
    refine tw_iload k109_17 rfl ?_
    refine tw_callb (by omega) (S' := []) (as := [.inr (.inr (.inl 2)), .inl y]) k109_18 (x_47_2 (M := M) (N := N) (by omega) s (hs.1 0 (by omega)) hS y) rfl rfl rfl rfl rfl (fun h18 => ?_) (fun h18 => ?_)
    · refine tw_zneT k109_21 (by decide) ?_
      refine tw_iload k109_26 rfl ?_
      refine tw_const k109_27 ?_
      refine tw_const k109_28 ?_
      refine tw_callb (by omega) (S' := []) (as := [.inl p, .inl (0 : Int), .inl (20 : Int)]) k109_30 (x_104 p (0 : Int) (20 : Int)) rfl rfl rfl rfl rfl (fun h30 => ?_) (fun h30 => ?_)
      · refine tw_zneT k109_33 (by decide) ?_
        refine tw_aload k109_39 rfl ?_
        refine tw_iload k109_40 rfl ?_
        refine tw_iload k109_41 rfl ?_
        refine tw_call (by omega) (S' := []) (as := [.inr (.inr (.inl 9)), .inl y, .inl p]) k109_42 (x_34_9 (M := M) (N := N) n hnR (by omega) y p) rfl rfl rfl rfl rfl (fun r34 Z34 hq34 => ?_)
        rcases hq34 with ⟨hlt, rfl, rfl⟩ | ⟨hlt, rfl, rfl⟩
        · refine tw_as (S := [.inl ((n + 1 : Nat) : Int)]) (M := (st M [(10, pU (M 10) n y), (11, pU (M 11) n p), (9, pU (M 9) 2 ((n + 1 : Nat) : Int))])) (N := N) rfl rfl ?_
          exact tw_ri k109_45 (⟨by unfold qList; rw [if_neg hy1, if_pos (by omega), if_pos (by omega), if_pos (by omega)]; exact congrArg (fun x => some (Sum.inl x)) (by omega), _, N, rfl, by rw [show (aList s 46 5 y p) = sList s 46 y p by unfold aList lOk; rw [if_neg hy1, if_pos (by omega)]]; exact IC_ap_9 hV.1 hI0 hn hlt, fun c hc => ⟨by rw [st_c, if_neg (by omega), st_c, if_neg (by omega), st_c, if_neg (by omega), st_nil], rfl⟩⟩)
        · refine tw_as (S := [.inl (-4)]) (M := M) (N := N) rfl rfl ?_
          exact tw_ri k109_45 (⟨by unfold qList; rw [if_neg hy1, if_pos (by omega), if_pos (by omega), if_neg (by omega)], M, N, rfl, by rw [show (aList s 46 5 y p) = s by unfold aList lOk; rw [if_neg hy1, if_neg (by omega)]]; exact hI0, fun c _ => ⟨rfl, rfl⟩⟩)
      · refine tw_zneF k109_33 (by decide) ?_
        refine tw_const k109_36 ?_
        exact tw_ri k109_38 (⟨by unfold qList; (try simp only [Int.toNat_natCast]); (repeat' split) <;> first | rfl | omega | (exfalso; omega), M, N, rfl, by rw [show (aList s 46 5 y p) = s by unfold aList lOk; (try simp only [Int.toNat_natCast]); (repeat' split) <;> first | rfl | omega | (exfalso; omega)]; exact hI0, fun c _ => ⟨rfl, rfl⟩⟩)
    · refine tw_zneF k109_21 (by decide) ?_
      refine tw_const k109_24 ?_
      exact tw_ri k109_25 (⟨by unfold qList; (try simp only [Int.toNat_natCast]); (repeat' split) <;> first | rfl | omega | (exfalso; omega), M, N, rfl, by rw [show (aList s 46 5 y p) = s by unfold aList lOk; (try simp only [Int.toNat_natCast]); (repeat' split) <;> first | rfl | omega | (exfalso; omega)]; exact hI0, fun c _ => ⟨rfl, rfl⟩⟩)
theorem x_88 {K : mj_C} {d : Nat} {M : Nat → Nat → Int} {N : Nat → Nat → Int64} (hD : 3 ≤ d) (hK : kOk K) (s im : Nat → Int) (kp : Int) (tx : Nat → Int) (ln : Int) (so it : Nat → Int) (ce : Nat → Int64) (hI : IC s im kp tx ln so it ce M N) (hV : VI s im kp tx ln so it) (y p : Int) : mj_X K d 88 [.inr (.inr (.inl 0)), .inl y, .inl p] (mj_Sh, M, N) (fun r Z => r = some (.inl (qList s 46 5 y p)) ∧ ∃ M1 N1, Z = (mj_Sh, M1, N1) ∧ IC (aList s 46 5 y p) im kp tx ln so it ce M1 N1 ∧ fr6 M N M1 N1) := by
  show mj_T K d 88 0 [some (.inr (.inr (.inl 0))), some (.inl y), some (.inl p)] [] (mj_Sh, M, N) _
  refine tw_aload k88_0 rfl ?_
  refine tw_aload k88_1 rfl ?_
  refine tw_getr k88_2 f0_0 ?_
  refine tw_getr k88_5 f1_1 ?_
  refine tw_iload k88_8 rfl ?_
  refine tw_iload k88_9 rfl ?_
  refine tw_call (by omega) (S' := []) (as := [.inr (.inr (.inl 0)), .inr (.inr (.inl 9)), .inl y, .inl p]) k88_10 (x_109_9 (M := M) (N := N) (by omega) hK s im kp tx ln so it ce hI hV y p) rfl rfl rfl rfl rfl (fun r10 Z10 hq10 => ?_)
  obtain ⟨rfl, M2, N2, rfl, g1, g2⟩ := hq10
  refine tw_as (S := [.inl (qList s 46 5 y p)]) (M := M2) (N := N2) rfl rfl ?_
  exact tw_ri k88_13 (⟨rfl, M2, N2, rfl, g1, g2⟩)
theorem x_109_15 {K : mj_C} {d : Nat} {M : Nat → Nat → Int} {N : Nat → Nat → Int64} (hD : 2 ≤ d) (hK : kOk K) (s im : Nat → Int) (kp : Int) (tx : Nat → Int) (ln : Int) (so it : Nat → Int) (ce : Nat → Int64) (hI : IC s im kp tx ln so it ce M N) (hV : VI s im kp tx ln so it) (y p : Int) : mj_X K d 109 [.inr (.inr (.inl 0)), .inr (.inr (.inl 15)), .inl y, .inl p] (mj_Sh, M, N) (fun r Z => r = some (.inl (qList s 74 8 y p)) ∧ ∃ M1 N1, Z = (mj_Sh, M1, N1) ∧ IC (aList s 74 8 y p) im kp tx ln so it ce M1 N1 ∧ fr6 M N M1 N1) := by
  show mj_T K d 109 0 [some (.inr (.inr (.inl 0))), some (.inr (.inr (.inl 15))), some (.inl y), some (.inl p)] [] (mj_Sh, M, N) _
  have hVs := hV.1
  have hs := hVs.1
  have h0 := hs.1 0 (by omega)
  have h5 := hs.2.1
  have h11 := hs.1 11 (by omega)
  have hc11 := hs.2.2.1
  have hI0 := hI
  obtain ⟨⟨hS, hse, hev, hbo⟩, hkp, hkim, hfs, hzz, htxt, htp⟩ := hI
  have l46 := hVs.2.2.1
  have l74 := hVs.2.2.2.1
  have a1 := l46.1
  have a2 := l46.2.1
  have a5 := l74.1
  have a6 := l74.2.1
  obtain ⟨n, hn⟩ : ∃ n : Nat, n = (s 74).toNat := ⟨_, rfl⟩
  have hnR : M 15 2 = (n : Int) := hbo.1.trans (by omega)
  by_cases hy1 : y = -1
  · refine tw_iload k109_0 rfl ?_
    refine tw_const k109_1 ?_
    refine tw_cneF k109_2 hy1 ?_
    refine tw_aload k109_5 rfl ?_
    refine tw_call (by omega) (S' := []) (as := [.inr (.inr (.inl 15))]) k109_6 (x_35_15 (M := M) (N := N)) rfl rfl rfl rfl rfl (fun r6 Z6 hq6 => ?_)
    obtain ⟨rfl, rfl⟩ := hq6
    refine tw_as (S := [.inl (0 : Int)]) (M := (st M [(15, (pU (M 15) 2 0))])) (N := N) rfl rfl ?_
    exact tw_ri k109_9 (⟨by unfold qList; rw [if_pos hy1], _, N, rfl, by rw [show (aList s 74 8 y p) = pU s 74 0 by unfold aList; rw [if_pos hy1]]; exact IC_em_15 hV.1 hI0, fun c hc => ⟨by rw [st_c, if_neg (by omega), st_nil], rfl⟩⟩)
  · refine tw_iload k109_0 rfl ?_
    refine tw_const k109_1 ?_
    refine tw_cneT k109_2 hy1 ?_
    refine tw_aload k109_10 rfl ?_
    refine tw_getr k109_11 f0_0 ?_
    refine tw_getr k109_14 f1_0 ?_
    refine tw_iload k109_17 rfl ?_
    refine tw_callb (by omega) (S' := []) (as := [.inr (.inr (.inl 2)), .inl y]) k109_18 (x_47_2 (M := M) (N := N) (by omega) s (hs.1 0 (by omega)) hS y) rfl rfl rfl rfl rfl (fun h18 => ?_) (fun h18 => ?_)
    · refine tw_zneT k109_21 (by decide) ?_
      refine tw_iload k109_26 rfl ?_
      refine tw_const k109_27 ?_
      refine tw_const k109_28 ?_
      refine tw_callb (by omega) (S' := []) (as := [.inl p, .inl (0 : Int), .inl (20 : Int)]) k109_30 (x_104 p (0 : Int) (20 : Int)) rfl rfl rfl rfl rfl (fun h30 => ?_) (fun h30 => ?_)
      · refine tw_zneT k109_33 (by decide) ?_
        refine tw_aload k109_39 rfl ?_
        refine tw_iload k109_40 rfl ?_
        refine tw_iload k109_41 rfl ?_
        refine tw_call (by omega) (S' := []) (as := [.inr (.inr (.inl 15)), .inl y, .inl p]) k109_42 (x_34_15 (M := M) (N := N) n hnR (by omega) y p) rfl rfl rfl rfl rfl (fun r34 Z34 hq34 => ?_)
        rcases hq34 with ⟨hlt, rfl, rfl⟩ | ⟨hlt, rfl, rfl⟩
        · refine tw_as (S := [.inl ((n + 1 : Nat) : Int)]) (M := (st M [(16, pU (M 16) n y), (17, pU (M 17) n p), (15, pU (M 15) 2 ((n + 1 : Nat) : Int))])) (N := N) rfl rfl ?_
          exact tw_ri k109_45 (⟨by unfold qList; rw [if_neg hy1, if_pos (by omega), if_pos (by omega), if_pos (by omega)]; exact congrArg (fun x => some (Sum.inl x)) (by omega), _, N, rfl, by rw [show (aList s 74 8 y p) = sList s 74 y p by unfold aList lOk; rw [if_neg hy1, if_pos (by omega)]]; exact IC_ap_15 hV.1 hI0 hn hlt, fun c hc => ⟨by rw [st_c, if_neg (by omega), st_c, if_neg (by omega), st_c, if_neg (by omega), st_nil], rfl⟩⟩)
        · refine tw_as (S := [.inl (-4)]) (M := M) (N := N) rfl rfl ?_
          exact tw_ri k109_45 (⟨by unfold qList; rw [if_neg hy1, if_pos (by omega), if_pos (by omega), if_neg (by omega)], M, N, rfl, by rw [show (aList s 74 8 y p) = s by unfold aList lOk; rw [if_neg hy1, if_neg (by omega)]]; exact hI0, fun c _ => ⟨rfl, rfl⟩⟩)
      · refine tw_zneF k109_33 (by decide) ?_
        refine tw_const k109_36 ?_
        exact tw_ri k109_38 (⟨by unfold qList; (try simp only [Int.toNat_natCast]); (repeat' split) <;> first | rfl | omega | (exfalso; omega), M, N, rfl, by rw [show (aList s 74 8 y p) = s by unfold aList lOk; (try simp only [Int.toNat_natCast]); (repeat' split) <;> first | rfl | omega | (exfalso; omega)]; exact hI0, fun c _ => ⟨rfl, rfl⟩⟩)
    · refine tw_zneF k109_21 (by decide) ?_
      refine tw_const k109_24 ?_
      exact tw_ri k109_25 (⟨by unfold qList; (try simp only [Int.toNat_natCast]); (repeat' split) <;> first | rfl | omega | (exfalso; omega), M, N, rfl, by rw [show (aList s 74 8 y p) = s by unfold aList lOk; (try simp only [Int.toNat_natCast]); (repeat' split) <;> first | rfl | omega | (exfalso; omega)]; exact hI0, fun c _ => ⟨rfl, rfl⟩⟩)
theorem x_94 {K : mj_C} {d : Nat} {M : Nat → Nat → Int} {N : Nat → Nat → Int64} (hD : 3 ≤ d) (hK : kOk K) (s im : Nat → Int) (kp : Int) (tx : Nat → Int) (ln : Int) (so it : Nat → Int) (ce : Nat → Int64) (hI : IC s im kp tx ln so it ce M N) (hV : VI s im kp tx ln so it) (y p : Int) : mj_X K d 94 [.inr (.inr (.inl 0)), .inl y, .inl p] (mj_Sh, M, N) (fun r Z => r = some (.inl (qList s 74 8 y p)) ∧ ∃ M1 N1, Z = (mj_Sh, M1, N1) ∧ IC (aList s 74 8 y p) im kp tx ln so it ce M1 N1 ∧ fr6 M N M1 N1) := by
  show mj_T K d 94 0 [some (.inr (.inr (.inl 0))), some (.inl y), some (.inl p)] [] (mj_Sh, M, N) _
  refine tw_aload k94_0 rfl ?_
  refine tw_aload k94_1 rfl ?_
  refine tw_getr k94_2 f0_0 ?_
  refine tw_getr k94_5 f1_3 ?_
  refine tw_iload k94_8 rfl ?_
  refine tw_iload k94_9 rfl ?_
  refine tw_call (by omega) (S' := []) (as := [.inr (.inr (.inl 0)), .inr (.inr (.inl 15)), .inl y, .inl p]) k94_10 (x_109_15 (M := M) (N := N) (by omega) hK s im kp tx ln so it ce hI hV y p) rfl rfl rfl rfl rfl (fun r10 Z10 hq10 => ?_)
  obtain ⟨rfl, M2, N2, rfl, g1, g2⟩ := hq10
  refine tw_as (S := [.inl (qList s 74 8 y p)]) (M := M2) (N := N2) rfl rfl ?_
  exact tw_ri k94_13 (⟨rfl, M2, N2, rfl, g1, g2⟩)
theorem x_92 {K : mj_C} {d : Nat} {M : Nat → Nat → Int} {N : Nat → Nat → Int64} (hD : 2 ≤ d) (hK : kOk K) (s im : Nat → Int) (kp : Int) (tx : Nat → Int) (ln : Int) (so it : Nat → Int) (ce : Nat → Int64) (hI : IC s im kp tx ln so it ce M N) (hV : VI s im kp tx ln so it) (what v : Int) : mj_X K d 92 [.inr (.inr (.inl 0)), .inl what, .inl v] (mj_Sh, M, N) (fun r Z => r = some (.inl (qEvent s what v)) ∧ ∃ M1 N1, Z = (mj_Sh, M1, N1) ∧ IC (aEvent s what v) im kp tx ln so it ce M1 N1 ∧ fr6 M N M1 N1) := by
  show mj_T K d 92 0 [some (.inr (.inr (.inl 0))), some (.inl what), some (.inl v)] [] (mj_Sh, M, N) _
  have hVs := hV.1
  have hs := hVs.1
  have h0 := hs.1 0 (by omega)
  have h5 := hs.2.1
  have h11 := hs.1 11 (by omega)
  have hc11 := hs.2.2.1
  have hI0 := hI
  obtain ⟨⟨hS, hse, hev, hbo⟩, hkp, hkim, hfs, hzz, htxt, htp⟩ := hI
  have l57 := hVs.2.2.2.2
  have a3 := l57.1
  have a4 := l57.2.1
  obtain ⟨n, hn⟩ : ∃ n : Nat, n = (s 57).toNat := ⟨_, rfl⟩
  have hnR : M 12 2 = (n : Int) := hev.1.trans (by omega)
  by_cases hy1 : what = -1
  · refine tw_iload k92_0 rfl ?_
    refine tw_const k92_1 ?_
    refine tw_cneF k92_2 hy1 ?_
    refine tw_aload k92_5 rfl ?_
    refine tw_getr k92_6 f0_0 ?_
    refine tw_getr k92_9 f1_2 ?_
    refine tw_call (by omega) (S' := []) (as := [.inr (.inr (.inl 12))]) k92_12 (x_35_12 (M := M) (N := N)) rfl rfl rfl rfl rfl (fun r12 Z12 hq12 => ?_)
    obtain ⟨rfl, rfl⟩ := hq12
    refine tw_as (S := [.inl (0 : Int)]) (M := (st M [(12, (pU (M 12) 2 0))])) (N := N) rfl rfl ?_
    exact tw_ri k92_15 (⟨by unfold qEvent; rw [if_pos hy1], _, N, rfl, by rw [show aEvent s what v = pU s 57 0 by unfold aEvent; rw [if_pos hy1]]; exact IC_em_12 hV.1 hI0, fun c hc => ⟨by rw [st_c, if_neg (by omega), st_nil], rfl⟩⟩)
  · refine tw_iload k92_0 rfl ?_
    refine tw_const k92_1 ?_
    refine tw_cneT k92_2 hy1 ?_
    refine tw_iload k92_16 rfl ?_
    refine tw_const k92_17 ?_
    refine tw_const k92_18 ?_
    refine tw_callb (by omega) (S' := []) (as := [.inl what, .inl (0 : Int), .inl (3 : Int)]) k92_19 (x_104 what (0 : Int) (3 : Int)) rfl rfl rfl rfl rfl (fun h19 => ?_) (fun h19 => ?_)
    · refine tw_zneT k92_22 (by decide) ?_
      refine tw_iload k92_27 rfl ?_
      refine tw_const k92_28 ?_
      refine tw_cgt k92_29 (fun h29 => ?_) (fun h29 => ?_)
      · refine tw_iload k92_48 rfl ?_
        refine tw_const k92_49 ?_
        refine tw_cne k92_50 (fun h50 => ?_) (fun h50 => ?_)
        · refine tw_iload k92_69 rfl ?_
          refine tw_const k92_70 ?_
          refine tw_cne k92_71 (fun h71 => ?_) (fun h71 => ?_)
          · refine tw_aload k92_90 rfl ?_
            refine tw_getr k92_91 f0_0 ?_
            refine tw_getr k92_94 f1_2 ?_
            refine tw_iload k92_97 rfl ?_
            refine tw_iload k92_98 rfl ?_
            refine tw_call (by omega) (S' := []) (as := [.inr (.inr (.inl 12)), .inl what, .inl v]) k92_99 (x_34_12 (M := M) (N := N) n hnR (by omega) what v) rfl rfl rfl rfl rfl (fun r34 Z34 hq34 => ?_)
            rcases hq34 with ⟨hlt, rfl, rfl⟩ | ⟨hlt, rfl, rfl⟩
            · refine tw_as (S := [.inl ((n + 1 : Nat) : Int)]) (M := (st M [(13, pU (M 13) n what), (14, pU (M 14) n v), (12, pU (M 12) 2 ((n + 1 : Nat) : Int))])) (N := N) rfl rfl ?_
              exact tw_ri k92_102 (⟨by unfold qEvent eK eOk; (repeat' split) <;> first | exact congrArg (fun x => some (Sum.inl x)) (by omega) | (exfalso; omega), _, N, rfl, by rw [show aEvent s what v = sList s 57 what v by unfold aEvent eK eOk; (repeat' split) <;> first | exact sEv_L | (exfalso; omega)]; exact IC_ap_12 hV.1 hI0 hn hlt, fun c hc => ⟨by rw [st_c, if_neg (by omega), st_c, if_neg (by omega), st_c, if_neg (by omega), st_nil], rfl⟩⟩)
            · refine tw_as (S := [.inl (-4)]) (M := M) (N := N) rfl rfl ?_
              exact tw_ri k92_102 (⟨by unfold qEvent eK eOk; (try simp only [Int.toNat_natCast]); (repeat' split) <;> first | rfl | omega | (exfalso; omega), M, N, rfl, by rw [show aEvent s what v = s by unfold aEvent eK eOk; (try simp only [Int.toNat_natCast]); (repeat' split) <;> first | rfl | omega | (exfalso; omega)]; exact hI0, fun c _ => ⟨rfl, rfl⟩⟩)
          · refine tw_iload k92_74 rfl ?_
            refine tw_const k92_75 ?_
            refine tw_gets k92_76 ?_
            refine tw_const k92_79 ?_
            refine tw_ialdc (j := 0) (v := (20 : Int)) k92_80 rfl rfl (by rw [hK.1.2.2]; omega) hK.2.2.2.1 ?_
            refine tw_callb (by omega) (S' := []) (as := [.inl v, .inl (0 : Int), .inl (20 : Int)]) k92_81 (x_104 v (0 : Int) (20 : Int)) rfl rfl rfl rfl rfl (fun h81 => ?_) (fun h81 => ?_)
            · refine tw_zneT k92_84 (by decide) ?_
              refine tw_aload k92_90 rfl ?_
              refine tw_getr k92_91 f0_0 ?_
              refine tw_getr k92_94 f1_2 ?_
              refine tw_iload k92_97 rfl ?_
              refine tw_iload k92_98 rfl ?_
              refine tw_call (by omega) (S' := []) (as := [.inr (.inr (.inl 12)), .inl what, .inl v]) k92_99 (x_34_12 (M := M) (N := N) n hnR (by omega) what v) rfl rfl rfl rfl rfl (fun r34 Z34 hq34 => ?_)
              rcases hq34 with ⟨hlt, rfl, rfl⟩ | ⟨hlt, rfl, rfl⟩
              · refine tw_as (S := [.inl ((n + 1 : Nat) : Int)]) (M := (st M [(13, pU (M 13) n what), (14, pU (M 14) n v), (12, pU (M 12) 2 ((n + 1 : Nat) : Int))])) (N := N) rfl rfl ?_
                exact tw_ri k92_102 (⟨by unfold qEvent eK eOk; (repeat' split) <;> first | exact congrArg (fun x => some (Sum.inl x)) (by omega) | (exfalso; omega), _, N, rfl, by rw [show aEvent s what v = sList s 57 what v by unfold aEvent eK eOk; (repeat' split) <;> first | exact sEv_L | (exfalso; omega)]; exact IC_ap_12 hV.1 hI0 hn hlt, fun c hc => ⟨by rw [st_c, if_neg (by omega), st_c, if_neg (by omega), st_c, if_neg (by omega), st_nil], rfl⟩⟩)
              · refine tw_as (S := [.inl (-4)]) (M := M) (N := N) rfl rfl ?_
                exact tw_ri k92_102 (⟨by unfold qEvent eK eOk; (try simp only [Int.toNat_natCast]); (repeat' split) <;> first | rfl | omega | (exfalso; omega), M, N, rfl, by rw [show aEvent s what v = s by unfold aEvent eK eOk; (try simp only [Int.toNat_natCast]); (repeat' split) <;> first | rfl | omega | (exfalso; omega)]; exact hI0, fun c _ => ⟨rfl, rfl⟩⟩)
            · refine tw_zneF k92_84 (by decide) ?_
              refine tw_const k92_87 ?_
              exact tw_ri k92_89 (⟨by unfold qEvent eK eOk; (try simp only [Int.toNat_natCast]); (repeat' split) <;> first | rfl | omega | (exfalso; omega), M, N, rfl, by rw [show aEvent s what v = s by unfold aEvent eK eOk; (try simp only [Int.toNat_natCast]); (repeat' split) <;> first | rfl | omega | (exfalso; omega)]; exact hI0, fun c _ => ⟨rfl, rfl⟩⟩)
        · refine tw_iload k92_53 rfl ?_
          refine tw_const k92_54 ?_
          refine tw_gets k92_55 ?_
          refine tw_const k92_58 ?_
          refine tw_ialdc (j := 3) (v := (5 : Int)) k92_59 rfl rfl (by rw [hK.1.2.2]; omega) hK.2.2.2.2.2.2 ?_
          refine tw_callb (by omega) (S' := []) (as := [.inl v, .inl (0 : Int), .inl (5 : Int)]) k92_60 (x_104 v (0 : Int) (5 : Int)) rfl rfl rfl rfl rfl (fun h60 => ?_) (fun h60 => ?_)
          · refine tw_zneT k92_63 (by decide) ?_
            refine tw_iload k92_69 rfl ?_
            refine tw_const k92_70 ?_
            refine tw_cne k92_71 (fun h71 => ?_) (fun h71 => ?_)
            · refine tw_aload k92_90 rfl ?_
              refine tw_getr k92_91 f0_0 ?_
              refine tw_getr k92_94 f1_2 ?_
              refine tw_iload k92_97 rfl ?_
              refine tw_iload k92_98 rfl ?_
              refine tw_call (by omega) (S' := []) (as := [.inr (.inr (.inl 12)), .inl what, .inl v]) k92_99 (x_34_12 (M := M) (N := N) n hnR (by omega) what v) rfl rfl rfl rfl rfl (fun r34 Z34 hq34 => ?_)
              rcases hq34 with ⟨hlt, rfl, rfl⟩ | ⟨hlt, rfl, rfl⟩
              · refine tw_as (S := [.inl ((n + 1 : Nat) : Int)]) (M := (st M [(13, pU (M 13) n what), (14, pU (M 14) n v), (12, pU (M 12) 2 ((n + 1 : Nat) : Int))])) (N := N) rfl rfl ?_
                exact tw_ri k92_102 (⟨by unfold qEvent eK eOk; (repeat' split) <;> first | exact congrArg (fun x => some (Sum.inl x)) (by omega) | (exfalso; omega), _, N, rfl, by rw [show aEvent s what v = sList s 57 what v by unfold aEvent eK eOk; (repeat' split) <;> first | exact sEv_L | (exfalso; omega)]; exact IC_ap_12 hV.1 hI0 hn hlt, fun c hc => ⟨by rw [st_c, if_neg (by omega), st_c, if_neg (by omega), st_c, if_neg (by omega), st_nil], rfl⟩⟩)
              · refine tw_as (S := [.inl (-4)]) (M := M) (N := N) rfl rfl ?_
                exact tw_ri k92_102 (⟨by unfold qEvent eK eOk; (try simp only [Int.toNat_natCast]); (repeat' split) <;> first | rfl | omega | (exfalso; omega), M, N, rfl, by rw [show aEvent s what v = s by unfold aEvent eK eOk; (try simp only [Int.toNat_natCast]); (repeat' split) <;> first | rfl | omega | (exfalso; omega)]; exact hI0, fun c _ => ⟨rfl, rfl⟩⟩)
            · refine tw_iload k92_74 rfl ?_
              refine tw_const k92_75 ?_
              refine tw_gets k92_76 ?_
              refine tw_const k92_79 ?_
              refine tw_ialdc (j := 0) (v := (20 : Int)) k92_80 rfl rfl (by rw [hK.1.2.2]; omega) hK.2.2.2.1 ?_
              refine tw_callb (by omega) (S' := []) (as := [.inl v, .inl (0 : Int), .inl (20 : Int)]) k92_81 (x_104 v (0 : Int) (20 : Int)) rfl rfl rfl rfl rfl (fun h81 => ?_) (fun h81 => ?_)
              · refine tw_zneT k92_84 (by decide) ?_
                refine tw_aload k92_90 rfl ?_
                refine tw_getr k92_91 f0_0 ?_
                refine tw_getr k92_94 f1_2 ?_
                refine tw_iload k92_97 rfl ?_
                refine tw_iload k92_98 rfl ?_
                refine tw_call (by omega) (S' := []) (as := [.inr (.inr (.inl 12)), .inl what, .inl v]) k92_99 (x_34_12 (M := M) (N := N) n hnR (by omega) what v) rfl rfl rfl rfl rfl (fun r34 Z34 hq34 => ?_)
                rcases hq34 with ⟨hlt, rfl, rfl⟩ | ⟨hlt, rfl, rfl⟩
                · refine tw_as (S := [.inl ((n + 1 : Nat) : Int)]) (M := (st M [(13, pU (M 13) n what), (14, pU (M 14) n v), (12, pU (M 12) 2 ((n + 1 : Nat) : Int))])) (N := N) rfl rfl ?_
                  exact tw_ri k92_102 (⟨by unfold qEvent eK eOk; (repeat' split) <;> first | exact congrArg (fun x => some (Sum.inl x)) (by omega) | (exfalso; omega), _, N, rfl, by rw [show aEvent s what v = sList s 57 what v by unfold aEvent eK eOk; (repeat' split) <;> first | exact sEv_L | (exfalso; omega)]; exact IC_ap_12 hV.1 hI0 hn hlt, fun c hc => ⟨by rw [st_c, if_neg (by omega), st_c, if_neg (by omega), st_c, if_neg (by omega), st_nil], rfl⟩⟩)
                · refine tw_as (S := [.inl (-4)]) (M := M) (N := N) rfl rfl ?_
                  exact tw_ri k92_102 (⟨by unfold qEvent eK eOk; (try simp only [Int.toNat_natCast]); (repeat' split) <;> first | rfl | omega | (exfalso; omega), M, N, rfl, by rw [show aEvent s what v = s by unfold aEvent eK eOk; (try simp only [Int.toNat_natCast]); (repeat' split) <;> first | rfl | omega | (exfalso; omega)]; exact hI0, fun c _ => ⟨rfl, rfl⟩⟩)
              · refine tw_zneF k92_84 (by decide) ?_
                refine tw_const k92_87 ?_
                exact tw_ri k92_89 (⟨by unfold qEvent eK eOk; (try simp only [Int.toNat_natCast]); (repeat' split) <;> first | rfl | omega | (exfalso; omega), M, N, rfl, by rw [show aEvent s what v = s by unfold aEvent eK eOk; (try simp only [Int.toNat_natCast]); (repeat' split) <;> first | rfl | omega | (exfalso; omega)]; exact hI0, fun c _ => ⟨rfl, rfl⟩⟩)
          · refine tw_zneF k92_63 (by decide) ?_
            refine tw_const k92_66 ?_
            exact tw_ri k92_68 (⟨by unfold qEvent eK eOk; (try simp only [Int.toNat_natCast]); (repeat' split) <;> first | rfl | omega | (exfalso; omega), M, N, rfl, by rw [show aEvent s what v = s by unfold aEvent eK eOk; (try simp only [Int.toNat_natCast]); (repeat' split) <;> first | rfl | omega | (exfalso; omega)]; exact hI0, fun c _ => ⟨rfl, rfl⟩⟩)
      · refine tw_aload k92_32 rfl ?_
        refine tw_getr k92_33 f0_0 ?_
        refine tw_getr k92_36 f1_0 ?_
        refine tw_iload k92_39 rfl ?_
        refine tw_callb (by omega) (S' := []) (as := [.inr (.inr (.inl 2)), .inl v]) k92_40 (x_47_2 (M := M) (N := N) (by omega) s (hs.1 0 (by omega)) hS v) rfl rfl rfl rfl rfl (fun h40 => ?_) (fun h40 => ?_)
        · refine tw_zneT k92_43 (by decide) ?_
          refine tw_iload k92_48 rfl ?_
          refine tw_const k92_49 ?_
          refine tw_cne k92_50 (fun h50 => ?_) (fun h50 => ?_)
          · refine tw_iload k92_69 rfl ?_
            refine tw_const k92_70 ?_
            refine tw_cne k92_71 (fun h71 => ?_) (fun h71 => ?_)
            · refine tw_aload k92_90 rfl ?_
              refine tw_getr k92_91 f0_0 ?_
              refine tw_getr k92_94 f1_2 ?_
              refine tw_iload k92_97 rfl ?_
              refine tw_iload k92_98 rfl ?_
              refine tw_call (by omega) (S' := []) (as := [.inr (.inr (.inl 12)), .inl what, .inl v]) k92_99 (x_34_12 (M := M) (N := N) n hnR (by omega) what v) rfl rfl rfl rfl rfl (fun r34 Z34 hq34 => ?_)
              rcases hq34 with ⟨hlt, rfl, rfl⟩ | ⟨hlt, rfl, rfl⟩
              · refine tw_as (S := [.inl ((n + 1 : Nat) : Int)]) (M := (st M [(13, pU (M 13) n what), (14, pU (M 14) n v), (12, pU (M 12) 2 ((n + 1 : Nat) : Int))])) (N := N) rfl rfl ?_
                exact tw_ri k92_102 (⟨by unfold qEvent eK eOk; (repeat' split) <;> first | exact congrArg (fun x => some (Sum.inl x)) (by omega) | (exfalso; omega), _, N, rfl, by rw [show aEvent s what v = sList s 57 what v by unfold aEvent eK eOk; (repeat' split) <;> first | exact sEv_L | (exfalso; omega)]; exact IC_ap_12 hV.1 hI0 hn hlt, fun c hc => ⟨by rw [st_c, if_neg (by omega), st_c, if_neg (by omega), st_c, if_neg (by omega), st_nil], rfl⟩⟩)
              · refine tw_as (S := [.inl (-4)]) (M := M) (N := N) rfl rfl ?_
                exact tw_ri k92_102 (⟨by unfold qEvent eK eOk; (try simp only [Int.toNat_natCast]); (repeat' split) <;> first | rfl | omega | (exfalso; omega), M, N, rfl, by rw [show aEvent s what v = s by unfold aEvent eK eOk; (try simp only [Int.toNat_natCast]); (repeat' split) <;> first | rfl | omega | (exfalso; omega)]; exact hI0, fun c _ => ⟨rfl, rfl⟩⟩)
            · refine tw_iload k92_74 rfl ?_
              refine tw_const k92_75 ?_
              refine tw_gets k92_76 ?_
              refine tw_const k92_79 ?_
              refine tw_ialdc (j := 0) (v := (20 : Int)) k92_80 rfl rfl (by rw [hK.1.2.2]; omega) hK.2.2.2.1 ?_
              refine tw_callb (by omega) (S' := []) (as := [.inl v, .inl (0 : Int), .inl (20 : Int)]) k92_81 (x_104 v (0 : Int) (20 : Int)) rfl rfl rfl rfl rfl (fun h81 => ?_) (fun h81 => ?_)
              · refine tw_zneT k92_84 (by decide) ?_
                refine tw_aload k92_90 rfl ?_
                refine tw_getr k92_91 f0_0 ?_
                refine tw_getr k92_94 f1_2 ?_
                refine tw_iload k92_97 rfl ?_
                refine tw_iload k92_98 rfl ?_
                refine tw_call (by omega) (S' := []) (as := [.inr (.inr (.inl 12)), .inl what, .inl v]) k92_99 (x_34_12 (M := M) (N := N) n hnR (by omega) what v) rfl rfl rfl rfl rfl (fun r34 Z34 hq34 => ?_)
                rcases hq34 with ⟨hlt, rfl, rfl⟩ | ⟨hlt, rfl, rfl⟩
                · refine tw_as (S := [.inl ((n + 1 : Nat) : Int)]) (M := (st M [(13, pU (M 13) n what), (14, pU (M 14) n v), (12, pU (M 12) 2 ((n + 1 : Nat) : Int))])) (N := N) rfl rfl ?_
                  exact tw_ri k92_102 (⟨by unfold qEvent eK eOk; (repeat' split) <;> first | exact congrArg (fun x => some (Sum.inl x)) (by omega) | (exfalso; omega), _, N, rfl, by rw [show aEvent s what v = sList s 57 what v by unfold aEvent eK eOk; (repeat' split) <;> first | exact sEv_L | (exfalso; omega)]; exact IC_ap_12 hV.1 hI0 hn hlt, fun c hc => ⟨by rw [st_c, if_neg (by omega), st_c, if_neg (by omega), st_c, if_neg (by omega), st_nil], rfl⟩⟩)
                · refine tw_as (S := [.inl (-4)]) (M := M) (N := N) rfl rfl ?_
                  exact tw_ri k92_102 (⟨by unfold qEvent eK eOk; (try simp only [Int.toNat_natCast]); (repeat' split) <;> first | rfl | omega | (exfalso; omega), M, N, rfl, by rw [show aEvent s what v = s by unfold aEvent eK eOk; (try simp only [Int.toNat_natCast]); (repeat' split) <;> first | rfl | omega | (exfalso; omega)]; exact hI0, fun c _ => ⟨rfl, rfl⟩⟩)
              · refine tw_zneF k92_84 (by decide) ?_
                refine tw_const k92_87 ?_
                exact tw_ri k92_89 (⟨by unfold qEvent eK eOk; (try simp only [Int.toNat_natCast]); (repeat' split) <;> first | rfl | omega | (exfalso; omega), M, N, rfl, by rw [show aEvent s what v = s by unfold aEvent eK eOk; (try simp only [Int.toNat_natCast]); (repeat' split) <;> first | rfl | omega | (exfalso; omega)]; exact hI0, fun c _ => ⟨rfl, rfl⟩⟩)
          · refine tw_iload k92_53 rfl ?_
            refine tw_const k92_54 ?_
            refine tw_gets k92_55 ?_
            refine tw_const k92_58 ?_
            refine tw_ialdc (j := 3) (v := (5 : Int)) k92_59 rfl rfl (by rw [hK.1.2.2]; omega) hK.2.2.2.2.2.2 ?_
            refine tw_callb (by omega) (S' := []) (as := [.inl v, .inl (0 : Int), .inl (5 : Int)]) k92_60 (x_104 v (0 : Int) (5 : Int)) rfl rfl rfl rfl rfl (fun h60 => ?_) (fun h60 => ?_)
            · refine tw_zneT k92_63 (by decide) ?_
              refine tw_iload k92_69 rfl ?_
              refine tw_const k92_70 ?_
              refine tw_cne k92_71 (fun h71 => ?_) (fun h71 => ?_)
              · refine tw_aload k92_90 rfl ?_
                refine tw_getr k92_91 f0_0 ?_
                refine tw_getr k92_94 f1_2 ?_
                refine tw_iload k92_97 rfl ?_
                refine tw_iload k92_98 rfl ?_
                refine tw_call (by omega) (S' := []) (as := [.inr (.inr (.inl 12)), .inl what, .inl v]) k92_99 (x_34_12 (M := M) (N := N) n hnR (by omega) what v) rfl rfl rfl rfl rfl (fun r34 Z34 hq34 => ?_)
                rcases hq34 with ⟨hlt, rfl, rfl⟩ | ⟨hlt, rfl, rfl⟩
                · refine tw_as (S := [.inl ((n + 1 : Nat) : Int)]) (M := (st M [(13, pU (M 13) n what), (14, pU (M 14) n v), (12, pU (M 12) 2 ((n + 1 : Nat) : Int))])) (N := N) rfl rfl ?_
                  exact tw_ri k92_102 (⟨by unfold qEvent eK eOk; (repeat' split) <;> first | exact congrArg (fun x => some (Sum.inl x)) (by omega) | (exfalso; omega), _, N, rfl, by rw [show aEvent s what v = sList s 57 what v by unfold aEvent eK eOk; (repeat' split) <;> first | exact sEv_L | (exfalso; omega)]; exact IC_ap_12 hV.1 hI0 hn hlt, fun c hc => ⟨by rw [st_c, if_neg (by omega), st_c, if_neg (by omega), st_c, if_neg (by omega), st_nil], rfl⟩⟩)
                · refine tw_as (S := [.inl (-4)]) (M := M) (N := N) rfl rfl ?_
                  exact tw_ri k92_102 (⟨by unfold qEvent eK eOk; (try simp only [Int.toNat_natCast]); (repeat' split) <;> first | rfl | omega | (exfalso; omega), M, N, rfl, by rw [show aEvent s what v = s by unfold aEvent eK eOk; (try simp only [Int.toNat_natCast]); (repeat' split) <;> first | rfl | omega | (exfalso; omega)]; exact hI0, fun c _ => ⟨rfl, rfl⟩⟩)
              · refine tw_iload k92_74 rfl ?_
                refine tw_const k92_75 ?_
                refine tw_gets k92_76 ?_
                refine tw_const k92_79 ?_
                refine tw_ialdc (j := 0) (v := (20 : Int)) k92_80 rfl rfl (by rw [hK.1.2.2]; omega) hK.2.2.2.1 ?_
                refine tw_callb (by omega) (S' := []) (as := [.inl v, .inl (0 : Int), .inl (20 : Int)]) k92_81 (x_104 v (0 : Int) (20 : Int)) rfl rfl rfl rfl rfl (fun h81 => ?_) (fun h81 => ?_)
                · refine tw_zneT k92_84 (by decide) ?_
                  refine tw_aload k92_90 rfl ?_
                  refine tw_getr k92_91 f0_0 ?_
                  refine tw_getr k92_94 f1_2 ?_
                  refine tw_iload k92_97 rfl ?_
                  refine tw_iload k92_98 rfl ?_
                  refine tw_call (by omega) (S' := []) (as := [.inr (.inr (.inl 12)), .inl what, .inl v]) k92_99 (x_34_12 (M := M) (N := N) n hnR (by omega) what v) rfl rfl rfl rfl rfl (fun r34 Z34 hq34 => ?_)
                  rcases hq34 with ⟨hlt, rfl, rfl⟩ | ⟨hlt, rfl, rfl⟩
                  · refine tw_as (S := [.inl ((n + 1 : Nat) : Int)]) (M := (st M [(13, pU (M 13) n what), (14, pU (M 14) n v), (12, pU (M 12) 2 ((n + 1 : Nat) : Int))])) (N := N) rfl rfl ?_
                    exact tw_ri k92_102 (⟨by unfold qEvent eK eOk; (repeat' split) <;> first | exact congrArg (fun x => some (Sum.inl x)) (by omega) | (exfalso; omega), _, N, rfl, by rw [show aEvent s what v = sList s 57 what v by unfold aEvent eK eOk; (repeat' split) <;> first | exact sEv_L | (exfalso; omega)]; exact IC_ap_12 hV.1 hI0 hn hlt, fun c hc => ⟨by rw [st_c, if_neg (by omega), st_c, if_neg (by omega), st_c, if_neg (by omega), st_nil], rfl⟩⟩)
                  · refine tw_as (S := [.inl (-4)]) (M := M) (N := N) rfl rfl ?_
                    exact tw_ri k92_102 (⟨by unfold qEvent eK eOk; (try simp only [Int.toNat_natCast]); (repeat' split) <;> first | rfl | omega | (exfalso; omega), M, N, rfl, by rw [show aEvent s what v = s by unfold aEvent eK eOk; (try simp only [Int.toNat_natCast]); (repeat' split) <;> first | rfl | omega | (exfalso; omega)]; exact hI0, fun c _ => ⟨rfl, rfl⟩⟩)
                · refine tw_zneF k92_84 (by decide) ?_
                  refine tw_const k92_87 ?_
                  exact tw_ri k92_89 (⟨by unfold qEvent eK eOk; (try simp only [Int.toNat_natCast]); (repeat' split) <;> first | rfl | omega | (exfalso; omega), M, N, rfl, by rw [show aEvent s what v = s by unfold aEvent eK eOk; (try simp only [Int.toNat_natCast]); (repeat' split) <;> first | rfl | omega | (exfalso; omega)]; exact hI0, fun c _ => ⟨rfl, rfl⟩⟩)
            · refine tw_zneF k92_63 (by decide) ?_
              refine tw_const k92_66 ?_
              exact tw_ri k92_68 (⟨by unfold qEvent eK eOk; (try simp only [Int.toNat_natCast]); (repeat' split) <;> first | rfl | omega | (exfalso; omega), M, N, rfl, by rw [show aEvent s what v = s by unfold aEvent eK eOk; (try simp only [Int.toNat_natCast]); (repeat' split) <;> first | rfl | omega | (exfalso; omega)]; exact hI0, fun c _ => ⟨rfl, rfl⟩⟩)
        · refine tw_zneF k92_43 (by decide) ?_
          refine tw_const k92_46 ?_
          exact tw_ri k92_47 (⟨by unfold qEvent eK eOk; (try simp only [Int.toNat_natCast]); (repeat' split) <;> first | rfl | omega | (exfalso; omega), M, N, rfl, by rw [show aEvent s what v = s by unfold aEvent eK eOk; (try simp only [Int.toNat_natCast]); (repeat' split) <;> first | rfl | omega | (exfalso; omega)]; exact hI0, fun c _ => ⟨rfl, rfl⟩⟩)
    · refine tw_zneF k92_22 (by decide) ?_
      refine tw_const k92_25 ?_
      exact tw_ri k92_26 (⟨by unfold qEvent eK eOk; (try simp only [Int.toNat_natCast]); (repeat' split) <;> first | rfl | omega | (exfalso; omega), M, N, rfl, by rw [show aEvent s what v = s by unfold aEvent eK eOk; (try simp only [Int.toNat_natCast]); (repeat' split) <;> first | rfl | omega | (exfalso; omega)]; exact hI0, fun c _ => ⟨rfl, rfl⟩⟩)
theorem x_97 {K : mj_C} {d : Nat} {M : Nat → Nat → Int} {N : Nat → Nat → Int64} (hD : 3 ≤ d) (hK : kOk K) (s im : Nat → Int) (kp : Int) (tx : Nat → Int) (ln : Int) (so it : Nat → Int) (ce : Nat → Int64) (hI : IC s im kp tx ln so it ce M N) (hV : VI s im kp tx ln so it) : mj_X K d 97 [.inr (.inr (.inl 0))] (mj_Sh, M, N) (fun r Z => r = some (.inl (s 0)) ∧ ∃ M1 N1, Z = (mj_Sh, M1, N1) ∧ IC s (pC s im) 1 tx ln so it ce M1 N1 ∧ fr6 M N M1 N1) := by
  show mj_T K d 97 0 [some (.inr (.inr (.inl 0)))] [] (mj_Sh, M, N) _
  have hVs := hV.1
  have hs := hVs.1
  have h0 := hs.1 0 (by omega)
  have h5 := hs.2.1
  have h11 := hs.1 11 (by omega)
  have hc11 := hs.2.2.1
  have hI0 := hI
  obtain ⟨⟨hS, hse, hev, hbo⟩, hkp, hkim, hfs, hzz, htxt, htp⟩ := hI
  refine tw_aload k97_0 rfl ?_
  refine tw_getr k97_1 f0_1 ?_
  refine tw_aload k97_4 rfl ?_
  refine tw_getr k97_5 f0_0 ?_
  refine tw_call (by omega) (S' := []) (as := [.inr (.inr (.inl 18)), .inr (.inr (.inl 1))]) k97_8 (x_62_18 (M := M) (N := N) (by omega) s hVs ⟨hS, hse, hev, hbo⟩) rfl rfl rfl rfl rfl (fun r8 Z8 hq8 => ?_)
  obtain ⟨rfl, M2, rfl, g1, g2⟩ := hq8
  refine tw_as (S := []) (M := M2) (N := N) rfl rfl ?_
  refine tw_aload k97_11 rfl ?_
  refine tw_const k97_12 ?_
  refine tw_putz (M := M2) (N := N) (l := []) (l' := [(0, (pU (M2 0) 2 (1 : Int)))]) k97_13 f0_2 (by decide) rfl ?_
  refine tw_aload k97_16 rfl ?_
  refine tw_getr k97_17 f0_0 ?_
  refine tw_getr k97_20 f1_0 ?_
  refine tw_geti k97_23 f2_6 rfl (v := (s 0)) (show M2 2 6 = _ from (by rw [g2 2 (by omega)]; exact hS.1)) ?_
  exact tw_ri k97_26 (by
     have fr : ∀ c, 1 ≤ c → c < 19 ∨ 34 < c → st M2 [(0, pU (M2 0) 2 (1 : Int))] c = M c := fun c _ _ => by rw [st_c, if_neg (by omega), st_nil]; exact g2 c (by omega)
     refine ⟨rfl, _, N, rfl, ⟨stV_fr (q := 1) ⟨hS, hse, hev, hbo⟩ (fun c _ _ => fr c (by omega) (by omega)), (show pU (M2 0) 2 (1 : Int) 2 = 1 from pU_eq), fun _ => ?_, ?_, ⟨fun p hp => by rw [fr 38 (by omega) (by omega)]; exact hzz.1 p hp, fun p hp => by rw [fr 72 (by omega) (by omega)]; exact hzz.2.1 p hp, fun i j hij hi => by rw [fr _ (by omega) (by omega)]; exact hzz.2.2 i j hij hi⟩, ⟨by rw [fr 96 (by omega) (by omega)]; exact htxt.1, fun i hi => by rw [fr 97 (by omega) (by omega)]; exact htxt.2 i hi⟩, tV_fr htp (fun c _ _ => ⟨fr c (by omega) (by omega), rfl⟩)⟩, fun c hc => ⟨fr c (by omega) (by omega), rfl⟩⟩
     · exact stV_fr (stV_c9 hVs g1 (fun i hi => if_pos hi)) (fun c _ _ => by rw [st_c, if_neg (by omega), st_nil])
     · have e4 : st M2 [(0, pU (M2 0) 2 (1 : Int))] 0 4 = M 0 4 := by rw [st_c, if_pos rfl, pU_ne (by omega), g2 0 (by omega)]
       rw [e4]
       rcases hfs with q | ⟨q1, q2⟩
       · exact Or.inl q
       · exact Or.inr ⟨q1, cPV_fr hs q2 (fun c _ _ => fr c (by omega) (by omega)) rfl⟩)
theorem x_98 {K : mj_C} {d : Nat} {M : Nat → Nat → Int} {N : Nat → Nat → Int64} (hD : 3 ≤ d) (hK : kOk K) (s im : Nat → Int) (kp : Int) (tx : Nat → Int) (ln : Int) (so it : Nat → Int) (ce : Nat → Int64) (hI : IC s im kp tx ln so it ce M N) (hV : VI s im kp tx ln so it) : mj_X K d 98 [.inr (.inr (.inl 0))] (mj_Sh, M, N) (fun r Z => r = some (.inl (qUndo kp im s)) ∧ ∃ M1 N1, Z = (mj_Sh, M1, N1) ∧ IC (aUndo kp im s) im kp tx ln so it ce M1 N1 ∧ fr6 M N M1 N1) := by
  show mj_T K d 98 0 [some (.inr (.inr (.inl 0)))] [] (mj_Sh, M, N) _
  have hVs := hV.1
  have hs := hVs.1
  have h0 := hs.1 0 (by omega)
  have h5 := hs.2.1
  have h11 := hs.1 11 (by omega)
  have hc11 := hs.2.2.1
  have hI0 := hI
  obtain ⟨⟨hS, hse, hev, hbo⟩, hkp, hkim, hfs, hzz, htxt, htp⟩ := hI
  by_cases hk0 : kp = 0
  · refine tw_aload k98_0 rfl ?_
    refine tw_geti k98_1 f0_2 rfl (v := kp) hkp ?_
    refine tw_zneF k98_4 hk0 ?_
    refine tw_const k98_7 ?_
    exact tw_ri k98_9 (⟨by unfold qUndo; rw [if_pos hk0], M, N, rfl, by rw [show aUndo kp im s = s by unfold aUndo; rw [if_pos hk0]]; exact hI0, fun c _ => ⟨rfl, rfl⟩⟩)
  · have hk1 : kp = 1 ∧ pVI im := by rcases hV.2.1 with q | q; exact absurd q hk0; exact q
    have hpI : pVI (pC im s) := pVI_pC hk1.2
    have hst : stV 18 M (pC im s) := stV_c9 hk1.2 (hkim hk1.1) (fun i hi => if_pos hi)
    refine tw_aload k98_0 rfl ?_
    refine tw_geti k98_1 f0_2 rfl (v := kp) hkp ?_
    refine tw_zneT k98_4 hk0 ?_
    refine tw_aload k98_10 rfl ?_
    refine tw_const k98_11 ?_
    refine tw_putz (M := M) (N := N) (l := []) (l' := [(0, (pU (M 0) 4 (0 : Int)))]) k98_12 f0_4 (by decide) rfl ?_
    refine tw_aload k98_15 rfl ?_
    refine tw_getr k98_16 f0_0 ?_
    refine tw_aload k98_19 rfl ?_
    refine tw_getr k98_20 f0_1 ?_
    refine tw_call (by omega) (S' := []) (as := [.inr (.inr (.inl 1)), .inr (.inr (.inl 18))]) k98_23 (x_62_1 (M := (st M [(0, (pU (M 0) 4 (0 : Int)))])) (N := N) (by omega) (pC im s) hpI (stV_fr hst (fun c _ _ => by rw [st_c, if_neg (by omega), st_nil]))) rfl rfl rfl rfl rfl (fun r23 Z23 hq23 => ?_)
    obtain ⟨rfl, M2, rfl, g1, g2⟩ := hq23
    refine tw_as (S := []) (M := M2) (N := N) rfl rfl ?_
    refine tw_aload k98_26 rfl ?_
    refine tw_getr k98_27 f0_0 ?_
    refine tw_getr k98_30 f1_0 ?_
    refine tw_geti k98_33 f2_6 rfl (v := (pC im s 0)) g1.1.1 ?_
    exact tw_ri k98_36 (by
       have fr : ∀ c, 17 < c → M2 c = M c := fun c _ => by rw [g2 c (by omega), st_c, if_neg (by omega), st_nil]
       have ha : aUndo kp im s = pC im s := by unfold aUndo; rw [if_neg hk0]
       refine ⟨by unfold qUndo; rw [if_neg hk0], M2, N, rfl, by rw [ha]; exact ⟨g1, by rw [g2 0 (by omega), st_c, if_pos rfl, pU_ne (by omega)]; exact hkp, fun q => stV_fr (hkim q) (fun c _ _ => fr c (by omega)), Or.inl (by rw [g2 0 (by omega), st_c, if_pos rfl, pU_eq]), ⟨fun p hp => by rw [fr 38 (by omega)]; exact hzz.1 p hp, fun p hp => by rw [fr 72 (by omega)]; exact hzz.2.1 p hp, fun i j hij hi => by rw [fr _ (by omega)]; exact hzz.2.2 i j hij hi⟩, ⟨by rw [fr 96 (by omega)]; exact htxt.1, fun i hi => by rw [fr 97 (by omega)]; exact htxt.2 i hi⟩, tV_fr htp (fun c _ _ => ⟨fr c (by omega), rfl⟩)⟩, fun c hc => ⟨fr c (by omega), rfl⟩⟩)
