-- the model over the state's words; class and model together
def IM (s im : Nat → Int) (kp : Int) (tx : Nat → Int) (ln : Int) (so it : Nat → Int) (ce : Nat → Int64) (M : Nat → Nat → Int) (N : Nat → Nat → Int64) : Prop := M 127 = s ∧ M 128 = im ∧ M 126 3 = kp ∧ M 143 = tx ∧ M 126 23 = ln ∧ M 145 = so ∧ M 146 = it ∧ N 147 = ce ∧ mW M
def fr0 (M : Nat → Nat → Int) (N : Nat → Nat → Int64) (M1 : Nat → Nat → Int) (N1 : Nat → Nat → Int64) : Prop := ∀ c, c < 126 → M1 c = M c ∧ N1 c = N c
def Good (M : Nat → Nat → Int) (N : Nat → Nat → Int64) : Prop := ∃ s im kp tx ln so it ce, IC s im kp tx ln so it ce M N ∧ IM s im kp tx ln so it ce M N ∧ VI s im kp tx ln so it
theorem mW_fr {M M1 : Nat → Nat → Int} (h : mW M) (h1 : ∀ j, 17 ≤ j → j ≤ 20 → M1 126 j = M 126 j) (h2 : M1 127 = M 127) (h3 : ∀ c, 130 ≤ c → c ≤ 141 → M1 c = M c) : mW M1 := by
  unfold mW mWk at h ⊢
  rw [h2, h1 17 (by omega) (by omega), h1 18 (by omega) (by omega), h1 19 (by omega) (by omega), h1 20 (by omega) (by omega), h3 136 (by omega) (by omega), h3 137 (by omega) (by omega), h3 138 (by omega) (by omega), h3 130 (by omega) (by omega), h3 131 (by omega) (by omega), h3 132 (by omega) (by omega), h3 133 (by omega) (by omega), h3 134 (by omega) (by omega), h3 139 (by omega) (by omega), h3 140 (by omega) (by omega), h3 141 (by omega) (by omega)]
  exact h
section
variable {s im s' im' : Nat → Int} {kp kp' : Int} {tx tx' : Nat → Int} {ln ln' : Int} {so it so' it' : Nat → Int} {ce ce' : Nat → Int64} {M M1 : Nat → Nat → Int} {N N1 : Nat → Nat → Int64}
theorem IM_fr (h : IM s im kp tx ln so it ce M N) (hf : fr6 M N M1 N1) : IM s im kp tx ln so it ce M1 N1 := by
  obtain ⟨a1, a2, a3, a4, a5, a6, a7, a8, a9⟩ := h
  exact ⟨(hf 127 (by omega)).1.trans a1, (hf 128 (by omega)).1.trans a2, by rw [(hf 126 (by omega)).1]; exact a3, (hf 143 (by omega)).1.trans a4, by rw [(hf 126 (by omega)).1]; exact a5, (hf 145 (by omega)).1.trans a6, (hf 146 (by omega)).1.trans a7, (hf 147 (by omega)).2.trans a8, mW_fr a9 (fun j _ _ => by rw [(hf 126 (by omega)).1]) (hf 127 (by omega)).1 (fun c _ _ => (hf c (by omega)).1)⟩
theorem IC_fr0 (hs : pRg s) (h : IC s im kp tx ln so it ce M N) (hf : fr0 M N M1 N1) : IC s im kp tx ln so it ce M1 N1 := by
  obtain ⟨i1, i2, i3, i4, i5, i6, i7⟩ := id h
  refine IC_fr h (fun c hc => (hf c (by omega)).1) (by rw [(hf 0 (by omega)).1]) ?_ ⟨fun p hp => by rw [(hf 38 (by omega)).1]; exact i5.1 p hp, fun p hp => by rw [(hf 72 (by omega)).1]; exact i5.2.1 p hp, fun i j hij hi => by rw [(hf _ (by omega)).1]; exact i5.2.2 i j hij hi⟩ (fun c _ _ => (hf c (by omega)).2)
  rw [(hf 0 (by omega)).1]
  rcases i4 with q | ⟨q1, q2⟩
  · exact Or.inl q
  · exact Or.inr ⟨q1, cPV_fr hs q2 (fun c _ _ => (hf c (by omega)).1) (hf 35 (by omega)).2⟩
theorem IM_p (h : IM s im kp tx ln so it ce M N) (h1 : M1 127 = s') (h2 : mW M1) (h3 : mKp M M1) : IM s' im kp tx ln so it ce M1 N ∧ fr0 M N M1 N := by
  obtain ⟨a1, a2, a3, a4, a5, a6, a7, a8, a9⟩ := h
  exact ⟨⟨h1, (h3.1 128 (by omega)).trans a2, (h3.2 3 (by omega)).trans a3, (h3.1 143 (by omega)).trans a4, (h3.2 23 (by omega)).trans a5, (h3.1 145 (by omega)).trans a6, (h3.1 146 (by omega)).trans a7, a8, h2⟩, fun c hc => ⟨h3.1 c (by omega), rfl⟩⟩
theorem IM_q (h : IM s im kp tx ln so it ce M N) (h1 : M1 127 = s') (h2 : mW M1) (h3 : mKq M M1) : IM s' im kp tx ln so it ce M1 N ∧ fr0 M N M1 N := by
  obtain ⟨a1, a2, a3, a4, a5, a6, a7, a8, a9⟩ := h
  exact ⟨⟨h1, (h3.1 128 (by omega)).trans a2, (h3.2 3 (by omega)).trans a3, (h3.1 143 (by omega)).trans a4, (h3.2 23 (by omega)).trans a5, (h3.1 145 (by omega)).trans a6, (h3.1 146 (by omega)).trans a7, a8, h2⟩, fun c hc => ⟨h3.1 c (by omega), rfl⟩⟩
theorem IM_r (h : IM s im kp tx ln so it ce M N) (h1 : M1 127 = s') (h2 : mW M1) (h3 : mKr M M1) : IM s' im kp tx 0 so it ce M1 N ∧ fr0 M N M1 N := by
  obtain ⟨a1, a2, a3, a4, a5, a6, a7, a8, a9⟩ := h
  exact ⟨⟨h1, (h3.1 128 (by omega)).trans a2, h3.2.1.trans a3, (h3.1 143 (by omega)).trans a4, h3.2.2, (h3.1 145 (by omega)).trans a6, (h3.1 146 (by omega)).trans a7, a8, h2⟩, fun c hc => ⟨h3.1 c (by omega), rfl⟩⟩
/-- a class's call and the model's, one behind the other: the answers are the same, and all is good behind them -/
def PR (K : mj_C) (d mC mM : Nat) (as : List mj_V) (v : mj_V) (M : Nat → Nat → Int) (N : Nat → Nat → Int64) : Prop := mj_X K d mC (.inr (.inr (.inl 0)) :: as) (mj_Sh, M, N) (fun r Z => r = some v ∧ ∃ M1 N1, Z = (mj_Sh, M1, N1) ∧ mj_X K d mM (.inr (.inr (.inl 126)) :: as) (mj_Sh, M1, N1) (fun r Z => r = some v ∧ ∃ M2 N2, Z = (mj_Sh, M2, N2) ∧ Good M2 N2))
theorem PR_of {K : mj_C} {d mC mM : Nat} {as : List mj_V} {v : mj_V} (hX : mj_X K d mC (.inr (.inr (.inl 0)) :: as) (mj_Sh, M, N) (fun r Z => r = some v ∧ ∃ M1 N1, Z = (mj_Sh, M1, N1) ∧ IC s' im' kp' tx' ln' so' it' ce' M1 N1 ∧ fr6 M N M1 N1)) (hM : IM s im kp tx ln so it ce M N) (hY : ∀ M1 N1, IM s im kp tx ln so it ce M1 N1 → mj_X K d mM (.inr (.inr (.inl 126)) :: as) (mj_Sh, M1, N1) (fun r Z => r = some v ∧ ∃ M2 N2, Z = (mj_Sh, M2, N2) ∧ IM s' im' kp' tx' ln' so' it' ce' M2 N2 ∧ fr0 M1 N1 M2 N2)) (hV : VI s' im' kp' tx' ln' so' it') : PR K d mC mM as v M N := by
  refine mj_T_post hX (fun r Z hq => ?_)
  obtain ⟨h1, M1, N1, h2, h3, h4⟩ := hq
  refine ⟨h1, M1, N1, h2, mj_T_post (hY M1 N1 (IM_fr hM h4)) (fun r Z hq => ?_)⟩
  obtain ⟨g1, M2, N2, g2, g3, g4⟩ := hq
  exact ⟨g1, M2, N2, g2, s', im', kp', tx', ln', so', it', ce', IC_fr0 hV.1.1 h3 g4, g3, hV⟩
theorem Y_p {K : mj_C} {d m : Nat} {as : List mj_V} {v : mj_V} (hM : IM s im kp tx ln so it ce M N) (h : mj_X K d m as (mj_Sh, M, N) (fun r Z => r = some v ∧ Z = (mj_Sh, M, N))) : mj_X K d m as (mj_Sh, M, N) (fun r Z => r = some v ∧ ∃ M2 N2, Z = (mj_Sh, M2, N2) ∧ IM s im kp tx ln so it ce M2 N2 ∧ fr0 M N M2 N2) :=
  mj_T_post h (fun r Z hq => ⟨hq.1, M, N, hq.2, hM, fun c _ => ⟨rfl, rfl⟩⟩)
theorem Y_s {K : mj_C} {d m : Nat} {as : List mj_V} {v : mj_V} (hM : IM s im kp tx ln so it ce M N) (h : mj_X K d m as (mj_Sh, M, N) (fun r Z => r = some v ∧ ∃ M1, Z = (mj_Sh, M1, N) ∧ M1 127 = s' ∧ mW M1 ∧ mKp M M1)) : mj_X K d m as (mj_Sh, M, N) (fun r Z => r = some v ∧ ∃ M2 N2, Z = (mj_Sh, M2, N2) ∧ IM s' im kp tx ln so it ce M2 N2 ∧ fr0 M N M2 N2) :=
  mj_T_post h (fun r Z hq => by obtain ⟨q1, M1, q2, q3, q4, q5⟩ := hq; exact ⟨q1, M1, N, q2, IM_p hM q3 q4 q5⟩)
theorem Y_q {K : mj_C} {d m : Nat} {as : List mj_V} {v : mj_V} (hM : IM s im kp tx ln so it ce M N) (h : mj_X K d m as (mj_Sh, M, N) (fun r Z => r = some v ∧ ∃ M1, Z = (mj_Sh, M1, N) ∧ M1 127 = s' ∧ mW M1 ∧ mKq M M1)) : mj_X K d m as (mj_Sh, M, N) (fun r Z => r = some v ∧ ∃ M2 N2, Z = (mj_Sh, M2, N2) ∧ IM s' im kp tx ln so it ce M2 N2 ∧ fr0 M N M2 N2) :=
  mj_T_post h (fun r Z hq => by obtain ⟨q1, M1, q2, q3, q4, q5⟩ := hq; exact ⟨q1, M1, N, q2, IM_q hM q3 q4 q5⟩)
end
theorem aRead_VI {tx : Nat → Int} {L : Nat} {s : Nat → Int} (hs : pVI s) : pVI (aRead tx L s) := by
  unfold aRead; split
  · exact rdS_VI hs _
  · exact hs
theorem VI_s {s im s' : Nat → Int} {kp : Int} {tx : Nat → Int} {ln : Int} {so it : Nat → Int} (h : VI s im kp tx ln so it) (hs : pVI s') : VI s' im kp tx ln so it := ⟨hs, h.2⟩
theorem VI_feed {s im : Nat → Int} {kp : Int} {tx : Nat → Int} {ln : Int} {so it : Nat → Int} (h : VI s im kp tx ln so it) (sign : Int) : VI s im kp (aFdT tx ln sign) (aFdL ln sign) so it := by
  obtain ⟨h1, h2, h3, h4, h5⟩ := h
  refine ⟨h1, h2, ?_, fun i hi => ?_, h5⟩
  · unfold aFdL; split <;> omega
  · unfold aFdT
    split
    · rename_i q
      have := h4 i hi
      unfold pU; split <;> omega
    · exact h4 i hi
theorem VI_tape {s im : Nat → Int} {kp : Int} {tx : Nat → Int} {ln : Int} {so it : Nat → Int} (h : VI s im kp tx ln so it) (t k n : Int) : VI s im kp tx ln (aTpS so t k n) (aTpI it t k n) := by
  obtain ⟨h1, h2, h3, h4, h5⟩ := h
  refine ⟨h1, h2, h3, h4, fun q hq => ?_⟩
  have := h5 q hq
  unfold aTpS aTpI
  by_cases hk : tpK t k n
  · rw [if_pos hk, if_pos hk]
    unfold tpK at hk
    by_cases e : q = t.toNat
    · rw [e, pU_eq, pU_eq]; unfold tpN; split <;> omega
    · rw [pU_ne e, pU_ne e]; exact this
  · rw [if_neg hk, if_neg hk]; exact this
theorem VI_image {s im : Nat → Int} {kp : Int} {tx : Nat → Int} {ln : Int} {so it : Nat → Int} (h : VI s im kp tx ln so it) : VI s (pC s im) 1 tx ln so it := ⟨h.1, Or.inr ⟨rfl, pVI_pC h.1⟩, h.2.2⟩
theorem VI_undo {s im : Nat → Int} {kp : Int} {tx : Nat → Int} {ln : Int} {so it : Nat → Int} (h : VI s im kp tx ln so it) : VI (aUndo kp im s) im kp tx ln so it := by
  unfold aUndo; split
  · exact h
  · rename_i q
    rcases h.2.1 with q1 | q1
    · exact absurd q1 q
    · exact VI_s h (pVI_pC q1.2)
theorem y_69 {K : mj_C} {d : Nat} {s im : Nat → Int} {kp : Int} {tx : Nat → Int} {ln : Int} {so it : Nat → Int} {ce : Nat → Int64} {M : Nat → Nat → Int} {N : Nat → Nat → Int64} (hD : 20 ≤ d) (hM : IM s im kp tx ln so it ce M N) (hV : VI s im kp tx ln so it) (cap : Int) (em : Int) : mj_X K d 134 [.inr (.inr (.inl 126)), .inl cap, .inl em] (mj_Sh, M, N) (fun r Z => r = some (.inl (qYear s cap em)) ∧ ∃ M2 N2, Z = (mj_Sh, M2, N2) ∧ IM (aYear s cap em) im kp tx ln so it ce M2 N2 ∧ fr0 M N M2 N2) := by
  obtain ⟨rfl, rfl, rfl, rfl, rfl, rfl, rfl, rfl, hW⟩ := id hM
  exact Y_s ⟨rfl, rfl, rfl, rfl, rfl, rfl, rfl, rfl, hW⟩ (x_134 (M := M) (N := N) (by omega) hV.1 hW cap em)
theorem pr_69 {K : mj_C} {d : Nat} {M : Nat → Nat → Int} {N : Nat → Nat → Int64} (hD : 20 ≤ d) (hK : kOk K) (hG : Good M N) (cap : Int) (em : Int) : ∃ ans, PR K d 69 134 [.inl cap, .inl em] (.inl ans) M N := by
  obtain ⟨s, im, kp, tx, ln, so, it, ce, hI, hM, hV⟩ := hG
  exact ⟨qYear s cap em, PR_of (x_69 (by omega) hK s im kp tx ln so it ce hI hV cap em) hM (fun M1 N1 h1 => y_69 hD h1 hV cap em) (VI_s hV (aYear_VI hV.1 cap em))⟩
theorem y_70 {K : mj_C} {d : Nat} {s im : Nat → Int} {kp : Int} {tx : Nat → Int} {ln : Int} {so it : Nat → Int} {ce : Nat → Int64} {M : Nat → Nat → Int} {N : Nat → Nat → Int64} (hD : 20 ≤ d) (hM : IM s im kp tx ln so it ce M N) (hV : VI s im kp tx ln so it) (y : Int) (cost : Int) (much : Int) : mj_X K d 135 [.inr (.inr (.inl 126)), .inl y, .inl cost, .inl much] (mj_Sh, M, N) (fun r Z => r = some (.inl (qMeas s y cost much)) ∧ ∃ M2 N2, Z = (mj_Sh, M2, N2) ∧ IM (aMeas s y cost much) im kp tx ln so it ce M2 N2 ∧ fr0 M N M2 N2) := by
  obtain ⟨rfl, rfl, rfl, rfl, rfl, rfl, rfl, rfl, hW⟩ := id hM
  exact Y_s ⟨rfl, rfl, rfl, rfl, rfl, rfl, rfl, rfl, hW⟩ (x_135 (M := M) (N := N) (by omega) hV.1 hW y cost much)
theorem pr_70 {K : mj_C} {d : Nat} {M : Nat → Nat → Int} {N : Nat → Nat → Int64} (hD : 20 ≤ d) (hK : kOk K) (hG : Good M N) (y : Int) (cost : Int) (much : Int) : ∃ ans, PR K d 70 135 [.inl y, .inl cost, .inl much] (.inl ans) M N := by
  obtain ⟨s, im, kp, tx, ln, so, it, ce, hI, hM, hV⟩ := hG
  exact ⟨qMeas s y cost much, PR_of (x_70 (by omega) hK s im kp tx ln so it ce hI hV y cost much) hM (fun M1 N1 h1 => y_70 hD h1 hV y cost much) (VI_s hV (aMeas_VI hV.1 y cost much))⟩
theorem y_71 {K : mj_C} {d : Nat} {s im : Nat → Int} {kp : Int} {tx : Nat → Int} {ln : Int} {so it : Nat → Int} {ce : Nat → Int64} {M : Nat → Nat → Int} {N : Nat → Nat → Int64} (hD : 20 ≤ d) (hM : IM s im kp tx ln so it ce M N) (hV : VI s im kp tx ln so it) (what : Int) (k : Int) (v : Int) : mj_X K d 137 [.inr (.inr (.inl 126)), .inl what, .inl k, .inl v] (mj_Sh, M, N) (fun r Z => r = some (.inl (qRenew s what k v)) ∧ ∃ M2 N2, Z = (mj_Sh, M2, N2) ∧ IM (aRenew s what k v) im kp tx ln so it ce M2 N2 ∧ fr0 M N M2 N2) := by
  obtain ⟨rfl, rfl, rfl, rfl, rfl, rfl, rfl, rfl, hW⟩ := id hM
  exact Y_s ⟨rfl, rfl, rfl, rfl, rfl, rfl, rfl, rfl, hW⟩ (x_137 (M := M) (N := N) (by omega) hV.1 hW what k v)
theorem pr_71 {K : mj_C} {d : Nat} {M : Nat → Nat → Int} {N : Nat → Nat → Int64} (hD : 20 ≤ d) (hK : kOk K) (hG : Good M N) (what : Int) (k : Int) (v : Int) : ∃ ans, PR K d 71 137 [.inl what, .inl k, .inl v] (.inl ans) M N := by
  obtain ⟨s, im, kp, tx, ln, so, it, ce, hI, hM, hV⟩ := hG
  exact ⟨qRenew s what k v, PR_of (x_71 (by omega) hK s im kp tx ln so it ce hI hV what k v) hM (fun M1 N1 h1 => y_71 hD h1 hV what k v) (VI_s hV (aRenew_VI hV.1 what k v))⟩
theorem y_72 {K : mj_C} {d : Nat} {s im : Nat → Int} {kp : Int} {tx : Nat → Int} {ln : Int} {so it : Nat → Int} {ce : Nat → Int64} {M : Nat → Nat → Int} {N : Nat → Nat → Int64} (hD : 20 ≤ d) (hM : IM s im kp tx ln so it ce M N) (hV : VI s im kp tx ln so it) (what : Int) (v : Int) : mj_X K d 138 [.inr (.inr (.inl 126)), .inl what, .inl v] (mj_Sh, M, N) (fun r Z => r = some (.inl (qSet s what v)) ∧ ∃ M2 N2, Z = (mj_Sh, M2, N2) ∧ IM (aSet s what v) im kp tx ln so it ce M2 N2 ∧ fr0 M N M2 N2) := by
  obtain ⟨rfl, rfl, rfl, rfl, rfl, rfl, rfl, rfl, hW⟩ := id hM
  exact Y_s ⟨rfl, rfl, rfl, rfl, rfl, rfl, rfl, rfl, hW⟩ (x_138 (M := M) (N := N) (by omega) hV.1 hW what v)
theorem pr_72 {K : mj_C} {d : Nat} {M : Nat → Nat → Int} {N : Nat → Nat → Int64} (hD : 20 ≤ d) (hK : kOk K) (hG : Good M N) (what : Int) (v : Int) : ∃ ans, PR K d 72 138 [.inl what, .inl v] (.inl ans) M N := by
  obtain ⟨s, im, kp, tx, ln, so, it, ce, hI, hM, hV⟩ := hG
  exact ⟨qSet s what v, PR_of (x_72 (by omega) hK s im kp tx ln so it ce hI hV what v) hM (fun M1 N1 h1 => y_72 hD h1 hV what v) (VI_s hV (aSet_VI hV.1 what v))⟩
theorem y_73 {K : mj_C} {d : Nat} {s im : Nat → Int} {kp : Int} {tx : Nat → Int} {ln : Int} {so it : Nat → Int} {ce : Nat → Int64} {M : Nat → Nat → Int} {N : Nat → Nat → Int64} (hD : 20 ≤ d) (hM : IM s im kp tx ln so it ce M N) (hV : VI s im kp tx ln so it) (sign : Int) : mj_X K d 139 [.inr (.inr (.inl 126)), .inl sign] (mj_Sh, M, N) (fun r Z => r = some (.inl (qFeed ln sign)) ∧ ∃ M2 N2, Z = (mj_Sh, M2, N2) ∧ IM s im kp (aFdT tx ln sign) (aFdL ln sign) so it ce M2 N2 ∧ fr0 M N M2 N2) := by
  obtain ⟨rfl, rfl, rfl, rfl, rfl, rfl, rfl, rfl, hW⟩ := id hM
  refine mj_T_post (x_139 (M := M) (N := N) (by omega) hV.2.2.1 sign) (fun r Z hq => ?_)
  obtain ⟨q1, q2⟩ := hq
  exact ⟨q1, _, N, q2, ⟨rfl, rfl, rfl, rfl, (show pU (M 126) 23 (aFdL (M 126 23) sign) 23 = _ from pU_eq), rfl, rfl, rfl, mW_fr hW (fun j _ _ => by show pU (M 126) 23 _ j = _; rw [pU_ne (by omega)]) rfl (fun c _ _ => by rw [st_c, if_neg (by omega), st_c, if_neg (by omega), st_nil])⟩, fun c hc => ⟨by rw [st_c, if_neg (by omega), st_c, if_neg (by omega), st_nil], rfl⟩⟩
theorem pr_73 {K : mj_C} {d : Nat} {M : Nat → Nat → Int} {N : Nat → Nat → Int64} (hD : 20 ≤ d) (hK : kOk K) (hG : Good M N) (sign : Int) : ∃ ans, PR K d 73 139 [.inl sign] (.inl ans) M N := by
  obtain ⟨s, im, kp, tx, ln, so, it, ce, hI, hM, hV⟩ := hG
  exact ⟨qFeed ln sign, PR_of (x_73 (by omega) hK s im kp tx ln so it ce hI hV sign) hM (fun M1 N1 h1 => y_73 hD h1 hV sign) (VI_feed hV sign)⟩
theorem y_74 {K : mj_C} {d : Nat} {s im : Nat → Int} {kp : Int} {tx : Nat → Int} {ln : Int} {so it : Nat → Int} {ce : Nat → Int64} {M : Nat → Nat → Int} {N : Nat → Nat → Int64} (hD : 20 ≤ d) (hM : IM s im kp tx ln so it ce M N) (hV : VI s im kp tx ln so it)  : mj_X K d 146 [.inr (.inr (.inl 126))] (mj_Sh, M, N) (fun r Z => r = some (.inl (qRead tx ln.toNat s)) ∧ ∃ M2 N2, Z = (mj_Sh, M2, N2) ∧ IM (aRead tx ln.toNat s) im kp tx 0 so it ce M2 N2 ∧ fr0 M N M2 N2) := by
  obtain ⟨rfl, rfl, rfl, rfl, rfl, rfl, rfl, rfl, hW⟩ := id hM
  have hl := hV.2.2.1
  refine mj_T_post (x_146 (M := M) (N := N) (by omega) hV.1 hW (M 126 23).toNat (by omega) (by omega) hV.2.2.2.1) (fun r Z hq => ?_)
  obtain ⟨q1, M1, q2, q3, q4, q5⟩ := hq
  exact ⟨q1, M1, N, q2, IM_r ⟨rfl, rfl, rfl, rfl, rfl, rfl, rfl, rfl, hW⟩ q3 q4 q5⟩
theorem pr_74 {K : mj_C} {d : Nat} {M : Nat → Nat → Int} {N : Nat → Nat → Int64} (hD : 20 ≤ d) (hK : kOk K) (hG : Good M N)  : ∃ ans, PR K d 74 146 [] (.inl ans) M N := by
  obtain ⟨s, im, kp, tx, ln, so, it, ce, hI, hM, hV⟩ := hG
  exact ⟨qRead tx ln.toNat s, PR_of (x_74 (by omega) hK s im kp tx ln so it ce hI hV ) hM (fun M1 N1 h1 => y_74 hD h1 hV ) (⟨aRead_VI hV.1, hV.2.1, ⟨by omega, by omega⟩, hV.2.2.2⟩)⟩
theorem y_75 {K : mj_C} {d : Nat} {s im : Nat → Int} {kp : Int} {tx : Nat → Int} {ln : Int} {so it : Nat → Int} {ce : Nat → Int64} {M : Nat → Nat → Int} {N : Nat → Nat → Int64} (hD : 20 ≤ d) (hM : IM s im kp tx ln so it ce M N) (hV : VI s im kp tx ln so it) (y : Int) (what : Int) : mj_X K d 148 [.inr (.inr (.inl 126)), .inl y, .inl what] (mj_Sh, M, N) (fun r Z => r = some (.inl (qOf s y what)) ∧ ∃ M2 N2, Z = (mj_Sh, M2, N2) ∧ IM s im kp tx ln so it ce M2 N2 ∧ fr0 M N M2 N2) := by
  obtain ⟨rfl, rfl, rfl, rfl, rfl, rfl, rfl, rfl, hW⟩ := id hM
  exact Y_p ⟨rfl, rfl, rfl, rfl, rfl, rfl, rfl, rfl, hW⟩ (x_148 (M := M) (N := N) (by omega) hW y what)
theorem pr_75 {K : mj_C} {d : Nat} {M : Nat → Nat → Int} {N : Nat → Nat → Int64} (hD : 20 ≤ d) (hK : kOk K) (hG : Good M N) (y : Int) (what : Int) : ∃ ans, PR K d 75 148 [.inl y, .inl what] (.inl ans) M N := by
  obtain ⟨s, im, kp, tx, ln, so, it, ce, hI, hM, hV⟩ := hG
  exact ⟨qOf s y what, PR_of (x_75 (by omega) hK s im kp tx ln so it ce hI hV y what) hM (fun M1 N1 h1 => y_75 hD h1 hV y what) (hV)⟩
theorem y_76 {K : mj_C} {d : Nat} {s im : Nat → Int} {kp : Int} {tx : Nat → Int} {ln : Int} {so it : Nat → Int} {ce : Nat → Int64} {M : Nat → Nat → Int} {N : Nat → Nat → Int64} (hD : 20 ≤ d) (hM : IM s im kp tx ln so it ce M N) (hV : VI s im kp tx ln so it) (y : Int) (what : Int) : mj_X K d 149 [.inr (.inr (.inl 126)), .inl y, .inl what] (mj_Sh, M, N) (fun r Z => r = some (.inl (qAbout s y what)) ∧ ∃ M2 N2, Z = (mj_Sh, M2, N2) ∧ IM s im kp tx ln so it ce M2 N2 ∧ fr0 M N M2 N2) := by
  obtain ⟨rfl, rfl, rfl, rfl, rfl, rfl, rfl, rfl, hW⟩ := id hM
  exact Y_p ⟨rfl, rfl, rfl, rfl, rfl, rfl, rfl, rfl, hW⟩ (x_149 (M := M) (N := N) (by omega) hW y what)
theorem pr_76 {K : mj_C} {d : Nat} {M : Nat → Nat → Int} {N : Nat → Nat → Int64} (hD : 20 ≤ d) (hK : kOk K) (hG : Good M N) (y : Int) (what : Int) : ∃ ans, PR K d 76 149 [.inl y, .inl what] (.inl ans) M N := by
  obtain ⟨s, im, kp, tx, ln, so, it, ce, hI, hM, hV⟩ := hG
  exact ⟨qAbout s y what, PR_of (x_76 (by omega) hK s im kp tx ln so it ce hI hV y what) hM (fun M1 N1 h1 => y_76 hD h1 hV y what) (hV)⟩
theorem y_77 {K : mj_C} {d : Nat} {s im : Nat → Int} {kp : Int} {tx : Nat → Int} {ln : Int} {so it : Nat → Int} {ce : Nat → Int64} {M : Nat → Nat → Int} {N : Nat → Nat → Int64} (hD : 20 ≤ d) (hM : IM s im kp tx ln so it ce M N) (hV : VI s im kp tx ln so it) (y : Int) (p : Int) (what : Int) : mj_X K d 150 [.inr (.inr (.inl 126)), .inl y, .inl p, .inl what] (mj_Sh, M, N) (fun r Z => r = some (.inl (qAt s y p what)) ∧ ∃ M2 N2, Z = (mj_Sh, M2, N2) ∧ IM s im kp tx ln so it ce M2 N2 ∧ fr0 M N M2 N2) := by
  obtain ⟨rfl, rfl, rfl, rfl, rfl, rfl, rfl, rfl, hW⟩ := id hM
  exact Y_p ⟨rfl, rfl, rfl, rfl, rfl, rfl, rfl, rfl, hW⟩ (x_150 (M := M) (N := N) (by omega) hW y p what)
theorem pr_77 {K : mj_C} {d : Nat} {M : Nat → Nat → Int} {N : Nat → Nat → Int64} (hD : 20 ≤ d) (hK : kOk K) (hG : Good M N) (y : Int) (p : Int) (what : Int) : ∃ ans, PR K d 77 150 [.inl y, .inl p, .inl what] (.inl ans) M N := by
  obtain ⟨s, im, kp, tx, ln, so, it, ce, hI, hM, hV⟩ := hG
  exact ⟨qAt s y p what, PR_of (x_77 (by omega) hK s im kp tx ln so it ce hI hV y p what) hM (fun M1 N1 h1 => y_77 hD h1 hV y p what) (hV)⟩
theorem y_78 {K : mj_C} {d : Nat} {s im : Nat → Int} {kp : Int} {tx : Nat → Int} {ln : Int} {so it : Nat → Int} {ce : Nat → Int64} {M : Nat → Nat → Int} {N : Nat → Nat → Int64} (hD : 20 ≤ d) (hM : IM s im kp tx ln so it ce M N) (hV : VI s im kp tx ln so it) (y : Int) (what : Int) : mj_X K d 151 [.inr (.inr (.inl 126)), .inl y, .inl what] (mj_Sh, M, N) (fun r Z => r = some (.inl (qGroup s y what)) ∧ ∃ M2 N2, Z = (mj_Sh, M2, N2) ∧ IM s im kp tx ln so it ce M2 N2 ∧ fr0 M N M2 N2) := by
  obtain ⟨rfl, rfl, rfl, rfl, rfl, rfl, rfl, rfl, hW⟩ := id hM
  exact Y_p ⟨rfl, rfl, rfl, rfl, rfl, rfl, rfl, rfl, hW⟩ (x_151 (M := M) (N := N) (by omega) hW y what)
theorem pr_78 {K : mj_C} {d : Nat} {M : Nat → Nat → Int} {N : Nat → Nat → Int64} (hD : 20 ≤ d) (hK : kOk K) (hG : Good M N) (y : Int) (what : Int) : ∃ ans, PR K d 78 151 [.inl y, .inl what] (.inl ans) M N := by
  obtain ⟨s, im, kp, tx, ln, so, it, ce, hI, hM, hV⟩ := hG
  exact ⟨qGroup s y what, PR_of (x_78 (by omega) hK s im kp tx ln so it ce hI hV y what) hM (fun M1 N1 h1 => y_78 hD h1 hV y what) (hV)⟩
theorem y_79 {K : mj_C} {d : Nat} {s im : Nat → Int} {kp : Int} {tx : Nat → Int} {ln : Int} {so it : Nat → Int} {ce : Nat → Int64} {M : Nat → Nat → Int} {N : Nat → Nat → Int64} (hD : 20 ≤ d) (hM : IM s im kp tx ln so it ce M N) (hV : VI s im kp tx ln so it) (what : Int) : mj_X K d 154 [.inr (.inr (.inl 126)), .inl what] (mj_Sh, M, N) (fun r Z => r = some (.inl (qTold s what)) ∧ ∃ M2 N2, Z = (mj_Sh, M2, N2) ∧ IM s im kp tx ln so it ce M2 N2 ∧ fr0 M N M2 N2) := by
  obtain ⟨rfl, rfl, rfl, rfl, rfl, rfl, rfl, rfl, hW⟩ := id hM
  exact Y_p ⟨rfl, rfl, rfl, rfl, rfl, rfl, rfl, rfl, hW⟩ (x_154 (M := M) (N := N) (by omega) hW what)
theorem pr_79 {K : mj_C} {d : Nat} {M : Nat → Nat → Int} {N : Nat → Nat → Int64} (hD : 20 ≤ d) (hK : kOk K) (hG : Good M N) (what : Int) : ∃ ans, PR K d 79 154 [.inl what] (.inl ans) M N := by
  obtain ⟨s, im, kp, tx, ln, so, it, ce, hI, hM, hV⟩ := hG
  exact ⟨qTold s what, PR_of (x_79 (by omega) hK s im kp tx ln so it ce hI hV what) hM (fun M1 N1 h1 => y_79 hD h1 hV what) (hV)⟩
theorem y_80 {K : mj_C} {d : Nat} {s im : Nat → Int} {kp : Int} {tx : Nat → Int} {ln : Int} {so it : Nat → Int} {ce : Nat → Int64} {M : Nat → Nat → Int} {N : Nat → Nat → Int64} (hD : 20 ≤ d) (hM : IM s im kp tx ln so it ce M N) (hV : VI s im kp tx ln so it)  : mj_X K d 155 [.inr (.inr (.inl 126))] (mj_Sh, M, N) (fun r Z => r = some (.inr (.inl (wTt s))) ∧ ∃ M2 N2, Z = (mj_Sh, M2, N2) ∧ IM s im kp tx ln so it ce M2 N2 ∧ fr0 M N M2 N2) := by
  obtain ⟨rfl, rfl, rfl, rfl, rfl, rfl, rfl, rfl, hW⟩ := id hM
  exact Y_p ⟨rfl, rfl, rfl, rfl, rfl, rfl, rfl, rfl, hW⟩ (x_155 (M := M) (N := N) (by omega) hW )
theorem pr_80 {K : mj_C} {d : Nat} {M : Nat → Nat → Int} {N : Nat → Nat → Int64} (hD : 20 ≤ d) (hK : kOk K) (hG : Good M N)  : ∃ ans, PR K d 80 155 [] (.inr (.inl ans)) M N := by
  obtain ⟨s, im, kp, tx, ln, so, it, ce, hI, hM, hV⟩ := hG
  exact ⟨wTt s, PR_of (x_80 (by omega) hK s im kp tx ln so it ce hI hV ) hM (fun M1 N1 h1 => y_80 hD h1 hV ) (hV)⟩
theorem y_81 {K : mj_C} {d : Nat} {s im : Nat → Int} {kp : Int} {tx : Nat → Int} {ln : Int} {so it : Nat → Int} {ce : Nat → Int64} {M : Nat → Nat → Int} {N : Nat → Nat → Int64} (hD : 20 ≤ d) (hM : IM s im kp tx ln so it ce M N) (hV : VI s im kp tx ln so it) (y : Int) : mj_X K d 156 [.inr (.inr (.inl 126)), .inl y] (mj_Sh, M, N) (fun r Z => r = some (.inl (qAlone s y)) ∧ ∃ M2 N2, Z = (mj_Sh, M2, N2) ∧ IM s im kp tx ln so it ce M2 N2 ∧ fr0 M N M2 N2) := by
  obtain ⟨rfl, rfl, rfl, rfl, rfl, rfl, rfl, rfl, hW⟩ := id hM
  exact Y_p ⟨rfl, rfl, rfl, rfl, rfl, rfl, rfl, rfl, hW⟩ (x_156 (M := M) (N := N) (by omega) hW y)
theorem pr_81 {K : mj_C} {d : Nat} {M : Nat → Nat → Int} {N : Nat → Nat → Int64} (hD : 20 ≤ d) (hK : kOk K) (hG : Good M N) (y : Int) : ∃ ans, PR K d 81 156 [.inl y] (.inl ans) M N := by
  obtain ⟨s, im, kp, tx, ln, so, it, ce, hI, hM, hV⟩ := hG
  exact ⟨qAlone s y, PR_of (x_81 (by omega) hK s im kp tx ln so it ce hI hV y) hM (fun M1 N1 h1 => y_81 hD h1 hV y) (hV)⟩
theorem y_82 {K : mj_C} {d : Nat} {s im : Nat → Int} {kp : Int} {tx : Nat → Int} {ln : Int} {so it : Nat → Int} {ce : Nat → Int64} {M : Nat → Nat → Int} {N : Nat → Nat → Int64} (hD : 20 ≤ d) (hM : IM s im kp tx ln so it ce M N) (hV : VI s im kp tx ln so it) (i : Int) (j : Int) : mj_X K d 157 [.inr (.inr (.inl 126)), .inl i, .inl j] (mj_Sh, M, N) (fun r Z => r = some (.inl (qWay s i j)) ∧ ∃ M2 N2, Z = (mj_Sh, M2, N2) ∧ IM s im kp tx ln so it ce M2 N2 ∧ fr0 M N M2 N2) := by
  obtain ⟨rfl, rfl, rfl, rfl, rfl, rfl, rfl, rfl, hW⟩ := id hM
  exact Y_p ⟨rfl, rfl, rfl, rfl, rfl, rfl, rfl, rfl, hW⟩ (x_157 (M := M) (N := N) (by omega) hW i j)
theorem pr_82 {K : mj_C} {d : Nat} {M : Nat → Nat → Int} {N : Nat → Nat → Int64} (hD : 20 ≤ d) (hK : kOk K) (hG : Good M N) (i : Int) (j : Int) : ∃ ans, PR K d 82 157 [.inl i, .inl j] (.inl ans) M N := by
  obtain ⟨s, im, kp, tx, ln, so, it, ce, hI, hM, hV⟩ := hG
  exact ⟨qWay s i j, PR_of (x_82 (by omega) hK s im kp tx ln so it ce hI hV i j) hM (fun M1 N1 h1 => y_82 hD h1 hV i j) (hV)⟩
theorem y_83 {K : mj_C} {d : Nat} {s im : Nat → Int} {kp : Int} {tx : Nat → Int} {ln : Int} {so it : Nat → Int} {ce : Nat → Int64} {M : Nat → Nat → Int} {N : Nat → Nat → Int64} (hD : 20 ≤ d) (hM : IM s im kp tx ln so it ce M N) (hV : VI s im kp tx ln so it) (k : Int) (what : Int) : mj_X K d 158 [.inr (.inr (.inl 126)), .inl k, .inl what] (mj_Sh, M, N) (fun r Z => r = some (.inl (qWays s k what)) ∧ ∃ M2 N2, Z = (mj_Sh, M2, N2) ∧ IM s im kp tx ln so it ce M2 N2 ∧ fr0 M N M2 N2) := by
  obtain ⟨rfl, rfl, rfl, rfl, rfl, rfl, rfl, rfl, hW⟩ := id hM
  exact Y_p ⟨rfl, rfl, rfl, rfl, rfl, rfl, rfl, rfl, hW⟩ (x_158 (M := M) (N := N) (by omega) hW k what)
theorem pr_83 {K : mj_C} {d : Nat} {M : Nat → Nat → Int} {N : Nat → Nat → Int64} (hD : 20 ≤ d) (hK : kOk K) (hG : Good M N) (k : Int) (what : Int) : ∃ ans, PR K d 83 158 [.inl k, .inl what] (.inl ans) M N := by
  obtain ⟨s, im, kp, tx, ln, so, it, ce, hI, hM, hV⟩ := hG
  exact ⟨qWays s k what, PR_of (x_83 (by omega) hK s im kp tx ln so it ce hI hV k what) hM (fun M1 N1 h1 => y_83 hD h1 hV k what) (hV)⟩
theorem y_84 {K : mj_C} {d : Nat} {s im : Nat → Int} {kp : Int} {tx : Nat → Int} {ln : Int} {so it : Nat → Int} {ce : Nat → Int64} {M : Nat → Nat → Int} {N : Nat → Nat → Int64} (hD : 20 ≤ d) (hM : IM s im kp tx ln so it ce M N) (hV : VI s im kp tx ln so it) (k : Int) : mj_X K d 160 [.inr (.inr (.inl 126)), .inl k] (mj_Sh, M, N) (fun r Z => r = some (.inl (qRank s k)) ∧ ∃ M2 N2, Z = (mj_Sh, M2, N2) ∧ IM s im kp tx ln so it ce M2 N2 ∧ fr0 M N M2 N2) := by
  obtain ⟨rfl, rfl, rfl, rfl, rfl, rfl, rfl, rfl, hW⟩ := id hM
  exact Y_p ⟨rfl, rfl, rfl, rfl, rfl, rfl, rfl, rfl, hW⟩ (x_160 (M := M) (N := N) (by omega) hW k)
theorem pr_84 {K : mj_C} {d : Nat} {M : Nat → Nat → Int} {N : Nat → Nat → Int64} (hD : 20 ≤ d) (hK : kOk K) (hG : Good M N) (k : Int) : ∃ ans, PR K d 84 160 [.inl k] (.inl ans) M N := by
  obtain ⟨s, im, kp, tx, ln, so, it, ce, hI, hM, hV⟩ := hG
  exact ⟨qRank s k, PR_of (x_84 (by omega) hK s im kp tx ln so it ce hI hV k) hM (fun M1 N1 h1 => y_84 hD h1 hV k) (hV)⟩
theorem y_85 {K : mj_C} {d : Nat} {s im : Nat → Int} {kp : Int} {tx : Nat → Int} {ln : Int} {so it : Nat → Int} {ce : Nat → Int64} {M : Nat → Nat → Int} {N : Nat → Nat → Int64} (hD : 20 ≤ d) (hM : IM s im kp tx ln so it ce M N) (hV : VI s im kp tx ln so it) (y : Int) (k : Int) : mj_X K d 161 [.inr (.inr (.inl 126)), .inl y, .inl k] (mj_Sh, M, N) (fun r Z => r = some (.inl (qMerit s y k)) ∧ ∃ M2 N2, Z = (mj_Sh, M2, N2) ∧ IM s im kp tx ln so it ce M2 N2 ∧ fr0 M N M2 N2) := by
  obtain ⟨rfl, rfl, rfl, rfl, rfl, rfl, rfl, rfl, hW⟩ := id hM
  exact Y_p ⟨rfl, rfl, rfl, rfl, rfl, rfl, rfl, rfl, hW⟩ (x_161 (M := M) (N := N) (by omega) hW y k)
theorem pr_85 {K : mj_C} {d : Nat} {M : Nat → Nat → Int} {N : Nat → Nat → Int64} (hD : 20 ≤ d) (hK : kOk K) (hG : Good M N) (y : Int) (k : Int) : ∃ ans, PR K d 85 161 [.inl y, .inl k] (.inl ans) M N := by
  obtain ⟨s, im, kp, tx, ln, so, it, ce, hI, hM, hV⟩ := hG
  exact ⟨qMerit s y k, PR_of (x_85 (by omega) hK s im kp tx ln so it ce hI hV y k) hM (fun M1 N1 h1 => y_85 hD h1 hV y k) (hV)⟩
theorem y_86 {K : mj_C} {d : Nat} {s im : Nat → Int} {kp : Int} {tx : Nat → Int} {ln : Int} {so it : Nat → Int} {ce : Nat → Int64} {M : Nat → Nat → Int} {N : Nat → Nat → Int64} (hD : 20 ≤ d) (hM : IM s im kp tx ln so it ce M N) (hV : VI s im kp tx ln so it) (y : Int) : mj_X K d 164 [.inr (.inr (.inl 126)), .inl y] (mj_Sh, M, N) (fun r Z => r = some (.inr (.inl (qMore s y))) ∧ ∃ M2 N2, Z = (mj_Sh, M2, N2) ∧ IM s im kp tx ln so it ce M2 N2 ∧ fr0 M N M2 N2) := by
  obtain ⟨rfl, rfl, rfl, rfl, rfl, rfl, rfl, rfl, hW⟩ := id hM
  exact Y_q ⟨rfl, rfl, rfl, rfl, rfl, rfl, rfl, rfl, hW⟩ (x_164 (M := M) (N := N) (by omega) hV.1 hW y)
theorem pr_86 {K : mj_C} {d : Nat} {M : Nat → Nat → Int} {N : Nat → Nat → Int64} (hD : 20 ≤ d) (hK : kOk K) (hG : Good M N) (y : Int) : ∃ ans, PR K d 86 164 [.inl y] (.inr (.inl ans)) M N := by
  obtain ⟨s, im, kp, tx, ln, so, it, ce, hI, hM, hV⟩ := hG
  exact ⟨qMore s y, PR_of (x_86 (by omega) hK s im kp tx ln so it ce hI hV y) hM (fun M1 N1 h1 => y_86 hD h1 hV y) (hV)⟩
theorem y_87 {K : mj_C} {d : Nat} {s im : Nat → Int} {kp : Int} {tx : Nat → Int} {ln : Int} {so it : Nat → Int} {ce : Nat → Int64} {M : Nat → Nat → Int} {N : Nat → Nat → Int64} (hD : 20 ≤ d) (hM : IM s im kp tx ln so it ce M N) (hV : VI s im kp tx ln so it) (y : Int) (b : Int) (n : Int) : mj_X K d 165 [.inr (.inr (.inl 126)), .inl y, .inl b, .inl n] (mj_Sh, M, N) (fun r Z => r = some (.inr (.inl (qShock s y b n))) ∧ ∃ M2 N2, Z = (mj_Sh, M2, N2) ∧ IM s im kp tx ln so it ce M2 N2 ∧ fr0 M N M2 N2) := by
  obtain ⟨rfl, rfl, rfl, rfl, rfl, rfl, rfl, rfl, hW⟩ := id hM
  exact Y_q ⟨rfl, rfl, rfl, rfl, rfl, rfl, rfl, rfl, hW⟩ (x_165 (M := M) (N := N) (by omega) hV.1 hW y b n)
theorem pr_87 {K : mj_C} {d : Nat} {M : Nat → Nat → Int} {N : Nat → Nat → Int64} (hD : 20 ≤ d) (hK : kOk K) (hG : Good M N) (y : Int) (b : Int) (n : Int) : ∃ ans, PR K d 87 165 [.inl y, .inl b, .inl n] (.inr (.inl ans)) M N := by
  obtain ⟨s, im, kp, tx, ln, so, it, ce, hI, hM, hV⟩ := hG
  exact ⟨qShock s y b n, PR_of (x_87 (by omega) hK s im kp tx ln so it ce hI hV y b n) hM (fun M1 N1 h1 => y_87 hD h1 hV y b n) (hV)⟩
theorem y_88 {K : mj_C} {d : Nat} {s im : Nat → Int} {kp : Int} {tx : Nat → Int} {ln : Int} {so it : Nat → Int} {ce : Nat → Int64} {M : Nat → Nat → Int} {N : Nat → Nat → Int64} (hD : 20 ≤ d) (hM : IM s im kp tx ln so it ce M N) (hV : VI s im kp tx ln so it) (y : Int) (p : Int) : mj_X K d 168 [.inr (.inr (.inl 126)), .inl y, .inl p] (mj_Sh, M, N) (fun r Z => r = some (.inl (qList s 46 5 y p)) ∧ ∃ M2 N2, Z = (mj_Sh, M2, N2) ∧ IM (aList s 46 5 y p) im kp tx ln so it ce M2 N2 ∧ fr0 M N M2 N2) := by
  obtain ⟨rfl, rfl, rfl, rfl, rfl, rfl, rfl, rfl, hW⟩ := id hM
  exact Y_s ⟨rfl, rfl, rfl, rfl, rfl, rfl, rfl, rfl, hW⟩ (x_168 (M := M) (N := N) (by omega) hV.1 hW y p)
theorem pr_88 {K : mj_C} {d : Nat} {M : Nat → Nat → Int} {N : Nat → Nat → Int64} (hD : 20 ≤ d) (hK : kOk K) (hG : Good M N) (y : Int) (p : Int) : ∃ ans, PR K d 88 168 [.inl y, .inl p] (.inl ans) M N := by
  obtain ⟨s, im, kp, tx, ln, so, it, ce, hI, hM, hV⟩ := hG
  exact ⟨qList s 46 5 y p, PR_of (x_88 (by omega) hK s im kp tx ln so it ce hI hV y p) hM (fun M1 N1 h1 => y_88 hD h1 hV y p) (VI_s hV (aList_46 hV.1 y p))⟩
theorem y_89 {K : mj_C} {d : Nat} {s im : Nat → Int} {kp : Int} {tx : Nat → Int} {ln : Int} {so it : Nat → Int} {ce : Nat → Int64} {M : Nat → Nat → Int} {N : Nat → Nat → Int64} (hD : 20 ≤ d) (hM : IM s im kp tx ln so it ce M N) (hV : VI s im kp tx ln so it) (y : Int) (what : Int) : mj_X K d 169 [.inr (.inr (.inl 126)), .inl y, .inl what] (mj_Sh, M, N) (fun r Z => r = some (.inl (qFits s y what)) ∧ ∃ M2 N2, Z = (mj_Sh, M2, N2) ∧ IM s im kp tx ln so it ce M2 N2 ∧ fr0 M N M2 N2) := by
  obtain ⟨rfl, rfl, rfl, rfl, rfl, rfl, rfl, rfl, hW⟩ := id hM
  exact Y_q ⟨rfl, rfl, rfl, rfl, rfl, rfl, rfl, rfl, hW⟩ (x_169 (M := M) (N := N) (by omega) hV.1 hW y what)
theorem pr_89 {K : mj_C} {d : Nat} {M : Nat → Nat → Int} {N : Nat → Nat → Int64} (hD : 20 ≤ d) (hK : kOk K) (hG : Good M N) (y : Int) (what : Int) : ∃ ans, PR K d 89 169 [.inl y, .inl what] (.inl ans) M N := by
  obtain ⟨s, im, kp, tx, ln, so, it, ce, hI, hM, hV⟩ := hG
  exact ⟨qFits s y what, PR_of (x_89 (by omega) hK s im kp tx ln so it ce hI hV y what) hM (fun M1 N1 h1 => y_89 hD h1 hV y what) (hV)⟩
theorem y_90 {K : mj_C} {d : Nat} {s im : Nat → Int} {kp : Int} {tx : Nat → Int} {ln : Int} {so it : Nat → Int} {ce : Nat → Int64} {M : Nat → Nat → Int} {N : Nat → Nat → Int64} (hD : 20 ≤ d) (hM : IM s im kp tx ln so it ce M N) (hV : VI s im kp tx ln so it) (y : Int) (part : Int) : mj_X K d 172 [.inr (.inr (.inl 126)), .inl y, .inl part] (mj_Sh, M, N) (fun r Z => r = some (.inr (.inl (qOdds s y part))) ∧ ∃ M2 N2, Z = (mj_Sh, M2, N2) ∧ IM s im kp tx ln so it ce M2 N2 ∧ fr0 M N M2 N2) := by
  obtain ⟨rfl, rfl, rfl, rfl, rfl, rfl, rfl, rfl, hW⟩ := id hM
  exact Y_q ⟨rfl, rfl, rfl, rfl, rfl, rfl, rfl, rfl, hW⟩ (x_172 (M := M) (N := N) (by omega) hV.1 hW y part)
theorem pr_90 {K : mj_C} {d : Nat} {M : Nat → Nat → Int} {N : Nat → Nat → Int64} (hD : 20 ≤ d) (hK : kOk K) (hG : Good M N) (y : Int) (part : Int) : ∃ ans, PR K d 90 172 [.inl y, .inl part] (.inr (.inl ans)) M N := by
  obtain ⟨s, im, kp, tx, ln, so, it, ce, hI, hM, hV⟩ := hG
  exact ⟨qOdds s y part, PR_of (x_90 (by omega) hK s im kp tx ln so it ce hI hV y part) hM (fun M1 N1 h1 => y_90 hD h1 hV y part) (hV)⟩
theorem y_91 {K : mj_C} {d : Nat} {s im : Nat → Int} {kp : Int} {tx : Nat → Int} {ln : Int} {so it : Nat → Int} {ce : Nat → Int64} {M : Nat → Nat → Int} {N : Nat → Nat → Int64} (hD : 20 ≤ d) (hM : IM s im kp tx ln so it ce M N) (hV : VI s im kp tx ln so it) (part : Int) : mj_X K d 173 [.inr (.inr (.inl 126)), .inl part] (mj_Sh, M, N) (fun r Z => r = some (.inr (.inl (qMean s part))) ∧ ∃ M2 N2, Z = (mj_Sh, M2, N2) ∧ IM s im kp tx ln so it ce M2 N2 ∧ fr0 M N M2 N2) := by
  obtain ⟨rfl, rfl, rfl, rfl, rfl, rfl, rfl, rfl, hW⟩ := id hM
  exact Y_p ⟨rfl, rfl, rfl, rfl, rfl, rfl, rfl, rfl, hW⟩ (x_173 (M := M) (N := N) (by omega) hV.1.1 hW part)
theorem pr_91 {K : mj_C} {d : Nat} {M : Nat → Nat → Int} {N : Nat → Nat → Int64} (hD : 20 ≤ d) (hK : kOk K) (hG : Good M N) (part : Int) : ∃ ans, PR K d 91 173 [.inl part] (.inr (.inl ans)) M N := by
  obtain ⟨s, im, kp, tx, ln, so, it, ce, hI, hM, hV⟩ := hG
  exact ⟨qMean s part, PR_of (x_91 (by omega) hK s im kp tx ln so it ce hI hV part) hM (fun M1 N1 h1 => y_91 hD h1 hV part) (hV)⟩
theorem y_92 {K : mj_C} {d : Nat} {s im : Nat → Int} {kp : Int} {tx : Nat → Int} {ln : Int} {so it : Nat → Int} {ce : Nat → Int64} {M : Nat → Nat → Int} {N : Nat → Nat → Int64} (hD : 20 ≤ d) (hM : IM s im kp tx ln so it ce M N) (hV : VI s im kp tx ln so it) (what : Int) (v : Int) : mj_X K d 174 [.inr (.inr (.inl 126)), .inl what, .inl v] (mj_Sh, M, N) (fun r Z => r = some (.inl (qEvent s what v)) ∧ ∃ M2 N2, Z = (mj_Sh, M2, N2) ∧ IM (aEvent s what v) im kp tx ln so it ce M2 N2 ∧ fr0 M N M2 N2) := by
  obtain ⟨rfl, rfl, rfl, rfl, rfl, rfl, rfl, rfl, hW⟩ := id hM
  exact Y_s ⟨rfl, rfl, rfl, rfl, rfl, rfl, rfl, rfl, hW⟩ (x_174 (M := M) (N := N) (by omega) hV.1 hW what v)
theorem pr_92 {K : mj_C} {d : Nat} {M : Nat → Nat → Int} {N : Nat → Nat → Int64} (hD : 20 ≤ d) (hK : kOk K) (hG : Good M N) (what : Int) (v : Int) : ∃ ans, PR K d 92 174 [.inl what, .inl v] (.inl ans) M N := by
  obtain ⟨s, im, kp, tx, ln, so, it, ce, hI, hM, hV⟩ := hG
  exact ⟨qEvent s what v, PR_of (x_92 (by omega) hK s im kp tx ln so it ce hI hV what v) hM (fun M1 N1 h1 => y_92 hD h1 hV what v) (VI_s hV (aEvent_VI hV.1 what v))⟩
theorem y_93 {K : mj_C} {d : Nat} {s im : Nat → Int} {kp : Int} {tx : Nat → Int} {ln : Int} {so it : Nat → Int} {ce : Nat → Int64} {M : Nat → Nat → Int} {N : Nat → Nat → Int64} (hD : 20 ≤ d) (hM : IM s im kp tx ln so it ce M N) (hV : VI s im kp tx ln so it) (what : Int) : mj_X K d 175 [.inr (.inr (.inl 126)), .inl what] (mj_Sh, M, N) (fun r Z => r = some (.inr (.inl (qAfter s what))) ∧ ∃ M2 N2, Z = (mj_Sh, M2, N2) ∧ IM s im kp tx ln so it ce M2 N2 ∧ fr0 M N M2 N2) := by
  obtain ⟨rfl, rfl, rfl, rfl, rfl, rfl, rfl, rfl, hW⟩ := id hM
  exact Y_q ⟨rfl, rfl, rfl, rfl, rfl, rfl, rfl, rfl, hW⟩ (x_175 (M := M) (N := N) (by omega) hV.1 hW what)
theorem pr_93 {K : mj_C} {d : Nat} {M : Nat → Nat → Int} {N : Nat → Nat → Int64} (hD : 20 ≤ d) (hK : kOk K) (hG : Good M N) (what : Int) : ∃ ans, PR K d 93 175 [.inl what] (.inr (.inl ans)) M N := by
  obtain ⟨s, im, kp, tx, ln, so, it, ce, hI, hM, hV⟩ := hG
  exact ⟨qAfter s what, PR_of (x_93 (by omega) hK s im kp tx ln so it ce hI hV what) hM (fun M1 N1 h1 => y_93 hD h1 hV what) (hV)⟩
theorem y_94 {K : mj_C} {d : Nat} {s im : Nat → Int} {kp : Int} {tx : Nat → Int} {ln : Int} {so it : Nat → Int} {ce : Nat → Int64} {M : Nat → Nat → Int} {N : Nat → Nat → Int64} (hD : 20 ≤ d) (hM : IM s im kp tx ln so it ce M N) (hV : VI s im kp tx ln so it) (y : Int) (p : Int) : mj_X K d 176 [.inr (.inr (.inl 126)), .inl y, .inl p] (mj_Sh, M, N) (fun r Z => r = some (.inl (qList s 74 8 y p)) ∧ ∃ M2 N2, Z = (mj_Sh, M2, N2) ∧ IM (aList s 74 8 y p) im kp tx ln so it ce M2 N2 ∧ fr0 M N M2 N2) := by
  obtain ⟨rfl, rfl, rfl, rfl, rfl, rfl, rfl, rfl, hW⟩ := id hM
  exact Y_s ⟨rfl, rfl, rfl, rfl, rfl, rfl, rfl, rfl, hW⟩ (x_176 (M := M) (N := N) (by omega) hV.1 hW y p)
theorem pr_94 {K : mj_C} {d : Nat} {M : Nat → Nat → Int} {N : Nat → Nat → Int64} (hD : 20 ≤ d) (hK : kOk K) (hG : Good M N) (y : Int) (p : Int) : ∃ ans, PR K d 94 176 [.inl y, .inl p] (.inl ans) M N := by
  obtain ⟨s, im, kp, tx, ln, so, it, ce, hI, hM, hV⟩ := hG
  exact ⟨qList s 74 8 y p, PR_of (x_94 (by omega) hK s im kp tx ln so it ce hI hV y p) hM (fun M1 N1 h1 => y_94 hD h1 hV y p) (VI_s hV (aList_74 hV.1 y p))⟩
theorem y_95 {K : mj_C} {d : Nat} {s im : Nat → Int} {kp : Int} {tx : Nat → Int} {ln : Int} {so it : Nat → Int} {ce : Nat → Int64} {M : Nat → Nat → Int} {N : Nat → Nat → Int64} (hD : 20 ≤ d) (hM : IM s im kp tx ln so it ce M N) (hV : VI s im kp tx ln so it)  : mj_X K d 177 [.inr (.inr (.inl 126))] (mj_Sh, M, N) (fun r Z => r = some (.inl (qFirst s 74)) ∧ ∃ M2 N2, Z = (mj_Sh, M2, N2) ∧ IM s im kp tx ln so it ce M2 N2 ∧ fr0 M N M2 N2) := by
  obtain ⟨rfl, rfl, rfl, rfl, rfl, rfl, rfl, rfl, hW⟩ := id hM
  exact Y_p ⟨rfl, rfl, rfl, rfl, rfl, rfl, rfl, rfl, hW⟩ (x_177 (M := M) (N := N) (by omega) hW hV.1.2.2.2.1 )
theorem pr_95 {K : mj_C} {d : Nat} {M : Nat → Nat → Int} {N : Nat → Nat → Int64} (hD : 20 ≤ d) (hK : kOk K) (hG : Good M N)  : ∃ ans, PR K d 95 177 [] (.inl ans) M N := by
  obtain ⟨s, im, kp, tx, ln, so, it, ce, hI, hM, hV⟩ := hG
  exact ⟨qFirst s 74, PR_of (x_95 (by omega) hK s im kp tx ln so it ce hI hV ) hM (fun M1 N1 h1 => y_95 hD h1 hV ) (hV)⟩
theorem y_96 {K : mj_C} {d : Nat} {s im : Nat → Int} {kp : Int} {tx : Nat → Int} {ln : Int} {so it : Nat → Int} {ce : Nat → Int64} {M : Nat → Nat → Int} {N : Nat → Nat → Int64} (hD : 20 ≤ d) (hM : IM s im kp tx ln so it ce M N) (hV : VI s im kp tx ln so it) (t : Int) (i : Int) (hri : -2147483648 ≤ i ∧ i ≤ 2147483647) : mj_X K d 179 [.inr (.inr (.inl 126)), .inl t, .inl i] (mj_Sh, M, N) (fun r Z => r = some (.inl (qJudge s so it ce t i)) ∧ ∃ M2 N2, Z = (mj_Sh, M2, N2) ∧ IM s im kp tx ln so it ce M2 N2 ∧ fr0 M N M2 N2) := by
  obtain ⟨rfl, rfl, rfl, rfl, rfl, rfl, rfl, rfl, hW⟩ := id hM
  exact Y_p ⟨rfl, rfl, rfl, rfl, rfl, rfl, rfl, rfl, hW⟩ (x_179 (M := M) (N := N) (by omega) hV.1.1 hW hV.2.2.2.2 t i)
theorem pr_96 {K : mj_C} {d : Nat} {M : Nat → Nat → Int} {N : Nat → Nat → Int64} (hD : 20 ≤ d) (hK : kOk K) (hG : Good M N) (t : Int) (i : Int) (hri : -2147483648 ≤ i ∧ i ≤ 2147483647) : ∃ ans, PR K d 96 179 [.inl t, .inl i] (.inl ans) M N := by
  obtain ⟨s, im, kp, tx, ln, so, it, ce, hI, hM, hV⟩ := hG
  exact ⟨qJudge s so it ce t i, PR_of (x_96 (by omega) hK s im kp tx ln so it ce hI hV t i hri) hM (fun M1 N1 h1 => y_96 hD h1 hV t i hri) (hV)⟩
theorem y_97 {K : mj_C} {d : Nat} {s im : Nat → Int} {kp : Int} {tx : Nat → Int} {ln : Int} {so it : Nat → Int} {ce : Nat → Int64} {M : Nat → Nat → Int} {N : Nat → Nat → Int64} (hD : 20 ≤ d) (hM : IM s im kp tx ln so it ce M N) (hV : VI s im kp tx ln so it)  : mj_X K d 180 [.inr (.inr (.inl 126))] (mj_Sh, M, N) (fun r Z => r = some (.inl (s 0)) ∧ ∃ M2 N2, Z = (mj_Sh, M2, N2) ∧ IM s (pC s im) 1 tx ln so it ce M2 N2 ∧ fr0 M N M2 N2) := by
  obtain ⟨rfl, rfl, rfl, rfl, rfl, rfl, rfl, rfl, hW⟩ := id hM
  refine mj_T_post (x_180 (M := M) (N := N) (by omega) ) (fun r Z hq => ?_)
  obtain ⟨q1, q2⟩ := hq
  exact ⟨q1, _, N, q2, ⟨rfl, rfl, (show pU (M 126) 3 (1 : Int) 3 = 1 from pU_eq), rfl, (show pU (M 126) 3 (1 : Int) 23 = _ from pU_ne (by omega)), rfl, rfl, rfl, mW_fr hW (fun j _ _ => by show pU (M 126) 3 (1 : Int) j = _; rw [pU_ne (by omega)]) rfl (fun c _ _ => by rw [st_c, if_neg (by omega), st_c, if_neg (by omega), st_nil])⟩, fun c hc => ⟨by rw [st_c, if_neg (by omega), st_c, if_neg (by omega), st_nil], rfl⟩⟩
theorem pr_97 {K : mj_C} {d : Nat} {M : Nat → Nat → Int} {N : Nat → Nat → Int64} (hD : 20 ≤ d) (hK : kOk K) (hG : Good M N)  : ∃ ans, PR K d 97 180 [] (.inl ans) M N := by
  obtain ⟨s, im, kp, tx, ln, so, it, ce, hI, hM, hV⟩ := hG
  exact ⟨s 0, PR_of (x_97 (by omega) hK s im kp tx ln so it ce hI hV ) hM (fun M1 N1 h1 => y_97 hD h1 hV ) (VI_image hV)⟩
theorem y_98 {K : mj_C} {d : Nat} {s im : Nat → Int} {kp : Int} {tx : Nat → Int} {ln : Int} {so it : Nat → Int} {ce : Nat → Int64} {M : Nat → Nat → Int} {N : Nat → Nat → Int64} (hD : 20 ≤ d) (hM : IM s im kp tx ln so it ce M N) (hV : VI s im kp tx ln so it)  : mj_X K d 181 [.inr (.inr (.inl 126))] (mj_Sh, M, N) (fun r Z => r = some (.inl (qUndo kp im s)) ∧ ∃ M2 N2, Z = (mj_Sh, M2, N2) ∧ IM (aUndo kp im s) im kp tx ln so it ce M2 N2 ∧ fr0 M N M2 N2) := by
  obtain ⟨rfl, rfl, rfl, rfl, rfl, rfl, rfl, rfl, hW⟩ := id hM
  have hp : ¬ M 126 3 = 0 → pRg (pC (M 128) (M 127)) := fun q => by
    rcases hV.2.1 with q1 | q1
    · exact absurd q1 q
    · exact (pVI_pC q1.2).1
  refine mj_T_post (x_181 (M := M) (N := N) (by omega) hp) (fun r Z hq => ?_)
  rcases hq with ⟨q0, q1, q2⟩ | ⟨q0, q1, M1, q2, q3, q4, q5⟩
  · exact ⟨by rw [q1]; unfold qUndo; rw [if_pos q0], M, N, q2, by rw [show aUndo (M 126 3) (M 128) (M 127) = M 127 by unfold aUndo; rw [if_pos q0]]; exact ⟨rfl, rfl, rfl, rfl, rfl, rfl, rfl, rfl, hW⟩, fun c _ => ⟨rfl, rfl⟩⟩
  · exact ⟨by rw [q1]; unfold qUndo; rw [if_neg q0], M1, N, q2, IM_p ⟨rfl, rfl, rfl, rfl, rfl, rfl, rfl, rfl, hW⟩ (by rw [q3]; unfold aUndo; rw [if_neg q0]) q4 q5⟩
theorem pr_98 {K : mj_C} {d : Nat} {M : Nat → Nat → Int} {N : Nat → Nat → Int64} (hD : 20 ≤ d) (hK : kOk K) (hG : Good M N)  : ∃ ans, PR K d 98 181 [] (.inl ans) M N := by
  obtain ⟨s, im, kp, tx, ln, so, it, ce, hI, hM, hV⟩ := hG
  exact ⟨qUndo kp im s, PR_of (x_98 (by omega) hK s im kp tx ln so it ce hI hV ) hM (fun M1 N1 h1 => y_98 hD h1 hV ) (VI_undo hV)⟩
theorem y_99 {K : mj_C} {d : Nat} {s im : Nat → Int} {kp : Int} {tx : Nat → Int} {ln : Int} {so it : Nat → Int} {ce : Nat → Int64} {M : Nat → Nat → Int} {N : Nat → Nat → Int64} (hD : 20 ≤ d) (hM : IM s im kp tx ln so it ce M N) (hV : VI s im kp tx ln so it) (what : Int) : mj_X K d 182 [.inr (.inr (.inl 126)), .inl what] (mj_Sh, M, N) (fun r Z => r = some (.inl (qCount s ln what)) ∧ ∃ M2 N2, Z = (mj_Sh, M2, N2) ∧ IM s im kp tx ln so it ce M2 N2 ∧ fr0 M N M2 N2) := by
  obtain ⟨rfl, rfl, rfl, rfl, rfl, rfl, rfl, rfl, hW⟩ := id hM
  exact Y_p ⟨rfl, rfl, rfl, rfl, rfl, rfl, rfl, rfl, hW⟩ (x_182 (M := M) (N := N)  what)
theorem pr_99 {K : mj_C} {d : Nat} {M : Nat → Nat → Int} {N : Nat → Nat → Int64} (hD : 20 ≤ d) (hK : kOk K) (hG : Good M N) (what : Int) : ∃ ans, PR K d 99 182 [.inl what] (.inl ans) M N := by
  obtain ⟨s, im, kp, tx, ln, so, it, ce, hI, hM, hV⟩ := hG
  exact ⟨qCount s ln what, PR_of (x_99 hK s im kp tx ln so it ce hI hV what) hM (fun M1 N1 h1 => y_99 hD h1 hV what) (hV)⟩
theorem y_100 {K : mj_C} {d : Nat} {s im : Nat → Int} {kp : Int} {tx : Nat → Int} {ln : Int} {so it : Nat → Int} {ce : Nat → Int64} {M : Nat → Nat → Int} {N : Nat → Nat → Int64} (hD : 20 ≤ d) (hM : IM s im kp tx ln so it ce M N) (hV : VI s im kp tx ln so it) (t : Int) (k : Int) (n : Int) : mj_X K d 183 [.inr (.inr (.inl 126)), .inl t, .inl k, .inl n] (mj_Sh, M, N) (fun r Z => r = some (.inl (qTape t k n)) ∧ ∃ M2 N2, Z = (mj_Sh, M2, N2) ∧ IM s im kp tx ln (aTpS so t k n) (aTpI it t k n) (aTpC ce t k n) M2 N2 ∧ fr0 M N M2 N2) := by
  obtain ⟨rfl, rfl, rfl, rfl, rfl, rfl, rfl, rfl, hW⟩ := id hM
  refine mj_T_post (x_183 (M := M) (N := N) (by omega) t k n) (fun r Z hq => ?_)
  obtain ⟨q1, q2⟩ := hq
  exact ⟨q1, _, _, q2, ⟨rfl, rfl, rfl, rfl, rfl, rfl, rfl, rfl, mW_fr hW (fun j _ _ => rfl) rfl (fun c _ _ => by rw [st_c, if_neg (by omega), st_c, if_neg (by omega), st_nil])⟩, fun c hc => ⟨by rw [st_c, if_neg (by omega), st_c, if_neg (by omega), st_nil], by rw [st_c, if_neg (by omega), st_nil]⟩⟩
theorem pr_100 {K : mj_C} {d : Nat} {M : Nat → Nat → Int} {N : Nat → Nat → Int64} (hD : 20 ≤ d) (hK : kOk K) (hG : Good M N) (t : Int) (k : Int) (n : Int) : ∃ ans, PR K d 100 183 [.inl t, .inl k, .inl n] (.inl ans) M N := by
  obtain ⟨s, im, kp, tx, ln, so, it, ce, hI, hM, hV⟩ := hG
  exact ⟨qTape t k n, PR_of (x_100 (by omega) hK s im kp tx ln so it ce hI hV t k n) hM (fun M1 N1 h1 => y_100 hD h1 hV t k n) (VI_tape hV t k n)⟩
theorem y_101 {K : mj_C} {d : Nat} {s im : Nat → Int} {kp : Int} {tx : Nat → Int} {ln : Int} {so it : Nat → Int} {ce : Nat → Int64} {M : Nat → Nat → Int} {N : Nat → Nat → Int64} (hD : 20 ≤ d) (hM : IM s im kp tx ln so it ce M N) (hV : VI s im kp tx ln so it) (t : Int) (i : Int) (V : Int64) : mj_X K d 184 [.inr (.inr (.inl 126)), .inl t, .inl i, .inr (.inl V)] (mj_Sh, M, N) (fun r Z => r = some (.inl (qItem so it t i)) ∧ ∃ M2 N2, Z = (mj_Sh, M2, N2) ∧ IM s im kp tx ln so it (aItem so it ce t i V) M2 N2 ∧ fr0 M N M2 N2) := by
  obtain ⟨rfl, rfl, rfl, rfl, rfl, rfl, rfl, rfl, hW⟩ := id hM
  refine mj_T_post (x_184 (M := M) (N := N) (by omega) hV.2.2.2.2 t i V) (fun r Z hq => ?_)
  obtain ⟨q1, q2⟩ := hq
  exact ⟨q1, M, _, q2, ⟨rfl, rfl, rfl, rfl, rfl, rfl, rfl, rfl, hW⟩, fun c hc => ⟨rfl, by rw [st_c, if_neg (by omega), st_nil]⟩⟩
theorem pr_101 {K : mj_C} {d : Nat} {M : Nat → Nat → Int} {N : Nat → Nat → Int64} (hD : 20 ≤ d) (hK : kOk K) (hG : Good M N) (t : Int) (i : Int) (V : Int64) : ∃ ans, PR K d 101 184 [.inl t, .inl i, .inr (.inl V)] (.inl ans) M N := by
  obtain ⟨s, im, kp, tx, ln, so, it, ce, hI, hM, hV⟩ := hG
  exact ⟨qItem so it t i, PR_of (x_101 (by omega) hK s im kp tx ln so it ce hI hV t i V) hM (fun M1 N1 h1 => y_101 hD h1 hV t i V) (hV)⟩
theorem y_102 {K : mj_C} {d : Nat} {s im : Nat → Int} {kp : Int} {tx : Nat → Int} {ln : Int} {so it : Nat → Int} {ce : Nat → Int64} {M : Nat → Nat → Int} {N : Nat → Nat → Int64} (hD : 20 ≤ d) (hM : IM s im kp tx ln so it ce M N) (hV : VI s im kp tx ln so it) (t : Int) (i : Int) : mj_X K d 185 [.inr (.inr (.inl 126)), .inl t, .inl i] (mj_Sh, M, N) (fun r Z => r = some (.inr (.inl (qPeek so it ce t i))) ∧ ∃ M2 N2, Z = (mj_Sh, M2, N2) ∧ IM s im kp tx ln so it ce M2 N2 ∧ fr0 M N M2 N2) := by
  obtain ⟨rfl, rfl, rfl, rfl, rfl, rfl, rfl, rfl, hW⟩ := id hM
  exact Y_p ⟨rfl, rfl, rfl, rfl, rfl, rfl, rfl, rfl, hW⟩ (x_185 (M := M) (N := N) (by omega) hV.2.2.2.2 t i)
theorem pr_102 {K : mj_C} {d : Nat} {M : Nat → Nat → Int} {N : Nat → Nat → Int64} (hD : 20 ≤ d) (hK : kOk K) (hG : Good M N) (t : Int) (i : Int) : ∃ ans, PR K d 102 185 [.inl t, .inl i] (.inr (.inl ans)) M N := by
  obtain ⟨s, im, kp, tx, ln, so, it, ce, hI, hM, hV⟩ := hG
  exact ⟨qPeek so it ce t i, PR_of (x_102 (by omega) hK s im kp tx ln so it ce hI hV t i) hM (fun M1 N1 h1 => y_102 hD h1 hV t i) (hV)⟩
theorem y_103 {K : mj_C} {d : Nat} {s im : Nat → Int} {kp : Int} {tx : Nat → Int} {ln : Int} {so it : Nat → Int} {ce : Nat → Int64} {M : Nat → Nat → Int} {N : Nat → Nat → Int64} (hD : 20 ≤ d) (hM : IM s im kp tx ln so it ce M N) (hV : VI s im kp tx ln so it) (t : Int) (i : Int) (o : Int) (j : Int) (n : Int) (hri : -2147483648 ≤ i ∧ i ≤ 2147483647) (hrj : -2147483648 ≤ j ∧ j ≤ 2147483647) : mj_X K d 186 [.inr (.inr (.inl 126)), .inl t, .inl i, .inl o, .inl j, .inl n] (mj_Sh, M, N) (fun r Z => r = some (.inl (qShift so it t i o j n)) ∧ ∃ M2 N2, Z = (mj_Sh, M2, N2) ∧ IM s im kp tx ln so it (aShift so it ce t i o j n) M2 N2 ∧ fr0 M N M2 N2) := by
  obtain ⟨rfl, rfl, rfl, rfl, rfl, rfl, rfl, rfl, hW⟩ := id hM
  refine mj_T_post (x_186 (M := M) (N := N) (by omega) hV.2.2.2.2 t i o j n hri hrj) (fun r Z hq => ?_)
  obtain ⟨q1, f, q2⟩ := hq
  exact ⟨q1, M, _, q2, ⟨rfl, rfl, rfl, rfl, rfl, rfl, rfl, rfl, hW⟩, fun c hc => ⟨rfl, by rw [st_c, if_neg (by omega), st_c, if_neg (by omega), st_nil]⟩⟩
theorem pr_103 {K : mj_C} {d : Nat} {M : Nat → Nat → Int} {N : Nat → Nat → Int64} (hD : 20 ≤ d) (hK : kOk K) (hG : Good M N) (t : Int) (i : Int) (o : Int) (j : Int) (n : Int) (hri : -2147483648 ≤ i ∧ i ≤ 2147483647) (hrj : -2147483648 ≤ j ∧ j ≤ 2147483647) : ∃ ans, PR K d 103 186 [.inl t, .inl i, .inl o, .inl j, .inl n] (.inl ans) M N := by
  obtain ⟨s, im, kp, tx, ln, so, it, ce, hI, hM, hV⟩ := hG
  exact ⟨qShift so it t i o j n, PR_of (x_103 (by omega) hK s im kp tx ln so it ce hI hV t i o j n) hM (fun M1 N1 h1 => y_103 hD h1 hV t i o j n hri hrj) (hV)⟩
