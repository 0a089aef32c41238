-- what is told: the words, and that a set-up stays sound
def pLs (s : Nat → Int) (c most : Nat) : Prop := 0 ≤ s c ∧ s c ≤ most ∧ ∀ i : Nat, (i : Int) < s c → 0 ≤ s (c + 1 + 2 * i) ∧ s (c + 1 + 2 * i) < s 0 ∧ 0 ≤ s (c + 2 + 2 * i) ∧ s (c + 2 + 2 * i) ≤ 20
def pEv (s : Nat → Int) : Prop := 0 ≤ s 57 ∧ s 57 ≤ 8 ∧ ∀ i : Nat, (i : Int) < s 57 → (0 ≤ s (58 + 2 * i) ∧ s (58 + 2 * i) ≤ 3) ∧ (s (58 + 2 * i) < 2 → 0 ≤ s (59 + 2 * i) ∧ s (59 + 2 * i) < s 0) ∧ (s (58 + 2 * i) = 2 → 0 ≤ s (59 + 2 * i) ∧ s (59 + 2 * i) ≤ 5) ∧ (s (58 + 2 * i) = 3 → 0 ≤ s (59 + 2 * i) ∧ s (59 + 2 * i) ≤ 20)
def pVI (s : Nat → Int) : Prop := pRg s ∧ (∀ y, y < 5 → s (1 + y) ≤ 20 ∧ s (6 + y) ≤ 40) ∧ pLs s 46 5 ∧ pLs s 74 8 ∧ pEv s
abbrev yOk (cap em : Int) : Prop := (0 ≤ cap ∧ cap ≤ 20) ∧ 0 ≤ em ∧ em ≤ 40
abbrev mOk (cost much : Int) : Prop := (1 ≤ cost ∧ cost ≤ 20) ∧ 1 ≤ much ∧ much ≤ 9
def sYear (s : Nat → Int) (cap em : Int) : Nat → Int := pU (pU (pU s (1 + (s 0).toNat) cap) (6 + (s 0).toNat) em) 0 (((s 0).toNat + 1 : Nat) : Int)
def qYear (s : Nat → Int) (cap em : Int) : Int := if yOk cap em then (if s 0 < 5 then s 0 else -4) else -2
def aYear (s : Nat → Int) (cap em : Int) : Nat → Int := if yOk cap em ∧ s 0 < 5 then sYear s cap em else s
def sMeas (s : Nat → Int) (y cost much : Int) : Nat → Int := pU (pU (pU (pU s (12 + (s 11).toNat) y) (22 + (s 11).toNat) cost) (32 + (s 11).toNat) much) 11 (((s 11).toNat + 1 : Nat) : Int)
def qMeas (s : Nat → Int) (y cost much : Int) : Int := if 0 ≤ y ∧ y < s 0 then (if mOk cost much then (if s 11 < 10 then s 11 else -4) else -2) else -1
def aMeas (s : Nat → Int) (y cost much : Int) : Nat → Int := if (0 ≤ y ∧ y < s 0) ∧ mOk cost much ∧ s 11 < 10 then sMeas s y cost much else s
def rBs (what : Int) : Nat := if what = 0 then 1 else if what = 1 then 6 else if what = 2 then 22 else 32
def rLo (what : Int) : Int := if what < 2 then 0 else 1
def rHi (what : Int) : Int := if what = 0 then 20 else if what = 1 then 40 else if what = 2 then 20 else 9
abbrev rK (s : Nat → Int) (what k : Int) : Prop := (0 ≤ what ∧ what ≤ 3) ∧ 0 ≤ k ∧ k < (if what < 2 then s 0 else s 11)
def qRenew (s : Nat → Int) (what k v : Int) : Int := if rK s what k then (if rLo what ≤ v ∧ v ≤ rHi what then s (rBs what + k.toNat) else -2) else -1
def aRenew (s : Nat → Int) (what k v : Int) : Nat → Int := if rK s what k ∧ rLo what ≤ v ∧ v ≤ rHi what then pU s (rBs what + k.toNat) v else s
def sHi (what : Int) : Int := if what = 3 then 5 else 20
def qSet (s : Nat → Int) (what v : Int) : Int := if 0 ≤ what ∧ what ≤ 3 then (if 0 ≤ v ∧ v ≤ sHi what then s (42 + what.toNat) else -2) else -1
def aSet (s : Nat → Int) (what v : Int) : Nat → Int := if (0 ≤ what ∧ what ≤ 3) ∧ 0 ≤ v ∧ v ≤ sHi what then pU s (42 + what.toNat) v else s
def sList (s : Nat → Int) (c : Nat) (y p : Int) : Nat → Int := pU (pU (pU s (c + 1 + 2 * (s c).toNat) y) (c + 2 + 2 * (s c).toNat) p) c (((s c).toNat + 1 : Nat) : Int)
abbrev lOk (s : Nat → Int) (y p : Int) : Prop := (0 ≤ y ∧ y < s 0) ∧ 0 ≤ p ∧ p ≤ 20
def qList (s : Nat → Int) (c most : Nat) (y p : Int) : Int := if y = -1 then 0 else if 0 ≤ y ∧ y < s 0 then (if 0 ≤ p ∧ p ≤ 20 then (if s c < most then s c + 1 else -4) else -2) else -1
def aList (s : Nat → Int) (c most : Nat) (y p : Int) : Nat → Int := if y = -1 then pU s c 0 else if lOk s y p ∧ s c < most then sList s c y p else s
def sEv (s : Nat → Int) (what n : Int) : Nat → Int := pU (pU (pU s (58 + 2 * (s 57).toNat) what) (59 + 2 * (s 57).toNat) n) 57 (((s 57).toNat + 1 : Nat) : Int)
abbrev eK (s : Nat → Int) (what n : Int) : Prop := (0 ≤ what ∧ what ≤ 3) ∧ (what < 2 → 0 ≤ n ∧ n < s 0)
abbrev eOk (what n : Int) : Prop := 1 < what → 0 ≤ n ∧ n ≤ (if what = 2 then 5 else 20)
def qEvent (s : Nat → Int) (what n : Int) : Int := if what = -1 then 0 else if eK s what n then (if eOk what n then (if s 57 < 8 then s 57 + 1 else -4) else -2) else -1
def aEvent (s : Nat → Int) (what n : Int) : Nat → Int := if what = -1 then pU s 57 0 else if eK s what n ∧ eOk what n ∧ s 57 < 8 then sEv s what n else s
theorem pRg_put {s : Nat → Int} (hs : pRg s) {j : Nat} {v : Int} (hj : 1 ≤ j ∧ j ≤ 10 ∨ 42 ≤ j ∧ j ≤ 45 ∨ 22 ≤ j ∧ j ≤ 41 ∧ 1 ≤ v) (hv : 0 ≤ v ∧ v ≤ 100) : pRg (pU s j v) := by
  obtain ⟨h1, h2, h3, h4, h5⟩ := hs
  refine ⟨fun i hi => ?_, ?_, ?_, fun m hm => ?_, fun m hm => ?_⟩
  · by_cases e : i = j
    · subst e; rw [pU_eq]; exact hv
    · rw [pU_ne e]; exact h1 i hi
  · rw [pU_ne (by omega)]; exact h2
  · rw [pU_ne (by omega)]; exact h3
  · rw [pU_ne (by omega)] at hm
    rw [pU_ne (by omega), pU_ne (by omega)]; exact h4 m hm
  · rw [pU_ne (by omega)] at hm
    by_cases e : 22 + m = j
    · subst e; rw [pU_eq]; omega
    · rw [pU_ne e]; exact h5 m hm
theorem pVI_put {s : Nat → Int} (hs : pVI s) {j : Nat} {v : Int} (hj : 1 ≤ j ∧ j ≤ 10 ∨ 42 ≤ j ∧ j ≤ 45 ∨ 22 ≤ j ∧ j ≤ 41 ∧ 1 ≤ v) (hv : 0 ≤ v ∧ v ≤ 100) (hc : (j ≤ 5 → v ≤ 20) ∧ (j ≤ 10 → v ≤ 40)) : pVI (pU s j v) := by
  obtain ⟨h1, h2, h3, h4, h5⟩ := hs
  refine ⟨pRg_put h1 hj hv, fun y hy => ?_, ?_, ?_, ?_⟩
  · refine ⟨?_, ?_⟩
    · by_cases e : 1 + y = j
      · subst e; rw [pU_eq]; exact hc.1 (by omega)
      · rw [pU_ne e]; exact (h2 y hy).1
    · by_cases e : 6 + y = j
      · subst e; rw [pU_eq]; exact hc.2 (by omega)
      · rw [pU_ne e]; exact (h2 y hy).2
  · unfold pLs
    rw [pU_ne (by omega), pU_ne (by omega)]
    refine ⟨h3.1, h3.2.1, fun i hi => ?_⟩
    rw [pU_ne (by omega), pU_ne (by omega)]; exact h3.2.2 i hi
  · unfold pLs
    rw [pU_ne (by omega), pU_ne (by omega)]
    refine ⟨h4.1, h4.2.1, fun i hi => ?_⟩
    rw [pU_ne (by omega), pU_ne (by omega)]; exact h4.2.2 i hi
  · unfold pEv
    rw [pU_ne (by omega), pU_ne (by omega)]
    refine ⟨h5.1, h5.2.1, fun i hi => ?_⟩
    rw [pU_ne (by omega), pU_ne (by omega)]; exact h5.2.2 i hi
theorem pVI_year {s : Nat → Int} (hs : pVI s) {cap em : Int} (h : yOk cap em) (h5 : s 0 < 5) : pVI (sYear s cap em) := by
  obtain ⟨⟨h1, h2, h3, h4, h5'⟩, h6, h7, h8, h9⟩ := hs
  have h0 := h1 0 (by omega)
  obtain ⟨n, hn⟩ : ∃ n : Nat, n = (s 0).toNat := ⟨_, rfl⟩
  unfold sYear
  rw [← hn]
  refine ⟨⟨fun i hi => ?_, ?_, ?_, fun m hm => ?_, fun m hm => ?_⟩, fun y hy => ?_, ?_, ?_, ?_⟩
  · unfold pU
    have := h1 i hi
    (repeat' split) <;> omega
  · rw [pU_eq]; omega
  · rw [pU_ne (by omega), pU_ne (by omega), pU_ne (by omega)]; exact h3
  · rw [pU_ne (by omega), pU_ne (by omega), pU_ne (by omega)] at hm
    rw [pU_ne (by omega), pU_ne (by omega), pU_ne (by omega), pU_eq]
    have := h4 m hm
    omega
  · rw [pU_ne (by omega), pU_ne (by omega), pU_ne (by omega)] at hm
    rw [pU_ne (by omega), pU_ne (by omega), pU_ne (by omega)]; exact h5' m hm
  · unfold pU
    have := h6 y hy
    refine ⟨?_, ?_⟩ <;> ((repeat' split) <;> omega)
  · unfold pLs
    rw [pU_eq, pU_ne (by omega), pU_ne (by omega), pU_ne (by omega)]
    refine ⟨h7.1, h7.2.1, fun i hi => ?_⟩
    have := h7.2.2 i hi
    rw [pU_ne (by omega), pU_ne (by omega), pU_ne (by omega), pU_ne (by omega), pU_ne (by omega), pU_ne (by omega)]
    omega
  · unfold pLs
    rw [pU_eq, pU_ne (by omega), pU_ne (by omega), pU_ne (by omega)]
    refine ⟨h8.1, h8.2.1, fun i hi => ?_⟩
    have := h8.2.2 i hi
    rw [pU_ne (by omega), pU_ne (by omega), pU_ne (by omega), pU_ne (by omega), pU_ne (by omega), pU_ne (by omega)]
    omega
  · unfold pEv
    rw [pU_eq, pU_ne (by omega), pU_ne (by omega), pU_ne (by omega)]
    refine ⟨h9.1, h9.2.1, fun i hi => ?_⟩
    have := h9.2.2 i hi
    rw [pU_ne (by omega), pU_ne (by omega), pU_ne (by omega), pU_ne (by omega), pU_ne (by omega), pU_ne (by omega)]
    omega
theorem pVI_meas {s : Nat → Int} (hs : pVI s) {y cost much : Int} (hy : 0 ≤ y ∧ y < s 0) (h : mOk cost much) (h10 : s 11 < 10) : pVI (sMeas s y cost much) := by
  obtain ⟨⟨h1, h2, h3, h4, h5'⟩, h6, h7, h8, h9⟩ := hs
  have h0 := h1 11 (by omega)
  have h00 := h1 0 (by omega)
  obtain ⟨n, hn⟩ : ∃ n : Nat, n = (s 11).toNat := ⟨_, rfl⟩
  unfold sMeas
  rw [← hn]
  have e0 : ∀ i, i ≠ 11 → i ≠ 12 + n → i ≠ 22 + n → i ≠ 32 + n → pU (pU (pU (pU s (12 + n) y) (22 + n) cost) (32 + n) much) 11 ((n + 1 : Nat) : Int) i = s i := fun i a b c d => by
    rw [pU_ne a, pU_ne d, pU_ne c, pU_ne b]
  refine ⟨⟨fun i hi => ?_, ?_, ?_, fun m hm => ?_, fun m hm => ?_⟩, fun k hk => ?_, ?_, ?_, ?_⟩
  · unfold pU
    have := h1 i hi
    (repeat' split) <;> omega
  · rw [e0 _ (by omega) (by omega) (by omega) (by omega)]; exact h2
  · rw [pU_eq]; omega
  · rw [pU_eq] at hm
    rw [e0 0 (by omega) (by omega) (by omega) (by omega)]
    by_cases e : m = n
    · subst e; rw [pU_ne (by omega), pU_ne (by omega), pU_ne (by omega), pU_eq]; exact hy.2
    · rw [e0 _ (by omega) (by omega) (by omega) (by omega)]; exact h4 m (by omega)
  · rw [pU_eq] at hm
    by_cases e : m = n
    · subst e; rw [pU_ne (by omega), pU_ne (by omega), pU_eq]; exact h.1.1
    · rw [e0 _ (by omega) (by omega) (by omega) (by omega)]; exact h5' m (by omega)
  · rw [e0 _ (by omega) (by omega) (by omega) (by omega), e0 _ (by omega) (by omega) (by omega) (by omega)]; exact h6 k hk
  · unfold pLs
    rw [e0 _ (by omega) (by omega) (by omega) (by omega), e0 _ (by omega) (by omega) (by omega) (by omega)]
    refine ⟨h7.1, h7.2.1, fun i hi => ?_⟩
    rw [e0 _ (by omega) (by omega) (by omega) (by omega), e0 _ (by omega) (by omega) (by omega) (by omega)]; exact h7.2.2 i hi
  · unfold pLs
    rw [e0 _ (by omega) (by omega) (by omega) (by omega), e0 _ (by omega) (by omega) (by omega) (by omega)]
    refine ⟨h8.1, h8.2.1, fun i hi => ?_⟩
    rw [e0 _ (by omega) (by omega) (by omega) (by omega), e0 _ (by omega) (by omega) (by omega) (by omega)]; exact h8.2.2 i hi
  · unfold pEv
    rw [e0 _ (by omega) (by omega) (by omega) (by omega), e0 _ (by omega) (by omega) (by omega) (by omega)]
    refine ⟨h9.1, h9.2.1, fun i hi => ?_⟩
    rw [e0 _ (by omega) (by omega) (by omega) (by omega), e0 _ (by omega) (by omega) (by omega) (by omega)]; exact h9.2.2 i hi
theorem aYear_VI {s : Nat → Int} (hs : pVI s) (cap em : Int) : pVI (aYear s cap em) := by
  unfold aYear; split
  · rename_i h; exact pVI_year hs h.1 h.2
  · exact hs
theorem aMeas_VI {s : Nat → Int} (hs : pVI s) (y cost much : Int) : pVI (aMeas s y cost much) := by
  unfold aMeas; split
  · rename_i h; exact pVI_meas hs h.1 h.2.1 h.2.2
  · exact hs
theorem aRenew_VI {s : Nat → Int} (hs : pVI s) (what k v : Int) : pVI (aRenew s what k v) := by
  have h2 := hs.1.2.1
  have h3 := hs.1.2.2.1
  unfold aRenew; split
  · rename_i h
    obtain ⟨⟨h1, hk⟩, hv⟩ := h
    unfold rLo rHi at hv
    refine pVI_put hs ?_ ?_ ?_
    · unfold rBs; (repeat' split at hv) <;> (repeat' split at hk) <;> (repeat' split) <;> omega
    · (repeat' split at hv) <;> omega
    · refine ⟨fun hb => ?_, fun hb => ?_⟩ <;> (unfold rBs at hb; (repeat' split at hv) <;> (repeat' split at hb) <;> omega)
  · exact hs
theorem aSet_VI {s : Nat → Int} (hs : pVI s) (what v : Int) : pVI (aSet s what v) := by
  unfold aSet; split
  · rename_i h
    unfold sHi at h
    refine pVI_put hs (by omega) ?_ (by omega)
    obtain ⟨h1, h2⟩ := h
    split at h2 <;> omega
  · exact hs
