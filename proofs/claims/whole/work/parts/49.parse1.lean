-- texts read: the words, the model's calls
abbrev nD (tx : Nat → Int) (L p : Nat) : Prop := p < L ∧ 48 ≤ tx p ∧ tx p ≤ 57
def nP (tx : Nat → Int) (L : Nat) : Nat → Nat → Nat
  | 0, p => p
  | n + 1, p => if nD tx L p then nP tx L n (p + 1) else p
def nV (tx : Nat → Int) (L : Nat) : Nat → Nat → Int → Int
  | 0, _, v => v
  | n + 1, p, v => if nD tx L p then nV tx L n (p + 1) (v * 10 + tx p - 48) else v
def clR (tx : Nat → Int) (L p : Nat) : Bool × Nat :=
  if p < L ∧ tx p = 121 then (if nP tx L 2 (p + 1) = p + 1 then (false, p + 1) else if nP tx L 2 (p + 1) < L ∧ tx (nP tx L 2 (p + 1)) = 44 then (if nP tx L 2 (nP tx L 2 (p + 1) + 1) = nP tx L 2 (p + 1) + 1 then (false, nP tx L 2 (p + 1) + 1) else (true, nP tx L 2 (nP tx L 2 (p + 1) + 1))) else (false, nP tx L 2 (p + 1)))
  else if p < L ∧ tx p = 109 then (if nP tx L 1 (p + 1) = p + 1 then (false, p + 1) else if nP tx L 2 (nP tx L 1 (p + 1)) = nP tx L 1 (p + 1) then (false, nP tx L 1 (p + 1)) else if nP tx L 2 (nP tx L 1 (p + 1)) < L ∧ tx (nP tx L 2 (nP tx L 1 (p + 1))) = 44 then (if nP tx L 1 (nP tx L 2 (nP tx L 1 (p + 1)) + 1) = nP tx L 2 (nP tx L 1 (p + 1)) + 1 then (false, nP tx L 2 (nP tx L 1 (p + 1)) + 1) else (true, nP tx L 1 (nP tx L 2 (nP tx L 1 (p + 1)) + 1))) else (false, nP tx L 2 (nP tx L 1 (p + 1))))
  else if p < L ∧ (tx p = 102 ∨ tx p = 99 ∨ tx p = 115) then (if nP tx L 2 (p + 1) = p + 1 then (false, p + 1) else (true, nP tx L 2 (p + 1)))
  else if p < L ∧ tx p = 108 then (if nP tx L 1 (p + 1) = p + 1 then (false, p + 1) else (true, nP tx L 1 (p + 1)))
  else (false, p)
def stP (tx : Nat → Int) (L : Nat) : Nat → Nat
  | 0 => 0
  | i + 1 => (clR tx L (stP tx L i)).2 + 1
/-- how a text ends: sound or not, where, how many clauses -/
def scR (tx : Nat → Int) (L : Nat) : Nat → Nat → Bool × Nat × Nat
  | 0, n => (false, 0, n)
  | k + 1, n => if (clR tx L (stP tx L n)).1 = true then (if (clR tx L (stP tx L n)).2 < L then (if k ≠ 0 ∧ tx (clR tx L (stP tx L n)).2 = 59 then scR tx L k (n + 1) else (false, (clR tx L (stP tx L n)).2, n + 1)) else (true, (clR tx L (stP tx L n)).2, n + 1)) else (false, (clR tx L (stP tx L n)).2, n)
def scT (tx : Nat → Int) (L : Nat) : Bool × Nat × Nat := scR tx L 14 0
def apS (tx : Nat → Int) (L : Nat) (s : Nat → Int) (p : Nat) : Nat → Int :=
  if tx p = 121 then aYear s (nV tx L 2 (p + 1) 0) (nV tx L 2 (nP tx L 2 (p + 1) + 1) 0)
  else if tx p = 109 then aMeas s (nV tx L 1 (p + 1) 0) (nV tx L 2 (nP tx L 1 (p + 1)) 0) (nV tx L 1 (nP tx L 2 (nP tx L 1 (p + 1)) + 1) 0)
  else if tx p = 102 then aSet s 0 (nV tx L 2 (p + 1) 0) else if tx p = 99 then aSet s 1 (nV tx L 2 (p + 1) 0) else if tx p = 115 then aSet s 2 (nV tx L 2 (p + 1) 0) else aSet s 3 (nV tx L 1 (p + 1) 0)
def apQ (tx : Nat → Int) (L : Nat) (s : Nat → Int) (p : Nat) : Int :=
  if tx p = 121 then qYear s (nV tx L 2 (p + 1) 0) (nV tx L 2 (nP tx L 2 (p + 1) + 1) 0)
  else if tx p = 109 then qMeas s (nV tx L 1 (p + 1) 0) (nV tx L 2 (nP tx L 1 (p + 1)) 0) (nV tx L 1 (nP tx L 2 (nP tx L 1 (p + 1)) + 1) 0)
  else if tx p = 102 then qSet s 0 (nV tx L 2 (p + 1) 0) else if tx p = 99 then qSet s 1 (nV tx L 2 (p + 1) 0) else if tx p = 115 then qSet s 2 (nV tx L 2 (p + 1) 0) else qSet s 3 (nV tx L 1 (p + 1) 0)
def rdS (tx : Nat → Int) (L : Nat) (s : Nat → Int) : Nat → Nat → Int
  | 0 => s
  | k + 1 => apS tx L (rdS tx L s k) (stP tx L k)
def rdC (tx : Nat → Int) (L : Nat) (s : Nat → Int) : Nat → Int
  | 0 => 0
  | k + 1 => rdC tx L s k + (if 0 ≤ apQ tx L (rdS tx L s k) (stP tx L k) then 1 else 0)
def qRead (tx : Nat → Int) (L : Nat) (s : Nat → Int) : Int := if (scT tx L).1 = true then rdC tx L s (scT tx L).2.2 else -10 - ((scT tx L).2.1 : Int)
def aRead (tx : Nat → Int) (L : Nat) (s : Nat → Int) : Nat → Int := if (scT tx L).1 = true then rdS tx L s (scT tx L).2.2 else s
/-- what four numbers say of the clause that begins at p -/
def rdV (tx : Nat → Int) (L p : Nat) (v0 v1 v2 v3 : Int) : Prop := v0 = tx p ∧ (tx p = 121 → v1 = nV tx L 2 (p + 1) 0 ∧ v2 = nV tx L 2 (nP tx L 2 (p + 1) + 1) 0) ∧ (tx p = 109 → v3 = nV tx L 1 (p + 1) 0 ∧ v1 = nV tx L 2 (nP tx L 1 (p + 1)) 0 ∧ v2 = nV tx L 1 (nP tx L 2 (nP tx L 1 (p + 1)) + 1) 0) ∧ (tx p = 102 ∨ tx p = 99 ∨ tx p = 115 → v1 = nV tx L 2 (p + 1) 0) ∧ (tx p = 108 → v1 = nV tx L 1 (p + 1) 0) ∧ (tx p = 121 ∨ tx p = 109 ∨ (tx p = 102 ∨ tx p = 99 ∨ tx p = 115) ∨ tx p = 108)
theorem nP_rg {tx : Nat → Int} {L : Nat} : ∀ n p, p ≤ L → p ≤ nP tx L n p ∧ nP tx L n p ≤ p + n ∧ nP tx L n p ≤ L
  | 0, p, h => by rw [nP]; omega
  | n + 1, p, h => by
    rw [nP]
    split
    · rename_i q
      have := nP_rg (tx := tx) n (p + 1) q.1
      omega
    · omega
theorem nV_rg {tx : Nat → Int} {L : Nat} : ∀ n p v, n ≤ 2 → 0 ≤ v ∧ v ≤ 99 → -1000 ≤ nV tx L n p v ∧ nV tx L n p v ≤ 100000
  | 0, p, v, _, h => by rw [nV]; omega
  | 1, p, v, _, h => by
    rw [nV]
    split
    · rename_i q; rw [nV]; omega
    · omega
  | 2, p, v, _, h => by
    rw [nV]
    split
    · rename_i q
      rw [nV]
      split
      · rename_i q2; rw [nV]; omega
      · omega
    · omega
  | n + 3, _, _, h, _ => by omega
theorem clR_rg {tx : Nat → Int} {L p : Nat} (h : p ≤ L) : p ≤ (clR tx L p).2 ∧ (clR tx L p).2 ≤ L := by
  have a1 := fun q (hq : q ≤ L) => nP_rg (tx := tx) (L := L) 1 q hq
  have a2 := fun q (hq : q ≤ L) => nP_rg (tx := tx) (L := L) 2 q hq
  unfold clR
  by_cases e : p < L
  · have b1 := a1 (p + 1) (by omega)
    have b2 := a2 (p + 1) (by omega)
    have b3 := a2 (nP tx L 1 (p + 1)) b1.2.2
    (repeat' split) <;> (try dsimp only) <;> (try omega)
    · rename_i h1 h2 h3 h4
      have := a2 (nP tx L 2 (p + 1) + 1) (by omega); omega
    · rename_i h1 h2 h3 h4 h5 h6
      have := a1 (nP tx L 2 (nP tx L 1 (p + 1)) + 1) (by omega); omega
  · (repeat' split) <;> (try dsimp only) <;> omega
def aO (f g : Nat → Int) (p ft : Int) : Prop := f 24 = p ∧ f 25 = ft ∧ ∀ j, j ≠ 24 → j ≠ 25 → f j = g j
theorem x_141 {K : mj_C} {d : Nat} {M : Nat → Nat → Int} {N : Nat → Nat → Int64} (p : Nat) (hat : M 126 24 = (p : Int)) (ft : Int) (hft : M 126 25 = ft) : mj_X K d 141 [.inr (.inr (.inl 126))] (mj_Sh, M, N) (fun r Z => r = none ∧ ∃ f, Z = (mj_Sh, st M [(126, f)], N) ∧ aO f (M 126) (p : Int) (if ft < 0 then (p : Int) else ft)) := by
  show mj_T K d 141 0 [some (.inr (.inr (.inl 126)))] [] (mj_Sh, M, N) _
  refine tw_aload k141_0 rfl ?_
  refine tw_geti k141_1 f126_25 rfl (v := ft) hft ?_
  refine tw_zge k141_4 (fun h4 => ?_) (fun h4 => ?_)
  · exact tw_rv k141_15 (⟨rfl, M 126, (show (mj_Sh, M, N) = (mj_Sh, st M [(126, M 126)], N) from by rw [show st M [(126, M 126)] = M from st_self M [126]]), hat, by rw [if_neg (by omega)]; exact hft, fun j h1 h2 => rfl⟩)
  · refine tw_aload k141_7 rfl ?_
    refine tw_aload k141_8 rfl ?_
    refine tw_geti k141_9 f126_24 rfl (v := ((p : Nat) : Int)) hat ?_
    refine tw_puti (M := M) (N := N) (l := []) (l' := [(126, (pU (M 126) 25 ((p : Nat) : Int)))]) k141_12 f126_25 rfl ?_
    exact tw_rv k141_15 (⟨rfl, _, rfl, by rw [pU_ne (by omega)]; exact hat, by rw [pU_eq, if_pos (by omega)], fun j h1 h2 => pU_ne h2⟩)
theorem x_140 {K : mj_C} {d : Nat} {M : Nat → Nat → Int} {N : Nat → Nat → Int64} (L : Nat) (hL : M 126 23 = (L : Int)) (h100 : L ≤ 100) (htx : ∀ i, i < 100 → 0 ≤ M 143 i ∧ M 143 i ≤ 127) (p : Nat) (hp : p ≤ L) (hat : M 126 24 = (p : Int)) (ft : Int) (hft : M 126 25 = ft) (c : Int) : mj_X K d 140 [.inr (.inr (.inl 126)), .inl c] (mj_Sh, M, N) (fun r Z => r = some (.inl (if ft < 0 ∧ p < L ∧ M 143 p = c then 1 else 0)) ∧ ∃ f, Z = (mj_Sh, st M [(126, f)], N) ∧ aO f (M 126) (if ft < 0 ∧ p < L ∧ M 143 p = c then ((p + 1 : Nat) : Int) else (p : Int)) ft) := by
  show mj_T K d 140 0 [some (.inr (.inr (.inl 126))), some (.inl c), none] [] (mj_Sh, M, N) _
  refine tw_aload k140_0 rfl ?_
  refine tw_geti k140_1 f126_25 rfl (v := ft) hft ?_
  refine tw_zge k140_4 (fun h4 => ?_) (fun h4 => ?_)
  · refine tw_const k140_35 ?_
    refine tw_istore k140_36 rfl (L' := [some (.inr (.inr (.inl 126))), some (.inl c), some (.inl (0 : Int))]) rfl ?_
    refine tw_aload k140_37 rfl ?_
    refine tw_dupr k140_38 ?_
    refine tw_geti k140_39 f126_24 rfl (v := ((p : Nat) : Int)) hat ?_
    refine tw_iload k140_42 rfl ?_
    refine tw_zeqT k140_43 (by decide) ?_
    refine tw_const k140_50 ?_
    refine tw_iadd k140_51 (v := ((p + 0 : Nat) : Int)) rfl (by omega) ?_
    refine tw_puti (M := M) (N := N) (l := []) (l' := [(126, (pU (M 126) 24 ((p + 0 : Nat) : Int)))]) k140_52 f126_24 rfl ?_
    refine tw_iload k140_55 rfl ?_
    exact tw_rb k140_56 (by decide) (⟨by rw [if_neg (by omega)], _, rfl, by rw [pU_eq, if_neg (by omega)]; omega, by rw [pU_ne (by omega)]; exact hft, fun j h1 h2 => pU_ne h1⟩)
  · refine tw_aload k140_7 rfl ?_
    refine tw_geti k140_8 f126_24 rfl (v := ((p : Nat) : Int)) hat ?_
    refine tw_aload k140_11 rfl ?_
    refine tw_geti k140_12 f126_23 rfl (v := ((L : Nat) : Int)) hL ?_
    refine tw_cge k140_15 (fun h15 => ?_) (fun h15 => ?_)
    · refine tw_const k140_35 ?_
      refine tw_istore k140_36 rfl (L' := [some (.inr (.inr (.inl 126))), some (.inl c), some (.inl (0 : Int))]) rfl ?_
      refine tw_aload k140_37 rfl ?_
      refine tw_dupr k140_38 ?_
      refine tw_geti k140_39 f126_24 rfl (v := ((p : Nat) : Int)) hat ?_
      refine tw_iload k140_42 rfl ?_
      refine tw_zeqT k140_43 (by decide) ?_
      refine tw_const k140_50 ?_
      refine tw_iadd k140_51 (v := ((p + 0 : Nat) : Int)) rfl (by omega) ?_
      refine tw_puti (M := M) (N := N) (l := []) (l' := [(126, (pU (M 126) 24 ((p + 0 : Nat) : Int)))]) k140_52 f126_24 rfl ?_
      refine tw_iload k140_55 rfl ?_
      exact tw_rb k140_56 (by decide) (⟨by rw [if_neg (by omega)], _, rfl, by rw [pU_eq, if_neg (by omega)]; omega, by rw [pU_ne (by omega)]; exact hft, fun j h1 h2 => pU_ne h1⟩)
    · refine tw_aload k140_18 rfl ?_
      refine tw_getr k140_19 f126_21 ?_
      refine tw_aload k140_22 rfl ?_
      refine tw_geti k140_23 f126_24 rfl (v := ((p : Nat) : Int)) hat ?_
      refine tw_iald (j := p) (v := (M 143 p)) k140_26 al143 rfl (by omega) rfl ?_
      refine tw_iload k140_27 rfl ?_
      refine tw_cne k140_28 (fun h28 => ?_) (fun h28 => ?_)
      · refine tw_const k140_35 ?_
        refine tw_istore k140_36 rfl (L' := [some (.inr (.inr (.inl 126))), some (.inl c), some (.inl (0 : Int))]) rfl ?_
        refine tw_aload k140_37 rfl ?_
        refine tw_dupr k140_38 ?_
        refine tw_geti k140_39 f126_24 rfl (v := ((p : Nat) : Int)) hat ?_
        refine tw_iload k140_42 rfl ?_
        refine tw_zeqT k140_43 (by decide) ?_
        refine tw_const k140_50 ?_
        refine tw_iadd k140_51 (v := ((p + 0 : Nat) : Int)) rfl (by omega) ?_
        refine tw_puti (M := M) (N := N) (l := []) (l' := [(126, (pU (M 126) 24 ((p + 0 : Nat) : Int)))]) k140_52 f126_24 rfl ?_
        refine tw_iload k140_55 rfl ?_
        exact tw_rb k140_56 (by decide) (⟨by rw [if_neg (by omega)], _, rfl, by rw [pU_eq, if_neg (by omega)]; omega, by rw [pU_ne (by omega)]; exact hft, fun j h1 h2 => pU_ne h1⟩)
      · refine tw_const k140_31 ?_
        refine tw_goto k140_32 ?_
        refine tw_istore k140_36 rfl (L' := [some (.inr (.inr (.inl 126))), some (.inl c), some (.inl (1 : Int))]) rfl ?_
        refine tw_aload k140_37 rfl ?_
        refine tw_dupr k140_38 ?_
        refine tw_geti k140_39 f126_24 rfl (v := ((p : Nat) : Int)) hat ?_
        refine tw_iload k140_42 rfl ?_
        refine tw_zeqF k140_43 (by decide) ?_
        refine tw_const k140_46 ?_
        refine tw_goto k140_47 ?_
        refine tw_iadd k140_51 (v := ((p + 1 : Nat) : Int)) rfl (by omega) ?_
        refine tw_puti (M := M) (N := N) (l := []) (l' := [(126, (pU (M 126) 24 ((p + 1 : Nat) : Int)))]) k140_52 f126_24 rfl ?_
        refine tw_iload k140_55 rfl ?_
        exact tw_rb k140_56 (by decide) (⟨by rw [if_pos (by omega)], _, rfl, by rw [pU_eq, if_pos (by omega)], by rw [pU_ne (by omega)]; exact hft, fun j h1 h2 => pU_ne h1⟩)
theorem x_142 {K : mj_C} {d : Nat} {M : Nat → Nat → Int} {N : Nat → Nat → Int64} (hD : 1 ≤ d) (L : Nat) (hL : M 126 23 = (L : Int)) (h100 : L ≤ 100) (htx : ∀ i, i < 100 → 0 ≤ M 143 i ∧ M 143 i ≤ 127) (p : Nat) (hp : p ≤ L) (hat : M 126 24 = (p : Int)) (ft : Int) (hft : M 126 25 = ft) (hftr : ft < 0 → ft = -1) (w : Nat) (hw : w ≤ 2) : mj_X K d 142 [.inr (.inr (.inl 126)), .inl ((w : Nat) : Int)] (mj_Sh, M, N) (fun r Z => (ft < 0 → r = some (.inl (nV (M 143) L w p 0)) ∧ ∃ f, Z = (mj_Sh, st M [(126, f)], N) ∧ aO f (M 126) ((nP (M 143) L w p) : Int) (if (nP (M 143) L w p) = p then (p : Int) else ft)) ∧ (¬ ft < 0 → ∃ v, r = some (.inl v) ∧ -1000 ≤ v ∧ v ≤ 100000 ∧ ∃ f, Z = (mj_Sh, st M [(126, f)], N) ∧ aO f (M 126) (p : Int) ft)) := by
  show mj_T K d 142 0 [some (.inr (.inr (.inl 126))), some (.inl ((w : Nat) : Int)), none, none] [] (mj_Sh, M, N) _
  by_cases hft0 : ft < 0
  · have key : ∀ i : Nat, i ≤ w → ∀ (v : Int) (f : Nat → Int), aO f (M 126) ((p + i : Nat) : Int) ft → p + i ≤ L → nP (M 143) L (w - i) (p + i) = nP (M 143) L w p → nV (M 143) L (w - i) (p + i) v = nV (M 143) L w p 0 → 0 ≤ v → v ≤ (if i = 0 then 0 else if i = 1 then 9 else 99) → (i ≠ 0 → nP (M 143) L w p ≠ p) → mj_T K d 142 7 [some (.inr (.inr (.inl 126))), some (.inl ((w : Nat) : Int)), some (.inl ((p : Nat) : Int)), some (.inl v)] [] (mj_Sh, (st M [(126, f)]), N) (fun r Z => (ft < 0 → r = some (.inl (nV (M 143) L w p 0)) ∧ ∃ f, Z = (mj_Sh, st M [(126, f)], N) ∧ aO f (M 126) ((nP (M 143) L w p) : Int) (if (nP (M 143) L w p) = p then (p : Int) else ft)) ∧ (¬ ft < 0 → ∃ v, r = some (.inl v) ∧ -1000 ≤ v ∧ v ≤ 100000 ∧ ∃ f, Z = (mj_Sh, st M [(126, f)], N) ∧ aO f (M 126) (p : Int) ft)) := by
      refine up_to w ?_ ?_
      · show ∀ (v : Int) (f : Nat → Int), aO f (M 126) ((p + w : Nat) : Int) ft → p + w ≤ L → nP (M 143) L (w - w) (p + w) = nP (M 143) L w p → nV (M 143) L (w - w) (p + w) v = nV (M 143) L w p 0 → 0 ≤ v → v ≤ (if w = 0 then 0 else if w = 1 then 9 else 99) → (w ≠ 0 → nP (M 143) L w p ≠ p) → mj_T K d 142 7 [some (.inr (.inr (.inl 126))), some (.inl ((w : Nat) : Int)), some (.inl ((p : Nat) : Int)), some (.inl v)] [] (mj_Sh, (st M [(126, f)]), N) (fun r Z => (ft < 0 → r = some (.inl (nV (M 143) L w p 0)) ∧ ∃ f, Z = (mj_Sh, st M [(126, f)], N) ∧ aO f (M 126) ((nP (M 143) L w p) : Int) (if (nP (M 143) L w p) = p then (p : Int) else ft)) ∧ (¬ ft < 0 → ∃ v, r = some (.inl v) ∧ -1000 ≤ v ∧ v ≤ 100000 ∧ ∃ f, Z = (mj_Sh, st M [(126, f)], N) ∧ aO f (M 126) (p : Int) ft))
        intro v f ho hpl hnp hnv hv0 hv9 hne
        have hpq : nP (M 143) L (w - w) (p + w) = p + w := by rw [Nat.sub_self, nP]
        have hvq : nV (M 143) L (w - w) (p + w) v = v := by rw [Nat.sub_self, nV]
        refine tw_aload k142_7 rfl ?_
        refine tw_geti k142_8 f126_25 rfl (v := ft) (show f 25 = _ from ho.2.1) ?_
        refine tw_zgeF k142_11 (by omega) ?_
        refine tw_aload k142_14 rfl ?_
        refine tw_geti k142_15 f126_24 rfl (v := (((p + w) : Nat) : Int)) (show f 24 = _ from ho.1) ?_
        refine tw_aload k142_18 rfl ?_
        refine tw_geti k142_19 f126_23 rfl (v := ((L : Nat) : Int)) (show f 23 = _ from (by rw [ho.2.2 _ (by omega) (by omega)]; exact hL)) ?_
        refine tw_cge k142_22 (fun h22 => ?_) (fun h22 => ?_)
        · refine tw_aload k142_85 rfl ?_
          refine tw_geti k142_86 f126_24 rfl (v := (((p + w) : Nat) : Int)) (show f 24 = _ from ho.1) ?_
          refine tw_iload k142_89 rfl ?_
          refine tw_cne k142_90 (fun h90 => ?_) (fun h90 => ?_)
          · refine tw_iload k142_97 rfl ?_
            exact tw_ri k142_98 (⟨fun _ => ⟨by rw [← hnv, hvq], f, rfl, by rw [ho.1, ← hnp, hpq], by rw [ho.2.1, if_neg (by rw [← hnp, hpq]; omega)], ho.2.2⟩, fun q => absurd hft0 q⟩)
          · refine tw_aload k142_93 rfl ?_
            refine tw_call (by omega) (S' := []) (as := [.inr (.inr (.inl 126))]) k142_94 (x_141 (M := (st M [(126, f)])) (N := N) (p + w) ho.1 ft ho.2.1) rfl rfl rfl rfl rfl (fun r94 Z94 hq94 => ?_)
            obtain ⟨rfl, f2, rfl, ho2⟩ := hq94
            refine tw_as (S := []) (M := (st M [(126, f2)])) (N := N) (by rw [st_mg]; rfl) rfl ?_
            refine tw_iload k142_97 rfl ?_
            exact tw_ri k142_98 (⟨fun _ => ⟨by rw [← hnv, hvq], f2, rfl, by rw [ho2.1, ← hnp, hpq], by rw [ho2.2.1, if_pos (by omega), if_pos (by rw [← hnp, hpq]; omega)]; omega, fun j h1 h2 => by rw [ho2.2.2 j h1 h2]; exact ho.2.2 j h1 h2⟩, fun q => absurd hft0 q⟩)
        · refine tw_aload k142_25 rfl ?_
          refine tw_geti k142_26 f126_24 rfl (v := (((p + w) : Nat) : Int)) (show f 24 = _ from ho.1) ?_
          refine tw_iload k142_29 rfl ?_
          refine tw_iload k142_30 rfl ?_
          refine tw_iadd k142_31 (v := ((p + w : Nat) : Int)) rfl (by omega) ?_
          refine tw_cgeT k142_32 (by omega) ?_
          refine tw_aload k142_85 rfl ?_
          refine tw_geti k142_86 f126_24 rfl (v := (((p + w) : Nat) : Int)) (show f 24 = _ from ho.1) ?_
          refine tw_iload k142_89 rfl ?_
          refine tw_cne k142_90 (fun h90 => ?_) (fun h90 => ?_)
          · refine tw_iload k142_97 rfl ?_
            exact tw_ri k142_98 (⟨fun _ => ⟨by rw [← hnv, hvq], f, rfl, by rw [ho.1, ← hnp, hpq], by rw [ho.2.1, if_neg (by rw [← hnp, hpq]; omega)], ho.2.2⟩, fun q => absurd hft0 q⟩)
          · refine tw_aload k142_93 rfl ?_
            refine tw_call (by omega) (S' := []) (as := [.inr (.inr (.inl 126))]) k142_94 (x_141 (M := (st M [(126, f)])) (N := N) (p + w) ho.1 ft ho.2.1) rfl rfl rfl rfl rfl (fun r94 Z94 hq94 => ?_)
            obtain ⟨rfl, f2, rfl, ho2⟩ := hq94
            refine tw_as (S := []) (M := (st M [(126, f2)])) (N := N) (by rw [st_mg]; rfl) rfl ?_
            refine tw_iload k142_97 rfl ?_
            exact tw_ri k142_98 (⟨fun _ => ⟨by rw [← hnv, hvq], f2, rfl, by rw [ho2.1, ← hnp, hpq], by rw [ho2.2.1, if_pos (by omega), if_pos (by rw [← hnp, hpq]; omega)]; omega, fun j h1 h2 => by rw [ho2.2.2 j h1 h2]; exact ho.2.2 j h1 h2⟩, fun q => absurd hft0 q⟩)
      · intro i hmi ih
        have ih : ∀ (v : Int) (f : Nat → Int), aO f (M 126) ((p + (i + 1) : Nat) : Int) ft → p + (i + 1) ≤ L → nP (M 143) L (w - (i + 1)) (p + (i + 1)) = nP (M 143) L w p → nV (M 143) L (w - (i + 1)) (p + (i + 1)) v = nV (M 143) L w p 0 → 0 ≤ v → v ≤ (if (i + 1) = 0 then 0 else if (i + 1) = 1 then 9 else 99) → ((i + 1) ≠ 0 → nP (M 143) L w p ≠ p) → mj_T K d 142 7 [some (.inr (.inr (.inl 126))), some (.inl ((w : Nat) : Int)), some (.inl ((p : Nat) : Int)), some (.inl v)] [] (mj_Sh, (st M [(126, f)]), N) (fun r Z => (ft < 0 → r = some (.inl (nV (M 143) L w p 0)) ∧ ∃ f, Z = (mj_Sh, st M [(126, f)], N) ∧ aO f (M 126) ((nP (M 143) L w p) : Int) (if (nP (M 143) L w p) = p then (p : Int) else ft)) ∧ (¬ ft < 0 → ∃ v, r = some (.inl v) ∧ -1000 ≤ v ∧ v ≤ 100000 ∧ ∃ f, Z = (mj_Sh, st M [(126, f)], N) ∧ aO f (M 126) (p : Int) ft)) := ih
        show ∀ (v : Int) (f : Nat → Int), aO f (M 126) ((p + i : Nat) : Int) ft → p + i ≤ L → nP (M 143) L (w - i) (p + i) = nP (M 143) L w p → nV (M 143) L (w - i) (p + i) v = nV (M 143) L w p 0 → 0 ≤ v → v ≤ (if i = 0 then 0 else if i = 1 then 9 else 99) → (i ≠ 0 → nP (M 143) L w p ≠ p) → mj_T K d 142 7 [some (.inr (.inr (.inl 126))), some (.inl ((w : Nat) : Int)), some (.inl ((p : Nat) : Int)), some (.inl v)] [] (mj_Sh, (st M [(126, f)]), N) (fun r Z => (ft < 0 → r = some (.inl (nV (M 143) L w p 0)) ∧ ∃ f, Z = (mj_Sh, st M [(126, f)], N) ∧ aO f (M 126) ((nP (M 143) L w p) : Int) (if (nP (M 143) L w p) = p then (p : Int) else ft)) ∧ (¬ ft < 0 → ∃ v, r = some (.inl v) ∧ -1000 ≤ v ∧ v ≤ 100000 ∧ ∃ f, Z = (mj_Sh, st M [(126, f)], N) ∧ aO f (M 126) (p : Int) ft))
        intro v f ho hpl hnp hnv hv0 hv9 hne
        by_cases hnd : nD (M 143) L (p + i)
        · have hti := htx (p + i) (by omega)
          have hv99 : v ≤ 99 := by (repeat' split at hv9) <;> omega
          refine tw_aload k142_7 rfl ?_
          refine tw_geti k142_8 f126_25 rfl (v := ft) (show f 25 = _ from ho.2.1) ?_
          refine tw_zgeF k142_11 (by omega) ?_
          refine tw_aload k142_14 rfl ?_
          refine tw_geti k142_15 f126_24 rfl (v := (((p + i) : Nat) : Int)) (show f 24 = _ from ho.1) ?_
          refine tw_aload k142_18 rfl ?_
          refine tw_geti k142_19 f126_23 rfl (v := ((L : Nat) : Int)) (show f 23 = _ from (by rw [ho.2.2 _ (by omega) (by omega)]; exact hL)) ?_
          refine tw_cgeF k142_22 (by omega) ?_
          refine tw_aload k142_25 rfl ?_
          refine tw_geti k142_26 f126_24 rfl (v := (((p + i) : Nat) : Int)) (show f 24 = _ from ho.1) ?_
          refine tw_iload k142_29 rfl ?_
          refine tw_iload k142_30 rfl ?_
          refine tw_iadd k142_31 (v := ((p + w : Nat) : Int)) rfl (by omega) ?_
          refine tw_cgeF k142_32 (by omega) ?_
          refine tw_aload k142_35 rfl ?_
          refine tw_getr k142_36 f126_21 ?_
          refine tw_aload k142_39 rfl ?_
          refine tw_geti k142_40 f126_24 rfl (v := (((p + i) : Nat) : Int)) (show f 24 = _ from ho.1) ?_
          refine tw_iald (j := (p + i)) (v := (M 143 (p + i))) k142_43 al143 rfl (by omega) rfl ?_
          refine tw_const k142_44 ?_
          refine tw_const k142_46 ?_
          refine tw_callbT (by omega) (S' := []) (as := [.inl (M 143 (p + i)), .inl (48 : Int), .inl (57 : Int)]) k142_48 (x_112 (M 143 (p + i)) (48 : Int) (57 : Int)) rfl rfl rfl rfl rfl (by omega) ?_
          refine tw_zeqF k142_51 (by decide) ?_
          refine tw_const k142_54 ?_
          refine tw_iload k142_56 rfl ?_
          refine tw_imul k142_57 (v := ((10 : Int) * v)) rfl (by omega) ?_
          refine tw_aload k142_58 rfl ?_
          refine tw_getr k142_59 f126_21 ?_
          refine tw_aload k142_62 rfl ?_
          refine tw_geti k142_63 f126_24 rfl (v := (((p + i) : Nat) : Int)) (show f 24 = _ from ho.1) ?_
          refine tw_iald (j := (p + i)) (v := (M 143 (p + i))) k142_66 al143 rfl (by omega) rfl ?_
          refine tw_iadd k142_67 (v := (((10 : Int) * v) + (M 143 (p + i)))) rfl (by omega) ?_
          refine tw_const k142_68 ?_
          refine tw_isub k142_70 (v := ((((10 : Int) * v) + (M 143 (p + i))) - (48 : Int))) rfl (by omega) ?_
          refine tw_istore k142_71 rfl (L' := [some (.inr (.inr (.inl 126))), some (.inl ((w : Nat) : Int)), some (.inl ((p : Nat) : Int)), some (.inl ((((10 : Int) * v) + (M 143 (p + i))) - (48 : Int)))]) rfl ?_
          refine tw_aload k142_72 rfl ?_
          refine tw_dupr k142_73 ?_
          refine tw_geti k142_74 f126_24 rfl (v := (((p + i) : Nat) : Int)) (show f 24 = _ from ho.1) ?_
          refine tw_const k142_77 ?_
          refine tw_iadd k142_78 (v := (((p + i) + 1 : Nat) : Int)) rfl (by omega) ?_
          refine tw_puti (M := M) (N := N) (l := [(126, f)]) (l' := [(126, (pU f 24 (((p + i) + 1 : Nat) : Int)))]) k142_79 f126_24 rfl ?_
          refine tw_goto k142_82 ?_
          refine ih _ _ ⟨?_, ?_, fun j h1 h2 => ?_⟩ (by omega) ?_ ?_ (by omega) ?_ (fun _ => ?_)
          · rw [pU_eq]; rfl
          · rw [pU_ne (by omega)]; exact ho.2.1
          · rw [pU_ne h1]; exact ho.2.2 j h1 h2
          · rw [← hnp, show w - i = (w - (i + 1)) + 1 by omega, nP, if_pos hnd]; rfl
          · rw [← hnv, show w - i = (w - (i + 1)) + 1 by omega, nV, if_pos hnd, show v * 10 + M 143 (p + i) - 48 = 10 * v + M 143 (p + i) - 48 by omega]; rfl
          · rw [if_neg (by omega)]
            by_cases e : i = 0
            · subst e; rw [if_pos rfl] at hv9; rw [if_pos (by omega)]; omega
            · rw [if_neg (by omega)]; rw [if_neg e, if_pos (by omega)] at hv9; omega
          · have h1 : nP (M 143) L (w - i) (p + i) = nP (M 143) L (w - (i + 1)) (p + i + 1) := by rw [show w - i = (w - (i + 1)) + 1 by omega, nP, if_pos hnd]
            have h2 := nP_rg (tx := M 143) (L := L) (w - (i + 1)) (p + i + 1) (by omega)
            omega
        · have hpq : nP (M 143) L (w - i) (p + i) = p + i := by rw [show w - i = (w - (i + 1)) + 1 by omega, nP, if_neg hnd]
          have hvq : nV (M 143) L (w - i) (p + i) v = v := by rw [show w - i = (w - (i + 1)) + 1 by omega, nV, if_neg hnd]
          by_cases hlt : p + i < L
          · refine tw_aload k142_7 rfl ?_
            refine tw_geti k142_8 f126_25 rfl (v := ft) (show f 25 = _ from ho.2.1) ?_
            refine tw_zgeF k142_11 (by omega) ?_
            refine tw_aload k142_14 rfl ?_
            refine tw_geti k142_15 f126_24 rfl (v := (((p + i) : Nat) : Int)) (show f 24 = _ from ho.1) ?_
            refine tw_aload k142_18 rfl ?_
            refine tw_geti k142_19 f126_23 rfl (v := ((L : Nat) : Int)) (show f 23 = _ from (by rw [ho.2.2 _ (by omega) (by omega)]; exact hL)) ?_
            refine tw_cgeF k142_22 (by omega) ?_
            refine tw_aload k142_25 rfl ?_
            refine tw_geti k142_26 f126_24 rfl (v := (((p + i) : Nat) : Int)) (show f 24 = _ from ho.1) ?_
            refine tw_iload k142_29 rfl ?_
            refine tw_iload k142_30 rfl ?_
            refine tw_iadd k142_31 (v := ((p + w : Nat) : Int)) rfl (by omega) ?_
            refine tw_cgeF k142_32 (by omega) ?_
            refine tw_aload k142_35 rfl ?_
            refine tw_getr k142_36 f126_21 ?_
            refine tw_aload k142_39 rfl ?_
            refine tw_geti k142_40 f126_24 rfl (v := (((p + i) : Nat) : Int)) (show f 24 = _ from ho.1) ?_
            refine tw_iald (j := (p + i)) (v := (M 143 (p + i))) k142_43 al143 rfl (by omega) rfl ?_
            refine tw_const k142_44 ?_
            refine tw_const k142_46 ?_
            refine tw_callbF (by omega) (S' := []) (as := [.inl (M 143 (p + i)), .inl (48 : Int), .inl (57 : Int)]) k142_48 (x_112 (M 143 (p + i)) (48 : Int) (57 : Int)) rfl rfl rfl rfl rfl (fun q => hnd ⟨hlt, q.1, q.2⟩) ?_
            refine tw_zeqT k142_51 (by decide) ?_
            refine tw_aload k142_85 rfl ?_
            refine tw_geti k142_86 f126_24 rfl (v := (((p + i) : Nat) : Int)) (show f 24 = _ from ho.1) ?_
            refine tw_iload k142_89 rfl ?_
            refine tw_cne k142_90 (fun h90 => ?_) (fun h90 => ?_)
            · refine tw_iload k142_97 rfl ?_
              exact tw_ri k142_98 (⟨fun _ => ⟨by rw [← hnv, hvq], f, rfl, by rw [ho.1, ← hnp, hpq], by rw [ho.2.1, if_neg (by rw [← hnp, hpq]; omega)], ho.2.2⟩, fun q => absurd hft0 q⟩)
            · refine tw_aload k142_93 rfl ?_
              refine tw_call (by omega) (S' := []) (as := [.inr (.inr (.inl 126))]) k142_94 (x_141 (M := (st M [(126, f)])) (N := N) (p + i) ho.1 ft ho.2.1) rfl rfl rfl rfl rfl (fun r94 Z94 hq94 => ?_)
              obtain ⟨rfl, f2, rfl, ho2⟩ := hq94
              refine tw_as (S := []) (M := (st M [(126, f2)])) (N := N) (by rw [st_mg]; rfl) rfl ?_
              refine tw_iload k142_97 rfl ?_
              exact tw_ri k142_98 (⟨fun _ => ⟨by rw [← hnv, hvq], f2, rfl, by rw [ho2.1, ← hnp, hpq], by rw [ho2.2.1, if_pos (by omega), if_pos (by rw [← hnp, hpq]; omega)]; omega, fun j h1 h2 => by rw [ho2.2.2 j h1 h2]; exact ho.2.2 j h1 h2⟩, fun q => absurd hft0 q⟩)
          · refine tw_aload k142_7 rfl ?_
            refine tw_geti k142_8 f126_25 rfl (v := ft) (show f 25 = _ from ho.2.1) ?_
            refine tw_zgeF k142_11 (by omega) ?_
            refine tw_aload k142_14 rfl ?_
            refine tw_geti k142_15 f126_24 rfl (v := (((p + i) : Nat) : Int)) (show f 24 = _ from ho.1) ?_
            refine tw_aload k142_18 rfl ?_
            refine tw_geti k142_19 f126_23 rfl (v := ((L : Nat) : Int)) (show f 23 = _ from (by rw [ho.2.2 _ (by omega) (by omega)]; exact hL)) ?_
            refine tw_cgeT k142_22 (by omega) ?_
            refine tw_aload k142_85 rfl ?_
            refine tw_geti k142_86 f126_24 rfl (v := (((p + i) : Nat) : Int)) (show f 24 = _ from ho.1) ?_
            refine tw_iload k142_89 rfl ?_
            refine tw_cne k142_90 (fun h90 => ?_) (fun h90 => ?_)
            · refine tw_iload k142_97 rfl ?_
              exact tw_ri k142_98 (⟨fun _ => ⟨by rw [← hnv, hvq], f, rfl, by rw [ho.1, ← hnp, hpq], by rw [ho.2.1, if_neg (by rw [← hnp, hpq]; omega)], ho.2.2⟩, fun q => absurd hft0 q⟩)
            · refine tw_aload k142_93 rfl ?_
              refine tw_call (by omega) (S' := []) (as := [.inr (.inr (.inl 126))]) k142_94 (x_141 (M := (st M [(126, f)])) (N := N) (p + i) ho.1 ft ho.2.1) rfl rfl rfl rfl rfl (fun r94 Z94 hq94 => ?_)
              obtain ⟨rfl, f2, rfl, ho2⟩ := hq94
              refine tw_as (S := []) (M := (st M [(126, f2)])) (N := N) (by rw [st_mg]; rfl) rfl ?_
              refine tw_iload k142_97 rfl ?_
              exact tw_ri k142_98 (⟨fun _ => ⟨by rw [← hnv, hvq], f2, rfl, by rw [ho2.1, ← hnp, hpq], by rw [ho2.2.1, if_pos (by omega), if_pos (by rw [← hnp, hpq]; omega)]; omega, fun j h1 h2 => by rw [ho2.2.2 j h1 h2]; exact ho.2.2 j h1 h2⟩, fun q => absurd hft0 q⟩)
    refine tw_aload k142_0 rfl ?_
    refine tw_geti k142_1 f126_24 rfl (v := ((p : Nat) : Int)) hat ?_
    refine tw_istore k142_4 rfl (L' := [some (.inr (.inr (.inl 126))), some (.inl ((w : Nat) : Int)), some (.inl ((p : Nat) : Int)), none]) rfl ?_
    refine tw_const k142_5 ?_
    refine tw_istore k142_6 rfl (L' := [some (.inr (.inr (.inl 126))), some (.inl ((w : Nat) : Int)), some (.inl ((p : Nat) : Int)), some (.inl (0 : Int))]) rfl ?_
    refine tw_pad (M := M) (N := N) (l := []) (l' := [(126, M 126)]) [126] rfl ?_
    exact key 0 (by omega) 0 _ ⟨hat, hft, fun j _ _ => rfl⟩ hp rfl rfl (by omega) (by rw [if_pos rfl]; omega) (fun q => absurd rfl q)
  · have hft1 : ∀ f, aO f (M 126) (p : Int) ft → mj_T K d 142 7 [some (.inr (.inr (.inl 126))), some (.inl ((w : Nat) : Int)), some (.inl ((p : Nat) : Int)), some (.inl (0 : Int))] [] (mj_Sh, (st M [(126, f)]), N) (fun r Z => (ft < 0 → r = some (.inl (nV (M 143) L w p 0)) ∧ ∃ f, Z = (mj_Sh, st M [(126, f)], N) ∧ aO f (M 126) ((nP (M 143) L w p) : Int) (if (nP (M 143) L w p) = p then (p : Int) else ft)) ∧ (¬ ft < 0 → ∃ v, r = some (.inl v) ∧ -1000 ≤ v ∧ v ≤ 100000 ∧ ∃ f, Z = (mj_Sh, st M [(126, f)], N) ∧ aO f (M 126) (p : Int) ft)) := by
      intro f ho
      refine tw_aload k142_7 rfl ?_
      refine tw_geti k142_8 f126_25 rfl (v := ft) (show f 25 = _ from ho.2.1) ?_
      refine tw_zgeT k142_11 hft0 ?_
      refine tw_aload k142_85 rfl ?_
      refine tw_geti k142_86 f126_24 rfl (v := ((p : Nat) : Int)) (show f 24 = _ from ho.1) ?_
      refine tw_iload k142_89 rfl ?_
      refine tw_cneF k142_90 (by omega) ?_
      refine tw_aload k142_93 rfl ?_
      refine tw_call (by omega) (S' := []) (as := [.inr (.inr (.inl 126))]) k142_94 (x_141 (M := (st M [(126, f)])) (N := N) p ho.1 ft ho.2.1) rfl rfl rfl rfl rfl (fun r94 Z94 hq94 => ?_)
      obtain ⟨rfl, f2, rfl, ho2⟩ := hq94
      refine tw_as (S := []) (M := (st M [(126, f2)])) (N := N) (by rw [st_mg]; rfl) rfl ?_
      refine tw_iload k142_97 rfl ?_
      exact tw_ri k142_98 (⟨fun q => absurd q hft0, fun _ => ⟨0, rfl, by omega, by omega, f2, rfl, ho2.1, by rw [ho2.2.1, if_neg hft0], fun j h1 h2 => by rw [ho2.2.2 j h1 h2]; exact ho.2.2 j h1 h2⟩⟩)
    refine tw_aload k142_0 rfl ?_
    refine tw_geti k142_1 f126_24 rfl (v := ((p : Nat) : Int)) hat ?_
    refine tw_istore k142_4 rfl (L' := [some (.inr (.inr (.inl 126))), some (.inl ((w : Nat) : Int)), some (.inl ((p : Nat) : Int)), none]) rfl ?_
    refine tw_const k142_5 ?_
    refine tw_istore k142_6 rfl (L' := [some (.inr (.inr (.inl 126))), some (.inl ((w : Nat) : Int)), some (.inl ((p : Nat) : Int)), some (.inl (0 : Int))]) rfl ?_
    refine tw_pad (M := M) (N := N) (l := []) (l' := [(126, M 126)]) [126] rfl ?_
    exact hft1 _ ⟨hat, hft, fun j _ _ => rfl⟩
theorem x_143 {K : mj_C} {d : Nat} {M : Nat → Nat → Int} {N : Nat → Nat → Int64} (hD : 1 ≤ d) (L : Nat) (hL : M 126 23 = (L : Int)) (h100 : L ≤ 100) (htx : ∀ i, i < 100 → 0 ≤ M 143 i ∧ M 143 i ≤ 127) (p : Nat) (hp : p ≤ L) (hat : M 126 24 = (p : Int)) (ft : Int) (hft : M 126 25 = ft) : mj_X K d 143 [.inr (.inr (.inl 126))] (mj_Sh, M, N) (fun r Z => r = none ∧ ∃ f, Z = (mj_Sh, st M [(126, f)], N) ∧ aO f (M 126) (if ft < 0 ∧ p < L ∧ M 143 p = 44 then ((p + 1 : Nat) : Int) else (p : Int)) (if ft < 0 ∧ ¬ (p < L ∧ M 143 p = 44) then (p : Int) else ft)) := by
  show mj_T K d 143 0 [some (.inr (.inr (.inl 126)))] [] (mj_Sh, M, N) _
  refine tw_aload k143_0 rfl ?_
  refine tw_const k143_1 ?_
  refine tw_call (by omega) (S' := []) (as := [.inr (.inr (.inl 126)), .inl (44 : Int)]) k143_3 (x_140 (M := M) (N := N) L hL h100 htx p hp hat ft hft 44) rfl rfl rfl rfl rfl (fun r3 Z3 hq3 => ?_)
  obtain ⟨rfl, f, rfl, ho⟩ := hq3
  by_cases hc : ft < 0 ∧ p < L ∧ M 143 p = 44
  · have hS : (if ft < 0 ∧ p < L ∧ M 143 p = 44 then (1 : Int) else 0) = 1 := if_pos hc
    rw [hS]
    refine tw_as (S := [.inl (1 : Int)]) (M := st M [(126, f)]) (N := N) rfl rfl ?_
    refine tw_zneT k143_6 (by decide) ?_
    exact tw_rv k143_13 (⟨rfl, f, rfl, by rw [ho.1, if_pos hc], by rw [ho.2.1, if_neg (by omega)], ho.2.2⟩)
  · have hS : (if ft < 0 ∧ p < L ∧ M 143 p = 44 then (1 : Int) else 0) = 0 := if_neg hc
    rw [hS]
    refine tw_as (S := [.inl (0 : Int)]) (M := st M [(126, f)]) (N := N) rfl rfl ?_
    refine tw_zneF k143_6 (by decide) ?_
    refine tw_aload k143_9 rfl ?_
    refine tw_call (by omega) (S' := []) (as := [.inr (.inr (.inl 126))]) k143_10 (x_141 (M := (st M [(126, f)])) (N := N) p (by rw [show st M [(126, f)] 126 24 = f 24 from rfl, ho.1, if_neg hc]) ft (by rw [show st M [(126, f)] 126 25 = f 25 from rfl]; exact ho.2.1)) rfl rfl rfl rfl rfl (fun r10 Z10 hq10 => ?_)
    obtain ⟨rfl, f2, rfl, ho2⟩ := hq10
    refine tw_as (S := []) (M := (st M [(126, f2)])) (N := N) (by rw [st_mg]; rfl) rfl ?_
    exact tw_rv k143_13 (⟨rfl, f2, rfl, by rw [ho2.1, if_neg hc], by rw [ho2.2.1]; (repeat' split) <;> first | rfl | omega, fun j h1 h2 => by rw [ho2.2.2 j h1 h2]; exact ho.2.2 j h1 h2⟩)
