-- what the mini machine makes stays in range; its cells only grow
def mj_okS (S : List mj_V) : Prop := ∀ v ∈ S, mj_okV v
theorem mj_okS_nil : mj_okS [] := fun v h => by cases h
theorem mj_okS_c {v : mj_V} {S : List mj_V} : mj_okS (v :: S) ↔ mj_okV v ∧ mj_okS S := by
  unfold mj_okS
  constructor
  · intro h; exact ⟨h v List.mem_cons_self, fun w hw => h w (List.mem_cons_of_mem _ hw)⟩
  · intro h w hw
    rcases List.mem_cons.mp hw with rfl | hw
    · exact h.1
    · exact h.2 w hw
def mj_okA (Z : mj_Z) : mj_A → Prop
  | .inl (_, L', S', Z') => mj_okZ Z' ∧ mj_okL L' ∧ mj_okS S' ∧ mj_nc Z ≤ mj_nc Z' ∧ mj_ns Z ≤ mj_ns Z' ∧ L'.length = L'.length
  | .inr (.inl r) => ∀ v, r = some v → mj_okV v
  | .inr (.inr (_, as, S')) => mj_okS as ∧ mj_okS S'
theorem mj_okL_st1 {L : mj_L} {i : Nat} {v : mj_V} (hL : mj_okL L) (hv : mj_okV v) : mj_okL (mj_st1 L i v) := by
  intro j u hj
  unfold mj_st1 at hj
  by_cases e : j = i
  · subst e
    have hl := (List.getElem?_eq_some_iff.mp hj).1
    rw [List.length_set] at hl
    rw [List.getElem?_set_self hl] at hj
    cases hj
    exact hv
  · rw [List.getElem?_set_ne (fun q => e q.symm)] at hj
    exact hL _ _ (mj_kill_get hj).1
theorem mj_okL_st2 {L : mj_L} {i : Nat} {v : mj_V} (hL : mj_okL L) (hv : mj_okV v) : mj_okL (mj_st2 L i v) := by
  intro j u hj
  unfold mj_st2 at hj
  by_cases e1 : j = i + 1
  · subst e1
    have hl := (List.getElem?_eq_some_iff.mp hj).1
    rw [List.length_set] at hl
    rw [List.getElem?_set_self hl] at hj
    cases hj
  · rw [List.getElem?_set_ne (fun q => e1 q.symm)] at hj
    exact mj_okL_st1 hL hv j u hj
theorem mj_okZ_u {Z : mj_Z} {a j : Nat} {v : Int} {h : List mj_S} {N : Nat → Nat → Int64} (hZ : mj_okZ Z) (hv : mj_rg v) : mj_okZ (h, mj_u Z.2.1 a j v, N) := by
  intro b k
  show mj_rg (mj_u Z.2.1 a j v b k)
  unfold mj_u
  split
  · exact hv
  · exact hZ b k
theorem mj_okZ_n {Z : mj_Z} {h : List mj_S} {N : Nat → Nat → Int64} (hZ : mj_okZ Z) : mj_okZ (h, Z.2.1, N) := hZ
theorem mj_okZ_zr {Z : mj_Z} {h : List mj_S} {n : Nat} {N : Nat → Nat → Int64} (hZ : mj_okZ Z) : mj_okZ (h, mj_zr Z.2.1 n 0, N) := by
  intro b k
  show mj_rg (mj_zr Z.2.1 n 0 b k)
  unfold mj_zr
  split
  · constructor <;> decide
  · exact hZ b k
theorem mj_okZ_cpy {Z : mj_Z} {h : List mj_S} {a i b j n : Nat} {N : Nat → Nat → Int64} (hZ : mj_okZ Z) : mj_okZ (h, mj_cpy Z.2.1 a i b j n, N) := by
  intro c k
  show mj_rg (mj_cpy Z.2.1 a i b j n c k)
  unfold mj_cpy
  split
  · exact hZ _ _
  · exact hZ _ _
theorem mj_rg_i (x : Int32) : mj_rg x.toInt := by
  have h1 := Int32.toInt_lt x
  have h2 := Int32.le_toInt x
  constructor <;> omega
theorem mj_rg_tdiv {x y : Int} (hx : mj_rg x) (hy : 0 < y) : mj_rg (x.tdiv y) := by
  obtain ⟨h1, h2⟩ := hx
  have h3 : (x.tdiv y).natAbs ≤ x.natAbs := by
    rw [Int.natAbs_tdiv]
    exact Nat.div_le_self _ _
  rcases Int.le_total 0 x with h4 | h4
  · have h5 := Int.tdiv_nonneg h4 (Int.le_of_lt hy)
    constructor <;> omega
  · have h5 := Int.tdiv_nonneg (show 0 ≤ -x by omega) (Int.le_of_lt hy)
    rw [Int.neg_tdiv] at h5
    constructor <;> omega
theorem mj_rg_tmod {x y : Int} (hy : 0 < y) (hy2 : mj_rg y) : mj_rg (x.tmod y) := by
  obtain ⟨h3, h4⟩ := tmod_bounds (a := x) hy
  obtain ⟨h1, h2⟩ := hy2
  constructor <;> omega
section Ranges
variable {K : mj_C} {nx k t c : Nat} {L : mj_L} {S : List mj_V} {Z : mj_Z} {act : mj_A}
theorem mj_okgo {pc : Nat} {L' : mj_L} {S' : List mj_V} (h : mj_go pc L' S' Z = some act) (hZ : mj_okZ Z) (hL : mj_okL L') (hS : mj_okS S') : mj_okA Z act := by
  unfold mj_go at h
  cases h
  exact ⟨hZ, hL, hS, Nat.le_refl _, Nat.le_refl _, rfl⟩
theorem mj_okgo2 {pc : Nat} {L' : mj_L} {S' : List mj_V} {Z' : mj_Z} (h : mj_go pc L' S' Z' = some act) (hZ : mj_okZ Z') (hL : mj_okL L') (hS : mj_okS S') (h1 : mj_nc Z ≤ mj_nc Z') (h2 : mj_ns Z ≤ mj_ns Z') : mj_okA Z act := by
  unfold mj_go at h
  cases h
  exact ⟨hZ, hL, hS, h1, h2, rfl⟩
theorem mj_ok_o1 (h : mj_o1 k nx L S Z = some act) (hZ : mj_okZ Z) (hL : mj_okL L) (hS : mj_okS S) : mj_okA Z act := by
  unfold mj_o1 at h
  split at h
  · rename_i x hx; exact mj_okgo h hZ hL (mj_okS_c.mpr ⟨hL _ _ hx, hS⟩)
  · cases h
theorem mj_ok_o2 (h : mj_o2 k nx L S Z = some act) (hZ : mj_okZ Z) (hL : mj_okL L) (hS : mj_okS S) : mj_okA Z act := by
  unfold mj_o2 at h
  split at h
  · rename_i x hx; exact mj_okgo h hZ hL (mj_okS_c.mpr ⟨hL _ _ hx, hS⟩)
  · cases h
theorem mj_ok_o3 (h : mj_o3 k nx L S Z = some act) (hZ : mj_okZ Z) (hL : mj_okL L) (hS : mj_okS S) : mj_okA Z act := by
  unfold mj_o3 at h
  split at h
  · rename_i x hx; exact mj_okgo h hZ hL (mj_okS_c.mpr ⟨hL _ _ hx, hS⟩)
  · cases h
theorem mj_ok_o4 (h : mj_o4 k nx L S Z = some act) (hZ : mj_okZ Z) (hL : mj_okL L) (hS : mj_okS S) : mj_okA Z act := by
  unfold mj_o4 at h
  split at h
  · rw [mj_okS_c] at hS
    split at h
    · exact mj_okgo h hZ (mj_okL_st1 hL hS.1) hS.2
    · cases h
  · cases h
theorem mj_ok_o5 (h : mj_o5 k nx L S Z = some act) (hZ : mj_okZ Z) (hL : mj_okL L) (hS : mj_okS S) : mj_okA Z act := by
  unfold mj_o5 at h
  split at h
  · rw [mj_okS_c] at hS
    split at h
    · exact mj_okgo h hZ (mj_okL_st1 hL hS.1) hS.2
    · cases h
  · cases h
theorem mj_ok_o6 (h : mj_o6 k nx L S Z = some act) (hZ : mj_okZ Z) (hL : mj_okL L) (hS : mj_okS S) : mj_okA Z act := by
  unfold mj_o6 at h
  split at h
  · rw [mj_okS_c] at hS
    split at h
    · exact mj_okgo h hZ (mj_okL_st2 hL hS.1) hS.2
    · cases h
  · cases h
theorem mj_ok_o7 {n : Int} (h : mj_o7 n k nx L S Z = some act) (hZ : mj_okZ Z) (hL : mj_okL L) (hS : mj_okS S) : mj_okA Z act := by
  unfold mj_o7 at h
  split at h
  · split at h
    · split at h
      · rename_i hr; exact mj_okgo h hZ (mj_okL_st1 hL hr) hS
      · cases h
    · cases h
  · cases h
theorem mj_ok_bin {f : Int → Int → Int} (h : mj_bin f nx L S Z = some act) (hZ : mj_okZ Z) (hL : mj_okL L) (hS : mj_okS S) : mj_okA Z act := by
  unfold mj_bin at h
  split at h
  · rw [mj_okS_c, mj_okS_c] at hS
    split at h
    · rename_i hr; exact mj_okgo h hZ hL (mj_okS_c.mpr ⟨hr, hS.2.2⟩)
    · cases h
  · cases h
theorem mj_ok_dv {f : Int → Int → Int} (hf : ∀ x y, mj_rg x → mj_rg y → 0 < y → mj_rg (f x y)) (h : mj_dv f nx L S Z = some act) (hZ : mj_okZ Z) (hL : mj_okL L) (hS : mj_okS S) : mj_okA Z act := by
  unfold mj_dv at h
  split at h
  · rw [mj_okS_c, mj_okS_c] at hS
    split at h
    · rename_i hr; exact mj_okgo h hZ hL (mj_okS_c.mpr ⟨hf _ _ hS.2.1 hS.1 hr, hS.2.2⟩)
    · cases h
  · cases h
theorem mj_ok_neg (h : mj_neg nx L S Z = some act) (hZ : mj_okZ Z) (hL : mj_okL L) (hS : mj_okS S) : mj_okA Z act := by
  unfold mj_neg at h
  split at h
  · rw [mj_okS_c] at hS
    split at h
    · rename_i hr; exact mj_okgo h hZ hL (mj_okS_c.mpr ⟨hr, hS.2⟩)
    · cases h
  · cases h
theorem mj_ok_and (h : mj_and nx L S Z = some act) (hZ : mj_okZ Z) (hL : mj_okL L) (hS : mj_okS S) : mj_okA Z act := by
  unfold mj_and at h
  split at h
  · rename_i y x S
    rw [mj_okS_c, mj_okS_c] at hS
    split at h
    · refine mj_okgo h hZ hL (mj_okS_c.mpr ⟨?_, hS.2.2⟩)
      show mj_rg (x % 64)
      constructor <;> omega
    · split at h
      · rename_i hr
        refine mj_okgo h hZ hL (mj_okS_c.mpr ⟨?_, hS.2.2⟩)
        show mj_rg (x * y)
        rcases hr with ⟨rfl | rfl, rfl | rfl⟩ <;> constructor <;> decide
      · cases h
  · cases h
theorem mj_ok_get {ci j : Nat} (h : mj_get ci j nx L S Z = some act) (hZ : mj_okZ Z) (hL : mj_okL L) (hS : mj_okS S) : mj_okA Z act := by
  unfold mj_get at h
  split at h
  · rw [mj_okS_c] at hS
    split at h
    · exact mj_okgo h hZ hL (mj_okS_c.mpr ⟨trivial, hS.2⟩)
    · exact mj_okgo h hZ hL (mj_okS_c.mpr ⟨hZ _ _, hS.2⟩)
    · exact mj_okgo h hZ hL (mj_okS_c.mpr ⟨trivial, hS.2⟩)
    · cases h
  · cases h
theorem mj_ok_put {q : Int} {ci j : Nat} (h : mj_put q ci j nx L S Z = some act) (hZ : mj_okZ Z) (hL : mj_okL L) (hS : mj_okS S) : mj_okA Z act := by
  unfold mj_put at h
  split at h
  · rw [mj_okS_c, mj_okS_c] at hS
    split at h
    · split at h
      · exact mj_okgo2 h (mj_okZ_u hZ hS.1) hL hS.2.2 (Nat.le_refl _) (Nat.le_refl _)
      · cases h
    · split at h
      · split at h
        · exact mj_okgo2 h (mj_okZ_u hZ hS.1) hL hS.2.2 (Nat.le_refl _) (Nat.le_refl _)
        · cases h
      · cases h
    · cases h
  · rw [mj_okS_c, mj_okS_c] at hS
    split at h
    · split at h
      · exact mj_okgo2 h (mj_okZ_n hZ) hL hS.2.2 (Nat.le_refl _) (Nat.le_refl _)
      · cases h
    · cases h
  · cases h
theorem mj_ok_putF {ci j : Nat} (h : mj_putF ci j nx L S Z = some act) (hZ : mj_okZ Z) (hL : mj_okL L) (hS : mj_okS S) : mj_okA Z act := by
  unfold mj_putF at h
  split at h
  · rw [mj_okS_c, mj_okS_c] at hS
    split at h
    · rename_i c ks he
      split at h
      · split at h
        · refine mj_okgo2 h hZ hL hS.2.2 (by simp [mj_nc]) ?_
          show mj_sm _ ≤ mj_sm _
          rw [mj_sm_set _ _ _ _ he (by simp [mj_sz])]
          exact Nat.le_refl _
        · cases h
      · cases h
    · cases h
  · cases h
theorem mj_ok_iald (hK : ∀ k j, mj_rg ((K k).2 j)) (h : mj_iald K nx L S Z = some act) (hZ : mj_okZ Z) (hL : mj_okL L) (hS : mj_okS S) : mj_okA Z act := by
  unfold mj_iald at h
  split at h
  · rw [mj_okS_c, mj_okS_c] at hS
    split at h
    · split at h
      · exact mj_okgo h hZ hL (mj_okS_c.mpr ⟨hZ _ _, hS.2.2⟩)
      · cases h
    · cases h
  · rw [mj_okS_c, mj_okS_c] at hS
    split at h
    · split at h
      · exact mj_okgo h hZ hL (mj_okS_c.mpr ⟨hK _ _, hS.2.2⟩)
      · cases h
    · cases h
  · cases h
theorem mj_ok_iast (h : mj_iast nx L S Z = some act) (hZ : mj_okZ Z) (hL : mj_okL L) (hS : mj_okS S) : mj_okA Z act := by
  unfold mj_iast at h
  split at h
  · rw [mj_okS_c, mj_okS_c, mj_okS_c] at hS
    split at h
    · split at h
      · exact mj_okgo2 h (mj_okZ_u hZ hS.1) hL hS.2.2.2 (Nat.le_refl _) (Nat.le_refl _)
      · cases h
    · cases h
  · cases h
theorem mj_ok_lald (h : mj_lald nx L S Z = some act) (hZ : mj_okZ Z) (hL : mj_okL L) (hS : mj_okS S) : mj_okA Z act := by
  unfold mj_lald at h
  split at h
  · rw [mj_okS_c, mj_okS_c] at hS
    split at h
    · split at h
      · exact mj_okgo h hZ hL (mj_okS_c.mpr ⟨trivial, hS.2.2⟩)
      · cases h
    · cases h
  · cases h
theorem mj_ok_last (h : mj_last nx L S Z = some act) (hZ : mj_okZ Z) (hL : mj_okL L) (hS : mj_okS S) : mj_okA Z act := by
  unfold mj_last at h
  split at h
  · rw [mj_okS_c, mj_okS_c, mj_okS_c] at hS
    split at h
    · split at h
      · exact mj_okgo2 h (mj_okZ_n hZ) hL hS.2.2.2 (Nat.le_refl _) (Nat.le_refl _)
      · cases h
    · cases h
  · cases h
theorem mj_ok_aald (h : mj_aald nx L S Z = some act) (hZ : mj_okZ Z) (hL : mj_okL L) (hS : mj_okS S) : mj_okA Z act := by
  unfold mj_aald at h
  split at h
  · rw [mj_okS_c, mj_okS_c] at hS
    split at h
    · split at h
      · exact mj_okgo h hZ hL (mj_okS_c.mpr ⟨trivial, hS.2.2⟩)
      · cases h
    · cases h
  · cases h
theorem mj_ok_aast (h : mj_aast nx L S Z = some act) (hZ : mj_okZ Z) (hL : mj_okL L) (hS : mj_okS S) : mj_okA Z act := by
  unfold mj_aast at h
  split at h
  · rw [mj_okS_c, mj_okS_c, mj_okS_c] at hS
    split at h
    · rename_i n ks c2 ks2 he1 he2
      split at h
      · refine mj_okgo2 h hZ hL hS.2.2.2 (by simp [mj_nc]) ?_
        show mj_sm _ ≤ mj_sm _
        rw [mj_sm_set _ _ _ _ he1 (by simp [mj_sz])]
        exact Nat.le_refl _
      · cases h
    · cases h
  · cases h
theorem mj_ok_alen (h : mj_alen K nx L S Z = some act) (hZ : mj_okZ Z) (hL : mj_okL L) (hS : mj_okS S) : mj_okA Z act := by
  unfold mj_alen at h
  split at h
  · rw [mj_okS_c] at hS
    split at h
    · split at h
      · refine mj_okgo h hZ hL (mj_okS_c.mpr ⟨?_, hS.2⟩)
        constructor <;> omega
      · cases h
    · cases h
  · rw [mj_okS_c] at hS
    split at h
    · split at h
      · refine mj_okgo h hZ hL (mj_okS_c.mpr ⟨?_, hS.2⟩)
        constructor <;> omega
      · cases h
    · cases h
  · cases h
theorem mj_ok_br {x y : Int} (h : mj_br c t nx x y L S Z = some act) (hZ : mj_okZ Z) (hL : mj_okL L) (hS : mj_okS S) : mj_okA Z act := by
  unfold mj_br at h
  split at h
  all_goals first | (split at h <;> exact mj_okgo h hZ hL hS) | cases h
theorem mj_ok_if (h : mj_if c t nx L S Z = some act) (hZ : mj_okZ Z) (hL : mj_okL L) (hS : mj_okS S) : mj_okA Z act := by
  unfold mj_if at h
  split at h
  · rw [mj_okS_c] at hS
    exact mj_ok_br h hZ hL hS.2
  · cases h
theorem mj_ok_ic (h : mj_ic c t nx L S Z = some act) (hZ : mj_okZ Z) (hL : mj_okL L) (hS : mj_okS S) : mj_okA Z act := by
  unfold mj_ic at h
  split at h
  · rw [mj_okS_c, mj_okS_c] at hS
    exact mj_ok_br h hZ hL hS.2.2
  · cases h
theorem mj_ok_sw {x : Int} {d : Nat} (hZ : mj_okZ Z) (hL : mj_okL L) (hS : mj_okS S) : ∀ (tb : List (Int × Nat)), mj_sw x d L S Z tb = some act → mj_okA Z act
  | [], h => mj_okgo h hZ hL hS
  | (q, r) :: tb, h => by
    unfold mj_sw at h
    split at h
    · exact mj_okgo h hZ hL hS
    · exact mj_ok_sw hZ hL hS tb h
theorem mj_ok_swi {tb : List (Int × Nat)} {d : Nat} (h : mj_swi tb d L S Z = some act) (hZ : mj_okZ Z) (hL : mj_okL L) (hS : mj_okS S) : mj_okA Z act := by
  unfold mj_swi at h
  split at h
  · rw [mj_okS_c] at hS
    exact mj_ok_sw hZ hL hS.2 tb h
  · cases h
theorem mj_ok_rt0 (h : mj_rt0 S = some act) : mj_okA Z act := by
  unfold mj_rt0 at h
  split at h
  · cases h; intro v h; cases h
  · cases h
theorem mj_ok_rti {b : Nat} (h : mj_rti b S = some act) (hS : mj_okS S) : mj_okA Z act := by
  unfold mj_rti at h
  split at h
  · rw [mj_okS_c] at hS
    split at h
    · cases h; intro v h; cases h; exact hS.1
    · split at h
      · cases h; intro v h; cases h; exact hS.1
      · cases h
  · cases h
theorem mj_ok_rtl (h : mj_rtl S = some act) : mj_okA Z act := by
  unfold mj_rtl at h
  split at h
  · cases h; intro v h; cases h; trivial
  · cases h
theorem mj_ok_rta (h : mj_rta S = some act) : mj_okA Z act := by
  unfold mj_rta at h
  split at h
  · cases h; intro v h; cases h; trivial
  · cases h
theorem mj_ok_inv {m' q : Nat} (h : mj_inv m' q S Z = some act) (hS : mj_okS S) : mj_okA Z act := by
  unfold mj_inv at h
  split at h
  · cases h
    exact ⟨fun v hv => hS v (List.mem_of_mem_take (List.mem_reverse.mp hv)), fun v hv => hS v (List.mem_of_mem_drop hv)⟩
  · cases h
theorem mj_ok_mx {f : Int → Int → Int} (hf : ∀ x y, mj_rg x → mj_rg y → mj_rg (f x y)) (h : mj_mx f nx L S Z = some act) (hZ : mj_okZ Z) (hL : mj_okL L) (hS : mj_okS S) : mj_okA Z act := by
  unfold mj_mx at h
  split at h
  · rw [mj_okS_c, mj_okS_c] at hS
    split at h
    · exact mj_okgo h hZ hL (mj_okS_c.mpr ⟨hf _ _ hS.2.1 hS.1, hS.2.2⟩)
    · cases h
  · cases h
theorem mj_ok_acp (h : mj_acp nx L S Z = some act) (hZ : mj_okZ Z) (hL : mj_okL L) (hS : mj_okS S) : mj_okA Z act := by
  unfold mj_acp at h
  split at h
  · rw [mj_okS_c, mj_okS_c, mj_okS_c, mj_okS_c, mj_okS_c] at hS
    split at h
    · split at h
      · split at h
        · exact mj_okgo2 h (mj_okZ_cpy hZ) hL hS.2.2.2.2.2 (Nat.le_refl _) (Nat.le_refl _)
        · cases h
      · split at h
        · exact mj_okgo2 h (mj_okZ_n hZ) hL hS.2.2.2.2.2 (Nat.le_refl _) (Nat.le_refl _)
        · cases h
      · cases h
    · cases h
  · cases h
theorem mj_nc_app {h : List mj_S} {q : (Nat → Nat → Int) × (Nat → Nat → Int64)} : mj_nc Z ≤ mj_nc (Z.1 ++ h, q) := by simp [mj_nc]
theorem mj_ns_app {h : List mj_S} {q : (Nat → Nat → Int) × (Nat → Nat → Int64)} : mj_ns Z ≤ mj_ns (Z.1 ++ h, q) := by
  show mj_sm _ ≤ mj_sm _
  rw [mj_sm_app]
  exact Nat.le_add_right _ _
theorem mj_ok_new {ci : Nat} (h : mj_new ci nx L S Z = some act) (hZ : mj_okZ Z) (hL : mj_okL L) (hS : mj_okS S) : mj_okA Z act := by
  unfold mj_new at h
  exact mj_okgo2 h (mj_okZ_zr hZ) hL (mj_okS_c.mpr ⟨trivial, hS⟩) mj_nc_app mj_ns_app
theorem mj_ok_nwa (h : mj_nwa t nx L S Z = some act) (hZ : mj_okZ Z) (hL : mj_okL L) (hS : mj_okS S) : mj_okA Z act := by
  unfold mj_nwa at h
  split at h
  · rw [mj_okS_c] at hS
    split at h
    · exact mj_okgo2 h (mj_okZ_zr hZ) hL (mj_okS_c.mpr ⟨trivial, hS.2⟩) mj_nc_app mj_ns_app
    · cases h
  · cases h
theorem mj_ok_nwr (h : mj_nwr nx L S Z = some act) (hZ : mj_okZ Z) (hL : mj_okL L) (hS : mj_okS S) : mj_okA Z act := by
  unfold mj_nwr at h
  split at h
  · rw [mj_okS_c] at hS
    split at h
    · exact mj_okgo2 h (mj_okZ_zr hZ) hL (mj_okS_c.mpr ⟨trivial, hS.2⟩) mj_nc_app mj_ns_app
    · cases h
  · cases h
theorem mj_ok_nwm (h : mj_nwm nx L S Z = some act) (hZ : mj_okZ Z) (hL : mj_okL L) (hS : mj_okS S) : mj_okA Z act := by
  unfold mj_nwm at h
  split at h
  · rw [mj_okS_c, mj_okS_c] at hS
    split at h
    · exact mj_okgo2 h (mj_okZ_zr hZ) hL (mj_okS_c.mpr ⟨trivial, hS.2.2⟩) mj_nc_app mj_ns_app
    · cases h
  · cases h
theorem mj_ok_dup (h : mj_dup nx L S Z = some act) (hZ : mj_okZ Z) (hL : mj_okL L) (hS : mj_okS S) : mj_okA Z act := by
  unfold mj_dup at h
  split at h
  · rw [mj_okS_c] at hS
    split at h
    · exact mj_okgo h hZ hL (mj_okS_c.mpr ⟨hS.1, mj_okS_c.mpr ⟨hS.1, hS.2⟩⟩)
    · cases h
  · cases h
theorem mj_ok_dup2 (h : mj_dup2 nx L S Z = some act) (hZ : mj_okZ Z) (hL : mj_okL L) (hS : mj_okS S) : mj_okA Z act := by
  unfold mj_dup2 at h
  split at h
  · rw [mj_okS_c, mj_okS_c] at hS
    split at h
    · exact mj_okgo h hZ hL (mj_okS_c.mpr ⟨hS.1, mj_okS_c.mpr ⟨hS.2.1, mj_okS_c.mpr ⟨hS.1, mj_okS_c.mpr ⟨hS.2.1, hS.2.2⟩⟩⟩⟩)
    · cases h
  · cases h
theorem mj_ok_dupx (h : mj_dupx nx L S Z = some act) (hZ : mj_okZ Z) (hL : mj_okL L) (hS : mj_okS S) : mj_okA Z act := by
  unfold mj_dupx at h
  split at h
  · rw [mj_okS_c, mj_okS_c] at hS
    split at h
    · exact mj_okgo h hZ hL (mj_okS_c.mpr ⟨hS.1, mj_okS_c.mpr ⟨hS.2.1, mj_okS_c.mpr ⟨hS.1, hS.2.2⟩⟩⟩)
    · cases h
  · cases h
theorem mj_ok_pop (h : mj_pop nx L S Z = some act) (hZ : mj_okZ Z) (hL : mj_okL L) (hS : mj_okS S) : mj_okA Z act := by
  unfold mj_pop at h
  split at h
  · rw [mj_okS_c] at hS
    split at h
    · exact mj_okgo h hZ hL hS.2
    · cases h
  · cases h
theorem mj_ok_i2 {f : Int32 → mj_V} (hf : ∀ x, mj_okV (f x)) (h : mj_i2 f nx L S Z = some act) (hZ : mj_okZ Z) (hL : mj_okL L) (hS : mj_okS S) : mj_okA Z act := by
  unfold mj_i2 at h
  split at h
  · rw [mj_okS_c] at hS
    exact mj_okgo h hZ hL (mj_okS_c.mpr ⟨hf _, hS.2⟩)
  · cases h
theorem mj_ok_l2 (h : mj_l2 nx L S Z = some act) (hZ : mj_okZ Z) (hL : mj_okL L) (hS : mj_okS S) : mj_okA Z act := by
  unfold mj_l2 at h
  split at h
  · rw [mj_okS_c] at hS
    exact mj_okgo h hZ hL (mj_okS_c.mpr ⟨mj_rg_i _, hS.2⟩)
  · cases h
theorem mj_ok_lbin {f : Int64 → Int64 → Int64} (h : mj_lbin f nx L S Z = some act) (hZ : mj_okZ Z) (hL : mj_okL L) (hS : mj_okS S) : mj_okA Z act := by
  unfold mj_lbin at h
  split at h
  · rw [mj_okS_c, mj_okS_c] at hS
    exact mj_okgo h hZ hL (mj_okS_c.mpr ⟨trivial, hS.2.2⟩)
  · cases h
theorem mj_ok_ldv {f : Int64 → Int64 → Int64} (h : mj_ldv f nx L S Z = some act) (hZ : mj_okZ Z) (hL : mj_okL L) (hS : mj_okS S) : mj_okA Z act := by
  unfold mj_ldv at h
  split at h
  · rw [mj_okS_c, mj_okS_c] at hS
    split at h
    · cases h
    · exact mj_okgo h hZ hL (mj_okS_c.mpr ⟨trivial, hS.2.2⟩)
  · cases h
theorem mj_ok_lsh (h : mj_lsh nx L S Z = some act) (hZ : mj_okZ Z) (hL : mj_okL L) (hS : mj_okS S) : mj_okA Z act := by
  unfold mj_lsh at h
  split at h
  · rw [mj_okS_c, mj_okS_c] at hS
    exact mj_okgo h hZ hL (mj_okS_c.mpr ⟨trivial, hS.2.2⟩)
  · cases h
theorem mj_ok_lcm (h : mj_lcm nx L S Z = some act) (hZ : mj_okZ Z) (hL : mj_okL L) (hS : mj_okS S) : mj_okA Z act := by
  unfold mj_lcm at h
  split at h
  · rw [mj_okS_c, mj_okS_c] at hS
    refine mj_okgo h hZ hL (mj_okS_c.mpr ⟨?_, hS.2.2⟩)
    show mj_rg _
    split
    · constructor <;> decide
    · split <;> constructor <;> decide
  · cases h
theorem mj_ok_oin (h : mj_oin nx L S Z = some act) (hZ : mj_okZ Z) (hL : mj_okL L) (hS : mj_okS S) : mj_okA Z act := by
  unfold mj_oin at h
  split at h
  · rw [mj_okS_c] at hS
    split at h
    · exact mj_okgo h hZ hL hS.2
    · cases h
  · cases h
set_option maxHeartbeats 4000000 in
theorem mj_step_ok {mi : mj_MI} (hK : ∀ k j, mj_rg ((K k).2 j)) (hmi : mi.1 = 0 → mj_rg mi.2.1) (h : mj_step K nx mi L S Z = some act) (hZ : mj_okZ Z) (hL : mj_okL L) (hS : mj_okS S) : mj_okA Z act := by
  obtain ⟨op, n, a, b, tb⟩ := mi
  unfold mj_step at h
  simp only at h
  split at h
  · exact mj_okgo h hZ hL (mj_okS_c.mpr ⟨hmi rfl, hS⟩)
  · exact mj_ok_o1 h hZ hL hS
  · exact mj_ok_o2 h hZ hL hS
  · exact mj_ok_o3 h hZ hL hS
  · exact mj_ok_o4 h hZ hL hS
  · exact mj_ok_o5 h hZ hL hS
  · exact mj_ok_o6 h hZ hL hS
  · exact mj_ok_o7 h hZ hL hS
  · exact mj_ok_bin h hZ hL hS
  · exact mj_ok_bin h hZ hL hS
  · exact mj_ok_bin h hZ hL hS
  · exact mj_ok_dv (fun x y hx _ hy => mj_rg_tdiv hx hy) h hZ hL hS
  · exact mj_ok_dv (fun x y _ h1 hy => mj_rg_tmod hy h1) h hZ hL hS
  · exact mj_ok_neg h hZ hL hS
  · exact mj_ok_and h hZ hL hS
  · exact mj_ok_get h hZ hL hS
  · exact mj_ok_put h hZ hL hS
  · exact mj_ok_iald hK h hZ hL hS
  · exact mj_ok_iast h hZ hL hS
  · exact mj_ok_lald h hZ hL hS
  · exact mj_ok_last h hZ hL hS
  · exact mj_ok_aald h hZ hL hS
  · exact mj_ok_aast h hZ hL hS
  · exact mj_ok_alen h hZ hL hS
  · exact mj_ok_if h hZ hL hS
  · exact mj_ok_ic h hZ hL hS
  · exact mj_okgo h hZ hL hS
  · exact mj_ok_swi h hZ hL hS
  · exact mj_ok_rt0 h
  · exact mj_ok_rti h hS
  · exact mj_ok_rtl h
  · exact mj_ok_rta h
  · exact mj_ok_inv h hS
  · exact mj_ok_mx (fun x y hx hy => ⟨by omega, by omega⟩) h hZ hL hS
  · exact mj_ok_mx (fun x y hx hy => ⟨by omega, by omega⟩) h hZ hL hS
  · exact mj_ok_acp h hZ hL hS
  · exact mj_ok_new h hZ hL hS
  · exact mj_ok_nwa h hZ hL hS
  · exact mj_ok_nwa h hZ hL hS
  · exact mj_ok_nwr h hZ hL hS
  · exact mj_ok_nwm h hZ hL hS
  · exact mj_ok_dup h hZ hL hS
  · exact mj_ok_dup2 h hZ hL hS
  · exact mj_ok_dupx h hZ hL hS
  · exact mj_ok_pop h hZ hL hS
  · exact mj_ok_i2 (f := mj_i64) (fun _ => trivial) h hZ hL hS
  · exact mj_ok_l2 h hZ hL hS
  · exact mj_ok_i2 (f := mj_i8) (fun _ => mj_rg_i _) h hZ hL hS
  · exact mj_ok_i2 (f := mj_i16) (fun _ => mj_rg_i _) h hZ hL hS
  · exact mj_okgo h hZ hL (mj_okS_c.mpr ⟨trivial, hS⟩)
  · exact mj_ok_lbin h hZ hL hS
  · exact mj_ok_lbin h hZ hL hS
  · exact mj_ok_lbin h hZ hL hS
  · exact mj_ok_ldv h hZ hL hS
  · exact mj_ok_ldv h hZ hL hS
  · exact mj_ok_lbin h hZ hL hS
  · exact mj_ok_lbin h hZ hL hS
  · exact mj_ok_lsh h hZ hL hS
  · exact mj_ok_lcm h hZ hL hS
  · exact mj_okgo h hZ hL (mj_okS_c.mpr ⟨trivial, hS⟩)
  · exact mj_ok_oin h hZ hL hS
  · exact mj_ok_putF h hZ hL hS
  · cases h
end Ranges
theorem mj_okL_lay : ∀ (as : List mj_V), mj_okS as → mj_okL (mj_lay as)
  | [], _ => fun i v h => by simp [mj_lay] at h
  | .inl x :: as, h => fun i v hi => by
    rw [mj_okS_c] at h
    cases i with
    | zero => simp [mj_lay] at hi; subst hi; exact h.1
    | succ i => exact mj_okL_lay as h.2 i v (by simpa [mj_lay] using hi)
  | .inr (.inl x) :: as, h => fun i v hi => by
    rw [mj_okS_c] at h
    match i with
    | 0 => simp [mj_lay] at hi; subst hi; trivial
    | 1 => simp [mj_lay] at hi
    | i + 2 => exact mj_okL_lay as h.2 i v (by simpa [mj_lay] using hi)
  | .inr (.inr x) :: as, h => fun i v hi => by
    rw [mj_okS_c] at h
    cases i with
    | zero => simp [mj_lay] at hi; subst hi; trivial
    | succ i => exact mj_okL_lay as h.2 i v (by simpa [mj_lay] using hi)
theorem mj_okL_ent {m : Nat} {as : List mj_V} (h : mj_okS as) : mj_okL (mj_ent m as) := by
  intro i v hi
  unfold mj_ent at hi
  by_cases hl : i < (mj_lay as).length
  · rw [List.getElem?_append_left hl] at hi
    exact mj_okL_lay as h i v hi
  · rw [List.getElem?_append_right (by omega)] at hi
    have := (List.mem_replicate.mp (List.mem_of_getElem? hi)).2
    cases this
theorem mj_tr_0 {m pc : Nat} {i : Instr} {mi : mj_MI} (h : mj_tr m pc i = some mi) : mi.1 = 0 → mj_rg mi.2.1 := by
  unfold mj_tr at h
  split at h
  all_goals first
    | (split at h <;> first | (cases h; intro _; constructor <;> show _ ≤ _ <;> dsimp only <;> omega) | (cases h; intro h0; cases h0) | cases h)
    | (cases h; intro h0; cases h0)
    | (simp only [Option.map_eq_some_iff, Option.bind_eq_some_iff] at h; obtain ⟨x, -, h⟩ := h; (repeat' split at h) <;> first | (cases h; intro h0; cases h0) | cases h)
    | cases h
