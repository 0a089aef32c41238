-- rows for the symbolic run: what one mini instruction does, by rfl
section Rows
variable {K : mj_C} {nx : Nat} {n : Int} {a b : Nat} {tb : List (Int × Nat)} {L : mj_L} {S : List mj_V} {Z : mj_Z} {κ : Nat → mj_L → List mj_V → mj_Z → Prop} {ρ : Option mj_V → Prop}
theorem ms_0 : mj_step K nx (0, n, a, b, tb) L S Z = mj_go nx L (.inl n :: S) Z := rfl
theorem ms_1 : mj_step K nx (1, n, a, b, tb) L S Z = mj_o1 a nx L S Z := rfl
theorem ms_2 : mj_step K nx (2, n, a, b, tb) L S Z = mj_o2 a nx L S Z := rfl
theorem ms_3 : mj_step K nx (3, n, a, b, tb) L S Z = mj_o3 a nx L S Z := rfl
theorem ms_4 : mj_step K nx (4, n, a, b, tb) L S Z = mj_o4 a nx L S Z := rfl
theorem ms_5 : mj_step K nx (5, n, a, b, tb) L S Z = mj_o5 a nx L S Z := rfl
theorem ms_6 : mj_step K nx (6, n, a, b, tb) L S Z = mj_o6 a nx L S Z := rfl
theorem ms_7 : mj_step K nx (7, n, a, b, tb) L S Z = mj_o7 n a nx L S Z := rfl
theorem ms_8 : mj_step K nx (8, n, a, b, tb) L S Z = mj_bin (fun x y => x + y) nx L S Z := rfl
theorem ms_9 : mj_step K nx (9, n, a, b, tb) L S Z = mj_bin (fun x y => x - y) nx L S Z := rfl
theorem ms_10 : mj_step K nx (10, n, a, b, tb) L S Z = mj_bin (fun x y => x * y) nx L S Z := rfl
theorem ms_11 : mj_step K nx (11, n, a, b, tb) L S Z = mj_dv (fun x y => x.tdiv y) nx L S Z := rfl
theorem ms_12 : mj_step K nx (12, n, a, b, tb) L S Z = mj_dv (fun x y => x.tmod y) nx L S Z := rfl
theorem ms_13 : mj_step K nx (13, n, a, b, tb) L S Z = mj_neg nx L S Z := rfl
theorem ms_14 : mj_step K nx (14, n, a, b, tb) L S Z = mj_and nx L S Z := rfl
theorem ms_15 : mj_step K nx (15, n, a, b, tb) L S Z = mj_get a b nx L S Z := rfl
theorem ms_16 : mj_step K nx (16, n, a, b, tb) L S Z = mj_put n a b nx L S Z := rfl
theorem ms_17 : mj_step K nx (17, n, a, b, tb) L S Z = mj_iald K nx L S Z := rfl
theorem ms_18 : mj_step K nx (18, n, a, b, tb) L S Z = mj_iast nx L S Z := rfl
theorem ms_19 : mj_step K nx (19, n, a, b, tb) L S Z = mj_lald nx L S Z := rfl
theorem ms_20 : mj_step K nx (20, n, a, b, tb) L S Z = mj_last nx L S Z := rfl
theorem ms_21 : mj_step K nx (21, n, a, b, tb) L S Z = mj_aald nx L S Z := rfl
theorem ms_22 : mj_step K nx (22, n, a, b, tb) L S Z = mj_aast nx L S Z := rfl
theorem ms_23 : mj_step K nx (23, n, a, b, tb) L S Z = mj_alen K nx L S Z := rfl
theorem ms_24 : mj_step K nx (24, n, a, b, tb) L S Z = mj_if b a nx L S Z := rfl
theorem ms_25 : mj_step K nx (25, n, a, b, tb) L S Z = mj_ic b a nx L S Z := rfl
theorem ms_26 : mj_step K nx (26, n, a, b, tb) L S Z = mj_go a L S Z := rfl
theorem ms_27 : mj_step K nx (27, n, a, b, tb) L S Z = mj_swi tb a L S Z := rfl
theorem ms_28 : mj_step K nx (28, n, a, b, tb) L S Z = mj_rt0 S := rfl
theorem ms_29 : mj_step K nx (29, n, a, b, tb) L S Z = mj_rti b S := rfl
theorem ms_30 : mj_step K nx (30, n, a, b, tb) L S Z = mj_rtl S := rfl
theorem ms_31 : mj_step K nx (31, n, a, b, tb) L S Z = mj_rta S := rfl
theorem ms_33 : mj_step K nx (33, n, a, b, tb) L S Z = mj_mx (fun x y => max x y) nx L S Z := rfl
theorem ms_34 : mj_step K nx (34, n, a, b, tb) L S Z = mj_mx (fun x y => min x y) nx L S Z := rfl
theorem ms_35 : mj_step K nx (35, n, a, b, tb) L S Z = mj_acp nx L S Z := rfl
theorem ms_41 : mj_step K nx (41, n, a, b, tb) L S Z = mj_dup nx L S Z := rfl
theorem ms_42 : mj_step K nx (42, n, a, b, tb) L S Z = mj_dup2 nx L S Z := rfl
theorem ms_43 : mj_step K nx (43, n, a, b, tb) L S Z = mj_dupx nx L S Z := rfl
theorem ms_44 : mj_step K nx (44, n, a, b, tb) L S Z = mj_pop nx L S Z := rfl
theorem ms_45 : mj_step K nx (45, n, a, b, tb) L S Z = mj_i2 mj_i64 nx L S Z := rfl
theorem ms_46 : mj_step K nx (46, n, a, b, tb) L S Z = mj_l2 nx L S Z := rfl
theorem ms_47 : mj_step K nx (47, n, a, b, tb) L S Z = mj_i2 mj_i8 nx L S Z := rfl
theorem ms_48 : mj_step K nx (48, n, a, b, tb) L S Z = mj_i2 mj_i16 nx L S Z := rfl
theorem ms_49 : mj_step K nx (49, n, a, b, tb) L S Z = mj_go nx L (.inr (.inl (Int64.ofInt n)) :: S) Z := rfl
theorem ms_50 : mj_step K nx (50, n, a, b, tb) L S Z = mj_lbin (fun x y => x + y) nx L S Z := rfl
theorem ms_51 : mj_step K nx (51, n, a, b, tb) L S Z = mj_lbin (fun x y => x - y) nx L S Z := rfl
theorem ms_52 : mj_step K nx (52, n, a, b, tb) L S Z = mj_lbin (fun x y => x * y) nx L S Z := rfl
theorem ms_53 : mj_step K nx (53, n, a, b, tb) L S Z = mj_ldv (fun x y => x / y) nx L S Z := rfl
theorem ms_54 : mj_step K nx (54, n, a, b, tb) L S Z = mj_ldv (fun x y => x - x / y * y) nx L S Z := rfl
theorem ms_55 : mj_step K nx (55, n, a, b, tb) L S Z = mj_lbin (fun x y => x &&& y) nx L S Z := rfl
theorem ms_56 : mj_step K nx (56, n, a, b, tb) L S Z = mj_lbin (fun x y => x ||| y) nx L S Z := rfl
theorem ms_57 : mj_step K nx (57, n, a, b, tb) L S Z = mj_lsh nx L S Z := rfl
theorem ms_58 : mj_step K nx (58, n, a, b, tb) L S Z = mj_lcm nx L S Z := rfl
theorem ms_59 : mj_step K nx (59, n, a, b, tb) L S Z = mj_go nx L (.inr (.inr (.inr a)) :: S) Z := rfl
theorem mb_go {pc : Nat} : mj_bd κ ρ (mj_go pc L S Z) = κ pc L S Z := rfl
theorem mb_ret {r : Option mj_V} : mj_bd κ ρ (some (.inr (.inl r))) = ρ r := rfl
theorem mb_none : mj_bd κ ρ none = False := rfl
theorem mb_in {c : Prop} (dc : Decidable c) {x : Option mj_A} : mj_bd κ ρ (@ite _ c dc x none) = (c ∧ mj_bd κ ρ x) := by
  by_cases h : c
  · simp [h]
  · simp [h, mb_none]
theorem mb_ite {c : Prop} (dc : Decidable c) {x y : Option mj_A} : mj_bd κ ρ (@ite _ c dc x y) = ((c → mj_bd κ ρ x) ∧ (¬ c → mj_bd κ ρ y)) := by
  by_cases h : c
  · simp [h]
  · simp [h]
theorem mo_o1 {k : Nat} {x : Int} (h : L[k]? = some (some (.inl x))) : mj_o1 k nx L S Z = mj_go nx L (.inl x :: S) Z := by unfold mj_o1; rw [h]
theorem mo_o2 {k : Nat} {w : Nat ⊕ Nat} (h : L[k]? = some (some (.inr (.inr w)))) : mj_o2 k nx L S Z = mj_go nx L (.inr (.inr w) :: S) Z := by unfold mj_o2; rw [h]
theorem mo_o3 {k : Nat} {x : Int64} (h : L[k]? = some (some (.inr (.inl x)))) : mj_o3 k nx L S Z = mj_go nx L (.inr (.inl x) :: S) Z := by unfold mj_o3; rw [h]
theorem mo_o4 {k : Nat} {x : Int} : mj_o4 k nx L (.inl x :: S) Z = if k < L.length then mj_go nx (mj_st1 L k (.inl x)) S Z else none := rfl
theorem mo_o5 {k : Nat} {w : Nat ⊕ Nat} : mj_o5 k nx L (.inr (.inr w) :: S) Z = if k < L.length then mj_go nx (mj_st1 L k (.inr (.inr w))) S Z else none := rfl
theorem mo_o6 {k : Nat} {x : Int64} : mj_o6 k nx L (.inr (.inl x) :: S) Z = if k + 1 < L.length then mj_go nx (mj_st2 L k (.inr (.inl x))) S Z else none := rfl
theorem mo_o7 {k : Nat} {x n : Int} (h : L[k]? = some (some (.inl x))) : mj_o7 n k nx L S Z = if k < L.length then (if mj_rg (x + n) then mj_go nx (mj_st1 L k (.inl (x + n))) S Z else none) else none := by unfold mj_o7; rw [h]
theorem mo_bin {f : Int → Int → Int} {x y : Int} : mj_bin f nx L (.inl y :: .inl x :: S) Z = if mj_rg (f x y) then mj_go nx L (.inl (f x y) :: S) Z else none := rfl
theorem mo_dv {f : Int → Int → Int} {x y : Int} : mj_dv f nx L (.inl y :: .inl x :: S) Z = if 0 < y then mj_go nx L (.inl (f x y) :: S) Z else none := rfl
theorem mo_neg {x : Int} : mj_neg nx L (.inl x :: S) Z = if mj_rg (-x) then mj_go nx L (.inl (-x) :: S) Z else none := rfl
theorem mo_and {x y : Int} : mj_and nx L (.inl y :: .inl x :: S) Z = if y = 63 then mj_go nx L (.inl (x % 64) :: S) Z else if (y = 0 ∨ y = 1) ∧ (x = 0 ∨ x = 1) then mj_go nx L (.inl (x * y) :: S) Z else none := rfl
theorem mo_geti {ci j q u : Nat} {h : List mj_S} {M : Nat → Nat → Int} {N : Nat → Nat → Int64} (hk : mj_fk h q ci j = some (.inl u)) (hu : u ≠ 1) : mj_get ci j nx L (.inr (.inr (.inl q)) :: S) (h, M, N) = mj_go nx L (.inl (M q j) :: S) (h, M, N) := by
  unfold mj_get; simp only [hk]
theorem mo_getl {ci j q : Nat} {h : List mj_S} {M : Nat → Nat → Int} {N : Nat → Nat → Int64} (hk : mj_fk h q ci j = some (.inl 1)) : mj_get ci j nx L (.inr (.inr (.inl q)) :: S) (h, M, N) = mj_go nx L (.inr (.inl (N q j)) :: S) (h, M, N) := by
  unfold mj_get; simp only [hk]
theorem mo_getr {ci j q r : Nat} {h : List mj_S} {M : Nat → Nat → Int} {N : Nat → Nat → Int64} (hk : mj_fk h q ci j = some (.inr (some r))) : mj_get ci j nx L (.inr (.inr (.inl q)) :: S) (h, M, N) = mj_go nx L (.inr (.inr (.inl r)) :: S) (h, M, N) := by
  unfold mj_get; simp only [hk]
theorem mo_puti {ci j q : Nat} {v : Int} {h : List mj_S} {M : Nat → Nat → Int} {N : Nat → Nat → Int64} (hk : mj_fk h q ci j = some (.inl 0)) : mj_put 0 ci j nx L (.inl v :: .inr (.inr (.inl q)) :: S) (h, M, N) = mj_go nx L S (h, mj_u M q j v, N) := by
  unfold mj_put; simp only [hk, if_true]
theorem mo_putz {ci j q : Nat} {v : Int} {h : List mj_S} {M : Nat → Nat → Int} {N : Nat → Nat → Int64} (hk : mj_fk h q ci j = some (.inl 2)) : mj_put 2 ci j nx L (.inl v :: .inr (.inr (.inl q)) :: S) (h, M, N) = if v = 0 ∨ v = 1 then mj_go nx L S (h, mj_u M q j v, N) else none := by
  unfold mj_put; simp only [hk, if_true]
theorem mo_putl {ci j q : Nat} {v : Int64} {h : List mj_S} {M : Nat → Nat → Int} {N : Nat → Nat → Int64} (hk : mj_fk h q ci j = some (.inl 1)) : mj_put 1 ci j nx L (.inr (.inl v) :: .inr (.inr (.inl q)) :: S) (h, M, N) = mj_go nx L S (h, M, mj_u N q j v) := by
  unfold mj_put; simp only [hk, if_true]
theorem mo_iald {q u : Nat} {i : Int} {h : List mj_S} {M : Nat → Nat → Int} {N : Nat → Nat → Int64} (hk : mj_al h 1 q = some u) : mj_iald K nx L (.inl i :: .inr (.inr (.inl q)) :: S) (h, M, N) = if 0 ≤ i ∧ i < u then mj_go nx L (.inl (M q i.toNat) :: S) (h, M, N) else none := by
  unfold mj_iald; simp only [hk]
theorem mo_ialc {k : Nat} {i : Int} : mj_iald K nx L (.inl i :: .inr (.inr (.inr k)) :: S) Z = if k < 4 then (if 0 ≤ i ∧ i < (K k).1 then mj_go nx L (.inl ((K k).2 i.toNat) :: S) Z else none) else none := rfl
theorem mo_iast {q u : Nat} {i v : Int} {h : List mj_S} {M : Nat → Nat → Int} {N : Nat → Nat → Int64} (hk : mj_al h 1 q = some u) : mj_iast nx L (.inl v :: .inl i :: .inr (.inr (.inl q)) :: S) (h, M, N) = if 0 ≤ i ∧ i < u then mj_go nx L S (h, mj_u M q i.toNat v, N) else none := by
  unfold mj_iast; simp only [hk]
theorem mo_lald {q u : Nat} {i : Int} {h : List mj_S} {M : Nat → Nat → Int} {N : Nat → Nat → Int64} (hk : mj_al h 2 q = some u) : mj_lald nx L (.inl i :: .inr (.inr (.inl q)) :: S) (h, M, N) = if 0 ≤ i ∧ i < u then mj_go nx L (.inr (.inl (N q i.toNat)) :: S) (h, M, N) else none := by
  unfold mj_lald; simp only [hk]
theorem mo_last {q u : Nat} {i : Int} {v : Int64} {h : List mj_S} {M : Nat → Nat → Int} {N : Nat → Nat → Int64} (hk : mj_al h 2 q = some u) : mj_last nx L (.inr (.inl v) :: .inl i :: .inr (.inr (.inl q)) :: S) (h, M, N) = if 0 ≤ i ∧ i < u then mj_go nx L S (h, M, mj_u N q i.toNat v) else none := by
  unfold mj_last; simp only [hk]
theorem mo_aald {q u : Nat} {i : Int} {h : List mj_S} {M : Nat → Nat → Int} {N : Nat → Nat → Int64} (h0 : 0 ≤ i) (hk : mj_rr h q i.toNat = some u) : mj_aald nx L (.inl i :: .inr (.inr (.inl q)) :: S) (h, M, N) = mj_go nx L (.inr (.inr (.inl u)) :: S) (h, M, N) := by
  unfold mj_aald; simp only [hk, h0, if_true]
theorem mo_alen {q u : Nat} {h : List mj_S} {M : Nat → Nat → Int} {N : Nat → Nat → Int64} (hk : mj_len h q = some u) : mj_alen K nx L (.inr (.inr (.inl q)) :: S) (h, M, N) = if u < 1000000 then mj_go nx L (.inl (u : Int) :: S) (h, M, N) else none := by
  unfold mj_alen; simp only [hk]
theorem mo_alec {k : Nat} : mj_alen K nx L (.inr (.inr (.inr k)) :: S) Z = if k < 4 then (if (K k).1 < 1000000 then mj_go nx L (.inl ((K k).1 : Int) :: S) Z else none) else none := rfl
theorem mo_if {c t : Nat} {x : Int} : mj_if c t nx L (.inl x :: S) Z = mj_br c t nx x 0 L S Z := rfl
theorem mo_ic {c t : Nat} {x y : Int} : mj_ic c t nx L (.inl y :: .inl x :: S) Z = mj_br c t nx x y L S Z := rfl
theorem mo_br0 {t : Nat} {x y : Int} : mj_br 0 t nx x y L S Z = if x = y then mj_go t L S Z else mj_go nx L S Z := rfl
theorem mo_br1 {t : Nat} {x y : Int} : mj_br 1 t nx x y L S Z = if x = y then mj_go nx L S Z else mj_go t L S Z := rfl
theorem mo_br2 {t : Nat} {x y : Int} : mj_br 2 t nx x y L S Z = if x < y then mj_go t L S Z else mj_go nx L S Z := rfl
theorem mo_br3 {t : Nat} {x y : Int} : mj_br 3 t nx x y L S Z = if x < y then mj_go nx L S Z else mj_go t L S Z := rfl
theorem mo_br4 {t : Nat} {x y : Int} : mj_br 4 t nx x y L S Z = if y < x then mj_go t L S Z else mj_go nx L S Z := rfl
theorem mo_br5 {t : Nat} {x y : Int} : mj_br 5 t nx x y L S Z = if y < x then mj_go nx L S Z else mj_go t L S Z := rfl
theorem mo_swi {x : Int} {d : Nat} : mj_swi tb d L (.inl x :: S) Z = mj_sw x d L S Z tb := rfl
theorem mo_sw0 {x : Int} {d : Nat} : mj_sw x d L S Z [] = mj_go d L S Z := rfl
theorem mo_sw1 {x k : Int} {d t : Nat} {r : List (Int × Nat)} : mj_sw x d L S Z ((k, t) :: r) = if x = k then mj_go t L S Z else mj_sw x d L S Z r := rfl
theorem mo_rt0 : mj_rt0 [] = some (.inr (.inl none)) := rfl
theorem mo_rti0 {x : Int} : mj_rti 0 [.inl x] = some (.inr (.inl (some (.inl x)))) := rfl
theorem mo_rti1 {x : Int} : mj_rti 1 [.inl x] = if x = 0 ∨ x = 1 then some (.inr (.inl (some (.inl x)))) else none := rfl
theorem mo_rtl {x : Int64} : mj_rtl [.inr (.inl x)] = some (.inr (.inl (some (.inr (.inl x))))) := rfl
theorem mo_rta {w : Nat ⊕ Nat} : mj_rta [.inr (.inr w)] = some (.inr (.inl (some (.inr (.inr w))))) := rfl
theorem mo_mx {f : Int → Int → Int} {x y : Int} : mj_mx f nx L (.inl y :: .inl x :: S) Z = if mj_cat S ≤ 8 then mj_go nx L (.inl (f x y) :: S) Z else none := rfl
theorem mo_dupi {x : Int} : mj_dup nx L (.inl x :: S) Z = mj_go nx L (.inl x :: .inl x :: S) Z := rfl
theorem mo_dupr {w : Nat ⊕ Nat} : mj_dup nx L (.inr (.inr w) :: S) Z = mj_go nx L (.inr (.inr w) :: .inr (.inr w) :: S) Z := rfl
theorem mo_dup2 {x : Int} {w : Nat ⊕ Nat} : mj_dup2 nx L (.inl x :: .inr (.inr w) :: S) Z = mj_go nx L (.inl x :: .inr (.inr w) :: .inl x :: .inr (.inr w) :: S) Z := rfl
theorem mo_dupx {x : Int} {w : Nat ⊕ Nat} : mj_dupx nx L (.inl x :: .inr (.inr w) :: S) Z = mj_go nx L (.inl x :: .inr (.inr w) :: .inl x :: S) Z := rfl
theorem mo_popi {x : Int} : mj_pop nx L (.inl x :: S) Z = mj_go nx L S Z := rfl
theorem mo_popr {w : Nat ⊕ Nat} : mj_pop nx L (.inr (.inr w) :: S) Z = mj_go nx L S Z := rfl
theorem mo_i2 {f : Int32 → mj_V} {x : Int} : mj_i2 f nx L (.inl x :: S) Z = mj_go nx L (f (Int32.ofInt x) :: S) Z := rfl
theorem mo_l2 {x : Int64} : mj_l2 nx L (.inr (.inl x) :: S) Z = mj_go nx L (.inl x.toInt32.toInt :: S) Z := rfl
theorem mo_lbin {f : Int64 → Int64 → Int64} {x y : Int64} : mj_lbin f nx L (.inr (.inl y) :: .inr (.inl x) :: S) Z = mj_go nx L (.inr (.inl (f x y)) :: S) Z := rfl
theorem mo_ldv {f : Int64 → Int64 → Int64} {x y : Int64} : mj_ldv f nx L (.inr (.inl y) :: .inr (.inl x) :: S) Z = if y = 0 then none else mj_go nx L (.inr (.inl (f x y)) :: S) Z := rfl
theorem mo_lsh {y : Int} {x : Int64} : mj_lsh nx L (.inl y :: .inr (.inl x) :: S) Z = mj_go nx L (.inr (.inl (x <<< ((Int32.ofInt y).toInt64 &&& 63))) :: S) Z := rfl
theorem mo_lcm {x y : Int64} : mj_lcm nx L (.inr (.inl y) :: .inr (.inl x) :: S) Z = mj_go nx L (.inl (if x > y then 1 else if x = y then 0 else -1) :: S) Z := rfl
theorem mw_0 {m : Nat} {st : List Nat} {ρ2 : Option mj_V → mj_Z → Prop} {pc : Nat} : mj_wp K m st κ ρ2 0 pc L S Z = κ pc L S Z := rfl
theorem mw_s {m : Nat} {st : List Nat} {ρ2 : Option mj_V → mj_Z → Prop} {k pc : Nat} {op : Nat} {mr : Int × Nat × Nat × List (Int × Nat)} (hc : mj_cod m pc = some ((op, mr), nx)) (h32 : ¬ op = 32) : mj_wp K m st κ ρ2 (k + 1) pc L S Z = mj_bd (fun pc' L' S' Z' => if pc' ∈ st then κ pc' L' S' Z' else mj_wp K m st κ ρ2 k pc' L' S' Z') (fun r => ρ2 r Z) (mj_step K nx (op, mr) L S Z) := by
  rw [mj_wp, hc]
  split
  · rename_i h; cases h
  · rename_i h; cases h; exact absurd rfl h32
  · rename_i h; cases h; rfl
theorem mw_c {m : Nat} {st : List Nat} {ρ2 : Option mj_V → mj_Z → Prop} {k pc : Nat} {mr : Int × Nat × Nat × List (Int × Nat)} (hc : mj_cod m pc = some ((32, mr), nx)) : mj_wp K m st κ ρ2 (k + 1) pc L S Z = κ pc L S Z := by
  rw [mj_wp, hc]
  rfl
end Rows
