-- what the tables say of the links, the classes and the methods
def mj_TT (ci : Nat) : u_T := fun k => (mj_own ci, (mj_fT.getD ci []).getD k ("", "", false))
def mj_NN (ci : Nat) : Nat := (mj_fT.getD ci []).length
def mj_tT (ci : Nat) (k : Nat) : FieldType := (parseFieldDescriptor (mj_TT ci k).2.2.1).getD .int
def mj_cl : List vw_C := (List.range 10).map fun ci => (mj_own ci, mj_TT ci, mj_NN ci)
def mj_gt : List Cond := lw_tbl.filter goodWord
def mj_ws (m : Nat) : List Cond := Cond.code (mj_yy m) (mj_bb m) (mj_ml m) (mj_rt m) :: mj_gt
theorem mj_cl_at {ci : Nat} (h : ci < 10) : mj_cl[ci]? = some (mj_own ci, mj_TT ci, mj_NN ci) := by
  unfold mj_cl
  rw [List.getElem?_map, List.getElem?_range h]
  rfl
theorem mj_cl_of {ci : Nat} {q : vw_C} (h : mj_cl[ci]? = some q) : ci < 10 ∧ q = (mj_own ci, mj_TT ci, mj_NN ci) := by
  have hl : ci < 10 := by
    have := (List.getElem?_eq_some_iff.mp h).1
    simpa [mj_cl] using this
  rw [mj_cl_at hl] at h
  exact ⟨hl, (Option.some.inj h).symm⟩
theorem mj_in {w : Cond} {i : Nat} (h : tables_1[i]? = some w) (g : goodWord w = true) : w ∈ mj_gt :=
  List.mem_filter.mpr ⟨List.mem_append_right _ (List.mem_of_getElem? h), g⟩
theorem mj_inL {w : Cond} {i : Nat} (h : lw_tbl[i]? = some w) (g : goodWord w = true) : w ∈ mj_gt :=
  List.mem_filter.mpr ⟨List.mem_of_getElem? h, g⟩
theorem mj_ws_of {m : Nat} {w : Cond} (h : w ∈ mj_gt) : w ∈ mj_ws m := List.mem_cons_of_mem _ h
theorem mj_gt_good : ∀ w ∈ mj_gt, goodWord w = true := fun w h => (List.mem_filter.mp h).2
theorem mj_fL_ok : ∀ x ∈ mj_fL, x.2.2.1 < 10 ∧ x.2.2.2.1 < mj_NN x.2.2.1 ∧ tables_1[x.2.2.2.2]? = some (Cond.fieldLink (mj_own x.1) x.2.1 (mj_own x.2.2.1) (mj_TT x.2.2.1 x.2.2.2.1).2.1 (mj_TT x.2.2.1 x.2.2.2.1).2.2.1) := by decide +kernel
def mj_sN (k : Nat) : String := if k = 1 then "LEAST" else if k = 2 then "MOST" else "MOST_SETTING"
theorem mj_sL_ok : ∀ x ∈ mj_sL, 1 ≤ x.2.2.1 ∧ x.2.2.1 < 4 ∧ tables_1[x.2.2.2.2]? = some (if x.2.2.2.1 = 0 then Cond.fieldLink (mj_own x.1) x.2.1 "PermitBank" (mj_sN x.2.2.1) "[I" else Cond.fieldLinkNest (mj_own x.1) x.2.1 "PermitBank" (mj_sN x.2.2.1) "[I" "PermitBank") := by decide +kernel
def mj_sp (t : Nat) : MethodName := if t = 1000 then Lib.Math.max.name else if t = 1001 then Lib.Math.min.name else if t = 1002 then arraycopyName else if t = 1003 then objectInit else mj_yy t
theorem mj_mL_ok : ∀ x ∈ mj_mL, tables_1[x.2.2.2.2]? = some (if x.2.2.2.1 = 0 then Cond.methodLink (mj_own x.1) x.2.1 (mj_sp x.2.2.1) else Cond.methodLinkNest (mj_own x.1) x.2.1 (mj_sp x.2.2.1) "PermitBank") ∧ (x.2.2.1 < 187 ∨ 1000 ≤ x.2.2.1) := by decide +kernel
theorem mj_cL_ok : ∀ x ∈ mj_cL, tables_1[x.2.2.2]? = some (Cond.classLink (mj_own x.1) x.2.1 x.2.2.1) := by decide +kernel
theorem mj_lL_ok : ∀ x ∈ mj_lL, tables_1[x.2.2.2]? = some (Cond.constantLong (mj_own x.1) x.2.1 (Int64.ofInt x.2.2.1)) := by decide +kernel
theorem mj_uP_ok : ∀ ci, ci < 10 → ∀ k, k < mj_NN ci → tables_1[(mj_fP.getD ci []).getD k 0]? = some (u_lay (mj_own ci) (mj_TT ci) k) ∧ goodWord (u_lay (mj_own ci) (mj_TT ci) k) = true := by decide +kernel
theorem mj_uin {ci : Nat} (h : ci < 10) : ∀ w ∈ u_ws (mj_own ci) (mj_TT ci) (mj_NN ci), w ∈ mj_gt := by
  intro w hw
  obtain ⟨k, hk, rfl⟩ := List.mem_map.mp hw
  obtain ⟨h1, h2⟩ := mj_uP_ok ci h k (List.mem_range.mp hk)
  exact mj_in h1 h2
theorem mj_tT_ok : ∀ ci, ci < 10 → ∀ k, k < mj_NN ci → parseFieldDescriptor (mj_TT ci k).2.2.1 = some (mj_tT ci k) := by decide +kernel
theorem mj_nm_ok : ∀ ci, ci < 10 → ∀ a, a < mj_NN ci → ∀ b, b < mj_NN ci → a ≠ b → (mj_TT ci a).2.1 ≠ (mj_TT ci b).2.1 := by decide +kernel
theorem mj_ins : ∀ ci, ci < 10 → tables_1[mj_iP.getD ci 0]? = some (Cond.instantiable (mj_own ci) (mj_NN ci)) ∧ tables_1[mj_nP.getD ci 0]? = some (Cond.initialized (mj_own ci)) := by decide +kernel
def mj_mtP (m : Nat) : Prop := mj_ci m < 10 ∧ mj_ml m ≤ 12 ∧ plainName (mj_own (mj_ci m)) = true ∧ tables_1[mj_tP.getD m 0]? = some (if mj_st m = true then Cond.static (mj_yy m) else Cond.instanceMethod (mj_yy m)) ∧
    (mj_own (mj_ci m) ≠ "java/lang/invoke/MethodHandle" ∧ mj_own (mj_ci m) ≠ "java/lang/invoke/VarHandle") ∧ (parseMethodDescriptor (mj_yy m).desc).map (fun d => d.parameters.length) = some (mj_np m)
theorem mj_mtO0 : ∀ k, k < 24 → mj_mtP (0 + k) := by unfold mj_mtP; decide +kernel
theorem mj_mtO1 : ∀ k, k < 24 → mj_mtP (24 + k) := by unfold mj_mtP; decide +kernel
theorem mj_mtO2 : ∀ k, k < 24 → mj_mtP (48 + k) := by unfold mj_mtP; decide +kernel
theorem mj_mtO3 : ∀ k, k < 24 → mj_mtP (72 + k) := by unfold mj_mtP; decide +kernel
theorem mj_mtO4 : ∀ k, k < 24 → mj_mtP (96 + k) := by unfold mj_mtP; decide +kernel
theorem mj_mtO5 : ∀ k, k < 24 → mj_mtP (120 + k) := by unfold mj_mtP; decide +kernel
theorem mj_mtO6 : ∀ k, k < 24 → mj_mtP (144 + k) := by unfold mj_mtP; decide +kernel
theorem mj_mtO7 : ∀ k, k < 19 → mj_mtP (168 + k) := by unfold mj_mtP; decide +kernel
theorem mj_mt_ok : ∀ m, m < 187 → mj_mtP m := by
  intro m hm
  rcases Nat.lt_or_ge m 24 with h0 | h0
  · have := mj_mtO0 (m - 0) (by omega)
    rwa [show 0 + (m - 0) = m by omega] at this
  rcases Nat.lt_or_ge m 48 with h1 | h1
  · have := mj_mtO1 (m - 24) (by omega)
    rwa [show 24 + (m - 24) = m by omega] at this
  rcases Nat.lt_or_ge m 72 with h2 | h2
  · have := mj_mtO2 (m - 48) (by omega)
    rwa [show 48 + (m - 48) = m by omega] at this
  rcases Nat.lt_or_ge m 96 with h3 | h3
  · have := mj_mtO3 (m - 72) (by omega)
    rwa [show 72 + (m - 72) = m by omega] at this
  rcases Nat.lt_or_ge m 120 with h4 | h4
  · have := mj_mtO4 (m - 96) (by omega)
    rwa [show 96 + (m - 96) = m by omega] at this
  rcases Nat.lt_or_ge m 144 with h5 | h5
  · have := mj_mtO5 (m - 120) (by omega)
    rwa [show 120 + (m - 120) = m by omega] at this
  rcases Nat.lt_or_ge m 168 with h6 | h6
  · have := mj_mtO6 (m - 144) (by omega)
    rwa [show 144 + (m - 144) = m by omega] at this
  have := mj_mtO7 (m - 168) (by omega)
  rwa [show 168 + (m - 168) = m by omega] at this
def mj_cwP (m : Nat) : Prop := tables_1[mj_cP.getD m 0]? = some (Cond.code (mj_yy m) (mj_bb m) (mj_ml m) (mj_rt m))
set_option maxRecDepth 100000 in
theorem mj_cw0 : mj_cwP 0 := rfl
set_option maxRecDepth 100000 in
theorem mj_cw1 : mj_cwP 1 := rfl
set_option maxRecDepth 100000 in
theorem mj_cw2 : mj_cwP 2 := rfl
set_option maxRecDepth 100000 in
theorem mj_cw3 : mj_cwP 3 := rfl
set_option maxRecDepth 100000 in
theorem mj_cw4 : mj_cwP 4 := rfl
set_option maxRecDepth 100000 in
theorem mj_cw5 : mj_cwP 5 := rfl
set_option maxRecDepth 100000 in
theorem mj_cw6 : mj_cwP 6 := rfl
set_option maxRecDepth 100000 in
theorem mj_cw7 : mj_cwP 7 := rfl
set_option maxRecDepth 100000 in
theorem mj_cw8 : mj_cwP 8 := rfl
set_option maxRecDepth 100000 in
theorem mj_cw9 : mj_cwP 9 := rfl
set_option maxRecDepth 100000 in
theorem mj_cw10 : mj_cwP 10 := rfl
set_option maxRecDepth 100000 in
theorem mj_cw11 : mj_cwP 11 := rfl
set_option maxRecDepth 100000 in
theorem mj_cw12 : mj_cwP 12 := rfl
set_option maxRecDepth 100000 in
theorem mj_cw13 : mj_cwP 13 := rfl
set_option maxRecDepth 100000 in
theorem mj_cw14 : mj_cwP 14 := rfl
set_option maxRecDepth 100000 in
theorem mj_cw15 : mj_cwP 15 := rfl
set_option maxRecDepth 100000 in
theorem mj_cw16 : mj_cwP 16 := rfl
set_option maxRecDepth 100000 in
theorem mj_cw17 : mj_cwP 17 := rfl
set_option maxRecDepth 100000 in
theorem mj_cw18 : mj_cwP 18 := rfl
set_option maxRecDepth 100000 in
theorem mj_cw19 : mj_cwP 19 := rfl
set_option maxRecDepth 100000 in
theorem mj_cw20 : mj_cwP 20 := rfl
set_option maxRecDepth 100000 in
theorem mj_cw21 : mj_cwP 21 := rfl
set_option maxRecDepth 100000 in
theorem mj_cw22 : mj_cwP 22 := rfl
set_option maxRecDepth 100000 in
theorem mj_cw23 : mj_cwP 23 := rfl
set_option maxRecDepth 100000 in
theorem mj_cw24 : mj_cwP 24 := rfl
set_option maxRecDepth 100000 in
theorem mj_cw25 : mj_cwP 25 := rfl
set_option maxRecDepth 100000 in
theorem mj_cw26 : mj_cwP 26 := rfl
set_option maxRecDepth 100000 in
theorem mj_cw27 : mj_cwP 27 := rfl
set_option maxRecDepth 100000 in
theorem mj_cw28 : mj_cwP 28 := rfl
set_option maxRecDepth 100000 in
theorem mj_cw29 : mj_cwP 29 := rfl
set_option maxRecDepth 100000 in
theorem mj_cw30 : mj_cwP 30 := rfl
set_option maxRecDepth 100000 in
theorem mj_cw31 : mj_cwP 31 := rfl
set_option maxRecDepth 100000 in
theorem mj_cw32 : mj_cwP 32 := rfl
set_option maxRecDepth 100000 in
theorem mj_cw33 : mj_cwP 33 := rfl
set_option maxRecDepth 100000 in
theorem mj_cw34 : mj_cwP 34 := rfl
set_option maxRecDepth 100000 in
theorem mj_cw35 : mj_cwP 35 := rfl
set_option maxRecDepth 100000 in
theorem mj_cw36 : mj_cwP 36 := rfl
set_option maxRecDepth 100000 in
theorem mj_cw37 : mj_cwP 37 := rfl
set_option maxRecDepth 100000 in
theorem mj_cw38 : mj_cwP 38 := rfl
set_option maxRecDepth 100000 in
theorem mj_cw39 : mj_cwP 39 := rfl
set_option maxRecDepth 100000 in
theorem mj_cw40 : mj_cwP 40 := rfl
set_option maxRecDepth 100000 in
theorem mj_cw41 : mj_cwP 41 := rfl
set_option maxRecDepth 100000 in
theorem mj_cw42 : mj_cwP 42 := rfl
set_option maxRecDepth 100000 in
theorem mj_cw43 : mj_cwP 43 := rfl
set_option maxRecDepth 100000 in
theorem mj_cw44 : mj_cwP 44 := rfl
set_option maxRecDepth 100000 in
theorem mj_cw45 : mj_cwP 45 := rfl
set_option maxRecDepth 100000 in
theorem mj_cw46 : mj_cwP 46 := rfl
set_option maxRecDepth 100000 in
theorem mj_cw47 : mj_cwP 47 := rfl
set_option maxRecDepth 100000 in
theorem mj_cw48 : mj_cwP 48 := rfl
set_option maxRecDepth 100000 in
theorem mj_cw49 : mj_cwP 49 := rfl
set_option maxRecDepth 100000 in
theorem mj_cw50 : mj_cwP 50 := rfl
set_option maxRecDepth 100000 in
theorem mj_cw51 : mj_cwP 51 := rfl
set_option maxRecDepth 100000 in
theorem mj_cw52 : mj_cwP 52 := rfl
set_option maxRecDepth 100000 in
theorem mj_cw53 : mj_cwP 53 := rfl
set_option maxRecDepth 100000 in
theorem mj_cw54 : mj_cwP 54 := rfl
set_option maxRecDepth 100000 in
theorem mj_cw55 : mj_cwP 55 := rfl
set_option maxRecDepth 100000 in
theorem mj_cw56 : mj_cwP 56 := rfl
set_option maxRecDepth 100000 in
theorem mj_cw57 : mj_cwP 57 := rfl
set_option maxRecDepth 100000 in
theorem mj_cw58 : mj_cwP 58 := rfl
set_option maxRecDepth 100000 in
theorem mj_cw59 : mj_cwP 59 := rfl
set_option maxRecDepth 100000 in
theorem mj_cw60 : mj_cwP 60 := rfl
set_option maxRecDepth 100000 in
theorem mj_cw61 : mj_cwP 61 := rfl
set_option maxRecDepth 100000 in
theorem mj_cw62 : mj_cwP 62 := rfl
set_option maxRecDepth 100000 in
theorem mj_cw63 : mj_cwP 63 := rfl
set_option maxRecDepth 100000 in
theorem mj_cw64 : mj_cwP 64 := rfl
set_option maxRecDepth 100000 in
theorem mj_cw65 : mj_cwP 65 := rfl
set_option maxRecDepth 100000 in
theorem mj_cw66 : mj_cwP 66 := rfl
set_option maxRecDepth 100000 in
theorem mj_cw67 : mj_cwP 67 := rfl
set_option maxRecDepth 100000 in
theorem mj_cw68 : mj_cwP 68 := rfl
set_option maxRecDepth 100000 in
theorem mj_cw69 : mj_cwP 69 := rfl
set_option maxRecDepth 100000 in
theorem mj_cw70 : mj_cwP 70 := rfl
set_option maxRecDepth 100000 in
theorem mj_cw71 : mj_cwP 71 := rfl
set_option maxRecDepth 100000 in
theorem mj_cw72 : mj_cwP 72 := rfl
set_option maxRecDepth 100000 in
theorem mj_cw73 : mj_cwP 73 := rfl
set_option maxRecDepth 100000 in
theorem mj_cw74 : mj_cwP 74 := rfl
set_option maxRecDepth 100000 in
theorem mj_cw75 : mj_cwP 75 := rfl
set_option maxRecDepth 100000 in
theorem mj_cw76 : mj_cwP 76 := rfl
set_option maxRecDepth 100000 in
theorem mj_cw77 : mj_cwP 77 := rfl
set_option maxRecDepth 100000 in
theorem mj_cw78 : mj_cwP 78 := rfl
set_option maxRecDepth 100000 in
theorem mj_cw79 : mj_cwP 79 := rfl
set_option maxRecDepth 100000 in
theorem mj_cw80 : mj_cwP 80 := rfl
set_option maxRecDepth 100000 in
theorem mj_cw81 : mj_cwP 81 := rfl
set_option maxRecDepth 100000 in
theorem mj_cw82 : mj_cwP 82 := rfl
set_option maxRecDepth 100000 in
theorem mj_cw83 : mj_cwP 83 := rfl
set_option maxRecDepth 100000 in
theorem mj_cw84 : mj_cwP 84 := rfl
set_option maxRecDepth 100000 in
theorem mj_cw85 : mj_cwP 85 := rfl
set_option maxRecDepth 100000 in
theorem mj_cw86 : mj_cwP 86 := rfl
set_option maxRecDepth 100000 in
theorem mj_cw87 : mj_cwP 87 := rfl
set_option maxRecDepth 100000 in
theorem mj_cw88 : mj_cwP 88 := rfl
set_option maxRecDepth 100000 in
theorem mj_cw89 : mj_cwP 89 := rfl
set_option maxRecDepth 100000 in
theorem mj_cw90 : mj_cwP 90 := rfl
set_option maxRecDepth 100000 in
theorem mj_cw91 : mj_cwP 91 := rfl
set_option maxRecDepth 100000 in
theorem mj_cw92 : mj_cwP 92 := rfl
set_option maxRecDepth 100000 in
theorem mj_cw93 : mj_cwP 93 := rfl
set_option maxRecDepth 100000 in
theorem mj_cw94 : mj_cwP 94 := rfl
set_option maxRecDepth 100000 in
theorem mj_cw95 : mj_cwP 95 := rfl
set_option maxRecDepth 100000 in
theorem mj_cw96 : mj_cwP 96 := rfl
set_option maxRecDepth 100000 in
theorem mj_cw97 : mj_cwP 97 := rfl
set_option maxRecDepth 100000 in
theorem mj_cw98 : mj_cwP 98 := rfl
set_option maxRecDepth 100000 in
theorem mj_cw99 : mj_cwP 99 := rfl
set_option maxRecDepth 100000 in
theorem mj_cw100 : mj_cwP 100 := rfl
set_option maxRecDepth 100000 in
theorem mj_cw101 : mj_cwP 101 := rfl
set_option maxRecDepth 100000 in
theorem mj_cw102 : mj_cwP 102 := rfl
set_option maxRecDepth 100000 in
theorem mj_cw103 : mj_cwP 103 := rfl
set_option maxRecDepth 100000 in
theorem mj_cw104 : mj_cwP 104 := rfl
set_option maxRecDepth 100000 in
theorem mj_cw105 : mj_cwP 105 := rfl
set_option maxRecDepth 100000 in
theorem mj_cw106 : mj_cwP 106 := rfl
set_option maxRecDepth 100000 in
theorem mj_cw107 : mj_cwP 107 := rfl
set_option maxRecDepth 100000 in
theorem mj_cw108 : mj_cwP 108 := rfl
set_option maxRecDepth 100000 in
theorem mj_cw109 : mj_cwP 109 := rfl
set_option maxRecDepth 100000 in
theorem mj_cw110 : mj_cwP 110 := rfl
set_option maxRecDepth 100000 in
theorem mj_cw111 : mj_cwP 111 := rfl
set_option maxRecDepth 100000 in
theorem mj_cw112 : mj_cwP 112 := rfl
set_option maxRecDepth 100000 in
theorem mj_cw113 : mj_cwP 113 := rfl
set_option maxRecDepth 100000 in
theorem mj_cw114 : mj_cwP 114 := rfl
set_option maxRecDepth 100000 in
theorem mj_cw115 : mj_cwP 115 := rfl
set_option maxRecDepth 100000 in
theorem mj_cw116 : mj_cwP 116 := rfl
set_option maxRecDepth 100000 in
theorem mj_cw117 : mj_cwP 117 := rfl
set_option maxRecDepth 100000 in
theorem mj_cw118 : mj_cwP 118 := rfl
set_option maxRecDepth 100000 in
theorem mj_cw119 : mj_cwP 119 := rfl
set_option maxRecDepth 100000 in
theorem mj_cw120 : mj_cwP 120 := rfl
set_option maxRecDepth 100000 in
theorem mj_cw121 : mj_cwP 121 := rfl
set_option maxRecDepth 100000 in
theorem mj_cw122 : mj_cwP 122 := rfl
set_option maxRecDepth 100000 in
theorem mj_cw123 : mj_cwP 123 := rfl
set_option maxRecDepth 100000 in
theorem mj_cw124 : mj_cwP 124 := rfl
set_option maxRecDepth 100000 in
theorem mj_cw125 : mj_cwP 125 := rfl
set_option maxRecDepth 100000 in
theorem mj_cw126 : mj_cwP 126 := rfl
set_option maxRecDepth 100000 in
theorem mj_cw127 : mj_cwP 127 := rfl
set_option maxRecDepth 100000 in
theorem mj_cw128 : mj_cwP 128 := rfl
set_option maxRecDepth 100000 in
theorem mj_cw129 : mj_cwP 129 := rfl
set_option maxRecDepth 100000 in
theorem mj_cw130 : mj_cwP 130 := rfl
set_option maxRecDepth 100000 in
theorem mj_cw131 : mj_cwP 131 := rfl
set_option maxRecDepth 100000 in
theorem mj_cw132 : mj_cwP 132 := rfl
set_option maxRecDepth 100000 in
theorem mj_cw133 : mj_cwP 133 := rfl
set_option maxRecDepth 100000 in
theorem mj_cw134 : mj_cwP 134 := rfl
set_option maxRecDepth 100000 in
theorem mj_cw135 : mj_cwP 135 := rfl
set_option maxRecDepth 100000 in
theorem mj_cw136 : mj_cwP 136 := rfl
set_option maxRecDepth 100000 in
theorem mj_cw137 : mj_cwP 137 := rfl
set_option maxRecDepth 100000 in
theorem mj_cw138 : mj_cwP 138 := rfl
set_option maxRecDepth 100000 in
theorem mj_cw139 : mj_cwP 139 := rfl
set_option maxRecDepth 100000 in
theorem mj_cw140 : mj_cwP 140 := rfl
set_option maxRecDepth 100000 in
theorem mj_cw141 : mj_cwP 141 := rfl
set_option maxRecDepth 100000 in
theorem mj_cw142 : mj_cwP 142 := rfl
set_option maxRecDepth 100000 in
theorem mj_cw143 : mj_cwP 143 := rfl
set_option maxRecDepth 100000 in
theorem mj_cw144 : mj_cwP 144 := rfl
set_option maxRecDepth 100000 in
theorem mj_cw145 : mj_cwP 145 := rfl
set_option maxRecDepth 100000 in
theorem mj_cw146 : mj_cwP 146 := rfl
set_option maxRecDepth 100000 in
theorem mj_cw147 : mj_cwP 147 := rfl
set_option maxRecDepth 100000 in
theorem mj_cw148 : mj_cwP 148 := rfl
set_option maxRecDepth 100000 in
theorem mj_cw149 : mj_cwP 149 := rfl
set_option maxRecDepth 100000 in
theorem mj_cw150 : mj_cwP 150 := rfl
set_option maxRecDepth 100000 in
theorem mj_cw151 : mj_cwP 151 := rfl
set_option maxRecDepth 100000 in
theorem mj_cw152 : mj_cwP 152 := rfl
set_option maxRecDepth 100000 in
theorem mj_cw153 : mj_cwP 153 := rfl
set_option maxRecDepth 100000 in
theorem mj_cw154 : mj_cwP 154 := rfl
set_option maxRecDepth 100000 in
theorem mj_cw155 : mj_cwP 155 := rfl
set_option maxRecDepth 100000 in
theorem mj_cw156 : mj_cwP 156 := rfl
set_option maxRecDepth 100000 in
theorem mj_cw157 : mj_cwP 157 := rfl
set_option maxRecDepth 100000 in
theorem mj_cw158 : mj_cwP 158 := rfl
set_option maxRecDepth 100000 in
theorem mj_cw159 : mj_cwP 159 := rfl
set_option maxRecDepth 100000 in
theorem mj_cw160 : mj_cwP 160 := rfl
set_option maxRecDepth 100000 in
theorem mj_cw161 : mj_cwP 161 := rfl
set_option maxRecDepth 100000 in
theorem mj_cw162 : mj_cwP 162 := rfl
set_option maxRecDepth 100000 in
theorem mj_cw163 : mj_cwP 163 := rfl
set_option maxRecDepth 100000 in
theorem mj_cw164 : mj_cwP 164 := rfl
set_option maxRecDepth 100000 in
theorem mj_cw165 : mj_cwP 165 := rfl
set_option maxRecDepth 100000 in
theorem mj_cw166 : mj_cwP 166 := rfl
set_option maxRecDepth 100000 in
theorem mj_cw167 : mj_cwP 167 := rfl
set_option maxRecDepth 100000 in
theorem mj_cw168 : mj_cwP 168 := rfl
set_option maxRecDepth 100000 in
theorem mj_cw169 : mj_cwP 169 := rfl
set_option maxRecDepth 100000 in
theorem mj_cw170 : mj_cwP 170 := rfl
set_option maxRecDepth 100000 in
theorem mj_cw171 : mj_cwP 171 := rfl
set_option maxRecDepth 100000 in
theorem mj_cw172 : mj_cwP 172 := rfl
set_option maxRecDepth 100000 in
theorem mj_cw173 : mj_cwP 173 := rfl
set_option maxRecDepth 100000 in
theorem mj_cw174 : mj_cwP 174 := rfl
set_option maxRecDepth 100000 in
theorem mj_cw175 : mj_cwP 175 := rfl
set_option maxRecDepth 100000 in
theorem mj_cw176 : mj_cwP 176 := rfl
set_option maxRecDepth 100000 in
theorem mj_cw177 : mj_cwP 177 := rfl
set_option maxRecDepth 100000 in
theorem mj_cw178 : mj_cwP 178 := rfl
set_option maxRecDepth 100000 in
theorem mj_cw179 : mj_cwP 179 := rfl
set_option maxRecDepth 100000 in
theorem mj_cw180 : mj_cwP 180 := rfl
set_option maxRecDepth 100000 in
theorem mj_cw181 : mj_cwP 181 := rfl
set_option maxRecDepth 100000 in
theorem mj_cw182 : mj_cwP 182 := rfl
set_option maxRecDepth 100000 in
theorem mj_cw183 : mj_cwP 183 := rfl
set_option maxRecDepth 100000 in
theorem mj_cw184 : mj_cwP 184 := rfl
set_option maxRecDepth 100000 in
theorem mj_cw185 : mj_cwP 185 := rfl
set_option maxRecDepth 100000 in
theorem mj_cw186 : mj_cwP 186 := rfl
theorem mj_cw_ok : ∀ m, m < 187 → mj_cwP m := by
  intro m hm
  · rcases Nat.lt_or_ge m 93 with h1 | h1
    · rcases Nat.lt_or_ge m 46 with h2 | h2
      · rcases Nat.lt_or_ge m 23 with h3 | h3
        · rcases Nat.lt_or_ge m 11 with h4 | h4
          · rcases Nat.lt_or_ge m 5 with h5 | h5
            · rcases Nat.lt_or_ge m 2 with h6 | h6
              · rcases Nat.lt_or_ge m 1 with h7 | h7
                · rw [show m = 0 by omega]; exact mj_cw0
                · rw [show m = 1 by omega]; exact mj_cw1
              · rcases Nat.lt_or_ge m 3 with h7 | h7
                · rw [show m = 2 by omega]; exact mj_cw2
                · rcases Nat.lt_or_ge m 4 with h8 | h8
                  · rw [show m = 3 by omega]; exact mj_cw3
                  · rw [show m = 4 by omega]; exact mj_cw4
            · rcases Nat.lt_or_ge m 8 with h6 | h6
              · rcases Nat.lt_or_ge m 6 with h7 | h7
                · rw [show m = 5 by omega]; exact mj_cw5
                · rcases Nat.lt_or_ge m 7 with h8 | h8
                  · rw [show m = 6 by omega]; exact mj_cw6
                  · rw [show m = 7 by omega]; exact mj_cw7
              · rcases Nat.lt_or_ge m 9 with h7 | h7
                · rw [show m = 8 by omega]; exact mj_cw8
                · rcases Nat.lt_or_ge m 10 with h8 | h8
                  · rw [show m = 9 by omega]; exact mj_cw9
                  · rw [show m = 10 by omega]; exact mj_cw10
          · rcases Nat.lt_or_ge m 17 with h5 | h5
            · rcases Nat.lt_or_ge m 14 with h6 | h6
              · rcases Nat.lt_or_ge m 12 with h7 | h7
                · rw [show m = 11 by omega]; exact mj_cw11
                · rcases Nat.lt_or_ge m 13 with h8 | h8
                  · rw [show m = 12 by omega]; exact mj_cw12
                  · rw [show m = 13 by omega]; exact mj_cw13
              · rcases Nat.lt_or_ge m 15 with h7 | h7
                · rw [show m = 14 by omega]; exact mj_cw14
                · rcases Nat.lt_or_ge m 16 with h8 | h8
                  · rw [show m = 15 by omega]; exact mj_cw15
                  · rw [show m = 16 by omega]; exact mj_cw16
            · rcases Nat.lt_or_ge m 20 with h6 | h6
              · rcases Nat.lt_or_ge m 18 with h7 | h7
                · rw [show m = 17 by omega]; exact mj_cw17
                · rcases Nat.lt_or_ge m 19 with h8 | h8
                  · rw [show m = 18 by omega]; exact mj_cw18
                  · rw [show m = 19 by omega]; exact mj_cw19
              · rcases Nat.lt_or_ge m 21 with h7 | h7
                · rw [show m = 20 by omega]; exact mj_cw20
                · rcases Nat.lt_or_ge m 22 with h8 | h8
                  · rw [show m = 21 by omega]; exact mj_cw21
                  · rw [show m = 22 by omega]; exact mj_cw22
        · rcases Nat.lt_or_ge m 34 with h4 | h4
          · rcases Nat.lt_or_ge m 28 with h5 | h5
            · rcases Nat.lt_or_ge m 25 with h6 | h6
              · rcases Nat.lt_or_ge m 24 with h7 | h7
                · rw [show m = 23 by omega]; exact mj_cw23
                · rw [show m = 24 by omega]; exact mj_cw24
              · rcases Nat.lt_or_ge m 26 with h7 | h7
                · rw [show m = 25 by omega]; exact mj_cw25
                · rcases Nat.lt_or_ge m 27 with h8 | h8
                  · rw [show m = 26 by omega]; exact mj_cw26
                  · rw [show m = 27 by omega]; exact mj_cw27
            · rcases Nat.lt_or_ge m 31 with h6 | h6
              · rcases Nat.lt_or_ge m 29 with h7 | h7
                · rw [show m = 28 by omega]; exact mj_cw28
                · rcases Nat.lt_or_ge m 30 with h8 | h8
                  · rw [show m = 29 by omega]; exact mj_cw29
                  · rw [show m = 30 by omega]; exact mj_cw30
              · rcases Nat.lt_or_ge m 32 with h7 | h7
                · rw [show m = 31 by omega]; exact mj_cw31
                · rcases Nat.lt_or_ge m 33 with h8 | h8
                  · rw [show m = 32 by omega]; exact mj_cw32
                  · rw [show m = 33 by omega]; exact mj_cw33
          · rcases Nat.lt_or_ge m 40 with h5 | h5
            · rcases Nat.lt_or_ge m 37 with h6 | h6
              · rcases Nat.lt_or_ge m 35 with h7 | h7
                · rw [show m = 34 by omega]; exact mj_cw34
                · rcases Nat.lt_or_ge m 36 with h8 | h8
                  · rw [show m = 35 by omega]; exact mj_cw35
                  · rw [show m = 36 by omega]; exact mj_cw36
              · rcases Nat.lt_or_ge m 38 with h7 | h7
                · rw [show m = 37 by omega]; exact mj_cw37
                · rcases Nat.lt_or_ge m 39 with h8 | h8
                  · rw [show m = 38 by omega]; exact mj_cw38
                  · rw [show m = 39 by omega]; exact mj_cw39
            · rcases Nat.lt_or_ge m 43 with h6 | h6
              · rcases Nat.lt_or_ge m 41 with h7 | h7
                · rw [show m = 40 by omega]; exact mj_cw40
                · rcases Nat.lt_or_ge m 42 with h8 | h8
                  · rw [show m = 41 by omega]; exact mj_cw41
                  · rw [show m = 42 by omega]; exact mj_cw42
              · rcases Nat.lt_or_ge m 44 with h7 | h7
                · rw [show m = 43 by omega]; exact mj_cw43
                · rcases Nat.lt_or_ge m 45 with h8 | h8
                  · rw [show m = 44 by omega]; exact mj_cw44
                  · rw [show m = 45 by omega]; exact mj_cw45
      · rcases Nat.lt_or_ge m 69 with h3 | h3
        · rcases Nat.lt_or_ge m 57 with h4 | h4
          · rcases Nat.lt_or_ge m 51 with h5 | h5
            · rcases Nat.lt_or_ge m 48 with h6 | h6
              · rcases Nat.lt_or_ge m 47 with h7 | h7
                · rw [show m = 46 by omega]; exact mj_cw46
                · rw [show m = 47 by omega]; exact mj_cw47
              · rcases Nat.lt_or_ge m 49 with h7 | h7
                · rw [show m = 48 by omega]; exact mj_cw48
                · rcases Nat.lt_or_ge m 50 with h8 | h8
                  · rw [show m = 49 by omega]; exact mj_cw49
                  · rw [show m = 50 by omega]; exact mj_cw50
            · rcases Nat.lt_or_ge m 54 with h6 | h6
              · rcases Nat.lt_or_ge m 52 with h7 | h7
                · rw [show m = 51 by omega]; exact mj_cw51
                · rcases Nat.lt_or_ge m 53 with h8 | h8
                  · rw [show m = 52 by omega]; exact mj_cw52
                  · rw [show m = 53 by omega]; exact mj_cw53
              · rcases Nat.lt_or_ge m 55 with h7 | h7
                · rw [show m = 54 by omega]; exact mj_cw54
                · rcases Nat.lt_or_ge m 56 with h8 | h8
                  · rw [show m = 55 by omega]; exact mj_cw55
                  · rw [show m = 56 by omega]; exact mj_cw56
          · rcases Nat.lt_or_ge m 63 with h5 | h5
            · rcases Nat.lt_or_ge m 60 with h6 | h6
              · rcases Nat.lt_or_ge m 58 with h7 | h7
                · rw [show m = 57 by omega]; exact mj_cw57
                · rcases Nat.lt_or_ge m 59 with h8 | h8
                  · rw [show m = 58 by omega]; exact mj_cw58
                  · rw [show m = 59 by omega]; exact mj_cw59
              · rcases Nat.lt_or_ge m 61 with h7 | h7
                · rw [show m = 60 by omega]; exact mj_cw60
                · rcases Nat.lt_or_ge m 62 with h8 | h8
                  · rw [show m = 61 by omega]; exact mj_cw61
                  · rw [show m = 62 by omega]; exact mj_cw62
            · rcases Nat.lt_or_ge m 66 with h6 | h6
              · rcases Nat.lt_or_ge m 64 with h7 | h7
                · rw [show m = 63 by omega]; exact mj_cw63
                · rcases Nat.lt_or_ge m 65 with h8 | h8
                  · rw [show m = 64 by omega]; exact mj_cw64
                  · rw [show m = 65 by omega]; exact mj_cw65
              · rcases Nat.lt_or_ge m 67 with h7 | h7
                · rw [show m = 66 by omega]; exact mj_cw66
                · rcases Nat.lt_or_ge m 68 with h8 | h8
                  · rw [show m = 67 by omega]; exact mj_cw67
                  · rw [show m = 68 by omega]; exact mj_cw68
        · rcases Nat.lt_or_ge m 81 with h4 | h4
          · rcases Nat.lt_or_ge m 75 with h5 | h5
            · rcases Nat.lt_or_ge m 72 with h6 | h6
              · rcases Nat.lt_or_ge m 70 with h7 | h7
                · rw [show m = 69 by omega]; exact mj_cw69
                · rcases Nat.lt_or_ge m 71 with h8 | h8
                  · rw [show m = 70 by omega]; exact mj_cw70
                  · rw [show m = 71 by omega]; exact mj_cw71
              · rcases Nat.lt_or_ge m 73 with h7 | h7
                · rw [show m = 72 by omega]; exact mj_cw72
                · rcases Nat.lt_or_ge m 74 with h8 | h8
                  · rw [show m = 73 by omega]; exact mj_cw73
                  · rw [show m = 74 by omega]; exact mj_cw74
            · rcases Nat.lt_or_ge m 78 with h6 | h6
              · rcases Nat.lt_or_ge m 76 with h7 | h7
                · rw [show m = 75 by omega]; exact mj_cw75
                · rcases Nat.lt_or_ge m 77 with h8 | h8
                  · rw [show m = 76 by omega]; exact mj_cw76
                  · rw [show m = 77 by omega]; exact mj_cw77
              · rcases Nat.lt_or_ge m 79 with h7 | h7
                · rw [show m = 78 by omega]; exact mj_cw78
                · rcases Nat.lt_or_ge m 80 with h8 | h8
                  · rw [show m = 79 by omega]; exact mj_cw79
                  · rw [show m = 80 by omega]; exact mj_cw80
          · rcases Nat.lt_or_ge m 87 with h5 | h5
            · rcases Nat.lt_or_ge m 84 with h6 | h6
              · rcases Nat.lt_or_ge m 82 with h7 | h7
                · rw [show m = 81 by omega]; exact mj_cw81
                · rcases Nat.lt_or_ge m 83 with h8 | h8
                  · rw [show m = 82 by omega]; exact mj_cw82
                  · rw [show m = 83 by omega]; exact mj_cw83
              · rcases Nat.lt_or_ge m 85 with h7 | h7
                · rw [show m = 84 by omega]; exact mj_cw84
                · rcases Nat.lt_or_ge m 86 with h8 | h8
                  · rw [show m = 85 by omega]; exact mj_cw85
                  · rw [show m = 86 by omega]; exact mj_cw86
            · rcases Nat.lt_or_ge m 90 with h6 | h6
              · rcases Nat.lt_or_ge m 88 with h7 | h7
                · rw [show m = 87 by omega]; exact mj_cw87
                · rcases Nat.lt_or_ge m 89 with h8 | h8
                  · rw [show m = 88 by omega]; exact mj_cw88
                  · rw [show m = 89 by omega]; exact mj_cw89
              · rcases Nat.lt_or_ge m 91 with h7 | h7
                · rw [show m = 90 by omega]; exact mj_cw90
                · rcases Nat.lt_or_ge m 92 with h8 | h8
                  · rw [show m = 91 by omega]; exact mj_cw91
                  · rw [show m = 92 by omega]; exact mj_cw92
    · rcases Nat.lt_or_ge m 140 with h2 | h2
      · rcases Nat.lt_or_ge m 116 with h3 | h3
        · rcases Nat.lt_or_ge m 104 with h4 | h4
          · rcases Nat.lt_or_ge m 98 with h5 | h5
            · rcases Nat.lt_or_ge m 95 with h6 | h6
              · rcases Nat.lt_or_ge m 94 with h7 | h7
                · rw [show m = 93 by omega]; exact mj_cw93
                · rw [show m = 94 by omega]; exact mj_cw94
              · rcases Nat.lt_or_ge m 96 with h7 | h7
                · rw [show m = 95 by omega]; exact mj_cw95
                · rcases Nat.lt_or_ge m 97 with h8 | h8
                  · rw [show m = 96 by omega]; exact mj_cw96
                  · rw [show m = 97 by omega]; exact mj_cw97
            · rcases Nat.lt_or_ge m 101 with h6 | h6
              · rcases Nat.lt_or_ge m 99 with h7 | h7
                · rw [show m = 98 by omega]; exact mj_cw98
                · rcases Nat.lt_or_ge m 100 with h8 | h8
                  · rw [show m = 99 by omega]; exact mj_cw99
                  · rw [show m = 100 by omega]; exact mj_cw100
              · rcases Nat.lt_or_ge m 102 with h7 | h7
                · rw [show m = 101 by omega]; exact mj_cw101
                · rcases Nat.lt_or_ge m 103 with h8 | h8
                  · rw [show m = 102 by omega]; exact mj_cw102
                  · rw [show m = 103 by omega]; exact mj_cw103
          · rcases Nat.lt_or_ge m 110 with h5 | h5
            · rcases Nat.lt_or_ge m 107 with h6 | h6
              · rcases Nat.lt_or_ge m 105 with h7 | h7
                · rw [show m = 104 by omega]; exact mj_cw104
                · rcases Nat.lt_or_ge m 106 with h8 | h8
                  · rw [show m = 105 by omega]; exact mj_cw105
                  · rw [show m = 106 by omega]; exact mj_cw106
              · rcases Nat.lt_or_ge m 108 with h7 | h7
                · rw [show m = 107 by omega]; exact mj_cw107
                · rcases Nat.lt_or_ge m 109 with h8 | h8
                  · rw [show m = 108 by omega]; exact mj_cw108
                  · rw [show m = 109 by omega]; exact mj_cw109
            · rcases Nat.lt_or_ge m 113 with h6 | h6
              · rcases Nat.lt_or_ge m 111 with h7 | h7
                · rw [show m = 110 by omega]; exact mj_cw110
                · rcases Nat.lt_or_ge m 112 with h8 | h8
                  · rw [show m = 111 by omega]; exact mj_cw111
                  · rw [show m = 112 by omega]; exact mj_cw112
              · rcases Nat.lt_or_ge m 114 with h7 | h7
                · rw [show m = 113 by omega]; exact mj_cw113
                · rcases Nat.lt_or_ge m 115 with h8 | h8
                  · rw [show m = 114 by omega]; exact mj_cw114
                  · rw [show m = 115 by omega]; exact mj_cw115
        · rcases Nat.lt_or_ge m 128 with h4 | h4
          · rcases Nat.lt_or_ge m 122 with h5 | h5
            · rcases Nat.lt_or_ge m 119 with h6 | h6
              · rcases Nat.lt_or_ge m 117 with h7 | h7
                · rw [show m = 116 by omega]; exact mj_cw116
                · rcases Nat.lt_or_ge m 118 with h8 | h8
                  · rw [show m = 117 by omega]; exact mj_cw117
                  · rw [show m = 118 by omega]; exact mj_cw118
              · rcases Nat.lt_or_ge m 120 with h7 | h7
                · rw [show m = 119 by omega]; exact mj_cw119
                · rcases Nat.lt_or_ge m 121 with h8 | h8
                  · rw [show m = 120 by omega]; exact mj_cw120
                  · rw [show m = 121 by omega]; exact mj_cw121
            · rcases Nat.lt_or_ge m 125 with h6 | h6
              · rcases Nat.lt_or_ge m 123 with h7 | h7
                · rw [show m = 122 by omega]; exact mj_cw122
                · rcases Nat.lt_or_ge m 124 with h8 | h8
                  · rw [show m = 123 by omega]; exact mj_cw123
                  · rw [show m = 124 by omega]; exact mj_cw124
              · rcases Nat.lt_or_ge m 126 with h7 | h7
                · rw [show m = 125 by omega]; exact mj_cw125
                · rcases Nat.lt_or_ge m 127 with h8 | h8
                  · rw [show m = 126 by omega]; exact mj_cw126
                  · rw [show m = 127 by omega]; exact mj_cw127
          · rcases Nat.lt_or_ge m 134 with h5 | h5
            · rcases Nat.lt_or_ge m 131 with h6 | h6
              · rcases Nat.lt_or_ge m 129 with h7 | h7
                · rw [show m = 128 by omega]; exact mj_cw128
                · rcases Nat.lt_or_ge m 130 with h8 | h8
                  · rw [show m = 129 by omega]; exact mj_cw129
                  · rw [show m = 130 by omega]; exact mj_cw130
              · rcases Nat.lt_or_ge m 132 with h7 | h7
                · rw [show m = 131 by omega]; exact mj_cw131
                · rcases Nat.lt_or_ge m 133 with h8 | h8
                  · rw [show m = 132 by omega]; exact mj_cw132
                  · rw [show m = 133 by omega]; exact mj_cw133
            · rcases Nat.lt_or_ge m 137 with h6 | h6
              · rcases Nat.lt_or_ge m 135 with h7 | h7
                · rw [show m = 134 by omega]; exact mj_cw134
                · rcases Nat.lt_or_ge m 136 with h8 | h8
                  · rw [show m = 135 by omega]; exact mj_cw135
                  · rw [show m = 136 by omega]; exact mj_cw136
              · rcases Nat.lt_or_ge m 138 with h7 | h7
                · rw [show m = 137 by omega]; exact mj_cw137
                · rcases Nat.lt_or_ge m 139 with h8 | h8
                  · rw [show m = 138 by omega]; exact mj_cw138
                  · rw [show m = 139 by omega]; exact mj_cw139
      · rcases Nat.lt_or_ge m 163 with h3 | h3
        · rcases Nat.lt_or_ge m 151 with h4 | h4
          · rcases Nat.lt_or_ge m 145 with h5 | h5
            · rcases Nat.lt_or_ge m 142 with h6 | h6
              · rcases Nat.lt_or_ge m 141 with h7 | h7
                · rw [show m = 140 by omega]; exact mj_cw140
                · rw [show m = 141 by omega]; exact mj_cw141
              · rcases Nat.lt_or_ge m 143 with h7 | h7
                · rw [show m = 142 by omega]; exact mj_cw142
                · rcases Nat.lt_or_ge m 144 with h8 | h8
                  · rw [show m = 143 by omega]; exact mj_cw143
                  · rw [show m = 144 by omega]; exact mj_cw144
            · rcases Nat.lt_or_ge m 148 with h6 | h6
              · rcases Nat.lt_or_ge m 146 with h7 | h7
                · rw [show m = 145 by omega]; exact mj_cw145
                · rcases Nat.lt_or_ge m 147 with h8 | h8
                  · rw [show m = 146 by omega]; exact mj_cw146
                  · rw [show m = 147 by omega]; exact mj_cw147
              · rcases Nat.lt_or_ge m 149 with h7 | h7
                · rw [show m = 148 by omega]; exact mj_cw148
                · rcases Nat.lt_or_ge m 150 with h8 | h8
                  · rw [show m = 149 by omega]; exact mj_cw149
                  · rw [show m = 150 by omega]; exact mj_cw150
          · rcases Nat.lt_or_ge m 157 with h5 | h5
            · rcases Nat.lt_or_ge m 154 with h6 | h6
              · rcases Nat.lt_or_ge m 152 with h7 | h7
                · rw [show m = 151 by omega]; exact mj_cw151
                · rcases Nat.lt_or_ge m 153 with h8 | h8
                  · rw [show m = 152 by omega]; exact mj_cw152
                  · rw [show m = 153 by omega]; exact mj_cw153
              · rcases Nat.lt_or_ge m 155 with h7 | h7
                · rw [show m = 154 by omega]; exact mj_cw154
                · rcases Nat.lt_or_ge m 156 with h8 | h8
                  · rw [show m = 155 by omega]; exact mj_cw155
                  · rw [show m = 156 by omega]; exact mj_cw156
            · rcases Nat.lt_or_ge m 160 with h6 | h6
              · rcases Nat.lt_or_ge m 158 with h7 | h7
                · rw [show m = 157 by omega]; exact mj_cw157
                · rcases Nat.lt_or_ge m 159 with h8 | h8
                  · rw [show m = 158 by omega]; exact mj_cw158
                  · rw [show m = 159 by omega]; exact mj_cw159
              · rcases Nat.lt_or_ge m 161 with h7 | h7
                · rw [show m = 160 by omega]; exact mj_cw160
                · rcases Nat.lt_or_ge m 162 with h8 | h8
                  · rw [show m = 161 by omega]; exact mj_cw161
                  · rw [show m = 162 by omega]; exact mj_cw162
        · rcases Nat.lt_or_ge m 175 with h4 | h4
          · rcases Nat.lt_or_ge m 169 with h5 | h5
            · rcases Nat.lt_or_ge m 166 with h6 | h6
              · rcases Nat.lt_or_ge m 164 with h7 | h7
                · rw [show m = 163 by omega]; exact mj_cw163
                · rcases Nat.lt_or_ge m 165 with h8 | h8
                  · rw [show m = 164 by omega]; exact mj_cw164
                  · rw [show m = 165 by omega]; exact mj_cw165
              · rcases Nat.lt_or_ge m 167 with h7 | h7
                · rw [show m = 166 by omega]; exact mj_cw166
                · rcases Nat.lt_or_ge m 168 with h8 | h8
                  · rw [show m = 167 by omega]; exact mj_cw167
                  · rw [show m = 168 by omega]; exact mj_cw168
            · rcases Nat.lt_or_ge m 172 with h6 | h6
              · rcases Nat.lt_or_ge m 170 with h7 | h7
                · rw [show m = 169 by omega]; exact mj_cw169
                · rcases Nat.lt_or_ge m 171 with h8 | h8
                  · rw [show m = 170 by omega]; exact mj_cw170
                  · rw [show m = 171 by omega]; exact mj_cw171
              · rcases Nat.lt_or_ge m 173 with h7 | h7
                · rw [show m = 172 by omega]; exact mj_cw172
                · rcases Nat.lt_or_ge m 174 with h8 | h8
                  · rw [show m = 173 by omega]; exact mj_cw173
                  · rw [show m = 174 by omega]; exact mj_cw174
          · rcases Nat.lt_or_ge m 181 with h5 | h5
            · rcases Nat.lt_or_ge m 178 with h6 | h6
              · rcases Nat.lt_or_ge m 176 with h7 | h7
                · rw [show m = 175 by omega]; exact mj_cw175
                · rcases Nat.lt_or_ge m 177 with h8 | h8
                  · rw [show m = 176 by omega]; exact mj_cw176
                  · rw [show m = 177 by omega]; exact mj_cw177
              · rcases Nat.lt_or_ge m 179 with h7 | h7
                · rw [show m = 178 by omega]; exact mj_cw178
                · rcases Nat.lt_or_ge m 180 with h8 | h8
                  · rw [show m = 179 by omega]; exact mj_cw179
                  · rw [show m = 180 by omega]; exact mj_cw180
            · rcases Nat.lt_or_ge m 184 with h6 | h6
              · rcases Nat.lt_or_ge m 182 with h7 | h7
                · rw [show m = 181 by omega]; exact mj_cw181
                · rcases Nat.lt_or_ge m 183 with h8 | h8
                  · rw [show m = 182 by omega]; exact mj_cw182
                  · rw [show m = 183 by omega]; exact mj_cw183
              · rcases Nat.lt_or_ge m 185 with h7 | h7
                · rw [show m = 184 by omega]; exact mj_cw184
                · rcases Nat.lt_or_ge m 186 with h8 | h8
                  · rw [show m = 185 by omega]; exact mj_cw185
                  · rw [show m = 186 by omega]; exact mj_cw186
-- the mini instruction that an instruction is
def mj_fnd {α : Type} (f : α → Nat × Nat) (o i : Nat) : List α → Option α
  | [] => none
  | x :: r => if (f x).1 = o ∧ (f x).2 = i then some x else mj_fnd f o i r
theorem mj_fnd_ok {α : Type} {f : α → Nat × Nat} {o i : Nat} {x : α} : ∀ {l : List α}, mj_fnd f o i l = some x → x ∈ l ∧ (f x).1 = o ∧ (f x).2 = i
  | [], h => by cases h
  | y :: r, h => by
    unfold mj_fnd at h
    split at h
    · cases h; exact ⟨List.mem_cons_self, ‹_ ∧ _›⟩
    · obtain ⟨h1, h2⟩ := mj_fnd_ok h
      exact ⟨List.mem_cons_of_mem _ h1, h2⟩
def mj_cc : ClassFile.Cond → Nat
  | .eq => 0
  | .ne => 1
  | .lt => 2
  | .ge => 3
  | .gt => 4
  | .le => 5
def mj_tg (pc : Nat) (off : Int) : Nat := ((pc : Int) + off).toNat
def mj_fm (m i : Nat) : Option (Nat × Nat × Nat × Nat × Nat) := mj_fnd (fun x => (x.1, x.2.1)) (mj_ci m) i mj_mL
def mj_tsw (pc : Nat) : Int → List Int → List (Int × Nat)
  | _, [] => []
  | lo, o :: r => (lo, mj_tg pc o) :: mj_tsw pc (lo + 1) r
def mj_tr (m pc : Nat) (i : Instr) : Option mj_MI := match i with
  | .iconst n => if -128 ≤ n ∧ n ≤ 127 then some (0, n, 0, 0, []) else none
  | .bipush n => if -128 ≤ n ∧ n ≤ 127 then some (0, n, 0, 0, []) else none
  | .sipush n => if -32768 ≤ n ∧ n ≤ 32767 then some (0, n, 0, 0, []) else none
  | .iload k => some (1, 0, k, 0, [])
  | .iload_n k => some (1, 0, k, 0, [])
  | .aload k => some (2, 0, k, 0, [])
  | .aload_n k => some (2, 0, k, 0, [])
  | .lload k => some (3, 0, k, 0, [])
  | .lload_n k => some (3, 0, k, 0, [])
  | .istore k => some (4, 0, k, 0, [])
  | .istore_n k => some (4, 0, k, 0, [])
  | .astore k => some (5, 0, k, 0, [])
  | .astore_n k => some (5, 0, k, 0, [])
  | .lstore k => some (6, 0, k, 0, [])
  | .lstore_n k => some (6, 0, k, 0, [])
  | .iinc k n => some (7, n, k, 0, [])
  | .iadd => some (8, 0, 0, 0, [])
  | .isub => some (9, 0, 0, 0, [])
  | .imul => some (10, 0, 0, 0, [])
  | .idiv => some (11, 0, 0, 0, [])
  | .irem => some (12, 0, 0, 0, [])
  | .ineg => some (13, 0, 0, 0, [])
  | .iand => some (14, 0, 0, 0, [])
  | .getfield i => (mj_fnd (fun x => (x.1, x.2.1)) (mj_ci m) i mj_fL).map fun x => (15, 0, x.2.2.1, x.2.2.2.1, [])
  | .putfield i => (mj_fnd (fun x => (x.1, x.2.1)) (mj_ci m) i mj_fL).bind fun x => if (mj_TT x.2.2.1 x.2.2.2.1).2.2.2 = true then (if (mj_yy m).name = "<init>" ∧ x.2.2.1 = mj_ci m ∧ (mj_tT x.2.2.1 x.2.2.2.1).isReference = true then some (62, 0, x.2.2.1, x.2.2.2.1, []) else none) else if mj_tT x.2.2.1 x.2.2.2.1 = .int then some (16, 0, x.2.2.1, x.2.2.2.1, []) else if mj_tT x.2.2.1 x.2.2.2.1 = .long then some (16, 1, x.2.2.1, x.2.2.2.1, []) else if mj_tT x.2.2.1 x.2.2.2.1 = .boolean then some (16, 2, x.2.2.1, x.2.2.2.1, []) else none
  | .iaload => some (17, 0, 0, 0, [])
  | .iastore => some (18, 0, 0, 0, [])
  | .laload => some (19, 0, 0, 0, [])
  | .lastore => some (20, 0, 0, 0, [])
  | .aaload => some (21, 0, 0, 0, [])
  | .aastore => some (22, 0, 0, 0, [])
  | .arraylength => some (23, 0, 0, 0, [])
  | .ifCond c off => if 0 ≤ (pc : Int) + off then some (24, 0, mj_tg pc off, mj_cc c, []) else none
  | .if_icmp c off => if 0 ≤ (pc : Int) + off then some (25, 0, mj_tg pc off, mj_cc c, []) else none
  | .goto off => if 0 ≤ (pc : Int) + off then some (26, 0, mj_tg pc off, 0, []) else none
  | .tableswitch d lo hi offs => if 0 ≤ (pc : Int) + d ∧ hi - lo + 1 = (offs.toList.length : Int) ∧ (∀ o ∈ offs.toList, 0 ≤ (pc : Int) + o) then some (27, 0, mj_tg pc d, 0, mj_tsw pc lo offs.toList) else none
  | .lookupswitch d ps => if 0 ≤ (pc : Int) + d ∧ (∀ o ∈ ps.toList, 0 ≤ (pc : Int) + o.2) ∧ (ps.toList.zip (ps.toList.drop 1)).all (fun (a, next) => a.1 < next.1) = true then some (27, 0, mj_tg pc d, 0, ps.toList.map fun o => (o.1, mj_tg pc o.2)) else none
  | .return_ => match mj_rt m with
    | none => some (28, 0, 0, 0, [])
    | _ => none
  | .ireturn => match mj_rt m with
    | some .int => some (29, 0, 0, 0, [])
    | some .boolean => some (29, 0, 0, 1, [])
    | _ => none
  | .lreturn => match mj_rt m with
    | some .long => some (30, 0, 0, 0, [])
    | _ => none
  | .areturn => match mj_rt m with
    | some (.object _) => some (31, 0, 0, 0, [])
    | some (.array _) => some (31, 0, 0, 0, [])
    | _ => none
  | .invokevirtual i => (mj_fm m i).bind fun x => if x.2.2.1 < 187 ∧ x.2.2.2.1 = 0 ∧ mj_st x.2.2.1 = false ∧ (mj_yy x.2.2.1).name ≠ "<init>" then some (32, 0, x.2.2.1, 0, []) else none
  | .invokestatic i => (mj_fm m i).bind fun x => if x.2.2.1 < 187 then (if mj_st x.2.2.1 = true then some (32, 0, x.2.2.1, 1, []) else none) else if x.2.2.2.1 = 0 then (if x.2.2.1 = 1000 then some (33, 0, 0, 0, []) else if x.2.2.1 = 1001 then some (34, 0, 0, 0, []) else if x.2.2.1 = 1002 then some (35, 0, 0, 0, []) else none) else none
  | .invokespecial i => (mj_fm m i).bind fun x => if x.2.2.1 < 187 then (if mj_st x.2.2.1 = false ∧ (mj_yy x.2.2.1).name = "<init>" ∧ mj_rt x.2.2.1 = none then some (32, 0, x.2.2.1, 2, []) else none) else if x.2.2.2.1 = 0 ∧ x.2.2.1 = 1003 then some (60, 0, 0, 0, []) else none
  | .new i => (mj_fnd (fun x => (x.1, x.2.1)) (mj_ci m) i mj_cL).bind fun x => if mj_ow.idxOf x.2.2.1 < 10 then some (36, 0, mj_ow.idxOf x.2.2.1, 0, []) else none
  | .newarray .int => some (37, 0, 0, 0, [])
  | .newarray .long => some (38, 0, 0, 0, [])
  | .anewarray i => (mj_fnd (fun x => (x.1, x.2.1)) (mj_ci m) i mj_cL).bind fun x => if x.2.2.1 = "PermitBank$Tape" then some (39, 0, 0, 0, []) else none
  | .multianewarray i 2 => (mj_fnd (fun x => (x.1, x.2.1)) (mj_ci m) i mj_cL).bind fun x => if x.2.2.1 = "[[I" then some (40, 0, 0, 0, []) else none
  | .dup => some (41, 0, 0, 0, [])
  | .dup2 => some (42, 0, 0, 0, [])
  | .dup_x1 => some (43, 0, 0, 0, [])
  | .pop => some (44, 0, 0, 0, [])
  | .i2l => some (45, 0, 0, 0, [])
  | .l2i => some (46, 0, 0, 0, [])
  | .i2b => some (47, 0, 0, 0, [])
  | .i2s => some (48, 0, 0, 0, [])
  | .lconst n => some (49, ((n : Nat) : Int), 0, 0, [])
  | .ldc2_w i => (mj_fnd (fun x => (x.1, x.2.1)) (mj_ci m) i mj_lL).map fun x => (49, x.2.2.1, 0, 0, [])
  | .ladd => some (50, 0, 0, 0, [])
  | .lsub => some (51, 0, 0, 0, [])
  | .lmul => some (52, 0, 0, 0, [])
  | .ldiv => some (53, 0, 0, 0, [])
  | .lrem => some (54, 0, 0, 0, [])
  | .land => some (55, 0, 0, 0, [])
  | .lor => some (56, 0, 0, 0, [])
  | .lshl => some (57, 0, 0, 0, [])
  | .lcmp => some (58, 0, 0, 0, [])
  | .getstatic i => (mj_fnd (fun x => (x.1, x.2.1)) (mj_ci m) i mj_sL).map fun x => (59, 0, x.2.2.1, 0, [])
  | _ => none
def mj_eqL : List (Int × Nat) → List (Int × Nat) → Bool
  | [], [] => true
  | (a, b) :: r, (c, d) :: s => decide (a = c) && (decide (b = d) && mj_eqL r s)
  | _, _ => false
theorem mj_eqL_ok : ∀ {r s : List (Int × Nat)}, mj_eqL r s = true → r = s
  | [], [], _ => rfl
  | (a, b) :: r, (c, d) :: s, h => by
    simp only [mj_eqL, Bool.and_eq_true, decide_eq_true_eq] at h
    rw [h.1, h.2.1, mj_eqL_ok h.2.2]
  | [], _ :: _, h => by simp [mj_eqL] at h
  | _ :: _, [], h => by simp [mj_eqL] at h
def mj_eqM (a b : mj_MI) : Bool := decide (a.1 = b.1) && (decide (a.2.1 = b.2.1) && (decide (a.2.2.1 = b.2.2.1) && (decide (a.2.2.2.1 = b.2.2.2.1) && mj_eqL a.2.2.2.2 b.2.2.2.2)))
theorem mj_eqM_ok {a b : mj_MI} (h : mj_eqM a b = true) : a = b := by
  obtain ⟨a1, a2, a3, a4, a5⟩ := a
  obtain ⟨b1, b2, b3, b4, b5⟩ := b
  simp only [mj_eqM, Bool.and_eq_true, decide_eq_true_eq] at h
  obtain ⟨h1, h2, h3, h4, h5⟩ := h
  rw [h1, h2, h3, h4, mj_eqL_ok h5]
def mj_il : Instr → Nat
  | .iload _ => 2
  | .aload _ => 2
  | .lload _ => 2
  | .istore _ => 2
  | .astore _ => 2
  | .lstore _ => 2
  | .bipush _ => 2
  | .newarray _ => 2
  | .sipush _ => 3
  | .iinc _ _ => 3
  | .getfield _ => 3
  | .putfield _ => 3
  | .getstatic _ => 3
  | .ifCond _ _ => 3
  | .if_icmp _ _ => 3
  | .goto _ => 3
  | .invokevirtual _ => 3
  | .invokestatic _ => 3
  | .invokespecial _ => 3
  | .new _ => 3
  | .anewarray _ => 3
  | .ldc2_w _ => 3
  | .multianewarray _ _ => 4
  | .tableswitch _ _ _ _ => 0
  | .lookupswitch _ _ => 0
  | _ => 1
def mj_chk (m : Nat) (x : Nat × mj_MI × Nat) : Bool := match decode (mj_bb m) x.1 with
  | .ok (i, len) => (match mj_tr m x.1 i with
    | some y => mj_eqM y x.2.1
    | none => false) && (decide (x.2.2 = x.1 + len) && decide (mj_il i = 0 ∨ len = mj_il i))
  | .error _ => false
def mj_ok (m : Nat) : Bool := (mj_cods.getD m []).all (mj_chk m)
theorem mj_chk_ok {m : Nat} {x : Nat × mj_MI × Nat} (h : mj_chk m x = true) : ∃ i len, decode (mj_bb m) x.1 = .ok (i, len) ∧ mj_tr m x.1 i = some x.2.1 ∧ x.2.2 = x.1 + len ∧ (mj_il i = 0 ∨ len = mj_il i) := by
  unfold mj_chk at h
  split at h
  · rename_i i len hd
    simp only [Bool.and_eq_true, decide_eq_true_eq] at h
    refine ⟨i, len, hd, ?_, h.2⟩
    have h1 := h.1
    split at h1
    · rename_i y hy
      rw [hy, mj_eqM_ok h1]
    · cases h1
  · cases h
theorem mj_look_mem {l : List (Nat × mj_MI × Nat)} {pc : Nat} {x : mj_MI × Nat} : mj_look l pc = some x → (pc, x) ∈ l := by
  induction l with
  | nil => intro h; cases h
  | cons y r ih =>
    obtain ⟨p, z⟩ := y
    intro h
    unfold mj_look at h
    split at h
    · rename_i e
      cases h
      rw [e]
      exact List.mem_cons_self
    · exact List.mem_cons_of_mem _ (ih h)
