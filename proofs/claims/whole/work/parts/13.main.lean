-- calls: what the tables say of them; then the machine does what the mini machine does
def mj_eP : List Nat := [0, 484, 502, 546, 498, 0, 0, 494, 514, 6, 7, 0, 476, 573, 597, 565, 606, 631, 635, 643, 710, 5, 8, 9, 10, 11, 12, 13, 14, 15, 16, 18, 17, 0, 702, 698, 769, 0, 428, 463, 437, 453, 0, 2, 3, 1, 0, 394, 406, 372, 390, 402, 418, 735, 577, 569, 655, 674, 19, 0, 0, 0, 764, 0, 786, 755, 806, 794, 0, 368, 386, 398, 414, 424, 433, 467, 581, 586, 593, 601, 614, 618, 623, 627, 639, 651, 664, 685, 690, 706, 715, 722, 726, 731, 740, 744, 748, 760, 774, 778, 782, 790, 798, 802, 0, 0, 4, 20, 21, 22, 0, 0, 0, 41, 42, 0, 29, 35, 28, 27, 26, 25, 30, 24, 31, 32, 33, 34, 36, 40, 39, 38, 37, 23, 982, 989, 43, 997, 1009, 1013, 48, 45, 46, 47, 44, 49, 1017, 50, 1048, 1056, 1060, 1064, 51, 52, 1068, 1080, 1085, 1089, 1093, 53, 1097, 1105, 54, 55, 1109, 1126, 56, 57, 1131, 1139, 0, 0, 1147, 1158, 1162, 1166, 1170, 1174, 0, 1178, 1185, 1189, 1193, 1197, 1201, 1205, 1209]
def mj_seP (m : Nat) : Prop := mj_st m = false → (mj_yy m).name ≠ "<init>" → lw_tbl[mj_eP.getD m 0]? = some (Cond.selects (mj_own (mj_ci m)) (mj_yy m) (mj_yy m))
theorem mj_seO0 : ∀ k, k < 24 → mj_seP (0 + k) := by unfold mj_seP; decide +kernel
theorem mj_seO1 : ∀ k, k < 24 → mj_seP (24 + k) := by unfold mj_seP; decide +kernel
theorem mj_seO2 : ∀ k, k < 24 → mj_seP (48 + k) := by unfold mj_seP; decide +kernel
theorem mj_seO3 : ∀ k, k < 24 → mj_seP (72 + k) := by unfold mj_seP; decide +kernel
theorem mj_seO4 : ∀ k, k < 24 → mj_seP (96 + k) := by unfold mj_seP; decide +kernel
theorem mj_seO5 : ∀ k, k < 24 → mj_seP (120 + k) := by unfold mj_seP; decide +kernel
theorem mj_seO6 : ∀ k, k < 24 → mj_seP (144 + k) := by unfold mj_seP; decide +kernel
theorem mj_seO7 : ∀ k, k < 19 → mj_seP (168 + k) := by unfold mj_seP; decide +kernel
theorem mj_se_ok : ∀ m, m < 187 → mj_seP m := by
  intro m hm
  rcases Nat.lt_or_ge m 24 with h0 | h0
  · have := mj_seO0 (m - 0) (by omega)
    rwa [show 0 + (m - 0) = m by omega] at this
  rcases Nat.lt_or_ge m 48 with h1 | h1
  · have := mj_seO1 (m - 24) (by omega)
    rwa [show 24 + (m - 24) = m by omega] at this
  rcases Nat.lt_or_ge m 72 with h2 | h2
  · have := mj_seO2 (m - 48) (by omega)
    rwa [show 48 + (m - 48) = m by omega] at this
  rcases Nat.lt_or_ge m 96 with h3 | h3
  · have := mj_seO3 (m - 72) (by omega)
    rwa [show 72 + (m - 72) = m by omega] at this
  rcases Nat.lt_or_ge m 120 with h4 | h4
  · have := mj_seO4 (m - 96) (by omega)
    rwa [show 96 + (m - 96) = m by omega] at this
  rcases Nat.lt_or_ge m 144 with h5 | h5
  · have := mj_seO5 (m - 120) (by omega)
    rwa [show 120 + (m - 120) = m by omega] at this
  rcases Nat.lt_or_ge m 168 with h6 | h6
  · have := mj_seO6 (m - 144) (by omega)
    rwa [show 144 + (m - 144) = m by omega] at this
  have := mj_seO7 (m - 168) (by omega)
  rwa [show 168 + (m - 168) = m by omega] at this
section Main
variable {K : mj_C} {z0 : Nat} {cst : Nat → Nat} {dD : va_G} {dA : Nat → ClassId} {y : Nat} {p : Program} {l : Launch} {e : Env} {R : Room} {s : State} {m : MethodId} {args : Array Value} {below : List Frame} {meth : Method} {c : Code} {Q : State → Prop} {n0 s0 : Nat}
variable {Z : mj_Z} {L : mj_L} {S : List mj_V} {H : Heap} {locs : List Loc} {ls : Array Slot} {pc : Nat} {a : Nat × mj_L × List mj_V × mj_Z}
theorem mj_kind_br {c0 t nx : Nat} {x y : Int} {act : mj_A} (h : mj_br c0 t nx x y L S Z = some act) : ∃ a, act = .inl a := by
  unfold mj_br mj_go at h
  split at h
  all_goals first | (split at h <;> (cases h; exact ⟨_, rfl⟩)) | cases h
theorem mj_kind_sw {x : Int} {d : Nat} {act : mj_A} : ∀ {tb : List (Int × Nat)}, mj_sw x d L S Z tb = some act → ∃ a, act = .inl a
  | [], h => by unfold mj_sw mj_go at h; cases h; exact ⟨_, rfl⟩
  | (k, t) :: r, h => by
    unfold mj_sw mj_go at h
    split at h
    · cases h; exact ⟨_, rfl⟩
    · exact mj_kind_sw h
set_option maxHeartbeats 4000000 in
theorem mj_kind {nx : Nat} {mi : mj_MI} {act : mj_A} (h : mj_step K nx mi L S Z = some act) : (∃ a, act = .inl a) ∨ (28 ≤ mi.1 ∧ mi.1 ≤ 32) := by
  obtain ⟨op, n, a, b, tb⟩ := mi
  unfold mj_step at h
  simp only at h
  split at h
  all_goals first
    | exact Or.inr ⟨Nat.le_of_ble_eq_true rfl, Nat.le_of_ble_eq_true rfl⟩
    | (cases h; done)
    | (left; unfold mj_if at h; split at h; exact mj_kind_br h; cases h)
    | (left; unfold mj_ic at h; split at h; exact mj_kind_br h; cases h)
    | (left; unfold mj_swi at h; split at h; exact mj_kind_sw h; cases h)
    | (left; simp only [mj_go, mj_o1, mj_o2, mj_o3, mj_o4, mj_o5, mj_o6, mj_o7, mj_bin, mj_dv, mj_neg, mj_and, mj_get, mj_put, mj_putF, mj_iald, mj_iast, mj_lald, mj_last, mj_aald, mj_aast, mj_alen, mj_mx, mj_acp, mj_new, mj_nwa, mj_nwr, mj_nwm, mj_dup, mj_dup2, mj_dupx, mj_pop, mj_i2, mj_l2, mj_lbin, mj_ldv, mj_lsh, mj_lcm, mj_oin] at h; (repeat' split at h) <;> first | (cases h; exact ⟨_, rfl⟩) | cases h)
end Main
