-- the law on the mini machine (what is left)
theorem mj_law (L : Nat) (xs : Nat → Int32) (hL : L ≤ 3072) : ∃ d, d ≤ 1000 ∧ mj_X (mj_Kc L xs) d 187 [.inr (.inr (.inr 0))] ([], fun _ _ => 0, fun _ _ => 0) (fun r Z => r = some (.inl 1) ∧ mj_nc Z ≤ 600000 ∧ mj_ns Z ≤ 7302250) := by
  sorry
