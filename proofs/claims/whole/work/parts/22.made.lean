-- the two objects made: the constructors' runs, by the kernel; the cells as they stand from then on
def mj_kb : mj_C := fun _ => (0, fun _ => 0)
def mq_st (nx : Nat) (mi : mj_MI) (L : mj_L) (S : List mj_V) (Z : mj_Z) : Option mj_A := if mi.1 = 17 ∨ mi.1 = 23 then (match mi.1, S with
  | 17, .inl i :: .inr (.inr (.inl a)) :: S => mj_iald mj_kb nx L (.inl i :: .inr (.inr (.inl a)) :: S) Z
  | 23, .inr (.inr (.inl a)) :: S => mj_alen mj_kb nx L (.inr (.inr (.inl a)) :: S) Z
  | _, _ => none) else mj_step mj_kb nx mi L S Z
theorem mq_st_ok {nx : Nat} {mi : mj_MI} {L : mj_L} {S : List mj_V} {Z : mj_Z} {a : mj_A} (h : mq_st nx mi L S Z = some a) (K : mj_C) : mj_step K nx mi L S Z = some a := by
  obtain ⟨op, n, x, b, tb⟩ := mi
  unfold mq_st at h
  simp only at h
  by_cases h17 : op = 17
  · subst h17
    rw [if_pos (Or.inl rfl)] at h
    split at h
    · exact h
    · rename_i h1; cases h1
    · cases h
  · by_cases h23 : op = 23
    · subst h23
      rw [if_pos (Or.inr rfl)] at h
      split at h
      · rename_i h1; cases h1
      · exact h
      · cases h
    · rw [if_neg (by rintro (q | q); exact h17 q; exact h23 q)] at h
      rw [← h]
      unfold mj_step
      simp only
      split <;> first | rfl | exact absurd rfl h17 | exact absurd rfl h23
def mq_rn : Nat → Nat → Nat → Nat → mj_L → List mj_V → mj_Z → Option (Option mj_V × mj_Z)
  | 0, _, _, _, _, _, _ => none
  | n + 1, d, m, pc, L, S, Z => match mj_cod m pc with
    | none => none
    | some (mi, nx) => match mq_st nx mi L S Z with
      | none => none
      | some (.inl (pc', L', S', Z')) => mq_rn n d m pc' L' S' Z'
      | some (.inr (.inl r)) => some (r, Z)
      | some (.inr (.inr (m', as, S'))) => match d with
        | 0 => none
        | d' + 1 => if (mj_lay as).length ≤ mj_ml m' then (match mq_rn n d' m' 0 (mj_ent m' as) [] Z with
          | none => none
          | some (r, Z') => mq_rn n d m nx L (r.toList ++ S') Z') else none
theorem mq_rn_ok (K : mj_C) : ∀ (n d m pc : Nat) (L : mj_L) (S : List mj_V) (Z : mj_Z) (x : Option mj_V × mj_Z), mq_rn n d m pc L S Z = some x → mj_run K n d m pc L S Z = some x := by
  intro n
  induction n with
  | zero => intro d m pc L S Z x h; simp [mq_rn] at h
  | succ n ih =>
    intro d m pc L S Z x h
    rw [mq_rn] at h
    rw [mj_run]
    cases hc : mj_cod m pc with
    | none => rw [hc] at h; simp at h
    | some q =>
      obtain ⟨mi, nx⟩ := q
      rw [hc] at h
      simp only at h ⊢
      cases hs : mq_st nx mi L S Z with
      | none => rw [hs] at h; simp at h
      | some a =>
        rw [hs] at h
        rw [mq_st_ok hs K]
        rcases a with ⟨pc', L', S', Z'⟩ | r | ⟨m', as, S'⟩
        · simp only at h ⊢
          exact ih _ _ _ _ _ _ _ h
        · exact h
        · simp only at h ⊢
          cases d with
          | zero => simp at h
          | succ d =>
            simp only at h ⊢
            by_cases hl : (mj_lay as).length ≤ mj_ml m'
            · rw [if_pos hl] at h ⊢
              cases hr : mq_rn n d m' 0 (mj_ent m' as) [] Z with
              | none => rw [hr] at h; simp at h
              | some y =>
                obtain ⟨r, Z'⟩ := y
                rw [hr] at h
                rw [ih _ _ _ _ _ _ _ hr]
                exact ih _ _ _ _ _ _ _ h
            · rw [if_neg hl] at h; simp at h
def mq_eqK : List mj_K → List mj_K → Bool
  | [], [] => true
  | .inl a :: r, .inl b :: s => decide (a = b) && mq_eqK r s
  | .inr none :: r, .inr none :: s => mq_eqK r s
  | .inr (some a) :: r, .inr (some b) :: s => decide (a = b) && mq_eqK r s
  | _, _ => false
theorem mq_eqK_ok : ∀ {r s : List mj_K}, mq_eqK r s = true → r = s
  | [], [], _ => rfl
  | .inl a :: r, .inl b :: s, h => by simp only [mq_eqK, Bool.and_eq_true, decide_eq_true_eq] at h; rw [h.1, mq_eqK_ok h.2]
  | .inr none :: r, .inr none :: s, h => by simp only [mq_eqK] at h; rw [mq_eqK_ok h]
  | .inr (some a) :: r, .inr (some b) :: s, h => by simp only [mq_eqK, Bool.and_eq_true, decide_eq_true_eq] at h; rw [h.1, mq_eqK_ok h.2]
  | [], _ :: _, h => by simp [mq_eqK] at h
  | .inl _ :: _, [], h => by simp [mq_eqK] at h
  | .inr none :: _, [], h => by simp [mq_eqK] at h
  | .inr (some _) :: _, [], h => by simp [mq_eqK] at h
  | .inl _ :: _, .inr _ :: _, h => by simp [mq_eqK] at h
  | .inr none :: _, .inl _ :: _, h => by simp [mq_eqK] at h
  | .inr none :: _, .inr (some _) :: _, h => by simp [mq_eqK] at h
  | .inr (some _) :: _, .inl _ :: _, h => by simp [mq_eqK] at h
  | .inr (some _) :: _, .inr none :: _, h => by simp [mq_eqK] at h
def mq_eqS : List mj_S → List mj_S → Bool
  | [], [] => true
  | (a, b, c) :: r, (d, e, f) :: s => decide (a = d) && (decide (b = e) && (mq_eqK c f && mq_eqS r s))
  | _, _ => false
theorem mq_eqS_ok : ∀ {r s : List mj_S}, mq_eqS r s = true → r = s
  | [], [], _ => rfl
  | (a, b, c) :: r, (d, e, f) :: s, h => by
    simp only [mq_eqS, Bool.and_eq_true, decide_eq_true_eq] at h
    rw [h.1, h.2.1, mq_eqK_ok h.2.2.1, mq_eqS_ok h.2.2.2]
  | [], _ :: _, h => by simp [mq_eqS] at h
  | _ :: _, [], h => by simp [mq_eqS] at h
def mj_Sh : List mj_S := [(0, 8, [.inr (some 1), .inr (some 18), .inl 2, .inr (some 35), .inl 2, .inr (some 62), .inr (some 69), .inr (some 96), .inr (some 113)]), (0, 6, [.inr (some 2), .inr (some 9), .inr (some 12), .inr (some 15)]), (0, 5, [.inr (some 3), .inr (some 4), .inr (some 5), .inr (some 6), .inr (some 7), .inr (some 8), .inl 0, .inl 0]), (1, 5, []), (1, 5, []), (1, 10, []), (1, 10, []), (1, 10, []), (1, 4, []), (0, 3, [.inr (some 10), .inr (some 11), .inl 0]), (1, 5, []), (1, 5, []), (0, 3, [.inr (some 13), .inr (some 14), .inl 0]), (1, 8, []), (1, 8, []), (0, 3, [.inr (some 16), .inr (some 17), .inl 0]), (1, 8, []), (1, 8, []), (0, 6, [.inr (some 19), .inr (some 26), .inr (some 29), .inr (some 32)]), (0, 5, [.inr (some 20), .inr (some 21), .inr (some 22), .inr (some 23), .inr (some 24), .inr (some 25), .inl 0, .inl 0]), (1, 5, []), (1, 5, []), (1, 10, []), (1, 10, []), (1, 10, []), (1, 4, []), (0, 3, [.inr (some 27), .inr (some 28), .inl 0]), (1, 5, []), (1, 5, []), (0, 3, [.inr (some 30), .inr (some 31), .inl 0]), (1, 8, []), (1, 8, []), (0, 3, [.inr (some 33), .inr (some 34), .inl 0]), (1, 8, []), (1, 8, []), (0, 2, [.inr (some 36), .inr (some 44), .inr (some 48), .inr (some 49), .inr (some 50), .inr (some 51), .inr (some 52), .inr (some 53), .inr (some 54), .inr (some 55), .inr (some 61), .inl 0, .inl 0, .inl 0, .inl 0, .inl 0, .inl 1]), (0, 0, [.inr (some 37)]), (3, 6, [.inr (some 38), .inr (some 39), .inr (some 40), .inr (some 41), .inr (some 42), .inr (some 43)]), (1, 21, []), (1, 21, []), (1, 21, []), (1, 21, []), (1, 21, []), (1, 21, []), (0, 1, [.inr (some 45), .inr (some 46), .inr (some 47), .inl 0]), (1, 5, []), (1, 5, []), (1, 5, []), (1, 5, []), (1, 5, []), (1, 5, []), (1, 5, []), (1, 5, []), (1, 5, []), (1, 10, []), (3, 5, [.inr (some 56), .inr (some 57), .inr (some 58), .inr (some 59), .inr (some 60)]), (1, 5, []), (1, 5, []), (1, 5, []), (1, 5, []), (1, 5, []), (1, 5, []), (0, 5, [.inr (some 63), .inr (some 64), .inr (some 65), .inr (some 66), .inr (some 67), .inr (some 68), .inl 0, .inl 0]), (1, 5, []), (1, 5, []), (1, 10, []), (1, 10, []), (1, 10, []), (1, 4, []), (0, 2, [.inr (some 70), .inr (some 78), .inr (some 82), .inr (some 83), .inr (some 84), .inr (some 85), .inr (some 86), .inr (some 87), .inr (some 88), .inr (some 89), .inr (some 95), .inl 0, .inl 0, .inl 0, .inl 0, .inl 0, .inl 1]), (0, 0, [.inr (some 71)]), (3, 6, [.inr (some 72), .inr (some 73), .inr (some 74), .inr (some 75), .inr (some 76), .inr (some 77)]), (1, 21, []), (1, 21, []), (1, 21, []), (1, 21, []), (1, 21, []), (1, 21, []), (0, 1, [.inr (some 79), .inr (some 80), .inr (some 81), .inl 0]), (1, 5, []), (1, 5, []), (1, 5, []), (1, 5, []), (1, 5, []), (1, 5, []), (1, 5, []), (1, 5, []), (1, 5, []), (1, 10, []), (3, 5, [.inr (some 90), .inr (some 91), .inr (some 92), .inr (some 93), .inr (some 94)]), (1, 5, []), (1, 5, []), (1, 5, []), (1, 5, []), (1, 5, []), (1, 5, []), (0, 4, [.inr (some 97), .inr (some 98), .inl 0, .inl 0, .inl 0]), (1, 100, []), (3, 14, [.inr (some 99), .inr (some 100), .inr (some 101), .inr (some 102), .inr (some 103), .inr (some 104), .inr (some 105), .inr (some 106), .inr (some 107), .inr (some 108), .inr (some 109), .inr (some 110), .inr (some 111), .inr (some 112)]), (1, 4, []), (1, 4, []), (1, 4, []), (1, 4, []), (1, 4, []), (1, 4, []), (1, 4, []), (1, 4, []), (1, 4, []), (1, 4, []), (1, 4, []), (1, 4, []), (1, 4, []), (1, 4, []), (4, 6, [.inr (some 114), .inr (some 116), .inr (some 118), .inr (some 120), .inr (some 122), .inr (some 124)]), (0, 7, [.inr (some 115), .inl 0, .inl 0]), (2, 60, []), (0, 7, [.inr (some 117), .inl 0, .inl 0]), (2, 60, []), (0, 7, [.inr (some 119), .inl 0, .inl 0]), (2, 60, []), (0, 7, [.inr (some 121), .inl 0, .inl 0]), (2, 60, []), (0, 7, [.inr (some 123), .inl 0, .inl 0]), (2, 60, []), (0, 7, [.inr (some 125), .inl 0, .inl 0]), (2, 60, []), (0, 9, [.inr (some 127), .inr (some 128), .inr (some 129), .inl 2, .inr (some 130), .inr (some 131), .inr (some 132), .inr (some 133), .inr (some 134), .inr (some 135), .inr (some 136), .inr (some 137), .inr (some 138), .inr (some 139), .inr (some 140), .inr (some 141), .inr (some 142), .inl 0, .inl 0, .inl 0, .inl 0, .inr (some 143), .inr (some 144), .inl 0, .inl 0, .inl 0, .inr (some 145), .inr (some 146), .inr (some 147), .inr (some 148)]), (1, 91, []), (1, 91, []), (1, 91, []), (1, 5, []), (1, 5, []), (1, 5, []), (1, 5, []), (1, 5, []), (1, 5, []), (1, 5, []), (1, 5, []), (1, 5, []), (1, 5, []), (1, 10, []), (1, 25, []), (1, 10, []), (1, 100, []), (1, 56, []), (1, 6, []), (1, 6, []), (2, 360, []), (2, 60, [])]
def mq_A0 : mj_Z := ([(0, 8, mj_k0 8)], mj_zr (fun _ _ => 0) 0 0, mj_zr (fun _ _ => 0) 0 0)
def mq_rA : Option (Option mj_V × mj_Z) := mq_rn 4000 30 68 0 (mj_ent 68 [.inr (.inr (.inl 0))]) [] mq_A0
def mq_A1 : mj_Z := (mq_rA.getD (none, mq_A0)).2
def mq_B0 : mj_Z := (mq_A1.1 ++ [(0, 9, mj_k0 9)], mj_zr mq_A1.2.1 mq_A1.1.length 0, mj_zr mq_A1.2.2 mq_A1.1.length 0)
def mq_rB : Option (Option mj_V × mj_Z) := mq_rn 4000 30 111 0 (mj_ent 111 [.inr (.inr (.inl 126))]) [] mq_B0
def mq_B1 : mj_Z := (mq_rB.getD (none, mq_B0)).2
def mq_M : Nat → Nat → Int := mq_B1.2.1
def mq_N : Nat → Nat → Int64 := mq_B1.2.2
theorem mq_some {r : Option (Option mj_V × mj_Z)} {Z : mj_Z} (h : (match r with | some (none, _) => true | _ => false) = true) : r = some (none, (r.getD (none, Z)).2) := by
  match r, h with
  | some (none, z), _ => rfl
theorem mq_rA_ok : mq_rA = some (none, mq_A1) := mq_some (by decide +kernel)
theorem mq_rB_ok : mq_rB = some (none, mq_B1) := mq_some (by decide +kernel)
theorem mq_A1_len : mq_A1.1.length = 126 := by decide +kernel
theorem mq_B1_sh : mq_B1.1 = mj_Sh := mq_eqS_ok (by decide +kernel)
theorem mq_eta {α β γ : Type} (p : α × β × γ) {x : α} (h : p.1 = x) : p = (x, p.2.1, p.2.2) := by obtain ⟨a, b, c⟩ := p; cases h; rfl
theorem mq_B1_is : mq_B1 = (mj_Sh, mq_M, mq_N) := mq_eta mq_B1 mq_B1_sh
theorem mq_room : mj_sm mj_Sh = 2308 ∧ mj_Sh.length = 149 := by decide +kernel
def mq_nz : List (Nat × Nat × Int) := [(8, 1, 20), (25, 1, 20), (68, 1, 20), (114, 1, (-1)), (116, 1, (-1)), (118, 1, (-1)), (120, 1, (-1)), (122, 1, (-1)), (124, 1, (-1)), (127, 43, 20), (145, 0, (-1)), (145, 1, (-1)), (145, 2, (-1)), (145, 3, (-1)), (145, 4, (-1)), (145, 5, (-1))]
def mq_val (a j : Nat) : Int := match mq_nz.find? (fun x => x.1 == a && x.2.1 == j) with
  | some x => x.2.2
  | none => 0
theorem mq_M1 : ∀ a, a < 62 → ∀ j, j < 21 → mq_M a j = mq_val a j := by decide +kernel
theorem mq_M2 : ∀ a, a < 64 → ∀ j, j < 21 → mq_M (62 + a) j = mq_val (62 + a) j := by decide +kernel
theorem mq_M3 : ∀ a, a < 23 → ∀ j, j < 100 → mq_M (126 + a) j = mq_val (126 + a) j := by decide +kernel
theorem mq_N1 : ∀ a, a < 6 → ∀ j, j < 60 → mq_N (115 + 2 * a) j = 0 := by decide +kernel
theorem mq_N2 : ∀ j, j < 360 → mq_N 147 j = 0 := by decide +kernel
theorem f0_0 : mj_fk mj_Sh 0 8 0 = some (.inr (some 1)) := rfl
theorem f0_1 : mj_fk mj_Sh 0 8 1 = some (.inr (some 18)) := rfl
theorem f0_2 : mj_fk mj_Sh 0 8 2 = some (.inl 2) := rfl
theorem f0_3 : mj_fk mj_Sh 0 8 3 = some (.inr (some 35)) := rfl
theorem f0_4 : mj_fk mj_Sh 0 8 4 = some (.inl 2) := rfl
theorem f0_5 : mj_fk mj_Sh 0 8 5 = some (.inr (some 62)) := rfl
theorem f0_6 : mj_fk mj_Sh 0 8 6 = some (.inr (some 69)) := rfl
theorem f0_7 : mj_fk mj_Sh 0 8 7 = some (.inr (some 96)) := rfl
theorem f0_8 : mj_fk mj_Sh 0 8 8 = some (.inr (some 113)) := rfl
theorem f1_0 : mj_fk mj_Sh 1 6 0 = some (.inr (some 2)) := rfl
theorem f1_1 : mj_fk mj_Sh 1 6 1 = some (.inr (some 9)) := rfl
theorem f1_2 : mj_fk mj_Sh 1 6 2 = some (.inr (some 12)) := rfl
theorem f1_3 : mj_fk mj_Sh 1 6 3 = some (.inr (some 15)) := rfl
theorem f2_0 : mj_fk mj_Sh 2 5 0 = some (.inr (some 3)) := rfl
theorem f2_1 : mj_fk mj_Sh 2 5 1 = some (.inr (some 4)) := rfl
theorem f2_2 : mj_fk mj_Sh 2 5 2 = some (.inr (some 5)) := rfl
theorem f2_3 : mj_fk mj_Sh 2 5 3 = some (.inr (some 6)) := rfl
theorem f2_4 : mj_fk mj_Sh 2 5 4 = some (.inr (some 7)) := rfl
theorem f2_5 : mj_fk mj_Sh 2 5 5 = some (.inr (some 8)) := rfl
theorem f2_6 : mj_fk mj_Sh 2 5 6 = some (.inl 0) := rfl
theorem f2_7 : mj_fk mj_Sh 2 5 7 = some (.inl 0) := rfl
theorem al3 : mj_al mj_Sh 1 3 = some 5 := rfl
theorem al4 : mj_al mj_Sh 1 4 = some 5 := rfl
theorem al5 : mj_al mj_Sh 1 5 = some 10 := rfl
theorem al6 : mj_al mj_Sh 1 6 = some 10 := rfl
theorem al7 : mj_al mj_Sh 1 7 = some 10 := rfl
theorem al8 : mj_al mj_Sh 1 8 = some 4 := rfl
theorem f9_0 : mj_fk mj_Sh 9 3 0 = some (.inr (some 10)) := rfl
theorem f9_1 : mj_fk mj_Sh 9 3 1 = some (.inr (some 11)) := rfl
theorem f9_2 : mj_fk mj_Sh 9 3 2 = some (.inl 0) := rfl
theorem al10 : mj_al mj_Sh 1 10 = some 5 := rfl
theorem al11 : mj_al mj_Sh 1 11 = some 5 := rfl
theorem f12_0 : mj_fk mj_Sh 12 3 0 = some (.inr (some 13)) := rfl
theorem f12_1 : mj_fk mj_Sh 12 3 1 = some (.inr (some 14)) := rfl
theorem f12_2 : mj_fk mj_Sh 12 3 2 = some (.inl 0) := rfl
theorem al13 : mj_al mj_Sh 1 13 = some 8 := rfl
theorem al14 : mj_al mj_Sh 1 14 = some 8 := rfl
theorem f15_0 : mj_fk mj_Sh 15 3 0 = some (.inr (some 16)) := rfl
theorem f15_1 : mj_fk mj_Sh 15 3 1 = some (.inr (some 17)) := rfl
theorem f15_2 : mj_fk mj_Sh 15 3 2 = some (.inl 0) := rfl
theorem al16 : mj_al mj_Sh 1 16 = some 8 := rfl
theorem al17 : mj_al mj_Sh 1 17 = some 8 := rfl
theorem f18_0 : mj_fk mj_Sh 18 6 0 = some (.inr (some 19)) := rfl
theorem f18_1 : mj_fk mj_Sh 18 6 1 = some (.inr (some 26)) := rfl
theorem f18_2 : mj_fk mj_Sh 18 6 2 = some (.inr (some 29)) := rfl
theorem f18_3 : mj_fk mj_Sh 18 6 3 = some (.inr (some 32)) := rfl
theorem f19_0 : mj_fk mj_Sh 19 5 0 = some (.inr (some 20)) := rfl
theorem f19_1 : mj_fk mj_Sh 19 5 1 = some (.inr (some 21)) := rfl
theorem f19_2 : mj_fk mj_Sh 19 5 2 = some (.inr (some 22)) := rfl
theorem f19_3 : mj_fk mj_Sh 19 5 3 = some (.inr (some 23)) := rfl
theorem f19_4 : mj_fk mj_Sh 19 5 4 = some (.inr (some 24)) := rfl
theorem f19_5 : mj_fk mj_Sh 19 5 5 = some (.inr (some 25)) := rfl
theorem f19_6 : mj_fk mj_Sh 19 5 6 = some (.inl 0) := rfl
theorem f19_7 : mj_fk mj_Sh 19 5 7 = some (.inl 0) := rfl
theorem al20 : mj_al mj_Sh 1 20 = some 5 := rfl
theorem al21 : mj_al mj_Sh 1 21 = some 5 := rfl
theorem al22 : mj_al mj_Sh 1 22 = some 10 := rfl
theorem al23 : mj_al mj_Sh 1 23 = some 10 := rfl
theorem al24 : mj_al mj_Sh 1 24 = some 10 := rfl
theorem al25 : mj_al mj_Sh 1 25 = some 4 := rfl
theorem f26_0 : mj_fk mj_Sh 26 3 0 = some (.inr (some 27)) := rfl
theorem f26_1 : mj_fk mj_Sh 26 3 1 = some (.inr (some 28)) := rfl
theorem f26_2 : mj_fk mj_Sh 26 3 2 = some (.inl 0) := rfl
theorem al27 : mj_al mj_Sh 1 27 = some 5 := rfl
theorem al28 : mj_al mj_Sh 1 28 = some 5 := rfl
theorem f29_0 : mj_fk mj_Sh 29 3 0 = some (.inr (some 30)) := rfl
theorem f29_1 : mj_fk mj_Sh 29 3 1 = some (.inr (some 31)) := rfl
theorem f29_2 : mj_fk mj_Sh 29 3 2 = some (.inl 0) := rfl
theorem al30 : mj_al mj_Sh 1 30 = some 8 := rfl
theorem al31 : mj_al mj_Sh 1 31 = some 8 := rfl
theorem f32_0 : mj_fk mj_Sh 32 3 0 = some (.inr (some 33)) := rfl
theorem f32_1 : mj_fk mj_Sh 32 3 1 = some (.inr (some 34)) := rfl
theorem f32_2 : mj_fk mj_Sh 32 3 2 = some (.inl 0) := rfl
theorem al33 : mj_al mj_Sh 1 33 = some 8 := rfl
theorem al34 : mj_al mj_Sh 1 34 = some 8 := rfl
theorem f35_0 : mj_fk mj_Sh 35 2 0 = some (.inr (some 36)) := rfl
theorem f35_1 : mj_fk mj_Sh 35 2 1 = some (.inr (some 44)) := rfl
theorem f35_2 : mj_fk mj_Sh 35 2 2 = some (.inr (some 48)) := rfl
theorem f35_3 : mj_fk mj_Sh 35 2 3 = some (.inr (some 49)) := rfl
theorem f35_4 : mj_fk mj_Sh 35 2 4 = some (.inr (some 50)) := rfl
theorem f35_5 : mj_fk mj_Sh 35 2 5 = some (.inr (some 51)) := rfl
theorem f35_6 : mj_fk mj_Sh 35 2 6 = some (.inr (some 52)) := rfl
theorem f35_7 : mj_fk mj_Sh 35 2 7 = some (.inr (some 53)) := rfl
theorem f35_8 : mj_fk mj_Sh 35 2 8 = some (.inr (some 54)) := rfl
theorem f35_9 : mj_fk mj_Sh 35 2 9 = some (.inr (some 55)) := rfl
theorem f35_10 : mj_fk mj_Sh 35 2 10 = some (.inr (some 61)) := rfl
theorem f35_11 : mj_fk mj_Sh 35 2 11 = some (.inl 0) := rfl
theorem f35_12 : mj_fk mj_Sh 35 2 12 = some (.inl 0) := rfl
theorem f35_13 : mj_fk mj_Sh 35 2 13 = some (.inl 0) := rfl
theorem f35_14 : mj_fk mj_Sh 35 2 14 = some (.inl 0) := rfl
theorem f35_15 : mj_fk mj_Sh 35 2 15 = some (.inl 0) := rfl
theorem f35_16 : mj_fk mj_Sh 35 2 16 = some (.inl 1) := rfl
theorem f36_0 : mj_fk mj_Sh 36 0 0 = some (.inr (some 37)) := rfl
theorem al38 : mj_al mj_Sh 1 38 = some 21 := rfl
theorem al39 : mj_al mj_Sh 1 39 = some 21 := rfl
theorem al40 : mj_al mj_Sh 1 40 = some 21 := rfl
theorem al41 : mj_al mj_Sh 1 41 = some 21 := rfl
theorem al42 : mj_al mj_Sh 1 42 = some 21 := rfl
theorem al43 : mj_al mj_Sh 1 43 = some 21 := rfl
theorem f44_0 : mj_fk mj_Sh 44 1 0 = some (.inr (some 45)) := rfl
theorem f44_1 : mj_fk mj_Sh 44 1 1 = some (.inr (some 46)) := rfl
theorem f44_2 : mj_fk mj_Sh 44 1 2 = some (.inr (some 47)) := rfl
theorem f44_3 : mj_fk mj_Sh 44 1 3 = some (.inl 0) := rfl
theorem al45 : mj_al mj_Sh 1 45 = some 5 := rfl
theorem al46 : mj_al mj_Sh 1 46 = some 5 := rfl
theorem al47 : mj_al mj_Sh 1 47 = some 5 := rfl
theorem al48 : mj_al mj_Sh 1 48 = some 5 := rfl
theorem al49 : mj_al mj_Sh 1 49 = some 5 := rfl
theorem al50 : mj_al mj_Sh 1 50 = some 5 := rfl
theorem al51 : mj_al mj_Sh 1 51 = some 5 := rfl
theorem al52 : mj_al mj_Sh 1 52 = some 5 := rfl
theorem al53 : mj_al mj_Sh 1 53 = some 5 := rfl
theorem al54 : mj_al mj_Sh 1 54 = some 10 := rfl
theorem al56 : mj_al mj_Sh 1 56 = some 5 := rfl
theorem al57 : mj_al mj_Sh 1 57 = some 5 := rfl
theorem al58 : mj_al mj_Sh 1 58 = some 5 := rfl
theorem al59 : mj_al mj_Sh 1 59 = some 5 := rfl
theorem al60 : mj_al mj_Sh 1 60 = some 5 := rfl
theorem al61 : mj_al mj_Sh 1 61 = some 5 := rfl
theorem f62_0 : mj_fk mj_Sh 62 5 0 = some (.inr (some 63)) := rfl
theorem f62_1 : mj_fk mj_Sh 62 5 1 = some (.inr (some 64)) := rfl
theorem f62_2 : mj_fk mj_Sh 62 5 2 = some (.inr (some 65)) := rfl
theorem f62_3 : mj_fk mj_Sh 62 5 3 = some (.inr (some 66)) := rfl
theorem f62_4 : mj_fk mj_Sh 62 5 4 = some (.inr (some 67)) := rfl
theorem f62_5 : mj_fk mj_Sh 62 5 5 = some (.inr (some 68)) := rfl
theorem f62_6 : mj_fk mj_Sh 62 5 6 = some (.inl 0) := rfl
theorem f62_7 : mj_fk mj_Sh 62 5 7 = some (.inl 0) := rfl
theorem al63 : mj_al mj_Sh 1 63 = some 5 := rfl
theorem al64 : mj_al mj_Sh 1 64 = some 5 := rfl
theorem al65 : mj_al mj_Sh 1 65 = some 10 := rfl
theorem al66 : mj_al mj_Sh 1 66 = some 10 := rfl
theorem al67 : mj_al mj_Sh 1 67 = some 10 := rfl
theorem al68 : mj_al mj_Sh 1 68 = some 4 := rfl
theorem f69_0 : mj_fk mj_Sh 69 2 0 = some (.inr (some 70)) := rfl
theorem f69_1 : mj_fk mj_Sh 69 2 1 = some (.inr (some 78)) := rfl
theorem f69_2 : mj_fk mj_Sh 69 2 2 = some (.inr (some 82)) := rfl
theorem f69_3 : mj_fk mj_Sh 69 2 3 = some (.inr (some 83)) := rfl
theorem f69_4 : mj_fk mj_Sh 69 2 4 = some (.inr (some 84)) := rfl
theorem f69_5 : mj_fk mj_Sh 69 2 5 = some (.inr (some 85)) := rfl
theorem f69_6 : mj_fk mj_Sh 69 2 6 = some (.inr (some 86)) := rfl
theorem f69_7 : mj_fk mj_Sh 69 2 7 = some (.inr (some 87)) := rfl
theorem f69_8 : mj_fk mj_Sh 69 2 8 = some (.inr (some 88)) := rfl
theorem f69_9 : mj_fk mj_Sh 69 2 9 = some (.inr (some 89)) := rfl
theorem f69_10 : mj_fk mj_Sh 69 2 10 = some (.inr (some 95)) := rfl
theorem f69_11 : mj_fk mj_Sh 69 2 11 = some (.inl 0) := rfl
theorem f69_12 : mj_fk mj_Sh 69 2 12 = some (.inl 0) := rfl
theorem f69_13 : mj_fk mj_Sh 69 2 13 = some (.inl 0) := rfl
theorem f69_14 : mj_fk mj_Sh 69 2 14 = some (.inl 0) := rfl
theorem f69_15 : mj_fk mj_Sh 69 2 15 = some (.inl 0) := rfl
theorem f69_16 : mj_fk mj_Sh 69 2 16 = some (.inl 1) := rfl
theorem f70_0 : mj_fk mj_Sh 70 0 0 = some (.inr (some 71)) := rfl
theorem al72 : mj_al mj_Sh 1 72 = some 21 := rfl
theorem al73 : mj_al mj_Sh 1 73 = some 21 := rfl
theorem al74 : mj_al mj_Sh 1 74 = some 21 := rfl
theorem al75 : mj_al mj_Sh 1 75 = some 21 := rfl
theorem al76 : mj_al mj_Sh 1 76 = some 21 := rfl
theorem al77 : mj_al mj_Sh 1 77 = some 21 := rfl
theorem f78_0 : mj_fk mj_Sh 78 1 0 = some (.inr (some 79)) := rfl
theorem f78_1 : mj_fk mj_Sh 78 1 1 = some (.inr (some 80)) := rfl
theorem f78_2 : mj_fk mj_Sh 78 1 2 = some (.inr (some 81)) := rfl
theorem f78_3 : mj_fk mj_Sh 78 1 3 = some (.inl 0) := rfl
theorem al79 : mj_al mj_Sh 1 79 = some 5 := rfl
theorem al80 : mj_al mj_Sh 1 80 = some 5 := rfl
theorem al81 : mj_al mj_Sh 1 81 = some 5 := rfl
theorem al82 : mj_al mj_Sh 1 82 = some 5 := rfl
theorem al83 : mj_al mj_Sh 1 83 = some 5 := rfl
theorem al84 : mj_al mj_Sh 1 84 = some 5 := rfl
theorem al85 : mj_al mj_Sh 1 85 = some 5 := rfl
theorem al86 : mj_al mj_Sh 1 86 = some 5 := rfl
theorem al87 : mj_al mj_Sh 1 87 = some 5 := rfl
theorem al88 : mj_al mj_Sh 1 88 = some 10 := rfl
theorem al90 : mj_al mj_Sh 1 90 = some 5 := rfl
theorem al91 : mj_al mj_Sh 1 91 = some 5 := rfl
theorem al92 : mj_al mj_Sh 1 92 = some 5 := rfl
theorem al93 : mj_al mj_Sh 1 93 = some 5 := rfl
theorem al94 : mj_al mj_Sh 1 94 = some 5 := rfl
theorem al95 : mj_al mj_Sh 1 95 = some 5 := rfl
theorem f96_0 : mj_fk mj_Sh 96 4 0 = some (.inr (some 97)) := rfl
theorem f96_1 : mj_fk mj_Sh 96 4 1 = some (.inr (some 98)) := rfl
theorem f96_2 : mj_fk mj_Sh 96 4 2 = some (.inl 0) := rfl
theorem f96_3 : mj_fk mj_Sh 96 4 3 = some (.inl 0) := rfl
theorem f96_4 : mj_fk mj_Sh 96 4 4 = some (.inl 0) := rfl
theorem al97 : mj_al mj_Sh 1 97 = some 100 := rfl
theorem al99 : mj_al mj_Sh 1 99 = some 4 := rfl
theorem al100 : mj_al mj_Sh 1 100 = some 4 := rfl
theorem al101 : mj_al mj_Sh 1 101 = some 4 := rfl
theorem al102 : mj_al mj_Sh 1 102 = some 4 := rfl
theorem al103 : mj_al mj_Sh 1 103 = some 4 := rfl
theorem al104 : mj_al mj_Sh 1 104 = some 4 := rfl
theorem al105 : mj_al mj_Sh 1 105 = some 4 := rfl
theorem al106 : mj_al mj_Sh 1 106 = some 4 := rfl
theorem al107 : mj_al mj_Sh 1 107 = some 4 := rfl
theorem al108 : mj_al mj_Sh 1 108 = some 4 := rfl
theorem al109 : mj_al mj_Sh 1 109 = some 4 := rfl
theorem al110 : mj_al mj_Sh 1 110 = some 4 := rfl
theorem al111 : mj_al mj_Sh 1 111 = some 4 := rfl
theorem al112 : mj_al mj_Sh 1 112 = some 4 := rfl
theorem f114_0 : mj_fk mj_Sh 114 7 0 = some (.inr (some 115)) := rfl
theorem f114_1 : mj_fk mj_Sh 114 7 1 = some (.inl 0) := rfl
theorem f114_2 : mj_fk mj_Sh 114 7 2 = some (.inl 0) := rfl
theorem al115 : mj_al mj_Sh 2 115 = some 60 := rfl
theorem f116_0 : mj_fk mj_Sh 116 7 0 = some (.inr (some 117)) := rfl
theorem f116_1 : mj_fk mj_Sh 116 7 1 = some (.inl 0) := rfl
theorem f116_2 : mj_fk mj_Sh 116 7 2 = some (.inl 0) := rfl
theorem al117 : mj_al mj_Sh 2 117 = some 60 := rfl
theorem f118_0 : mj_fk mj_Sh 118 7 0 = some (.inr (some 119)) := rfl
theorem f118_1 : mj_fk mj_Sh 118 7 1 = some (.inl 0) := rfl
theorem f118_2 : mj_fk mj_Sh 118 7 2 = some (.inl 0) := rfl
theorem al119 : mj_al mj_Sh 2 119 = some 60 := rfl
theorem f120_0 : mj_fk mj_Sh 120 7 0 = some (.inr (some 121)) := rfl
theorem f120_1 : mj_fk mj_Sh 120 7 1 = some (.inl 0) := rfl
theorem f120_2 : mj_fk mj_Sh 120 7 2 = some (.inl 0) := rfl
theorem al121 : mj_al mj_Sh 2 121 = some 60 := rfl
theorem f122_0 : mj_fk mj_Sh 122 7 0 = some (.inr (some 123)) := rfl
theorem f122_1 : mj_fk mj_Sh 122 7 1 = some (.inl 0) := rfl
theorem f122_2 : mj_fk mj_Sh 122 7 2 = some (.inl 0) := rfl
theorem al123 : mj_al mj_Sh 2 123 = some 60 := rfl
theorem f124_0 : mj_fk mj_Sh 124 7 0 = some (.inr (some 125)) := rfl
theorem f124_1 : mj_fk mj_Sh 124 7 1 = some (.inl 0) := rfl
theorem f124_2 : mj_fk mj_Sh 124 7 2 = some (.inl 0) := rfl
theorem al125 : mj_al mj_Sh 2 125 = some 60 := rfl
theorem f126_0 : mj_fk mj_Sh 126 9 0 = some (.inr (some 127)) := rfl
theorem f126_1 : mj_fk mj_Sh 126 9 1 = some (.inr (some 128)) := rfl
theorem f126_2 : mj_fk mj_Sh 126 9 2 = some (.inr (some 129)) := rfl
theorem f126_3 : mj_fk mj_Sh 126 9 3 = some (.inl 2) := rfl
theorem f126_4 : mj_fk mj_Sh 126 9 4 = some (.inr (some 130)) := rfl
theorem f126_5 : mj_fk mj_Sh 126 9 5 = some (.inr (some 131)) := rfl
theorem f126_6 : mj_fk mj_Sh 126 9 6 = some (.inr (some 132)) := rfl
theorem f126_7 : mj_fk mj_Sh 126 9 7 = some (.inr (some 133)) := rfl
theorem f126_8 : mj_fk mj_Sh 126 9 8 = some (.inr (some 134)) := rfl
theorem f126_9 : mj_fk mj_Sh 126 9 9 = some (.inr (some 135)) := rfl
theorem f126_10 : mj_fk mj_Sh 126 9 10 = some (.inr (some 136)) := rfl
theorem f126_11 : mj_fk mj_Sh 126 9 11 = some (.inr (some 137)) := rfl
theorem f126_12 : mj_fk mj_Sh 126 9 12 = some (.inr (some 138)) := rfl
theorem f126_13 : mj_fk mj_Sh 126 9 13 = some (.inr (some 139)) := rfl
theorem f126_14 : mj_fk mj_Sh 126 9 14 = some (.inr (some 140)) := rfl
theorem f126_15 : mj_fk mj_Sh 126 9 15 = some (.inr (some 141)) := rfl
theorem f126_16 : mj_fk mj_Sh 126 9 16 = some (.inr (some 142)) := rfl
theorem f126_17 : mj_fk mj_Sh 126 9 17 = some (.inl 0) := rfl
theorem f126_18 : mj_fk mj_Sh 126 9 18 = some (.inl 0) := rfl
theorem f126_19 : mj_fk mj_Sh 126 9 19 = some (.inl 0) := rfl
theorem f126_20 : mj_fk mj_Sh 126 9 20 = some (.inl 0) := rfl
theorem f126_21 : mj_fk mj_Sh 126 9 21 = some (.inr (some 143)) := rfl
theorem f126_22 : mj_fk mj_Sh 126 9 22 = some (.inr (some 144)) := rfl
theorem f126_23 : mj_fk mj_Sh 126 9 23 = some (.inl 0) := rfl
theorem f126_24 : mj_fk mj_Sh 126 9 24 = some (.inl 0) := rfl
theorem f126_25 : mj_fk mj_Sh 126 9 25 = some (.inl 0) := rfl
theorem f126_26 : mj_fk mj_Sh 126 9 26 = some (.inr (some 145)) := rfl
theorem f126_27 : mj_fk mj_Sh 126 9 27 = some (.inr (some 146)) := rfl
theorem f126_28 : mj_fk mj_Sh 126 9 28 = some (.inr (some 147)) := rfl
theorem f126_29 : mj_fk mj_Sh 126 9 29 = some (.inr (some 148)) := rfl
theorem al127 : mj_al mj_Sh 1 127 = some 91 := rfl
theorem al128 : mj_al mj_Sh 1 128 = some 91 := rfl
theorem al129 : mj_al mj_Sh 1 129 = some 91 := rfl
theorem al130 : mj_al mj_Sh 1 130 = some 5 := rfl
theorem al131 : mj_al mj_Sh 1 131 = some 5 := rfl
theorem al132 : mj_al mj_Sh 1 132 = some 5 := rfl
theorem al133 : mj_al mj_Sh 1 133 = some 5 := rfl
theorem al134 : mj_al mj_Sh 1 134 = some 5 := rfl
theorem al135 : mj_al mj_Sh 1 135 = some 5 := rfl
theorem al136 : mj_al mj_Sh 1 136 = some 5 := rfl
theorem al137 : mj_al mj_Sh 1 137 = some 5 := rfl
theorem al138 : mj_al mj_Sh 1 138 = some 5 := rfl
theorem al139 : mj_al mj_Sh 1 139 = some 5 := rfl
theorem al140 : mj_al mj_Sh 1 140 = some 10 := rfl
theorem al141 : mj_al mj_Sh 1 141 = some 25 := rfl
theorem al142 : mj_al mj_Sh 1 142 = some 10 := rfl
theorem al143 : mj_al mj_Sh 1 143 = some 100 := rfl
theorem al144 : mj_al mj_Sh 1 144 = some 56 := rfl
theorem al145 : mj_al mj_Sh 1 145 = some 6 := rfl
theorem al146 : mj_al mj_Sh 1 146 = some 6 := rfl
theorem al147 : mj_al mj_Sh 2 147 = some 360 := rfl
theorem al148 : mj_al mj_Sh 2 148 = some 60 := rfl
