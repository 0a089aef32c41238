-- one rule for each mini instruction, read backwards; cells by rows
section TRules
variable {K : mj_C} {d m pc nx : Nat} {L L' : mj_L} {S : List mj_V} {h : List mj_S} {M : Nat → Nat → Int} {N : Nat → Nat → Int64} {Q : Option mj_V → mj_Z → Prop} {n : Int} {a b : Nat} {tb : List (Int × Nat)}
def pU {α : Type} (f : Nat → α) (j : Nat) (v : α) : Nat → α := fun i => if i = j then v else f i
def st {α : Type} (M : Nat → Nat → α) : List (Nat × (Nat → α)) → Nat → Nat → α
  | [] => M
  | (c, f) :: l => fun x => cond (Nat.beq x c) f (st M l x)
def su {α : Type} (M : Nat → Nat → α) : List (Nat × (Nat → α)) → Nat → Nat → α → List (Nat × (Nat → α))
  | [], c, j, v => [(c, pU (M c) j v)]
  | (a, f) :: l, c, j, v => cond (Nat.beq a c) ((a, pU f j v) :: l) ((a, f) :: su M l c j v)
def sr {α : Type} : List (Nat × (Nat → α)) → Nat → (Nat → α) → List (Nat × (Nat → α))
  | [], c, g => [(c, g)]
  | (a, f) :: l, c, g => cond (Nat.beq a c) ((a, g) :: l) ((a, f) :: sr l c g)
def mg {α : Type} (l : List (Nat × (Nat → α))) : List (Nat × (Nat → α)) → List (Nat × (Nat → α))
  | [] => l
  | (c, f) :: r => sr (mg l r) c f
theorem pU_eq {α : Type} {f : Nat → α} {j : Nat} {v : α} : pU f j v j = v := by simp [pU]
theorem pU_ne {α : Type} {f : Nat → α} {i j : Nat} {v : α} (h : i ≠ j) : pU f j v i = f i := by simp [pU, h]
theorem st_c {α : Type} (M : Nat → Nat → α) (c : Nat) (f : Nat → α) (l : List (Nat × (Nat → α))) (x : Nat) : st M ((c, f) :: l) x = if x = c then f else st M l x := by
  show cond (Nat.beq x c) f (st M l x) = _
  by_cases e : x = c
  · subst e; simp
  · have : Nat.beq x c = false := by
      cases hb : Nat.beq x c with
      | false => rfl
      | true => exact absurd (Nat.eq_of_beq_eq_true hb) e
    rw [this, if_neg e]; rfl
theorem st_sr {α : Type} (M : Nat → Nat → α) : ∀ (l : List (Nat × (Nat → α))) (c : Nat) (g : Nat → α) (x : Nat), st M (sr l c g) x = if x = c then g else st M l x
  | [], c, g, x => by rw [sr, st_c]
  | (a, f) :: l, c, g, x => by
    rw [sr]
    cases hb : Nat.beq a c with
    | true =>
      have e := Nat.eq_of_beq_eq_true hb
      subst e
      rw [cond_true, st_c, st_c]
      by_cases e : x = a <;> simp [e]
    | false =>
      have e : a ≠ c := by intro e; subst e; simp at hb
      rw [cond_false, st_c, st_c, st_sr M l c g x]
      by_cases e1 : x = a
      · subst e1; simp [e]
      · simp [e1]
theorem st_mg {α : Type} (M : Nat → Nat → α) (l : List (Nat × (Nat → α))) : ∀ (r : List (Nat × (Nat → α))), st (st M l) r = st M (mg l r)
  | [] => rfl
  | (c, f) :: r => by
    funext x
    rw [st_c, mg, st_sr, ← st_mg M l r]
theorem st_su {α : Type} (M : Nat → Nat → α) : ∀ (l : List (Nat × (Nat → α))) (c j : Nat) (v : α), mj_u (st M l) c j v = st M (su M l c j v)
  | [], c, j, v => by
    funext x i
    show (if x = c ∧ i = j then v else M x i) = _
    rw [su, st_c]
    by_cases e : x = c
    · subst e; simp [pU]
    · simp [e]; rfl
  | (a, f) :: l, c, j, v => by
    have ih := st_su M l c j v
    rw [su]
    cases hb : Nat.beq a c with
    | true =>
      have e := Nat.eq_of_beq_eq_true hb
      subst e
      funext x i
      rw [cond_true, st_c]
      show (if x = a ∧ i = j then v else st M ((a, f) :: l) x i) = _
      rw [st_c]
      by_cases e : x = a
      · subst e; simp [pU]
      · simp [e]
    | false =>
      have e : a ≠ c := by intro e; subst e; simp at hb
      funext x i
      rw [cond_false, st_c, ← ih]
      show (if x = c ∧ i = j then v else st M ((a, f) :: l) x i) = _
      rw [st_c]
      by_cases e1 : x = a
      · subst e1; simp [e]
      · simp [e1, mj_u]
/-- what a local may still hold from before: never a long -/
def sv : Option (Int ⊕ (Nat ⊕ Nat)) → Option mj_V
  | none => none
  | some (.inl x) => some (.inl x)
  | some (.inr w) => some (.inr (.inr w))
theorem st1_sv {k : Nat} {v : mj_V} {o : Option (Int ⊕ (Nat ⊕ Nat))} (ho : L[k]? = some (sv o)) : mj_st1 L (k + 1) v = L.set (k + 1) (some v) := by
  unfold mj_st1 mj_kill
  simp only [ho]
  rcases o with _ | _ | _ <;> rfl
theorem st2_sv {k : Nat} {v : mj_V} {o : Option (Int ⊕ (Nat ⊕ Nat))} (ho : L[k]? = some (sv o)) : mj_st2 L (k + 1) v = (L.set (k + 1) (some v)).set (k + 2) none := by
  unfold mj_st2 mj_kill
  simp only [ho]
  rcases o with _ | _ | _ <;> rfl
theorem lt_b {x y : Nat} (h : Nat.ble (x + 1) y = true) : x < y := Nat.le_of_ble_eq_true h
theorem tw_step {Z Z' : mj_Z} {mi : mj_MI} {pc' : Nat} {S' : List mj_V} (hc : mj_cod m pc = some (mi, nx)) (hs : mj_step K nx mi L S Z = mj_go pc' L' S' Z') (kk : mj_T K d m pc' L' S' Z' Q) : mj_T K d m pc L S Z Q := by
  obtain ⟨k, r, Z1, h2, h3⟩ := kk
  refine ⟨k + 1, r, Z1, ?_, h3⟩
  rw [mj_run, hc]
  simp only [hs, mj_go]
  exact h2
theorem tw_ret {Z : mj_Z} {mi : mj_MI} {r : Option mj_V} (hc : mj_cod m pc = some (mi, nx)) (hs : mj_step K nx mi L S Z = some (.inr (.inl r))) (hq : Q r Z) : mj_T K d m pc L S Z Q := by
  refine ⟨1, r, Z, ?_, hq⟩
  rw [mj_run, hc]
  simp only [hs]
def mj_pick (x : Int) (dd : Nat) : List (Int × Nat) → Nat
  | [] => dd
  | (k, t) :: r => if x = k then t else mj_pick x dd r
theorem tw_const {Z : mj_Z} (hc : mj_cod m pc = some ((0, n, a, b, tb), nx))  (kk : mj_T K d m nx L (.inl n :: S) Z Q) : mj_T K d m pc L S Z Q := tw_step hc (by
  rfl) kk
theorem tw_iload {Z : mj_Z} {x : Int} (hc : mj_cod m pc = some ((1, n, a, b, tb), nx)) (hl : L[a]? = some (some (.inl x))) (kk : mj_T K d m nx L (.inl x :: S) Z Q) : mj_T K d m pc L S Z Q := tw_step hc (by
  show mj_o1 a nx L S Z = _
  unfold mj_o1
  rw [hl]) kk
theorem tw_aload {Z : mj_Z} {w : Nat ⊕ Nat} (hc : mj_cod m pc = some ((2, n, a, b, tb), nx)) (hl : L[a]? = some (some (.inr (.inr w)))) (kk : mj_T K d m nx L (.inr (.inr w) :: S) Z Q) : mj_T K d m pc L S Z Q := tw_step hc (by
  show mj_o2 a nx L S Z = _
  unfold mj_o2
  rw [hl]) kk
theorem tw_lload {Z : mj_Z} {x : Int64} (hc : mj_cod m pc = some ((3, n, a, b, tb), nx)) (hl : L[a]? = some (some (.inr (.inl x)))) (kk : mj_T K d m nx L (.inr (.inl x) :: S) Z Q) : mj_T K d m pc L S Z Q := tw_step hc (by
  show mj_o3 a nx L S Z = _
  unfold mj_o3
  rw [hl]) kk
theorem tw_istore {Z : mj_Z} {x : Int} (hc : mj_cod m pc = some ((4, n, a, b, tb), nx)) (hk : Nat.ble (a + 1) L.length = true) (hL : mj_st1 L a (.inl x) = L') (kk : mj_T K d m nx L' S Z Q) : mj_T K d m pc L (.inl x :: S) Z Q := tw_step hc (by
  show (if a < L.length then mj_go nx (mj_st1 L a (.inl x)) S Z else none) = _
  rw [if_pos (lt_b hk), hL]) kk
theorem tw_astore {Z : mj_Z} {w : Nat ⊕ Nat} (hc : mj_cod m pc = some ((5, n, a, b, tb), nx)) (hk : Nat.ble (a + 1) L.length = true) (hL : mj_st1 L a (.inr (.inr w)) = L') (kk : mj_T K d m nx L' S Z Q) : mj_T K d m pc L (.inr (.inr w) :: S) Z Q := tw_step hc (by
  show (if a < L.length then mj_go nx (mj_st1 L a (.inr (.inr w))) S Z else none) = _
  rw [if_pos (lt_b hk), hL]) kk
theorem tw_lstore {Z : mj_Z} {x : Int64} (hc : mj_cod m pc = some ((6, n, a, b, tb), nx)) (hk : Nat.ble (a + 2) L.length = true) (hL : mj_st2 L a (.inr (.inl x)) = L') (kk : mj_T K d m nx L' S Z Q) : mj_T K d m pc L (.inr (.inl x) :: S) Z Q := tw_step hc (by
  show (if a + 1 < L.length then mj_go nx (mj_st2 L a (.inr (.inl x))) S Z else none) = _
  rw [if_pos (lt_b hk), hL]) kk
theorem tw_iinc {Z : mj_Z} {x v : Int} (hc : mj_cod m pc = some ((7, n, a, b, tb), nx)) (hl : L[a]? = some (some (.inl x))) (hv : x + n = v) (hr : -2147483648 ≤ v ∧ v ≤ 2147483647) (hk : Nat.ble (a + 1) L.length = true) (hL : mj_st1 L a (.inl v) = L') (kk : mj_T K d m nx L' S Z Q) : mj_T K d m pc L S Z Q := tw_step hc (by
  show mj_o7 n a nx L S Z = _
  unfold mj_o7
  rw [hl]
  show (if a < L.length then (if mj_rg (x + n) then mj_go nx (mj_st1 L a (.inl (x + n))) S Z else none) else none) = _
  rw [if_pos (lt_b hk), hv, if_pos hr, hL]) kk
theorem tw_iadd {Z : mj_Z} {x y v : Int} (hc : mj_cod m pc = some ((8, n, a, b, tb), nx)) (hv : x + y = v) (hr : -2147483648 ≤ v ∧ v ≤ 2147483647) (kk : mj_T K d m nx L (.inl v :: S) Z Q) : mj_T K d m pc L (.inl y :: .inl x :: S) Z Q := tw_step hc (by
  show (if mj_rg (x + y) then mj_go nx L (.inl (x + y) :: S) Z else none) = _
  rw [hv, if_pos hr]) kk
theorem tw_isub {Z : mj_Z} {x y v : Int} (hc : mj_cod m pc = some ((9, n, a, b, tb), nx)) (hv : x - y = v) (hr : -2147483648 ≤ v ∧ v ≤ 2147483647) (kk : mj_T K d m nx L (.inl v :: S) Z Q) : mj_T K d m pc L (.inl y :: .inl x :: S) Z Q := tw_step hc (by
  show (if mj_rg (x - y) then mj_go nx L (.inl (x - y) :: S) Z else none) = _
  rw [hv, if_pos hr]) kk
theorem tw_imul {Z : mj_Z} {x y v : Int} (hc : mj_cod m pc = some ((10, n, a, b, tb), nx)) (hv : x * y = v) (hr : -2147483648 ≤ v ∧ v ≤ 2147483647) (kk : mj_T K d m nx L (.inl v :: S) Z Q) : mj_T K d m pc L (.inl y :: .inl x :: S) Z Q := tw_step hc (by
  show (if mj_rg (x * y) then mj_go nx L (.inl (x * y) :: S) Z else none) = _
  rw [hv, if_pos hr]) kk
theorem tw_idiv {Z : mj_Z} {x y v : Int} (hc : mj_cod m pc = some ((11, n, a, b, tb), nx)) (hy : 0 < y) (hv : x.tdiv y = v) (kk : mj_T K d m nx L (.inl v :: S) Z Q) : mj_T K d m pc L (.inl y :: .inl x :: S) Z Q := tw_step hc (by
  show (if 0 < y then mj_go nx L (.inl (x.tdiv y) :: S) Z else none) = _
  rw [hv, if_pos hy]) kk
theorem tw_irem {Z : mj_Z} {x y v : Int} (hc : mj_cod m pc = some ((12, n, a, b, tb), nx)) (hy : 0 < y) (hv : x.tmod y = v) (kk : mj_T K d m nx L (.inl v :: S) Z Q) : mj_T K d m pc L (.inl y :: .inl x :: S) Z Q := tw_step hc (by
  show (if 0 < y then mj_go nx L (.inl (x.tmod y) :: S) Z else none) = _
  rw [hv, if_pos hy]) kk
theorem tw_ineg {Z : mj_Z} {x v : Int} (hc : mj_cod m pc = some ((13, n, a, b, tb), nx)) (hv : -x = v) (hr : -2147483648 ≤ v ∧ v ≤ 2147483647) (kk : mj_T K d m nx L (.inl v :: S) Z Q) : mj_T K d m pc L (.inl x :: S) Z Q := tw_step hc (by
  show (if mj_rg (-x) then mj_go nx L (.inl (-x) :: S) Z else none) = _
  rw [hv, if_pos hr]) kk
theorem tw_and63 {Z : mj_Z} {x : Int} (hc : mj_cod m pc = some ((14, n, a, b, tb), nx))  (kk : mj_T K d m nx L (.inl (x % 64) :: S) Z Q) : mj_T K d m pc L (.inl 63 :: .inl x :: S) Z Q := tw_step hc (by
  rfl) kk
theorem tw_and {Z : mj_Z} {x y v : Int} (hc : mj_cod m pc = some ((14, n, a, b, tb), nx)) (hx : x = 0 ∨ x = 1) (hy : y = 0 ∨ y = 1) (hv : x * y = v) (kk : mj_T K d m nx L (.inl v :: S) Z Q) : mj_T K d m pc L (.inl y :: .inl x :: S) Z Q := tw_step hc (by
  show (if y = 63 then mj_go nx L (.inl (x % 64) :: S) Z else if (y = 0 ∨ y = 1) ∧ (x = 0 ∨ x = 1) then mj_go nx L (.inl (x * y) :: S) Z else none) = _
  rw [if_neg (by omega), if_pos ⟨hy, hx⟩, hv]) kk
theorem tw_geti {q u : Nat} {v : Int} (hc : mj_cod m pc = some ((15, n, a, b, tb), nx)) (hk : mj_fk h q a b = some (.inl u)) (hu : Nat.beq u 1 = false) (hv : M q b = v) (kk : mj_T K d m nx L (.inl v :: S) (h, M, N) Q) : mj_T K d m pc L (.inr (.inr (.inl q)) :: S) (h, M, N) Q := tw_step hc (by
  show mj_get a b nx L (.inr (.inr (.inl q)) :: S) (h, M, N) = _
  rw [mo_geti hk (by rintro rfl; cases hu), hv]) kk
theorem tw_getl {q : Nat} {v : Int64} (hc : mj_cod m pc = some ((15, n, a, b, tb), nx)) (hk : mj_fk h q a b = some (.inl 1)) (hv : N q b = v) (kk : mj_T K d m nx L (.inr (.inl v) :: S) (h, M, N) Q) : mj_T K d m pc L (.inr (.inr (.inl q)) :: S) (h, M, N) Q := tw_step hc (by
  show mj_get a b nx L (.inr (.inr (.inl q)) :: S) (h, M, N) = _
  rw [mo_getl hk, hv]) kk
theorem tw_getr {q r : Nat} (hc : mj_cod m pc = some ((15, n, a, b, tb), nx)) (hk : mj_fk h q a b = some (.inr (some r))) (kk : mj_T K d m nx L (.inr (.inr (.inl r)) :: S) (h, M, N) Q) : mj_T K d m pc L (.inr (.inr (.inl q)) :: S) (h, M, N) Q := tw_step hc (by
  show mj_get a b nx L (.inr (.inr (.inl q)) :: S) (h, M, N) = _
  rw [mo_getr hk]) kk
theorem tw_puti {l l' : List (Nat × (Nat → Int))} {q : Nat} {v : Int} (hc : mj_cod m pc = some ((16, 0, a, b, tb), nx)) (hk : mj_fk h q a b = some (.inl 0)) (hl : su M l q b v = l') (kk : mj_T K d m nx L S (h, st M l', N) Q) : mj_T K d m pc L (.inl v :: .inr (.inr (.inl q)) :: S) (h, st M l, N) Q := tw_step hc (by
  show mj_put 0 a b nx L (.inl v :: .inr (.inr (.inl q)) :: S) (h, st M l, N) = _
  rw [mo_puti hk, st_su, hl]) kk
theorem tw_putz {l l' : List (Nat × (Nat → Int))} {q : Nat} {v : Int} (hc : mj_cod m pc = some ((16, 2, a, b, tb), nx)) (hk : mj_fk h q a b = some (.inl 2)) (hz : v = 0 ∨ v = 1) (hl : su M l q b v = l') (kk : mj_T K d m nx L S (h, st M l', N) Q) : mj_T K d m pc L (.inl v :: .inr (.inr (.inl q)) :: S) (h, st M l, N) Q := tw_step hc (by
  show mj_put 2 a b nx L (.inl v :: .inr (.inr (.inl q)) :: S) (h, st M l, N) = _
  rw [mo_putz hk, if_pos hz, st_su, hl]) kk
theorem tw_putl {l l' : List (Nat × (Nat → Int64))} {q : Nat} {v : Int64} (hc : mj_cod m pc = some ((16, 1, a, b, tb), nx)) (hk : mj_fk h q a b = some (.inl 1)) (hl : su N l q b v = l') (kk : mj_T K d m nx L S (h, M, st N l') Q) : mj_T K d m pc L (.inr (.inl v) :: .inr (.inr (.inl q)) :: S) (h, M, st N l) Q := tw_step hc (by
  show mj_put 1 a b nx L (.inr (.inl v) :: .inr (.inr (.inl q)) :: S) (h, M, st N l) = _
  rw [mo_putl hk, st_su, hl]) kk
theorem tw_iald {q u j : Nat} {i v : Int} (hc : mj_cod m pc = some ((17, n, a, b, tb), nx)) (hk : mj_al h 1 q = some u) (hi : i = (j : Int)) (hj : j < u) (hv : M q j = v) (kk : mj_T K d m nx L (.inl v :: S) (h, M, N) Q) : mj_T K d m pc L (.inl i :: .inr (.inr (.inl q)) :: S) (h, M, N) Q := tw_step hc (by
  subst hi
  show mj_iald K nx L (.inl (j : Int) :: .inr (.inr (.inl q)) :: S) (h, M, N) = _
  rw [mo_iald hk, if_pos (by omega), Int.toNat_natCast, hv]) kk
theorem tw_ialdc {Z : mj_Z} {k j : Nat} {i v : Int} (hc : mj_cod m pc = some ((17, n, a, b, tb), nx)) (hk4 : Nat.ble (k + 1) 4 = true) (hi : i = (j : Int)) (hj : j < (K k).1) (hv : (K k).2 j = v) (kk : mj_T K d m nx L (.inl v :: S) Z Q) : mj_T K d m pc L (.inl i :: .inr (.inr (.inr k)) :: S) Z Q := tw_step hc (by
  subst hi
  show mj_iald K nx L (.inl (j : Int) :: .inr (.inr (.inr k)) :: S) Z = _
  rw [mo_ialc, if_pos (lt_b hk4), if_pos (by omega), Int.toNat_natCast, hv]) kk
theorem tw_iast {l l' : List (Nat × (Nat → Int))} {q u j : Nat} {i v : Int} (hc : mj_cod m pc = some ((18, n, a, b, tb), nx)) (hk : mj_al h 1 q = some u) (hi : i = (j : Int)) (hj : j < u) (hl : su M l q j v = l') (kk : mj_T K d m nx L S (h, st M l', N) Q) : mj_T K d m pc L (.inl v :: .inl i :: .inr (.inr (.inl q)) :: S) (h, st M l, N) Q := tw_step hc (by
  subst hi
  show mj_iast nx L (.inl v :: .inl (j : Int) :: .inr (.inr (.inl q)) :: S) (h, st M l, N) = _
  rw [mo_iast hk, if_pos (by omega), Int.toNat_natCast, st_su, hl]) kk
theorem tw_lald {q u j : Nat} {i : Int} {v : Int64} (hc : mj_cod m pc = some ((19, n, a, b, tb), nx)) (hk : mj_al h 2 q = some u) (hi : i = (j : Int)) (hj : j < u) (hv : N q j = v) (kk : mj_T K d m nx L (.inr (.inl v) :: S) (h, M, N) Q) : mj_T K d m pc L (.inl i :: .inr (.inr (.inl q)) :: S) (h, M, N) Q := tw_step hc (by
  subst hi
  show mj_lald nx L (.inl (j : Int) :: .inr (.inr (.inl q)) :: S) (h, M, N) = _
  rw [mo_lald hk, if_pos (by omega), Int.toNat_natCast, hv]) kk
theorem tw_last {l l' : List (Nat × (Nat → Int64))} {q u j : Nat} {i : Int} {v : Int64} (hc : mj_cod m pc = some ((20, n, a, b, tb), nx)) (hk : mj_al h 2 q = some u) (hi : i = (j : Int)) (hj : j < u) (hl : su N l q j v = l') (kk : mj_T K d m nx L S (h, M, st N l') Q) : mj_T K d m pc L (.inr (.inl v) :: .inl i :: .inr (.inr (.inl q)) :: S) (h, M, st N l) Q := tw_step hc (by
  subst hi
  show mj_last nx L (.inr (.inl v) :: .inl (j : Int) :: .inr (.inr (.inl q)) :: S) (h, M, st N l) = _
  rw [mo_last hk, if_pos (by omega), Int.toNat_natCast, st_su, hl]) kk
theorem tw_aald {q u j : Nat} {i : Int} (hc : mj_cod m pc = some ((21, n, a, b, tb), nx)) (hi : i = (j : Int)) (hk : mj_rr h q j = some u) (kk : mj_T K d m nx L (.inr (.inr (.inl u)) :: S) (h, M, N) Q) : mj_T K d m pc L (.inl i :: .inr (.inr (.inl q)) :: S) (h, M, N) Q := tw_step hc (by
  subst hi
  show mj_aald nx L (.inl (j : Int) :: .inr (.inr (.inl q)) :: S) (h, M, N) = _
  rw [mo_aald (by omega) (by rw [Int.toNat_natCast]; exact hk)]) kk
theorem tw_alen {q u : Nat} {v : Int} (hc : mj_cod m pc = some ((23, n, a, b, tb), nx)) (hk : mj_len h q = some u) (hu : Nat.ble (u + 1) 1000000 = true) (hv : (u : Int) = v) (kk : mj_T K d m nx L (.inl v :: S) (h, M, N) Q) : mj_T K d m pc L (.inr (.inr (.inl q)) :: S) (h, M, N) Q := tw_step hc (by
  show mj_alen K nx L (.inr (.inr (.inl q)) :: S) (h, M, N) = _
  rw [mo_alen hk, if_pos (lt_b hu), hv]) kk
theorem tw_alenc {Z : mj_Z} {k : Nat} (hc : mj_cod m pc = some ((23, n, a, b, tb), nx)) (hk4 : Nat.ble (k + 1) 4 = true) (hu : (K k).1 < 1000000) (kk : mj_T K d m nx L (.inl ((K k).1 : Int) :: S) Z Q) : mj_T K d m pc L (.inr (.inr (.inr k)) :: S) Z Q := tw_step hc (by
  show mj_alen K nx L (.inr (.inr (.inr k)) :: S) Z = _
  rw [mo_alec, if_pos (lt_b hk4), if_pos hu]) kk
theorem tw_zeq {Z : mj_Z} {x : Int} (hc : mj_cod m pc = some ((24, n, a, 0, tb), nx)) (k1 : x = 0 → mj_T K d m a L S Z Q) (k2 : ¬ x = 0 → mj_T K d m nx L S Z Q) : mj_T K d m pc L (.inl x :: S) Z Q := by
  by_cases e : x = 0
  · exact tw_step hc (by show mj_br 0 a nx x 0 L S Z = _; rw [mo_br0, if_pos e]) (k1 e)
  · exact tw_step hc (by show mj_br 0 a nx x 0 L S Z = _; rw [mo_br0, if_neg e]) (k2 e)
theorem tw_zeqT {Z : mj_Z} {x : Int} (hc : mj_cod m pc = some ((24, n, a, 0, tb), nx)) (e : x = 0) (k1 : mj_T K d m a L S Z Q) : mj_T K d m pc L (.inl x :: S) Z Q := tw_step hc (by show mj_br 0 a nx x 0 L S Z = _; rw [mo_br0, if_pos e]) k1
theorem tw_zeqF {Z : mj_Z} {x : Int} (hc : mj_cod m pc = some ((24, n, a, 0, tb), nx)) (e : ¬ x = 0) (k2 : mj_T K d m nx L S Z Q) : mj_T K d m pc L (.inl x :: S) Z Q := tw_step hc (by show mj_br 0 a nx x 0 L S Z = _; rw [mo_br0, if_neg e]) k2
theorem tw_ceq {Z : mj_Z} {x y : Int} (hc : mj_cod m pc = some ((25, n, a, 0, tb), nx)) (k1 : x = y → mj_T K d m a L S Z Q) (k2 : ¬ x = y → mj_T K d m nx L S Z Q) : mj_T K d m pc L (.inl y :: .inl x :: S) Z Q := by
  by_cases e : x = y
  · exact tw_step hc (by show mj_br 0 a nx x y L S Z = _; rw [mo_br0, if_pos e]) (k1 e)
  · exact tw_step hc (by show mj_br 0 a nx x y L S Z = _; rw [mo_br0, if_neg e]) (k2 e)
theorem tw_ceqT {Z : mj_Z} {x y : Int} (hc : mj_cod m pc = some ((25, n, a, 0, tb), nx)) (e : x = y) (k1 : mj_T K d m a L S Z Q) : mj_T K d m pc L (.inl y :: .inl x :: S) Z Q := tw_step hc (by show mj_br 0 a nx x y L S Z = _; rw [mo_br0, if_pos e]) k1
theorem tw_ceqF {Z : mj_Z} {x y : Int} (hc : mj_cod m pc = some ((25, n, a, 0, tb), nx)) (e : ¬ x = y) (k2 : mj_T K d m nx L S Z Q) : mj_T K d m pc L (.inl y :: .inl x :: S) Z Q := tw_step hc (by show mj_br 0 a nx x y L S Z = _; rw [mo_br0, if_neg e]) k2
theorem tw_zne {Z : mj_Z} {x : Int} (hc : mj_cod m pc = some ((24, n, a, 1, tb), nx)) (k1 : ¬ x = 0 → mj_T K d m a L S Z Q) (k2 : x = 0 → mj_T K d m nx L S Z Q) : mj_T K d m pc L (.inl x :: S) Z Q := by
  by_cases e : x = 0
  · exact tw_step hc (by show mj_br 1 a nx x 0 L S Z = _; rw [mo_br1, if_pos e]) (k2 e)
  · exact tw_step hc (by show mj_br 1 a nx x 0 L S Z = _; rw [mo_br1, if_neg e]) (k1 e)
theorem tw_zneT {Z : mj_Z} {x : Int} (hc : mj_cod m pc = some ((24, n, a, 1, tb), nx)) (e : ¬ x = 0) (k1 : mj_T K d m a L S Z Q) : mj_T K d m pc L (.inl x :: S) Z Q := tw_step hc (by show mj_br 1 a nx x 0 L S Z = _; rw [mo_br1, if_neg e]) k1
theorem tw_zneF {Z : mj_Z} {x : Int} (hc : mj_cod m pc = some ((24, n, a, 1, tb), nx)) (e : x = 0) (k2 : mj_T K d m nx L S Z Q) : mj_T K d m pc L (.inl x :: S) Z Q := tw_step hc (by show mj_br 1 a nx x 0 L S Z = _; rw [mo_br1, if_pos e]) k2
theorem tw_cne {Z : mj_Z} {x y : Int} (hc : mj_cod m pc = some ((25, n, a, 1, tb), nx)) (k1 : ¬ x = y → mj_T K d m a L S Z Q) (k2 : x = y → mj_T K d m nx L S Z Q) : mj_T K d m pc L (.inl y :: .inl x :: S) Z Q := by
  by_cases e : x = y
  · exact tw_step hc (by show mj_br 1 a nx x y L S Z = _; rw [mo_br1, if_pos e]) (k2 e)
  · exact tw_step hc (by show mj_br 1 a nx x y L S Z = _; rw [mo_br1, if_neg e]) (k1 e)
theorem tw_cneT {Z : mj_Z} {x y : Int} (hc : mj_cod m pc = some ((25, n, a, 1, tb), nx)) (e : ¬ x = y) (k1 : mj_T K d m a L S Z Q) : mj_T K d m pc L (.inl y :: .inl x :: S) Z Q := tw_step hc (by show mj_br 1 a nx x y L S Z = _; rw [mo_br1, if_neg e]) k1
theorem tw_cneF {Z : mj_Z} {x y : Int} (hc : mj_cod m pc = some ((25, n, a, 1, tb), nx)) (e : x = y) (k2 : mj_T K d m nx L S Z Q) : mj_T K d m pc L (.inl y :: .inl x :: S) Z Q := tw_step hc (by show mj_br 1 a nx x y L S Z = _; rw [mo_br1, if_pos e]) k2
theorem tw_zlt {Z : mj_Z} {x : Int} (hc : mj_cod m pc = some ((24, n, a, 2, tb), nx)) (k1 : x < 0 → mj_T K d m a L S Z Q) (k2 : ¬ x < 0 → mj_T K d m nx L S Z Q) : mj_T K d m pc L (.inl x :: S) Z Q := by
  by_cases e : x < 0
  · exact tw_step hc (by show mj_br 2 a nx x 0 L S Z = _; rw [mo_br2, if_pos e]) (k1 e)
  · exact tw_step hc (by show mj_br 2 a nx x 0 L S Z = _; rw [mo_br2, if_neg e]) (k2 e)
theorem tw_zltT {Z : mj_Z} {x : Int} (hc : mj_cod m pc = some ((24, n, a, 2, tb), nx)) (e : x < 0) (k1 : mj_T K d m a L S Z Q) : mj_T K d m pc L (.inl x :: S) Z Q := tw_step hc (by show mj_br 2 a nx x 0 L S Z = _; rw [mo_br2, if_pos e]) k1
theorem tw_zltF {Z : mj_Z} {x : Int} (hc : mj_cod m pc = some ((24, n, a, 2, tb), nx)) (e : ¬ x < 0) (k2 : mj_T K d m nx L S Z Q) : mj_T K d m pc L (.inl x :: S) Z Q := tw_step hc (by show mj_br 2 a nx x 0 L S Z = _; rw [mo_br2, if_neg e]) k2
theorem tw_clt {Z : mj_Z} {x y : Int} (hc : mj_cod m pc = some ((25, n, a, 2, tb), nx)) (k1 : x < y → mj_T K d m a L S Z Q) (k2 : ¬ x < y → mj_T K d m nx L S Z Q) : mj_T K d m pc L (.inl y :: .inl x :: S) Z Q := by
  by_cases e : x < y
  · exact tw_step hc (by show mj_br 2 a nx x y L S Z = _; rw [mo_br2, if_pos e]) (k1 e)
  · exact tw_step hc (by show mj_br 2 a nx x y L S Z = _; rw [mo_br2, if_neg e]) (k2 e)
theorem tw_cltT {Z : mj_Z} {x y : Int} (hc : mj_cod m pc = some ((25, n, a, 2, tb), nx)) (e : x < y) (k1 : mj_T K d m a L S Z Q) : mj_T K d m pc L (.inl y :: .inl x :: S) Z Q := tw_step hc (by show mj_br 2 a nx x y L S Z = _; rw [mo_br2, if_pos e]) k1
theorem tw_cltF {Z : mj_Z} {x y : Int} (hc : mj_cod m pc = some ((25, n, a, 2, tb), nx)) (e : ¬ x < y) (k2 : mj_T K d m nx L S Z Q) : mj_T K d m pc L (.inl y :: .inl x :: S) Z Q := tw_step hc (by show mj_br 2 a nx x y L S Z = _; rw [mo_br2, if_neg e]) k2
theorem tw_zge {Z : mj_Z} {x : Int} (hc : mj_cod m pc = some ((24, n, a, 3, tb), nx)) (k1 : ¬ x < 0 → mj_T K d m a L S Z Q) (k2 : x < 0 → mj_T K d m nx L S Z Q) : mj_T K d m pc L (.inl x :: S) Z Q := by
  by_cases e : x < 0
  · exact tw_step hc (by show mj_br 3 a nx x 0 L S Z = _; rw [mo_br3, if_pos e]) (k2 e)
  · exact tw_step hc (by show mj_br 3 a nx x 0 L S Z = _; rw [mo_br3, if_neg e]) (k1 e)
theorem tw_zgeT {Z : mj_Z} {x : Int} (hc : mj_cod m pc = some ((24, n, a, 3, tb), nx)) (e : ¬ x < 0) (k1 : mj_T K d m a L S Z Q) : mj_T K d m pc L (.inl x :: S) Z Q := tw_step hc (by show mj_br 3 a nx x 0 L S Z = _; rw [mo_br3, if_neg e]) k1
theorem tw_zgeF {Z : mj_Z} {x : Int} (hc : mj_cod m pc = some ((24, n, a, 3, tb), nx)) (e : x < 0) (k2 : mj_T K d m nx L S Z Q) : mj_T K d m pc L (.inl x :: S) Z Q := tw_step hc (by show mj_br 3 a nx x 0 L S Z = _; rw [mo_br3, if_pos e]) k2
theorem tw_cge {Z : mj_Z} {x y : Int} (hc : mj_cod m pc = some ((25, n, a, 3, tb), nx)) (k1 : ¬ x < y → mj_T K d m a L S Z Q) (k2 : x < y → mj_T K d m nx L S Z Q) : mj_T K d m pc L (.inl y :: .inl x :: S) Z Q := by
  by_cases e : x < y
  · exact tw_step hc (by show mj_br 3 a nx x y L S Z = _; rw [mo_br3, if_pos e]) (k2 e)
  · exact tw_step hc (by show mj_br 3 a nx x y L S Z = _; rw [mo_br3, if_neg e]) (k1 e)
theorem tw_cgeT {Z : mj_Z} {x y : Int} (hc : mj_cod m pc = some ((25, n, a, 3, tb), nx)) (e : ¬ x < y) (k1 : mj_T K d m a L S Z Q) : mj_T K d m pc L (.inl y :: .inl x :: S) Z Q := tw_step hc (by show mj_br 3 a nx x y L S Z = _; rw [mo_br3, if_neg e]) k1
theorem tw_cgeF {Z : mj_Z} {x y : Int} (hc : mj_cod m pc = some ((25, n, a, 3, tb), nx)) (e : x < y) (k2 : mj_T K d m nx L S Z Q) : mj_T K d m pc L (.inl y :: .inl x :: S) Z Q := tw_step hc (by show mj_br 3 a nx x y L S Z = _; rw [mo_br3, if_pos e]) k2
theorem tw_zgt {Z : mj_Z} {x : Int} (hc : mj_cod m pc = some ((24, n, a, 4, tb), nx)) (k1 : 0 < x → mj_T K d m a L S Z Q) (k2 : ¬ 0 < x → mj_T K d m nx L S Z Q) : mj_T K d m pc L (.inl x :: S) Z Q := by
  by_cases e : 0 < x
  · exact tw_step hc (by show mj_br 4 a nx x 0 L S Z = _; rw [mo_br4, if_pos e]) (k1 e)
  · exact tw_step hc (by show mj_br 4 a nx x 0 L S Z = _; rw [mo_br4, if_neg e]) (k2 e)
theorem tw_zgtT {Z : mj_Z} {x : Int} (hc : mj_cod m pc = some ((24, n, a, 4, tb), nx)) (e : 0 < x) (k1 : mj_T K d m a L S Z Q) : mj_T K d m pc L (.inl x :: S) Z Q := tw_step hc (by show mj_br 4 a nx x 0 L S Z = _; rw [mo_br4, if_pos e]) k1
theorem tw_zgtF {Z : mj_Z} {x : Int} (hc : mj_cod m pc = some ((24, n, a, 4, tb), nx)) (e : ¬ 0 < x) (k2 : mj_T K d m nx L S Z Q) : mj_T K d m pc L (.inl x :: S) Z Q := tw_step hc (by show mj_br 4 a nx x 0 L S Z = _; rw [mo_br4, if_neg e]) k2
theorem tw_cgt {Z : mj_Z} {x y : Int} (hc : mj_cod m pc = some ((25, n, a, 4, tb), nx)) (k1 : y < x → mj_T K d m a L S Z Q) (k2 : ¬ y < x → mj_T K d m nx L S Z Q) : mj_T K d m pc L (.inl y :: .inl x :: S) Z Q := by
  by_cases e : y < x
  · exact tw_step hc (by show mj_br 4 a nx x y L S Z = _; rw [mo_br4, if_pos e]) (k1 e)
  · exact tw_step hc (by show mj_br 4 a nx x y L S Z = _; rw [mo_br4, if_neg e]) (k2 e)
theorem tw_cgtT {Z : mj_Z} {x y : Int} (hc : mj_cod m pc = some ((25, n, a, 4, tb), nx)) (e : y < x) (k1 : mj_T K d m a L S Z Q) : mj_T K d m pc L (.inl y :: .inl x :: S) Z Q := tw_step hc (by show mj_br 4 a nx x y L S Z = _; rw [mo_br4, if_pos e]) k1
theorem tw_cgtF {Z : mj_Z} {x y : Int} (hc : mj_cod m pc = some ((25, n, a, 4, tb), nx)) (e : ¬ y < x) (k2 : mj_T K d m nx L S Z Q) : mj_T K d m pc L (.inl y :: .inl x :: S) Z Q := tw_step hc (by show mj_br 4 a nx x y L S Z = _; rw [mo_br4, if_neg e]) k2
theorem tw_zle {Z : mj_Z} {x : Int} (hc : mj_cod m pc = some ((24, n, a, 5, tb), nx)) (k1 : ¬ 0 < x → mj_T K d m a L S Z Q) (k2 : 0 < x → mj_T K d m nx L S Z Q) : mj_T K d m pc L (.inl x :: S) Z Q := by
  by_cases e : 0 < x
  · exact tw_step hc (by show mj_br 5 a nx x 0 L S Z = _; rw [mo_br5, if_pos e]) (k2 e)
  · exact tw_step hc (by show mj_br 5 a nx x 0 L S Z = _; rw [mo_br5, if_neg e]) (k1 e)
theorem tw_zleT {Z : mj_Z} {x : Int} (hc : mj_cod m pc = some ((24, n, a, 5, tb), nx)) (e : ¬ 0 < x) (k1 : mj_T K d m a L S Z Q) : mj_T K d m pc L (.inl x :: S) Z Q := tw_step hc (by show mj_br 5 a nx x 0 L S Z = _; rw [mo_br5, if_neg e]) k1
theorem tw_zleF {Z : mj_Z} {x : Int} (hc : mj_cod m pc = some ((24, n, a, 5, tb), nx)) (e : 0 < x) (k2 : mj_T K d m nx L S Z Q) : mj_T K d m pc L (.inl x :: S) Z Q := tw_step hc (by show mj_br 5 a nx x 0 L S Z = _; rw [mo_br5, if_pos e]) k2
theorem tw_cle {Z : mj_Z} {x y : Int} (hc : mj_cod m pc = some ((25, n, a, 5, tb), nx)) (k1 : ¬ y < x → mj_T K d m a L S Z Q) (k2 : y < x → mj_T K d m nx L S Z Q) : mj_T K d m pc L (.inl y :: .inl x :: S) Z Q := by
  by_cases e : y < x
  · exact tw_step hc (by show mj_br 5 a nx x y L S Z = _; rw [mo_br5, if_pos e]) (k2 e)
  · exact tw_step hc (by show mj_br 5 a nx x y L S Z = _; rw [mo_br5, if_neg e]) (k1 e)
theorem tw_cleT {Z : mj_Z} {x y : Int} (hc : mj_cod m pc = some ((25, n, a, 5, tb), nx)) (e : ¬ y < x) (k1 : mj_T K d m a L S Z Q) : mj_T K d m pc L (.inl y :: .inl x :: S) Z Q := tw_step hc (by show mj_br 5 a nx x y L S Z = _; rw [mo_br5, if_neg e]) k1
theorem tw_cleF {Z : mj_Z} {x y : Int} (hc : mj_cod m pc = some ((25, n, a, 5, tb), nx)) (e : y < x) (k2 : mj_T K d m nx L S Z Q) : mj_T K d m pc L (.inl y :: .inl x :: S) Z Q := tw_step hc (by show mj_br 5 a nx x y L S Z = _; rw [mo_br5, if_pos e]) k2
theorem tw_goto {Z : mj_Z} (hc : mj_cod m pc = some ((26, n, a, b, tb), nx))  (kk : mj_T K d m a L S Z Q) : mj_T K d m pc L S Z Q := tw_step hc (by
  rfl) kk
theorem tw_sw {Z : mj_Z} {x : Int} (hc : mj_cod m pc = some ((27, n, a, b, tb), nx)) (kk : mj_T K d m (mj_pick x a tb) L S Z Q) : mj_T K d m pc L (.inl x :: S) Z Q := tw_step hc (by
  show mj_sw x a L S Z tb = _
  clear hc kk
  induction tb with
  | nil => rfl
  | cons p r ih =>
    obtain ⟨k, t⟩ := p
    rw [mo_sw1, mj_pick]
    by_cases e : x = k
    · rw [if_pos e, if_pos e]
    · rw [if_neg e, if_neg e, ih]) kk
theorem tw_pk0 {Z : mj_Z} {x : Int} {dd : Nat} (kk : mj_T K d m dd L S Z Q) : mj_T K d m (mj_pick x dd []) L S Z Q := kk
theorem tw_pk {Z : mj_Z} {x k : Int} {dd t : Nat} {r : List (Int × Nat)} (k1 : x = k → mj_T K d m t L S Z Q) (k2 : ¬ x = k → mj_T K d m (mj_pick x dd r) L S Z Q) : mj_T K d m (mj_pick x dd ((k, t) :: r)) L S Z Q := by
  rw [mj_pick]
  by_cases e : x = k
  · rw [if_pos e]; exact k1 e
  · rw [if_neg e]; exact k2 e
theorem tw_pkT {Z : mj_Z} {x k : Int} {dd t : Nat} {r : List (Int × Nat)} (e : x = k) (k1 : mj_T K d m t L S Z Q) : mj_T K d m (mj_pick x dd ((k, t) :: r)) L S Z Q := by
  rw [mj_pick, if_pos e]; exact k1
theorem tw_pkF {Z : mj_Z} {x k : Int} {dd t : Nat} {r : List (Int × Nat)} (e : ¬ x = k) (k2 : mj_T K d m (mj_pick x dd r) L S Z Q) : mj_T K d m (mj_pick x dd ((k, t) :: r)) L S Z Q := by
  rw [mj_pick, if_neg e]; exact k2
theorem tw_rv {Z : mj_Z} (hc : mj_cod m pc = some ((28, n, a, b, tb), nx)) (hq : Q (none) Z) : mj_T K d m pc L [] Z Q := tw_ret hc (rfl) hq
theorem tw_ri {Z : mj_Z} {x : Int} (hc : mj_cod m pc = some ((29, n, a, 0, tb), nx)) (hq : Q (some (.inl x)) Z) : mj_T K d m pc L [.inl x] Z Q := tw_ret hc (rfl) hq
theorem tw_rb {Z : mj_Z} {x : Int} (hc : mj_cod m pc = some ((29, n, a, 1, tb), nx)) (hz : x = 0 ∨ x = 1) (hq : Q (some (.inl x)) Z) : mj_T K d m pc L [.inl x] Z Q := tw_ret hc (by show (if x = 0 ∨ x = 1 then _ else none) = _; rw [if_pos hz]) hq
theorem tw_rl {Z : mj_Z} {x : Int64} (hc : mj_cod m pc = some ((30, n, a, b, tb), nx)) (hq : Q (some (.inr (.inl x))) Z) : mj_T K d m pc L [.inr (.inl x)] Z Q := tw_ret hc (rfl) hq
theorem tw_ra {Z : mj_Z} {w : Nat ⊕ Nat} (hc : mj_cod m pc = some ((31, n, a, b, tb), nx)) (hq : Q (some (.inr (.inr w))) Z) : mj_T K d m pc L [.inr (.inr w)] Z Q := tw_ret hc (rfl) hq
theorem tw_max {Z : mj_Z} {x y : Int} (hc : mj_cod m pc = some ((33, n, a, b, tb), nx)) (hS : Nat.ble (mj_cat S) 8 = true) (kk : mj_T K d m nx L (.inl (max x y) :: S) Z Q) : mj_T K d m pc L (.inl y :: .inl x :: S) Z Q := tw_step hc (by
  show (if mj_cat S ≤ 8 then mj_go nx L (.inl (max x y) :: S) Z else none) = _
  rw [if_pos (Nat.le_of_ble_eq_true hS)]) kk
theorem tw_min {Z : mj_Z} {x y : Int} (hc : mj_cod m pc = some ((34, n, a, b, tb), nx)) (hS : Nat.ble (mj_cat S) 8 = true) (kk : mj_T K d m nx L (.inl (min x y) :: S) Z Q) : mj_T K d m pc L (.inl y :: .inl x :: S) Z Q := tw_step hc (by
  show (if mj_cat S ≤ 8 then mj_go nx L (.inl (min x y) :: S) Z else none) = _
  rw [if_pos (Nat.le_of_ble_eq_true hS)]) kk
theorem tw_dupi {Z : mj_Z} {x : Int} (hc : mj_cod m pc = some ((41, n, a, b, tb), nx))  (kk : mj_T K d m nx L (.inl x :: .inl x :: S) Z Q) : mj_T K d m pc L (.inl x :: S) Z Q := tw_step hc (by
  rfl) kk
theorem tw_dupr {Z : mj_Z} {w : Nat ⊕ Nat} (hc : mj_cod m pc = some ((41, n, a, b, tb), nx))  (kk : mj_T K d m nx L (.inr (.inr w) :: .inr (.inr w) :: S) Z Q) : mj_T K d m pc L (.inr (.inr w) :: S) Z Q := tw_step hc (by
  rfl) kk
theorem tw_dup2 {Z : mj_Z} {x : Int} {w : Nat ⊕ Nat} (hc : mj_cod m pc = some ((42, n, a, b, tb), nx))  (kk : mj_T K d m nx L (.inl x :: .inr (.inr w) :: .inl x :: .inr (.inr w) :: S) Z Q) : mj_T K d m pc L (.inl x :: .inr (.inr w) :: S) Z Q := tw_step hc (by
  rfl) kk
theorem tw_dupx {Z : mj_Z} {x : Int} {w : Nat ⊕ Nat} (hc : mj_cod m pc = some ((43, n, a, b, tb), nx))  (kk : mj_T K d m nx L (.inl x :: .inr (.inr w) :: .inl x :: S) Z Q) : mj_T K d m pc L (.inl x :: .inr (.inr w) :: S) Z Q := tw_step hc (by
  rfl) kk
theorem tw_popi {Z : mj_Z} {x : Int} (hc : mj_cod m pc = some ((44, n, a, b, tb), nx))  (kk : mj_T K d m nx L S Z Q) : mj_T K d m pc L (.inl x :: S) Z Q := tw_step hc (by
  rfl) kk
theorem tw_i2l {Z : mj_Z} {x : Int} (hc : mj_cod m pc = some ((45, n, a, b, tb), nx))  (kk : mj_T K d m nx L (.inr (.inl (Int32.ofInt x).toInt64) :: S) Z Q) : mj_T K d m pc L (.inl x :: S) Z Q := tw_step hc (by
  rfl) kk
theorem tw_l2i {Z : mj_Z} {x : Int64} (hc : mj_cod m pc = some ((46, n, a, b, tb), nx))  (kk : mj_T K d m nx L (.inl x.toInt32.toInt :: S) Z Q) : mj_T K d m pc L (.inr (.inl x) :: S) Z Q := tw_step hc (by
  rfl) kk
theorem tw_i2b {Z : mj_Z} {x : Int} (hc : mj_cod m pc = some ((47, n, a, b, tb), nx))  (kk : mj_T K d m nx L (mj_i8 (Int32.ofInt x) :: S) Z Q) : mj_T K d m pc L (.inl x :: S) Z Q := tw_step hc (by
  rfl) kk
theorem tw_i2s {Z : mj_Z} {x : Int} (hc : mj_cod m pc = some ((48, n, a, b, tb), nx))  (kk : mj_T K d m nx L (mj_i16 (Int32.ofInt x) :: S) Z Q) : mj_T K d m pc L (.inl x :: S) Z Q := tw_step hc (by
  rfl) kk
theorem tw_lconst {Z : mj_Z} (hc : mj_cod m pc = some ((49, n, a, b, tb), nx))  (kk : mj_T K d m nx L (.inr (.inl (Int64.ofInt n)) :: S) Z Q) : mj_T K d m pc L S Z Q := tw_step hc (by
  rfl) kk
theorem tw_ladd {Z : mj_Z} {x y : Int64} (hc : mj_cod m pc = some ((50, n, a, b, tb), nx))  (kk : mj_T K d m nx L (.inr (.inl (x + y)) :: S) Z Q) : mj_T K d m pc L (.inr (.inl y) :: .inr (.inl x) :: S) Z Q := tw_step hc (by
  rfl) kk
theorem tw_lsub {Z : mj_Z} {x y : Int64} (hc : mj_cod m pc = some ((51, n, a, b, tb), nx))  (kk : mj_T K d m nx L (.inr (.inl (x - y)) :: S) Z Q) : mj_T K d m pc L (.inr (.inl y) :: .inr (.inl x) :: S) Z Q := tw_step hc (by
  rfl) kk
theorem tw_lmul {Z : mj_Z} {x y : Int64} (hc : mj_cod m pc = some ((52, n, a, b, tb), nx))  (kk : mj_T K d m nx L (.inr (.inl (x * y)) :: S) Z Q) : mj_T K d m pc L (.inr (.inl y) :: .inr (.inl x) :: S) Z Q := tw_step hc (by
  rfl) kk
theorem tw_land {Z : mj_Z} {x y : Int64} (hc : mj_cod m pc = some ((55, n, a, b, tb), nx))  (kk : mj_T K d m nx L (.inr (.inl (x &&& y)) :: S) Z Q) : mj_T K d m pc L (.inr (.inl y) :: .inr (.inl x) :: S) Z Q := tw_step hc (by
  rfl) kk
theorem tw_lor {Z : mj_Z} {x y : Int64} (hc : mj_cod m pc = some ((56, n, a, b, tb), nx))  (kk : mj_T K d m nx L (.inr (.inl (x ||| y)) :: S) Z Q) : mj_T K d m pc L (.inr (.inl y) :: .inr (.inl x) :: S) Z Q := tw_step hc (by
  rfl) kk
theorem tw_ldiv {Z : mj_Z} {x y : Int64} (hc : mj_cod m pc = some ((53, n, a, b, tb), nx)) (hy : ¬ y = 0) (kk : mj_T K d m nx L (.inr (.inl (x / y)) :: S) Z Q) : mj_T K d m pc L (.inr (.inl y) :: .inr (.inl x) :: S) Z Q := tw_step hc (by
  show (if y = 0 then none else mj_go nx L (.inr (.inl (x / y)) :: S) Z) = _
  rw [if_neg hy]) kk
theorem tw_lrem {Z : mj_Z} {x y : Int64} (hc : mj_cod m pc = some ((54, n, a, b, tb), nx)) (hy : ¬ y = 0) (kk : mj_T K d m nx L (.inr (.inl (x - x / y * y)) :: S) Z Q) : mj_T K d m pc L (.inr (.inl y) :: .inr (.inl x) :: S) Z Q := tw_step hc (by
  show (if y = 0 then none else mj_go nx L (.inr (.inl (x - x / y * y)) :: S) Z) = _
  rw [if_neg hy]) kk
theorem tw_lshl {Z : mj_Z} {x : Int64} {y : Int} (hc : mj_cod m pc = some ((57, n, a, b, tb), nx))  (kk : mj_T K d m nx L (.inr (.inl (x <<< ((Int32.ofInt y).toInt64 &&& 63))) :: S) Z Q) : mj_T K d m pc L (.inl y :: .inr (.inl x) :: S) Z Q := tw_step hc (by
  rfl) kk
theorem tw_lcmp {Z : mj_Z} {x y : Int64} (hc : mj_cod m pc = some ((58, n, a, b, tb), nx))  (kk : mj_T K d m nx L (.inl (if x > y then 1 else if x = y then 0 else -1) :: S) Z Q) : mj_T K d m pc L (.inr (.inl y) :: .inr (.inl x) :: S) Z Q := tw_step hc (by
  rfl) kk
theorem tw_gets {Z : mj_Z} (hc : mj_cod m pc = some ((59, n, a, b, tb), nx))  (kk : mj_T K d m nx L (.inr (.inr (.inr a)) :: S) Z Q) : mj_T K d m pc L S Z Q := tw_step hc (by
  rfl) kk
def pCp {α : Type} (f g : Nat → α) (i j n : Nat) : Nat → α := fun k => if j ≤ k ∧ k < j + n then f (i + (k - j)) else g k
theorem st_cpy {α : Type} (M : Nat → Nat → α) (l : List (Nat × (Nat → α))) (q i r j n : Nat) : mj_cpy (st M l) q i r j n = st M (sr l r (pCp (st M l q) (st M l r) i j n)) := by
  funext c k
  rw [st_sr]
  unfold mj_cpy pCp
  by_cases e : c = r
  · subst e; simp
  · simp [e]
theorem tw_acpi {l l' : List (Nat × (Nat → Int))} {q r u w i' j' n' : Nat} {i j k : Int} (hc : mj_cod m pc = some ((35, n, a, b, tb), nx)) (hq : mj_al h 1 q = some u) (hr : mj_al h 1 r = some w) (hi : i = (i' : Int)) (hj : j = (j' : Int)) (hn : k = (n' : Int)) (h1 : i' + n' ≤ u) (h2 : j' + n' ≤ w) (hS : Nat.ble (mj_cat S) 8 = true) (hl : sr l r (pCp (st M l q) (st M l r) i' j' n') = l') (kk : mj_T K d m nx L S (h, st M l', N) Q) : mj_T K d m pc L (.inl k :: .inl j :: .inr (.inr (.inl r)) :: .inl i :: .inr (.inr (.inl q)) :: S) (h, st M l, N) Q := tw_step hc (by
  subst hi hj hn
  show mj_acp nx L (.inl (n' : Int) :: .inl (j' : Int) :: .inr (.inr (.inl r)) :: .inl (i' : Int) :: .inr (.inr (.inl q)) :: S) (h, st M l, N) = _
  unfold mj_acp
  simp only [hq, hr]
  rw [if_pos (Nat.le_of_ble_eq_true hS), if_pos (by omega), Int.toNat_natCast, Int.toNat_natCast, Int.toNat_natCast, st_cpy, hl]) kk
theorem al12 {q u : Nat} (hq : mj_al h 2 q = some u) : mj_al h 1 q = none := by
  unfold mj_al at *
  cases hh : h[q]? with
  | none => rfl
  | some x =>
    obtain ⟨t, x1, x2⟩ := x
    rw [hh] at hq
    cases t with
    | zero => rfl
    | succ t =>
      simp only at hq ⊢
      by_cases e : t + 1 = 2
      · rw [if_neg (by omega)]
      · rw [if_neg e] at hq; cases hq
theorem tw_acpl {l l' : List (Nat × (Nat → Int64))} {q r u w i' j' n' : Nat} {i j k : Int} (hc : mj_cod m pc = some ((35, n, a, b, tb), nx)) (hq : mj_al h 2 q = some u) (hr : mj_al h 2 r = some w) (hi : i = (i' : Int)) (hj : j = (j' : Int)) (hn : k = (n' : Int)) (h1 : i' + n' ≤ u) (h2 : j' + n' ≤ w) (hS : Nat.ble (mj_cat S) 8 = true) (hl : sr l r (pCp (st N l q) (st N l r) i' j' n') = l') (kk : mj_T K d m nx L S (h, M, st N l') Q) : mj_T K d m pc L (.inl k :: .inl j :: .inr (.inr (.inl r)) :: .inl i :: .inr (.inr (.inl q)) :: S) (h, M, st N l) Q := tw_step hc (by
  subst hi hj hn
  show mj_acp nx L (.inl (n' : Int) :: .inl (j' : Int) :: .inr (.inr (.inl r)) :: .inl (i' : Int) :: .inr (.inr (.inl q)) :: S) (h, M, st N l) = _
  unfold mj_acp
  simp only [hq, hr, al12 hq, al12 hr]
  rw [if_pos (Nat.le_of_ble_eq_true hS), if_pos (by omega), Int.toNat_natCast, Int.toNat_natCast, Int.toNat_natCast, st_cpy, hl]) kk
theorem tw_call {m' k : Nat} {n0 : Int} {S' as : List mj_V} {Z : mj_Z} {Q' : Option mj_V → mj_Z → Prop} (hd : 0 < d) (hc : mj_cod m pc = some ((32, n0, m', k, tb), nx)) (hX : mj_X K (d - 1) m' as Z Q') (hS : as.reverse ++ S' = S) (hn : mj_nar m' k = as.length) (hcat : Nat.ble (mj_cat S') 8 = true) (hr : mj_rcv k m' Z.1 as = true) (hl : Nat.ble (mj_lay as).length (mj_ml m') = true)
    (kk : ∀ r Z', Q' r Z' → mj_T K d m nx L (r.toList ++ S') Z' Q) : mj_T K d m pc L S Z Q := by
  obtain ⟨e, rfl⟩ : ∃ e, d = e + 1 := ⟨d - 1, by omega⟩
  exact mj_call (d' := e) hX (Nat.le_refl _) hc hS.symm hn.symm (Nat.le_of_ble_eq_true hcat) hr (Nat.le_of_ble_eq_true hl) kk
/-- a call that only answers -/
theorem tw_callp {m' k : Nat} {n0 : Int} {S' as : List mj_V} {Z : mj_Z} {v : mj_V} (hd : 0 < d) (hc : mj_cod m pc = some ((32, n0, m', k, tb), nx)) (hX : mj_X K (d - 1) m' as Z (fun r Z' => r = some v ∧ Z' = Z)) (hS : as.reverse ++ S' = S) (hn : mj_nar m' k = as.length) (hcat : Nat.ble (mj_cat S') 8 = true) (hr : mj_rcv k m' Z.1 as = true) (hl : Nat.ble (mj_lay as).length (mj_ml m') = true)
    (kk : mj_T K d m nx L (v :: S') Z Q) : mj_T K d m pc L S Z Q := by
  refine tw_call hd hc hX hS hn hcat hr hl (fun r Z' hq => ?_)
  obtain ⟨rfl, rfl⟩ := hq
  exact kk
/-- a call that answers yes or no -/
theorem tw_callb {m' k : Nat} {n0 : Int} {S' as : List mj_V} {Z : mj_Z} {P : Prop} {dp : Decidable P} (hd : 0 < d) (hc : mj_cod m pc = some ((32, n0, m', k, tb), nx)) (hX : mj_X K (d - 1) m' as Z (fun r Z' => r = some (.inl (if P then 1 else 0)) ∧ Z' = Z)) (hS : as.reverse ++ S' = S) (hn : mj_nar m' k = as.length) (hcat : Nat.ble (mj_cat S') 8 = true) (hr : mj_rcv k m' Z.1 as = true) (hl : Nat.ble (mj_lay as).length (mj_ml m') = true)
    (k1 : P → mj_T K d m nx L (.inl 1 :: S') Z Q) (k2 : ¬ P → mj_T K d m nx L (.inl 0 :: S') Z Q) : mj_T K d m pc L S Z Q := by
  refine tw_call hd hc hX hS hn hcat hr hl (fun r Z' hq => ?_)
  obtain ⟨rfl, rfl⟩ := hq
  by_cases e : P
  · rw [if_pos e]; exact k1 e
  · rw [if_neg e]; exact k2 e
theorem tw_mg {l l2 l' : List (Nat × (Nat → Int))} (hm : mg l l2 = l') (kk : mj_T K d m pc L S (h, st M l', N) Q) : mj_T K d m pc L S (h, st (st M l) l2, N) Q := by
  rw [st_mg, hm]; exact kk
theorem tw_mgn {l l2 l' : List (Nat × (Nat → Int64))} (hm : mg l l2 = l') (kk : mj_T K d m pc L S (h, M, st N l') Q) : mj_T K d m pc L S (h, M, st (st N l) l2) Q := by
  rw [st_mg, hm]; exact kk
theorem tw_eqL {Z : mj_Z} (e : L = L') (kk : mj_T K d m pc L' S Z Q) : mj_T K d m pc L S Z Q := by rw [e]; exact kk
theorem tw_eqS {S' : List mj_V} {Z : mj_Z} (e : S = S') (kk : mj_T K d m pc L S' Z Q) : mj_T K d m pc L S Z Q := by rw [e]; exact kk
theorem tw_eqZ {Z Z' : mj_Z} (e : Z = Z') (kk : mj_T K d m pc L S Z' Q) : mj_T K d m pc L S Z Q := by rw [e]; exact kk
theorem e_c {α : Type} {x y : α} {l l' : List α} (h1 : x = y) (h2 : l = l') : x :: l = y :: l' := by rw [h1, h2]
theorem e_i {x y : Int} (h1 : x = y) : (some (.inl x) : Option mj_V) = some (.inl y) := by rw [h1]
theorem e_l {x y : Int64} (h1 : x = y) : (some (.inr (.inl x)) : Option mj_V) = some (.inr (.inl y)) := by rw [h1]
theorem tw_as {S : List mj_V} {M M2 : Nat → Nat → Int} {N N2 : Nat → Nat → Int64} (eM : M2 = M) (eN : N2 = N) (kk : mj_T K d m pc L S (h, M, N) Q) : mj_T K d m pc L S (h, M2, N2) Q := by rw [eM, eN]; exact kk
theorem tw_callbT {m' k : Nat} {n0 : Int} {S' as : List mj_V} {Z : mj_Z} {P : Prop} {dp : Decidable P} (hd : 0 < d) (hc : mj_cod m pc = some ((32, n0, m', k, tb), nx)) (hX : mj_X K (d - 1) m' as Z (fun r Z' => r = some (.inl (if P then 1 else 0)) ∧ Z' = Z)) (hS : as.reverse ++ S' = S) (hn : mj_nar m' k = as.length) (hcat : Nat.ble (mj_cat S') 8 = true) (hr : mj_rcv k m' Z.1 as = true) (hl : Nat.ble (mj_lay as).length (mj_ml m') = true) (hP : P)
    (k1 : mj_T K d m nx L (.inl 1 :: S') Z Q) : mj_T K d m pc L S Z Q := tw_callb hd hc hX hS hn hcat hr hl (fun _ => k1) (fun h => absurd hP h)
theorem tw_callbF {m' k : Nat} {n0 : Int} {S' as : List mj_V} {Z : mj_Z} {P : Prop} {dp : Decidable P} (hd : 0 < d) (hc : mj_cod m pc = some ((32, n0, m', k, tb), nx)) (hX : mj_X K (d - 1) m' as Z (fun r Z' => r = some (.inl (if P then 1 else 0)) ∧ Z' = Z)) (hS : as.reverse ++ S' = S) (hn : mj_nar m' k = as.length) (hcat : Nat.ble (mj_cat S') 8 = true) (hr : mj_rcv k m' Z.1 as = true) (hl : Nat.ble (mj_lay as).length (mj_ml m') = true) (hP : ¬ P)
    (k1 : mj_T K d m nx L (.inl 0 :: S') Z Q) : mj_T K d m pc L S Z Q := tw_callb hd hc hX hS hn hcat hr hl (fun h => absurd h hP) (fun _ => k1)
end TRules
