-- more rows for the symbolic run
section Rows2
variable {K : mj_C} {nx : Nat} {L : mj_L} {S : List mj_V} {h : List mj_S} {M : Nat → Nat → Int} {N : Nat → Nat → Int64}
theorem mo_get {ci j q : Nat} : mj_get ci j nx L (.inr (.inr (.inl q)) :: S) (h, M, N) = match mj_fk h q ci j with
    | some (.inl 1) => mj_go nx L (.inr (.inl (N q j)) :: S) (h, M, N)
    | some (.inl _) => mj_go nx L (.inl (M q j) :: S) (h, M, N)
    | some (.inr (some b)) => mj_go nx L (.inr (.inr (.inl b)) :: S) (h, M, N)
    | _ => none := rfl
theorem mo_put {q0 v : Int} {ci j q : Nat} : mj_put q0 ci j nx L (.inl v :: .inr (.inr (.inl q)) :: S) (h, M, N) = match mj_fk h q ci j with
    | some (.inl 0) => if q0 = 0 then mj_go nx L S (h, mj_u M q j v, N) else none
    | some (.inl 2) => if q0 = 2 then (if v = 0 ∨ v = 1 then mj_go nx L S (h, mj_u M q j v, N) else none) else none
    | _ => none := rfl
theorem mo_putl2 {q0 : Int} {v : Int64} {ci j q : Nat} : mj_put q0 ci j nx L (.inr (.inl v) :: .inr (.inr (.inl q)) :: S) (h, M, N) = match mj_fk h q ci j with
    | some (.inl 1) => if q0 = 1 then mj_go nx L S (h, M, mj_u N q j v) else none
    | _ => none := rfl
theorem mo_ial {q : Nat} {i : Int} : mj_iald K nx L (.inl i :: .inr (.inr (.inl q)) :: S) (h, M, N) = match mj_al h 1 q with
    | some n => if 0 ≤ i ∧ i < n then mj_go nx L (.inl (M q i.toNat) :: S) (h, M, N) else none
    | none => none := rfl
theorem mo_ias {q : Nat} {i v : Int} : mj_iast nx L (.inl v :: .inl i :: .inr (.inr (.inl q)) :: S) (h, M, N) = match mj_al h 1 q with
    | some n => if 0 ≤ i ∧ i < n then mj_go nx L S (h, mj_u M q i.toNat v, N) else none
    | none => none := rfl
theorem mo_lal {q : Nat} {i : Int} : mj_lald nx L (.inl i :: .inr (.inr (.inl q)) :: S) (h, M, N) = match mj_al h 2 q with
    | some n => if 0 ≤ i ∧ i < n then mj_go nx L (.inr (.inl (N q i.toNat)) :: S) (h, M, N) else none
    | none => none := rfl
theorem mo_las {q : Nat} {i : Int} {v : Int64} : mj_last nx L (.inr (.inl v) :: .inl i :: .inr (.inr (.inl q)) :: S) (h, M, N) = match mj_al h 2 q with
    | some n => if 0 ≤ i ∧ i < n then mj_go nx L S (h, M, mj_u N q i.toNat v) else none
    | none => none := rfl
theorem mo_ale {q : Nat} : mj_alen K nx L (.inr (.inr (.inl q)) :: S) (h, M, N) = match mj_len h q with
    | some n => if n < 1000000 then mj_go nx L (.inl (n : Int) :: S) (h, M, N) else none
    | none => none := rfl
theorem mb_ig {κ : Nat → mj_L → List mj_V → mj_Z → Prop} {ρ : Option mj_V → Prop} {c : Prop} (dc : Decidable c) {x : Option mj_A} {pc : Nat} {Z : mj_Z} : mj_bd κ ρ (@ite _ c dc x (mj_go pc L S Z)) = ((c → mj_bd κ ρ x) ∧ (¬ c → κ pc L S Z)) := mb_ite dc
theorem mb_ii {κ : Nat → mj_L → List mj_V → mj_Z → Prop} {ρ : Option mj_V → Prop} {c c2 : Prop} (dc : Decidable c) (dc2 : Decidable c2) {x u v : Option mj_A} : mj_bd κ ρ (@ite _ c dc x (@ite _ c2 dc2 u v)) = ((c → mj_bd κ ρ x) ∧ (¬ c → mj_bd κ ρ (@ite _ c2 dc2 u v))) := mb_ite dc
theorem mb_ni {κ : Nat → mj_L → List mj_V → mj_Z → Prop} {ρ : Option mj_V → Prop} {c : Prop} (dc : Decidable c) {pc : Nat} {Z : mj_Z} : mj_bd κ ρ (@ite _ c dc none (mj_go pc L S Z)) = (¬ c ∧ κ pc L S Z) := by
  by_cases h : c
  · simp [h, mb_none]
  · simp [h, mb_go]
def mj_cn (K : mj_C) (m : Nat) (st : List Nat) (κ : Nat → mj_L → List mj_V → mj_Z → Prop) (ρ2 : Option mj_V → mj_Z → Prop) (k pc : Nat) (L : mj_L) (S : List mj_V) (Z : mj_Z) : Prop := if pc ∈ st then κ pc L S Z else mj_wp K m st κ ρ2 k pc L S Z
theorem mn_i {m : Nat} {st : List Nat} {κ : Nat → mj_L → List mj_V → mj_Z → Prop} {ρ2 : Option mj_V → mj_Z → Prop} {k pc : Nat} {Z : mj_Z} (h : st.contains pc = true) : mj_cn K m st κ ρ2 k pc L S Z = κ pc L S Z := by
  unfold mj_cn
  rw [if_pos (by simpa using h)]
theorem mn_o {m : Nat} {st : List Nat} {κ : Nat → mj_L → List mj_V → mj_Z → Prop} {ρ2 : Option mj_V → mj_Z → Prop} {k pc : Nat} {Z : mj_Z} (h : st.contains pc = false) : mj_cn K m st κ ρ2 k pc L S Z = mj_wp K m st κ ρ2 k pc L S Z := by
  unfold mj_cn
  rw [if_neg (by simpa using h)]
theorem mw_t {m : Nat} {st : List Nat} {κ : Nat → mj_L → List mj_V → mj_Z → Prop} {ρ2 : Option mj_V → mj_Z → Prop} {k pc : Nat} {Z : mj_Z} {op : Nat} {mr : Int × Nat × Nat × List (Int × Nat)} (hc : mj_cod m pc = some ((op, mr), nx)) (h32 : ¬ op = 32) : mj_wp K m st κ ρ2 (k + 1) pc L S Z = mj_bd (mj_cn K m st κ ρ2 k) (fun r => ρ2 r Z) (mj_step K nx (op, mr) L S Z) := mw_s hc h32
def mj_i7 (n : Int) (k nx : Nat) (L : mj_L) (S : List mj_V) (Z : mj_Z) : Option (Option mj_V) → Option mj_A
  | some (some (.inl x)) => if k < L.length then (if mj_rg (x + n) then mj_go nx (mj_st1 L k (.inl (x + n))) S Z else none) else none
  | _ => none
theorem mo_7 {n : Int} {k : Nat} {Z : mj_Z} : mj_o7 n k nx L S Z = mj_i7 n k nx L S Z L[k]? := by
  unfold mj_o7
  generalize L[k]? = o
  rcases o with _ | _ | x | x
  · rfl
  · rfl
  · rfl
  · rfl
theorem mo_i7 {n x : Int} {k : Nat} {Z : mj_Z} (hl : k < L.length) : mj_i7 n k nx L S Z (some (some (.inl x))) = if mj_rg (x + n) then mj_go nx (mj_st1 L k (.inl (x + n))) S Z else none := by
  show (if k < L.length then _ else _) = _
  rw [if_pos hl]
theorem mo_4 {k : Nat} {x : Int} {Z : mj_Z} (hl : k < L.length) : mj_o4 k nx L (.inl x :: S) Z = mj_go nx (mj_st1 L k (.inl x)) S Z := by rw [mo_o4, if_pos hl]
theorem mo_5 {k : Nat} {w : Nat ⊕ Nat} {Z : mj_Z} (hl : k < L.length) : mj_o5 k nx L (.inr (.inr w) :: S) Z = mj_go nx (mj_st1 L k (.inr (.inr w))) S Z := by rw [mo_o5, if_pos hl]
theorem mo_6 {k : Nat} {x : Int64} {Z : mj_Z} (hl : k + 1 < L.length) : mj_o6 k nx L (.inr (.inl x) :: S) Z = mj_go nx (mj_st2 L k (.inr (.inl x))) S Z := by rw [mo_o6, if_pos hl]
/-- a call that changes nothing -/
theorem mc_pure {d d' m pc m' k nx : Nat} {n0 : Int} {tb : List (Int × Nat)} {L : mj_L} {S S' as : List mj_V} {v : mj_V} {Q : Option mj_V → mj_Z → Prop} (hX : mj_X K d' m' as (h, M, N) (fun r Z' => r = some v ∧ Z' = (h, M, N))) (hd : d' ≤ d) (hc : mj_cod m pc = some ((32, n0, m', k, tb), nx)) (hS : S = as.reverse ++ S') (hn : as.length = mj_nar m' k) (hcat : mj_cat S' ≤ 8) (hr : mj_rcv k m' h as = true) (hl : (mj_lay as).length ≤ mj_ml m')
    (kk : mj_T K (d + 1) m nx L (v :: S') (h, M, N) Q) : mj_T K (d + 1) m pc L S (h, M, N) Q := by
  refine mj_call hX hd hc hS hn hcat hr hl (fun r Z' hq => ?_)
  obtain ⟨rfl, rfl⟩ := hq
  exact kk
end Rows2
