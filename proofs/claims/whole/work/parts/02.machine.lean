-- THE MINI MACHINE: the code of the claim run over integers, with cells by number (the n-th that was made), constants apart
abbrev mj_V : Type := Int ⊕ (Int64 ⊕ (Nat ⊕ Nat))
abbrev mj_L : Type := List (Option mj_V)
abbrev mj_K : Type := Nat ⊕ Option Nat
abbrev mj_S : Type := Nat × Nat × List mj_K
abbrev mj_Z : Type := List mj_S × (Nat → Nat → Int) × (Nat → Nat → Int64)
abbrev mj_A : Type := (Nat × mj_L × List mj_V × mj_Z) ⊕ (Option mj_V ⊕ (Nat × List mj_V × List mj_V))
abbrev mj_C : Type := Nat → Nat × (Nat → Int)
abbrev mj_rg (x : Int) : Prop := -2147483648 ≤ x ∧ x ≤ 2147483647
def mj_w1 : mj_V → Nat
  | .inr (.inl _) => 2
  | _ => 1
def mj_cat : List mj_V → Nat
  | [] => 0
  | v :: S => mj_w1 v + mj_cat S
def mj_mi (m : Nat) : mj_MT := mj_mt.getD m (0, "", "", ⟨#[]⟩, 0, none, 0, false)
def mj_ci (m : Nat) : Nat := (mj_mi m).1
def mj_yy (m : Nat) : MethodName := ⟨mj_own (mj_mi m).1, (mj_mi m).2.1, (mj_mi m).2.2.1⟩
def mj_bb (m : Nat) : ByteArray := (mj_mi m).2.2.2.1
def mj_ml (m : Nat) : Nat := (mj_mi m).2.2.2.2.1
def mj_rt (m : Nat) : Option FieldType := (mj_mi m).2.2.2.2.2.1
def mj_np (m : Nat) : Nat := (mj_mi m).2.2.2.2.2.2.1
def mj_st (m : Nat) : Bool := (mj_mi m).2.2.2.2.2.2.2
def mj_u {α : Type} (M : Nat → Nat → α) (a j : Nat) (v : α) : Nat → Nat → α := fun b k => if b = a ∧ k = j then v else M b k
def mj_go (pc : Nat) (L : mj_L) (S : List mj_V) (Z : mj_Z) : Option mj_A := some (.inl (pc, L, S, Z))
def mj_kill (L : mj_L) : Nat → mj_L
  | 0 => L
  | k + 1 => match L[k]? with
    | some (some (.inr (.inl _))) => L.set k none
    | _ => L
def mj_st1 (L : mj_L) (i : Nat) (v : mj_V) : mj_L := (mj_kill L i).set i (some v)
def mj_st2 (L : mj_L) (i : Nat) (v : mj_V) : mj_L := ((mj_kill L i).set i (some v)).set (i + 1) none
def mj_fk (h : List mj_S) (a ci j : Nat) : Option mj_K := match h[a]? with
  | some (0, c, ks) => if c = ci then ks[j]? else none
  | _ => none
def mj_al (h : List mj_S) (t a : Nat) : Option Nat := match h[a]? with
  | some (t' + 1, n, _) => if t' + 1 = t then some n else none
  | _ => none
def mj_len (h : List mj_S) (a : Nat) : Option Nat := match h[a]? with
  | some (t + 1, n, _) => if t < 4 then some n else none
  | _ => none
def mj_rr (h : List mj_S) (a i : Nat) : Option Nat := match h[a]? with
  | some (t + 3, n, ks) => if t < 2 ∧ i < n then (match ks[i]? with
    | some (.inr (some b)) => some b
    | _ => none) else none
  | _ => none
def mj_o1 (k nx : Nat) (L : mj_L) (S : List mj_V) (Z : mj_Z) : Option mj_A := match L[k]? with
  | some (some (.inl x)) => mj_go nx L (.inl x :: S) Z
  | _ => none
def mj_o2 (k nx : Nat) (L : mj_L) (S : List mj_V) (Z : mj_Z) : Option mj_A := match L[k]? with
  | some (some (.inr (.inr w))) => mj_go nx L (.inr (.inr w) :: S) Z
  | _ => none
def mj_o3 (k nx : Nat) (L : mj_L) (S : List mj_V) (Z : mj_Z) : Option mj_A := match L[k]? with
  | some (some (.inr (.inl x))) => mj_go nx L (.inr (.inl x) :: S) Z
  | _ => none
def mj_o4 (k nx : Nat) (L : mj_L) (S : List mj_V) (Z : mj_Z) : Option mj_A := match S with
  | .inl x :: S => if k < L.length then mj_go nx (mj_st1 L k (.inl x)) S Z else none
  | _ => none
def mj_o5 (k nx : Nat) (L : mj_L) (S : List mj_V) (Z : mj_Z) : Option mj_A := match S with
  | .inr (.inr w) :: S => if k < L.length then mj_go nx (mj_st1 L k (.inr (.inr w))) S Z else none
  | _ => none
def mj_o6 (k nx : Nat) (L : mj_L) (S : List mj_V) (Z : mj_Z) : Option mj_A := match S with
  | .inr (.inl x) :: S => if k + 1 < L.length then mj_go nx (mj_st2 L k (.inr (.inl x))) S Z else none
  | _ => none
def mj_o7 (n : Int) (k nx : Nat) (L : mj_L) (S : List mj_V) (Z : mj_Z) : Option mj_A := match L[k]? with
  | some (some (.inl x)) => if k < L.length then (if mj_rg (x + n) then mj_go nx (mj_st1 L k (.inl (x + n))) S Z else none) else none
  | _ => none
def mj_bin (f : Int → Int → Int) (nx : Nat) (L : mj_L) (S : List mj_V) (Z : mj_Z) : Option mj_A := match S with
  | .inl y :: .inl x :: S => if mj_rg (f x y) then mj_go nx L (.inl (f x y) :: S) Z else none
  | _ => none
def mj_dv (f : Int → Int → Int) (nx : Nat) (L : mj_L) (S : List mj_V) (Z : mj_Z) : Option mj_A := match S with
  | .inl y :: .inl x :: S => if 0 < y then mj_go nx L (.inl (f x y) :: S) Z else none
  | _ => none
def mj_neg (nx : Nat) (L : mj_L) (S : List mj_V) (Z : mj_Z) : Option mj_A := match S with
  | .inl x :: S => if mj_rg (-x) then mj_go nx L (.inl (-x) :: S) Z else none
  | _ => none
def mj_and (nx : Nat) (L : mj_L) (S : List mj_V) (Z : mj_Z) : Option mj_A := match S with
  | .inl y :: .inl x :: S => if y = 63 then mj_go nx L (.inl (x % 64) :: S) Z else if (y = 0 ∨ y = 1) ∧ (x = 0 ∨ x = 1) then mj_go nx L (.inl (x * y) :: S) Z else none
  | _ => none
def mj_get (ci j nx : Nat) (L : mj_L) (S : List mj_V) (Z : mj_Z) : Option mj_A := match S with
  | .inr (.inr (.inl a)) :: S => match mj_fk Z.1 a ci j with
    | some (.inl 1) => mj_go nx L (.inr (.inl (Z.2.2 a j)) :: S) Z
    | some (.inl _) => mj_go nx L (.inl (Z.2.1 a j) :: S) Z
    | some (.inr (some b)) => mj_go nx L (.inr (.inr (.inl b)) :: S) Z
    | _ => none
  | _ => none
def mj_put (q : Int) (ci j nx : Nat) (L : mj_L) (S : List mj_V) (Z : mj_Z) : Option mj_A := match S with
  | .inl v :: .inr (.inr (.inl a)) :: S => match mj_fk Z.1 a ci j with
    | some (.inl 0) => if q = 0 then mj_go nx L S (Z.1, mj_u Z.2.1 a j v, Z.2.2) else none
    | some (.inl 2) => if q = 2 then (if v = 0 ∨ v = 1 then mj_go nx L S (Z.1, mj_u Z.2.1 a j v, Z.2.2) else none) else none
    | _ => none
  | .inr (.inl v) :: .inr (.inr (.inl a)) :: S => match mj_fk Z.1 a ci j with
    | some (.inl 1) => if q = 1 then mj_go nx L S (Z.1, Z.2.1, mj_u Z.2.2 a j v) else none
    | _ => none
  | _ => none
def mj_putF (ci j nx : Nat) (L : mj_L) (S : List mj_V) (Z : mj_Z) : Option mj_A := match S with
  | .inr (.inr (.inl b)) :: .inr (.inr (.inl a)) :: S => match Z.1[a]? with
    | some (0, c, ks) => if c = ci then (match ks[j]? with
      | some (.inr _) => mj_go nx L S (Z.1.set a (0, c, ks.set j (.inr (some b))), Z.2)
      | _ => none) else none
    | _ => none
  | _ => none
def mj_iald (K : mj_C) (nx : Nat) (L : mj_L) (S : List mj_V) (Z : mj_Z) : Option mj_A := match S with
  | .inl i :: .inr (.inr (.inl a)) :: S => match mj_al Z.1 1 a with
    | some n => if 0 ≤ i ∧ i < n then mj_go nx L (.inl (Z.2.1 a i.toNat) :: S) Z else none
    | none => none
  | .inl i :: .inr (.inr (.inr k)) :: S => if k < 4 then (if 0 ≤ i ∧ i < (K k).1 then mj_go nx L (.inl ((K k).2 i.toNat) :: S) Z else none) else none
  | _ => none
def mj_iast (nx : Nat) (L : mj_L) (S : List mj_V) (Z : mj_Z) : Option mj_A := match S with
  | .inl v :: .inl i :: .inr (.inr (.inl a)) :: S => match mj_al Z.1 1 a with
    | some n => if 0 ≤ i ∧ i < n then mj_go nx L S (Z.1, mj_u Z.2.1 a i.toNat v, Z.2.2) else none
    | none => none
  | _ => none
def mj_lald (nx : Nat) (L : mj_L) (S : List mj_V) (Z : mj_Z) : Option mj_A := match S with
  | .inl i :: .inr (.inr (.inl a)) :: S => match mj_al Z.1 2 a with
    | some n => if 0 ≤ i ∧ i < n then mj_go nx L (.inr (.inl (Z.2.2 a i.toNat)) :: S) Z else none
    | none => none
  | _ => none
def mj_last (nx : Nat) (L : mj_L) (S : List mj_V) (Z : mj_Z) : Option mj_A := match S with
  | .inr (.inl v) :: .inl i :: .inr (.inr (.inl a)) :: S => match mj_al Z.1 2 a with
    | some n => if 0 ≤ i ∧ i < n then mj_go nx L S (Z.1, Z.2.1, mj_u Z.2.2 a i.toNat v) else none
    | none => none
  | _ => none
def mj_aald (nx : Nat) (L : mj_L) (S : List mj_V) (Z : mj_Z) : Option mj_A := match S with
  | .inl i :: .inr (.inr (.inl a)) :: S => if 0 ≤ i then (match mj_rr Z.1 a i.toNat with
    | some b => mj_go nx L (.inr (.inr (.inl b)) :: S) Z
    | none => none) else none
  | _ => none
def mj_aast (nx : Nat) (L : mj_L) (S : List mj_V) (Z : mj_Z) : Option mj_A := match S with
  | .inr (.inr (.inl b)) :: .inl i :: .inr (.inr (.inl a)) :: S => match Z.1[a]?, Z.1[b]? with
    | some (4, n, ks), some (0, 7, _) => if 0 ≤ i ∧ i < n ∧ i.toNat < ks.length then mj_go nx L S (Z.1.set a (4, n, ks.set i.toNat (.inr (some b))), Z.2) else none
    | _, _ => none
  | _ => none
def mj_alen (K : mj_C) (nx : Nat) (L : mj_L) (S : List mj_V) (Z : mj_Z) : Option mj_A := match S with
  | .inr (.inr (.inl a)) :: S => match mj_len Z.1 a with
    | some n => if n < 1000000 then mj_go nx L (.inl (n : Int) :: S) Z else none
    | none => none
  | .inr (.inr (.inr k)) :: S => if k < 4 then (if (K k).1 < 1000000 then mj_go nx L (.inl ((K k).1 : Int) :: S) Z else none) else none
  | _ => none
def mj_cmp (c : Nat) (x y : Int) : Prop := match c with
  | 0 => x = y
  | 1 => ¬ x = y
  | 2 => x < y
  | 3 => y ≤ x
  | 4 => y < x
  | _ => x ≤ y
def mj_br (c t nx : Nat) (x y : Int) (L : mj_L) (S : List mj_V) (Z : mj_Z) : Option mj_A := match c with
  | 0 => if x = y then mj_go t L S Z else mj_go nx L S Z
  | 1 => if x = y then mj_go nx L S Z else mj_go t L S Z
  | 2 => if x < y then mj_go t L S Z else mj_go nx L S Z
  | 3 => if x < y then mj_go nx L S Z else mj_go t L S Z
  | 4 => if y < x then mj_go t L S Z else mj_go nx L S Z
  | 5 => if y < x then mj_go nx L S Z else mj_go t L S Z
  | _ => none
def mj_if (c t nx : Nat) (L : mj_L) (S : List mj_V) (Z : mj_Z) : Option mj_A := match S with
  | .inl x :: S => mj_br c t nx x 0 L S Z
  | _ => none
def mj_ic (c t nx : Nat) (L : mj_L) (S : List mj_V) (Z : mj_Z) : Option mj_A := match S with
  | .inl y :: .inl x :: S => mj_br c t nx x y L S Z
  | _ => none
def mj_sw (x : Int) (d : Nat) (L : mj_L) (S : List mj_V) (Z : mj_Z) : List (Int × Nat) → Option mj_A
  | [] => mj_go d L S Z
  | (k, t) :: r => if x = k then mj_go t L S Z else mj_sw x d L S Z r
def mj_swi (tb : List (Int × Nat)) (d : Nat) (L : mj_L) (S : List mj_V) (Z : mj_Z) : Option mj_A := match S with
  | .inl x :: S => mj_sw x d L S Z tb
  | _ => none
def mj_rt0 (S : List mj_V) : Option mj_A := match S with
  | [] => some (.inr (.inl none))
  | _ => none
def mj_rti (b : Nat) (S : List mj_V) : Option mj_A := match S with
  | [.inl x] => if b = 0 then some (.inr (.inl (some (.inl x)))) else if x = 0 ∨ x = 1 then some (.inr (.inl (some (.inl x)))) else none
  | _ => none
def mj_rtl (S : List mj_V) : Option mj_A := match S with
  | [.inr (.inl x)] => some (.inr (.inl (some (.inr (.inl x)))))
  | _ => none
def mj_rta (S : List mj_V) : Option mj_A := match S with
  | [.inr (.inr w)] => some (.inr (.inl (some (.inr (.inr w)))))
  | _ => none
def mj_rcv (k m' : Nat) (h : List mj_S) (as : List mj_V) : Bool := if k = 1 then true else match as with
  | .inr (.inr (.inl a)) :: _ => match h[a]? with
    | some (0, c, _) => c == mj_ci m'
    | _ => false
  | _ => false
def mj_nar (m' k : Nat) : Nat := mj_np m' + (if k = 1 then 0 else 1)
def mj_inv (m' k : Nat) (S : List mj_V) (Z : mj_Z) : Option mj_A :=
  if mj_nar m' k ≤ S.length ∧ mj_cat (S.drop (mj_nar m' k)) ≤ 8 ∧ mj_rcv k m' Z.1 (S.take (mj_nar m' k)).reverse = true then some (.inr (.inr (m', (S.take (mj_nar m' k)).reverse, S.drop (mj_nar m' k)))) else none
def mj_mx (f : Int → Int → Int) (nx : Nat) (L : mj_L) (S : List mj_V) (Z : mj_Z) : Option mj_A := match S with
  | .inl y :: .inl x :: S => if mj_cat S ≤ 8 then mj_go nx L (.inl (f x y) :: S) Z else none
  | _ => none
def mj_cpy {α : Type} (M : Nat → Nat → α) (a i b j n : Nat) : Nat → Nat → α := fun c k => if c = b ∧ j ≤ k ∧ k < j + n then M a (i + (k - j)) else M c k
def mj_acp (nx : Nat) (L : mj_L) (S : List mj_V) (Z : mj_Z) : Option mj_A := match S with
  | .inl n :: .inl j :: .inr (.inr (.inl b)) :: .inl i :: .inr (.inr (.inl a)) :: S =>
    if mj_cat S ≤ 8 then (match mj_al Z.1 1 a, mj_al Z.1 1 b, mj_al Z.1 2 a, mj_al Z.1 2 b with
    | some na, some nb, _, _ => if 0 ≤ i ∧ 0 ≤ j ∧ 0 ≤ n ∧ i + n ≤ na ∧ j + n ≤ nb then mj_go nx L S (Z.1, mj_cpy Z.2.1 a i.toNat b j.toNat n.toNat, Z.2.2) else none
    | _, _, some na, some nb => if 0 ≤ i ∧ 0 ≤ j ∧ 0 ≤ n ∧ i + n ≤ na ∧ j + n ≤ nb then mj_go nx L S (Z.1, Z.2.1, mj_cpy Z.2.2 a i.toNat b j.toNat n.toNat) else none
    | _, _, _, _ => none) else none
  | _ => none
def mj_k0 (ci : Nat) : List mj_K := (mj_fT.getD ci []).map fun f => if f.2.1 = "I" then .inl 0 else if f.2.1 = "J" then .inl 1 else if f.2.1 = "Z" then .inl 2 else .inr none
def mj_zr {α : Type} (M : Nat → Nat → α) (n : Nat) (z : α) : Nat → Nat → α := fun b k => if n ≤ b then z else M b k
def mj_new (ci nx : Nat) (L : mj_L) (S : List mj_V) (Z : mj_Z) : Option mj_A := mj_go nx L (.inr (.inr (.inl Z.1.length)) :: S) (Z.1 ++ [(0, ci, mj_k0 ci)], mj_zr Z.2.1 Z.1.length 0, mj_zr Z.2.2 Z.1.length 0)
def mj_nwa (t nx : Nat) (L : mj_L) (S : List mj_V) (Z : mj_Z) : Option mj_A := match S with
  | .inl n :: S => if 0 ≤ n ∧ n ≤ 100000 then mj_go nx L (.inr (.inr (.inl Z.1.length)) :: S) (Z.1 ++ [(t, n.toNat, [])], mj_zr Z.2.1 Z.1.length 0, mj_zr Z.2.2 Z.1.length 0) else none
  | _ => none
def mj_nwr (nx : Nat) (L : mj_L) (S : List mj_V) (Z : mj_Z) : Option mj_A := match S with
  | .inl n :: S => if 0 ≤ n ∧ n ≤ 100000 then mj_go nx L (.inr (.inr (.inl Z.1.length)) :: S) (Z.1 ++ [(4, n.toNat, List.replicate n.toNat (.inr none))], mj_zr Z.2.1 Z.1.length 0, mj_zr Z.2.2 Z.1.length 0) else none
  | _ => none
def mj_nwm (nx : Nat) (L : mj_L) (S : List mj_V) (Z : mj_Z) : Option mj_A := match S with
  | .inl k :: .inl n :: S => if 0 ≤ n ∧ n ≤ 1000 ∧ 0 ≤ k ∧ k ≤ 1000 then mj_go nx L (.inr (.inr (.inl Z.1.length)) :: S) (Z.1 ++ (3, n.toNat, (List.range n.toNat).map (fun i => .inr (some (Z.1.length + 1 + i)))) :: List.replicate n.toNat (1, k.toNat, []), mj_zr Z.2.1 Z.1.length 0, mj_zr Z.2.2 Z.1.length 0) else none
  | _ => none
def mj_dup (nx : Nat) (L : mj_L) (S : List mj_V) (Z : mj_Z) : Option mj_A := match S with
  | v :: S => if mj_w1 v = 1 then mj_go nx L (v :: v :: S) Z else none
  | _ => none
def mj_dup2 (nx : Nat) (L : mj_L) (S : List mj_V) (Z : mj_Z) : Option mj_A := match S with
  | v :: w :: S => if mj_w1 v = 1 ∧ mj_w1 w = 1 then mj_go nx L (v :: w :: v :: w :: S) Z else none
  | _ => none
def mj_dupx (nx : Nat) (L : mj_L) (S : List mj_V) (Z : mj_Z) : Option mj_A := match S with
  | v :: w :: S => if mj_w1 v = 1 ∧ mj_w1 w = 1 then mj_go nx L (v :: w :: v :: S) Z else none
  | _ => none
def mj_pop (nx : Nat) (L : mj_L) (S : List mj_V) (Z : mj_Z) : Option mj_A := match S with
  | v :: S => if mj_w1 v = 1 then mj_go nx L S Z else none
  | _ => none
def mj_i2 (f : Int32 → mj_V) (nx : Nat) (L : mj_L) (S : List mj_V) (Z : mj_Z) : Option mj_A := match S with
  | .inl x :: S => mj_go nx L (f (Int32.ofInt x) :: S) Z
  | _ => none
def mj_l2 (nx : Nat) (L : mj_L) (S : List mj_V) (Z : mj_Z) : Option mj_A := match S with
  | .inr (.inl x) :: S => mj_go nx L (.inl x.toInt32.toInt :: S) Z
  | _ => none
def mj_lbin (f : Int64 → Int64 → Int64) (nx : Nat) (L : mj_L) (S : List mj_V) (Z : mj_Z) : Option mj_A := match S with
  | .inr (.inl y) :: .inr (.inl x) :: S => mj_go nx L (.inr (.inl (f x y)) :: S) Z
  | _ => none
def mj_ldv (f : Int64 → Int64 → Int64) (nx : Nat) (L : mj_L) (S : List mj_V) (Z : mj_Z) : Option mj_A := match S with
  | .inr (.inl y) :: .inr (.inl x) :: S => if y = 0 then none else mj_go nx L (.inr (.inl (f x y)) :: S) Z
  | _ => none
def mj_lsh (nx : Nat) (L : mj_L) (S : List mj_V) (Z : mj_Z) : Option mj_A := match S with
  | .inl y :: .inr (.inl x) :: S => mj_go nx L (.inr (.inl (x <<< ((Int32.ofInt y).toInt64 &&& 63))) :: S) Z
  | _ => none
def mj_lcm (nx : Nat) (L : mj_L) (S : List mj_V) (Z : mj_Z) : Option mj_A := match S with
  | .inr (.inl y) :: .inr (.inl x) :: S => mj_go nx L (.inl (if x > y then 1 else if x = y then 0 else -1) :: S) Z
  | _ => none
def mj_oin (nx : Nat) (L : mj_L) (S : List mj_V) (Z : mj_Z) : Option mj_A := match S with
  | .inr (.inr (.inl _)) :: S => if mj_cat S ≤ 8 then mj_go nx L S Z else none
  | _ => none
def mj_i8 (x : Int32) : mj_V := .inl x.toInt8.toInt32.toInt
def mj_i16 (x : Int32) : mj_V := .inl x.toInt16.toInt32.toInt
def mj_i64 (x : Int32) : mj_V := .inr (.inl x.toInt64)
def mj_step (K : mj_C) (nx : Nat) (mi : mj_MI) (L : mj_L) (S : List mj_V) (Z : mj_Z) : Option mj_A := match mi with
  | (op, n, a, b, tb) => match op with
    | 0 => mj_go nx L (.inl n :: S) Z
    | 1 => mj_o1 a nx L S Z
    | 2 => mj_o2 a nx L S Z
    | 3 => mj_o3 a nx L S Z
    | 4 => mj_o4 a nx L S Z
    | 5 => mj_o5 a nx L S Z
    | 6 => mj_o6 a nx L S Z
    | 7 => mj_o7 n a nx L S Z
    | 8 => mj_bin (fun x y => x + y) nx L S Z
    | 9 => mj_bin (fun x y => x - y) nx L S Z
    | 10 => mj_bin (fun x y => x * y) nx L S Z
    | 11 => mj_dv (fun x y => x.tdiv y) nx L S Z
    | 12 => mj_dv (fun x y => x.tmod y) nx L S Z
    | 13 => mj_neg nx L S Z
    | 14 => mj_and nx L S Z
    | 15 => mj_get a b nx L S Z
    | 16 => mj_put n a b nx L S Z
    | 17 => mj_iald K nx L S Z
    | 18 => mj_iast nx L S Z
    | 19 => mj_lald nx L S Z
    | 20 => mj_last nx L S Z
    | 21 => mj_aald nx L S Z
    | 22 => mj_aast nx L S Z
    | 23 => mj_alen K nx L S Z
    | 24 => mj_if b a nx L S Z
    | 25 => mj_ic b a nx L S Z
    | 26 => mj_go a L S Z
    | 27 => mj_swi tb a L S Z
    | 28 => mj_rt0 S
    | 29 => mj_rti b S
    | 30 => mj_rtl S
    | 31 => mj_rta S
    | 32 => mj_inv a b S Z
    | 33 => mj_mx (fun x y => max x y) nx L S Z
    | 34 => mj_mx (fun x y => min x y) nx L S Z
    | 35 => mj_acp nx L S Z
    | 36 => mj_new a nx L S Z
    | 37 => mj_nwa 1 nx L S Z
    | 38 => mj_nwa 2 nx L S Z
    | 39 => mj_nwr nx L S Z
    | 40 => mj_nwm nx L S Z
    | 41 => mj_dup nx L S Z
    | 42 => mj_dup2 nx L S Z
    | 43 => mj_dupx nx L S Z
    | 44 => mj_pop nx L S Z
    | 45 => mj_i2 mj_i64 nx L S Z
    | 46 => mj_l2 nx L S Z
    | 47 => mj_i2 mj_i8 nx L S Z
    | 48 => mj_i2 mj_i16 nx L S Z
    | 49 => mj_go nx L (.inr (.inl (Int64.ofInt n)) :: S) Z
    | 50 => mj_lbin (fun x y => x + y) nx L S Z
    | 51 => mj_lbin (fun x y => x - y) nx L S Z
    | 52 => mj_lbin (fun x y => x * y) nx L S Z
    | 53 => mj_ldv (fun x y => x / y) nx L S Z
    | 54 => mj_ldv (fun x y => x - x / y * y) nx L S Z
    | 55 => mj_lbin (fun x y => x &&& y) nx L S Z
    | 56 => mj_lbin (fun x y => x ||| y) nx L S Z
    | 57 => mj_lsh nx L S Z
    | 58 => mj_lcm nx L S Z
    | 59 => mj_go nx L (.inr (.inr (.inr a)) :: S) Z
    | 60 => mj_oin nx L S Z
    | 62 => mj_putF a b nx L S Z
    | _ => none
def mj_lay : List mj_V → mj_L
  | [] => []
  | .inr (.inl x) :: vs => some (.inr (.inl x)) :: none :: mj_lay vs
  | v :: vs => some v :: mj_lay vs
def mj_ent (m : Nat) (as : List mj_V) : mj_L := mj_lay as ++ List.replicate (mj_ml m - (mj_lay as).length) none
/-- n: steps, d: depth of calls -/
def mj_run (K : mj_C) : Nat → Nat → Nat → Nat → mj_L → List mj_V → mj_Z → Option (Option mj_V × mj_Z)
  | 0, _, _, _, _, _, _ => none
  | n + 1, d, m, pc, L, S, Z => match mj_cod m pc with
    | none => none
    | some (mi, nx) => match mj_step K nx mi L S Z with
      | none => none
      | some (.inl (pc', L', S', Z')) => mj_run K n d m pc' L' S' Z'
      | some (.inr (.inl r)) => some (r, Z)
      | some (.inr (.inr (m', as, S'))) => match d with
        | 0 => none
        | d' + 1 => if (mj_lay as).length ≤ mj_ml m' then (match mj_run K n d' m' 0 (mj_ent m' as) [] Z with
          | none => none
          | some (r, Z') => mj_run K n d m nx L (r.toList ++ S') Z') else none
theorem mj_run_mono (K : mj_C) : ∀ (n n' d d' m pc : Nat) (L : mj_L) (S : List mj_V) (Z : mj_Z) (x : Option mj_V × mj_Z), n ≤ n' → d ≤ d' → mj_run K n d m pc L S Z = some x → mj_run K n' d' m pc L S Z = some x := by
  intro n
  induction n with
  | zero => intro n' d d' m pc L S Z x _ _ h; simp [mj_run] at h
  | succ n ih =>
    intro n' d d' m pc L S Z x hn hd h
    obtain ⟨k, rfl⟩ : ∃ k, n' = k + 1 := ⟨n' - 1, by omega⟩
    have hk : n ≤ k := by omega
    rw [mj_run] at h ⊢
    cases hc : mj_cod m pc with
    | none => rw [hc] at h; simp at h
    | some q =>
      obtain ⟨mi, nx⟩ := q
      rw [hc] at h
      simp only at h ⊢
      cases hs : mj_step K nx mi L S Z with
      | none => rw [hs] at h; simp at h
      | some a =>
        rw [hs] at h
        rcases a with ⟨pc', L', S', Z'⟩ | r | ⟨m', as, S'⟩
        · simp only at h ⊢
          exact ih k d d' m pc' L' S' Z' x hk hd h
        · exact h
        · simp only at h ⊢
          cases d with
          | zero => simp at h
          | succ d =>
            obtain ⟨e, rfl⟩ : ∃ e, d' = e + 1 := ⟨d' - 1, by omega⟩
            simp only at h ⊢
            by_cases hl : (mj_lay as).length ≤ mj_ml m'
            · rw [if_pos hl] at h ⊢
              cases hr : mj_run K n d m' 0 (mj_ent m' as) [] Z with
              | none => rw [hr] at h; simp at h
              | some y =>
                obtain ⟨r, Z'⟩ := y
                rw [hr] at h
                rw [ih k d e m' 0 _ _ _ _ hk (by omega) hr]
                exact ih k (d + 1) (e + 1) m nx L _ Z' x hk hd h
            · rw [if_neg hl] at h; simp at h
/-- from here it returns, and what comes back is as Q says -/
def mj_T (K : mj_C) (d m pc : Nat) (L : mj_L) (S : List mj_V) (Z : mj_Z) (Q : Option mj_V → mj_Z → Prop) : Prop := ∃ (n : Nat) (r : Option mj_V) (Z' : mj_Z), mj_run K n d m pc L S Z = some (r, Z') ∧ Q r Z'
/-- a call, from its entry -/
def mj_X (K : mj_C) (d m : Nat) (as : List mj_V) (Z : mj_Z) (Q : Option mj_V → mj_Z → Prop) : Prop := mj_T K d m 0 (mj_ent m as) [] Z Q
theorem mj_T_deep {K : mj_C} {d d' m pc : Nat} {L : mj_L} {S : List mj_V} {Z : mj_Z} {Q : Option mj_V → mj_Z → Prop} (hd : d ≤ d') (h : mj_T K d m pc L S Z Q) : mj_T K d' m pc L S Z Q := by
  obtain ⟨n, r, Z', h1, h2⟩ := h
  exact ⟨n, r, Z', mj_run_mono K n n d d' m pc L S Z _ (Nat.le_refl _) hd h1, h2⟩
theorem mj_T_post {K : mj_C} {d m pc : Nat} {L : mj_L} {S : List mj_V} {Z : mj_Z} {Q Q' : Option mj_V → mj_Z → Prop} (h : mj_T K d m pc L S Z Q) (hq : ∀ r Z', Q r Z' → Q' r Z') : mj_T K d m pc L S Z Q' := by
  obtain ⟨n, r, Z', h1, h2⟩ := h
  exact ⟨n, r, Z', h1, hq r Z' h2⟩
def mj_bd (κ : Nat → mj_L → List mj_V → mj_Z → Prop) (ρ : Option mj_V → Prop) : Option mj_A → Prop
  | some (.inl (pc, L, S, Z)) => κ pc L S Z
  | some (.inr (.inl r)) => ρ r
  | _ => False
/-- n instructions at most, every way, up to a stop, a call or the return -/
def mj_wp (K : mj_C) (m : Nat) (st : List Nat) (κ : Nat → mj_L → List mj_V → mj_Z → Prop) (ρ : Option mj_V → mj_Z → Prop) : Nat → Nat → mj_L → List mj_V → mj_Z → Prop
  | 0, pc, L, S, Z => κ pc L S Z
  | n + 1, pc, L, S, Z => match mj_cod m pc with
    | none => False
    | some ((32, _), _) => κ pc L S Z
    | some (mi, nx) => mj_bd (fun pc' L' S' Z' => if pc' ∈ st then κ pc' L' S' Z' else mj_wp K m st κ ρ n pc' L' S' Z') (fun r => ρ r Z) (mj_step K nx mi L S Z)
theorem mj_wp_ok {K : mj_C} {m : Nat} {st : List Nat} {d : Nat} {Q : Option mj_V → mj_Z → Prop} : ∀ (n pc : Nat) (L : mj_L) (S : List mj_V) (Z : mj_Z), mj_wp K m st (fun pc L S Z => mj_T K d m pc L S Z Q) Q n pc L S Z → mj_T K d m pc L S Z Q := by
  intro n
  induction n with
  | zero => intro pc L S Z h; exact h
  | succ n ih =>
    intro pc L S Z h
    rw [mj_wp] at h
    cases hc : mj_cod m pc with
    | none => rw [hc] at h; exact h.elim
    | some q =>
      obtain ⟨mi, nx⟩ := q
      rw [hc] at h
      have key : mj_bd (fun pc' L' S' Z' => if pc' ∈ st then mj_T K d m pc' L' S' Z' Q else mj_wp K m st (fun pc L S Z => mj_T K d m pc L S Z Q) Q n pc' L' S' Z') (fun r => Q r Z) (mj_step K nx mi L S Z) → mj_T K d m pc L S Z Q := by
        intro h
        cases hs : mj_step K nx mi L S Z with
        | none => rw [hs] at h; exact h.elim
        | some a =>
          rw [hs] at h
          rcases a with ⟨pc', L', S', Z'⟩ | r | ⟨m', as, S'⟩
          · have h1 : mj_T K d m pc' L' S' Z' Q := by
              simp only [mj_bd] at h
              split at h
              · exact h
              · exact ih _ _ _ _ h
            obtain ⟨k, r, Z1, h2, h3⟩ := h1
            refine ⟨k + 1, r, Z1, ?_, h3⟩
            rw [mj_run, hc]
            simp only [hs]
            exact h2
          · refine ⟨1, r, Z, ?_, h⟩
            rw [mj_run, hc]
            simp only [hs]
          · exact h.elim
      obtain ⟨op, mr⟩ := mi
      by_cases h32 : op = 32
      · subst h32
        exact h
      · refine key ?_
        split at h
        · cases ‹some _ = none›
        · rename_i he
          cases he
          exact absurd rfl h32
        · rename_i he
          cases he
          exact h
theorem mj_go_on {K : mj_C} {d m pc : Nat} {L : mj_L} {S : List mj_V} {Z : mj_Z} {Q : Option mj_V → mj_Z → Prop} (n : Nat) (st : List Nat) (h : mj_wp K m st (fun pc L S Z => mj_T K d m pc L S Z Q) Q n pc L S Z) : mj_T K d m pc L S Z Q := mj_wp_ok n pc L S Z h
theorem mj_call {K : mj_C} {d d' m pc m' k nx : Nat} {n0 : Int} {tb : List (Int × Nat)} {L : mj_L} {S S' as : List mj_V} {Z : mj_Z} {Q Q' : Option mj_V → mj_Z → Prop} (hX : mj_X K d' m' as Z Q') (hd : d' ≤ d) (hc : mj_cod m pc = some ((32, n0, m', k, tb), nx)) (hS : S = as.reverse ++ S') (hn : as.length = mj_nar m' k) (hcat : mj_cat S' ≤ 8) (hr : mj_rcv k m' Z.1 as = true) (hl : (mj_lay as).length ≤ mj_ml m')
    (kk : ∀ r Z', Q' r Z' → mj_T K (d + 1) m nx L (r.toList ++ S') Z' Q) : mj_T K (d + 1) m pc L S Z Q := by
  obtain ⟨n1, r, Z1, h1, h2⟩ := mj_T_deep hd hX
  obtain ⟨n2, r2, Z2, h3, h4⟩ := kk r Z1 h2
  have hdrop : S.drop (mj_nar m' k) = S' := by rw [hS, ← hn, ← List.length_reverse]; simp
  have htake : (S.take (mj_nar m' k)).reverse = as := by rw [hS, ← hn, ← List.length_reverse]; simp
  have hle : mj_nar m' k ≤ S.length := by rw [hS, ← hn]; simp
  refine ⟨max n1 n2 + 1, r2, Z2, ?_, h4⟩
  rw [mj_run, hc]
  have hs : mj_step K nx (32, n0, m', k, tb) L S Z = some (.inr (.inr (m', as, S'))) := by
    show mj_inv m' k S Z = _
    unfold mj_inv
    rw [hdrop, htake, if_pos ⟨hle, hcat, hr⟩]
  simp only [hs]
  rw [if_pos hl, mj_run_mono K n1 _ d d m' 0 _ _ _ _ (Nat.le_max_left _ _) (Nat.le_refl _) h1]
  exact mj_run_mono K n2 _ _ _ _ _ _ _ _ _ (Nat.le_max_right _ _) (Nat.le_refl _) h3
