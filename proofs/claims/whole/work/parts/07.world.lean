-- THE WORLD: what the mini machine's state is in the machine's heap: cell number i at the address z0 + i
def mj_rl (z0 : Nat) (cst : Nat → Nat) : mj_V → Value
  | .inl x => .int (Int32.ofInt x)
  | .inr (.inl x) => .long x
  | .inr (.inr (.inl a)) => .ref (z0 + a)
  | .inr (.inr (.inr k)) => .ref (cst k)
def mj_fv (z0 : Nat) (M : Nat → Nat → Int) (N : Nat → Nat → Int64) (i j : Nat) : mj_K → Value
  | .inl 1 => .long (N i j)
  | .inl _ => .int (Int32.ofInt (M i j))
  | .inr none => .null
  | .inr (some b) => .ref (z0 + b)
def mj_rf (z0 : Nat) (ks : List mj_K) (j : Nat) : Option Nat := match ks[j]? with
  | some (.inr (some b)) => some (z0 + b)
  | _ => none
def mj_el (z0 : Nat) (dA : Nat → ClassId) (M : Nat → Nat → Int) (N : Nat → Nat → Int64) (i : Nat) : mj_S → va_E
  | (0, ci, ks) => .inr (ci, ks.mapIdx (fun j k => mj_fv z0 M N i j k))
  | (1, n, _) => .inl (dA 1, n, .inl fun j => Int32.ofInt (M i j))
  | (2, n, _) => .inl (dA 2, n, .inr (.inl fun j => N i j))
  | (t + 3, n, ks) => .inl (dA (t + 3), n, .inr (.inr (.inr (.inr fun j => mj_rf z0 ks j))))
def mj_W (z0 : Nat) (dA : Nat → ClassId) (Z : mj_Z) : va_W := Z.1.mapIdx fun i sh => (z0 + i, mj_el z0 dA Z.2.1 Z.2.2 i sh)
theorem mj_W_at {z0 : Nat} {dA : Nat → ClassId} {Z : mj_Z} (i : Nat) : (mj_W z0 dA Z)[i]? = (Z.1[i]?).map fun sh => (z0 + i, mj_el z0 dA Z.2.1 Z.2.2 i sh) := by
  unfold mj_W
  rw [List.getElem?_mapIdx]
theorem mj_W_get {z0 : Nat} {dA : Nat → ClassId} {Z : mj_Z} {i : Nat} {sh : mj_S} (h : Z.1[i]? = some sh) : (mj_W z0 dA Z)[i]? = some (z0 + i, mj_el z0 dA Z.2.1 Z.2.2 i sh) := by
  rw [mj_W_at, h]; rfl
theorem mj_W_len {z0 : Nat} {dA : Nat → ClassId} {Z : mj_Z} : (mj_W z0 dA Z).length = Z.1.length := by
  unfold mj_W
  rw [List.length_mapIdx]
theorem mj_W_set {z0 : Nat} {dA : Nat → ClassId} {Z Z' : mj_Z} {a : Nat} {sh : mj_S} {e : va_E} (hl : Z'.1.length = Z.1.length) (ha : Z'.1[a]? = some sh) (he : e = mj_el z0 dA Z'.2.1 Z'.2.2 a sh) (ho : ∀ i, i ≠ a → ∀ sh, Z.1[i]? = some sh → Z'.1[i]? = some sh ∧ mj_el z0 dA Z'.2.1 Z'.2.2 i sh = mj_el z0 dA Z.2.1 Z.2.2 i sh) : (mj_W z0 dA Z).set a (z0 + a, e) = mj_W z0 dA Z' := by
  have hlt : a < Z.1.length := by rw [← hl]; exact (List.getElem?_eq_some_iff.mp ha).1
  apply List.ext_getElem?
  intro i
  by_cases hi : i = a
  · subst hi
    rw [List.getElem?_set_self (by rw [mj_W_len]; exact hlt), mj_W_get ha, he]
  · rw [List.getElem?_set_ne (fun h => hi h.symm), mj_W_at, mj_W_at]
    cases hz : Z.1[i]? with
    | none =>
      have h1 : Z.1.length ≤ i := List.getElem?_eq_none_iff.mp hz
      rw [List.getElem?_eq_none (by rw [hl]; exact h1)]
      rfl
    | some sh =>
      obtain ⟨h1, h2⟩ := ho i hi sh hz
      rw [h1]
      simp only [Option.map_some]
      rw [h2]
theorem mj_el_u {z0 : Nat} {dA : Nat → ClassId} {M : Nat → Nat → Int} {N : Nat → Nat → Int64} {M' : Nat → Nat → Int} {N' : Nat → Nat → Int64} {i : Nat} {sh : mj_S} (h1 : ∀ j, M' i j = M i j) (h2 : ∀ j, N' i j = N i j) : mj_el z0 dA M' N' i sh = mj_el z0 dA M N i sh := by
  have e1 : M' i = M i := funext h1
  have e2 : N' i = N i := funext h2
  obtain ⟨t, n, ks⟩ := sh
  match t with
  | 0 =>
    have e3 : (fun j k => mj_fv z0 M' N' i j k) = (fun j k => mj_fv z0 M N i j k) := by
      funext j k
      rcases k with k | k
      · match k with
        | 0 => simp [mj_fv, e1]
        | 1 => simp [mj_fv, e2]
        | k + 2 => simp [mj_fv, e1]
      · cases k <;> rfl
    simp only [mj_el, e3]
  | 1 => simp only [mj_el, e1]
  | 2 => simp only [mj_el, e2]
  | t + 3 => rfl
theorem mj_u_ne {α : Type} {M : Nat → Nat → α} {a k : Nat} {v : α} {i : Nat} (h : i ≠ a) (j : Nat) : mj_u M a k v i j = M i j := if_neg (fun q => h q.1)
theorem mj_D {z0 : Nat} {dA : Nat → ClassId} {Z : mj_Z} : va_D (fun q : Nat => z0 ≤ q) (mj_W z0 dA Z) := by
  refine ⟨fun i j p q hi hj hpq => ?_, fun k q hk => ?_⟩
  · rw [mj_W_at] at hi hj
    cases h1 : Z.1[i]? with
    | none => rw [h1] at hi; cases hi
    | some x =>
      cases h2 : Z.1[j]? with
      | none => rw [h2] at hj; cases hj
      | some y =>
        rw [h1] at hi; rw [h2] at hj
        cases hi; cases hj
        have h3 : z0 + i = z0 + j := hpq
        omega
  · rw [mj_W_at] at hk
    cases h1 : Z.1[k]? with
    | none => rw [h1] at hk; cases hk
    | some x => rw [h1] at hk; cases hk; exact Nat.le_add_right _ _
def mj_Wd (z0 : Nat) (dD : va_G) (dA : Nat → ClassId) (Z : mj_Z) (H : Heap) : Prop := H.size = z0 + Z.1.length ∧ va_P dD mj_cl (mj_W z0 dA Z) H
-- the locals
def mj_LH (z0 : Nat) (cst : Nat → Nat) (ls : Array Slot) (nL : Nat) (L : mj_L) : Prop := L.length = nL ∧ ls.size = nL ∧ lv_wf ls ∧ ∀ (i : Nat) (v : mj_V), L[i]? = some (some v) → ls[i]? = some (.val (mj_rl z0 cst v))
def mj_al2 (z0 : Nat) (cst : Nat → Nat) (L : mj_L) : List (Nat × Value) := (List.range L.length).filterMap fun i => match L[i]? with
  | some (some v) => some (i, mj_rl z0 cst v)
  | _ => none
theorem mj_al2_in {z0 : Nat} {cst : Nat → Nat} {L : mj_L} {i : Nat} {v : mj_V} (h : L[i]? = some (some v)) : (i, mj_rl z0 cst v) ∈ mj_al2 z0 cst L := by
  unfold mj_al2
  refine List.mem_filterMap.mpr ⟨i, List.mem_range.mpr (List.getElem?_eq_some_iff.mp h).1, ?_⟩
  rw [h]
theorem mj_al2_of {z0 : Nat} {cst : Nat → Nat} {L : mj_L} {q : Nat × Value} (h : q ∈ mj_al2 z0 cst L) : ∃ v, L[q.1]? = some (some v) ∧ q.2 = mj_rl z0 cst v := by
  unfold mj_al2 at h
  obtain ⟨i, -, h2⟩ := List.mem_filterMap.mp h
  split at h2
  · rename_i v hv
    cases h2
    exact ⟨v, hv, rfl⟩
  · cases h2
theorem mj_LH_has {z0 : Nat} {cst : Nat → Nat} {ls : Array Slot} {nL : Nat} {L : mj_L} (h : mj_LH z0 cst ls nL L) : lv_has ls nL (mj_al2 z0 cst L) := by
  refine ⟨h.2.1, h.2.2.1, fun q hq => ?_⟩
  obtain ⟨v, h1, h2⟩ := mj_al2_of hq
  rw [h2]
  exact h.2.2.2 _ _ h1
theorem mj_cat_rl (z0 : Nat) (cst : Nat → Nat) (v : mj_V) : (mj_rl z0 cst v).category = mj_w1 v := by
  rcases v with x | x | x | x <;> rfl
theorem mj_kill_len (L : mj_L) (i : Nat) : (mj_kill L i).length = L.length := by
  cases i with
  | zero => rfl
  | succ k =>
    simp only [mj_kill]
    split
    · simp
    · rfl
theorem mj_kill_get {L : mj_L} {i j : Nat} {u : mj_V} (h : (mj_kill L i)[j]? = some (some u)) : L[j]? = some (some u) ∧ ¬ (j + 1 = i ∧ mj_w1 u = 2) := by
  cases i with
  | zero => exact ⟨h, fun q => by omega⟩
  | succ k =>
    simp only [mj_kill] at h
    split at h
    · rename_i x hx
      by_cases e : j = k
      · subst e
        rw [List.getElem?_set_self (List.getElem?_eq_some_iff.mp hx).1] at h
        cases h
      · rw [List.getElem?_set_ne (fun q => e q.symm)] at h
        exact ⟨h, fun q => e (by omega)⟩
    · rename_i hx
      refine ⟨h, fun q => ?_⟩
      have e : j = k := by omega
      subst e
      rcases u with x | x | x
      · simp [mj_w1] at q
      · exact hx x h
      · simp [mj_w1] at q
theorem mj_LH_st1 {z0 : Nat} {cst : Nat → Nat} {ls' : Array Slot} {nL i : Nat} {L : mj_L} {v : mj_V} (hL : L.length = nL) (hi : i < nL) (h : lv_has ls' nL ((i, mj_rl z0 cst v) :: (mj_al2 z0 cst L).filter (fun q => !(q.1 == i) && !(q.1 + 1 == i && q.2.category == 2)))) : mj_LH z0 cst ls' nL (mj_st1 L i v) := by
  refine ⟨by unfold mj_st1; rw [List.length_set, mj_kill_len, hL], h.1, h.2.1, fun j u hj => ?_⟩
  unfold mj_st1 at hj
  by_cases e : j = i
  · subst e
    rw [List.getElem?_set_self (by rw [mj_kill_len, hL]; exact hi)] at hj
    cases hj
    exact h.2.2 _ List.mem_cons_self
  · rw [List.getElem?_set_ne (fun q => e q.symm)] at hj
    obtain ⟨h1, h2⟩ := mj_kill_get hj
    refine h.2.2 (j, mj_rl z0 cst u) (List.mem_cons_of_mem _ (List.mem_filter.mpr ⟨mj_al2_in h1, ?_⟩))
    simp only [mj_cat_rl, Bool.and_eq_true, Bool.not_eq_true', beq_eq_false_iff_ne, Bool.and_eq_false_iff]
    refine ⟨e, ?_⟩
    by_cases e2 : j + 1 = i
    · exact Or.inr (fun q => h2 ⟨e2, q⟩)
    · exact Or.inl e2
theorem mj_LH_st2 {z0 : Nat} {cst : Nat → Nat} {ls' : Array Slot} {nL i : Nat} {L : mj_L} {v : mj_V} (hL : L.length = nL) (hi : i + 1 < nL) (h : lv_has ls' nL ((i, mj_rl z0 cst v) :: (mj_al2 z0 cst L).filter (fun q => !(q.1 == i) && (!(q.1 == i + 1) && !(q.1 + 1 == i && q.2.category == 2))))) : mj_LH z0 cst ls' nL (mj_st2 L i v) := by
  refine ⟨by unfold mj_st2; rw [List.length_set, List.length_set, mj_kill_len, hL], h.1, h.2.1, fun j u hj => ?_⟩
  unfold mj_st2 at hj
  by_cases e1 : j = i + 1
  · subst e1
    rw [List.getElem?_set_self (by rw [List.length_set, mj_kill_len, hL]; exact hi)] at hj
    cases hj
  · rw [List.getElem?_set_ne (fun q => e1 q.symm)] at hj
    by_cases e : j = i
    · subst e
      rw [List.getElem?_set_self (by rw [mj_kill_len, hL]; omega)] at hj
      cases hj
      exact h.2.2 _ List.mem_cons_self
    · rw [List.getElem?_set_ne (fun q => e q.symm)] at hj
      obtain ⟨h1, h2⟩ := mj_kill_get hj
      refine h.2.2 (j, mj_rl z0 cst u) (List.mem_cons_of_mem _ (List.mem_filter.mpr ⟨mj_al2_in h1, ?_⟩))
      simp only [mj_cat_rl, Bool.and_eq_true, Bool.not_eq_true', beq_eq_false_iff_ne, Bool.and_eq_false_iff]
      refine ⟨e, e1, ?_⟩
      by_cases e2 : j + 1 = i
      · exact Or.inr (fun q => h2 ⟨e2, q⟩)
      · exact Or.inl e2
theorem mj_lay_args (z0 : Nat) (cst : Nat → Nat) : ∀ (vs : List mj_V) (i j : Nat) (u : mj_V), (mj_lay vs)[j]? = some (some u) → (i + j, mj_rl z0 cst u) ∈ lv_args i (vs.map (mj_rl z0 cst))
  | [], i, j, u, h => by simp [mj_lay] at h
  | .inl x :: vs, i, j, u, h => by
    cases j with
    | zero => simp [mj_lay] at h; subst h; exact List.mem_cons_self
    | succ j =>
      have h1 : (mj_lay vs)[j]? = some (some u) := by simpa [mj_lay] using h
      have := mj_lay_args z0 cst vs (i + 1) j u h1
      rw [show i + (j + 1) = i + 1 + j by omega]
      exact List.mem_cons_of_mem _ this
  | .inr (.inl x) :: vs, i, j, u, h => by
    match j with
    | 0 => simp [mj_lay] at h; subst h; exact List.mem_cons_self
    | 1 => simp [mj_lay] at h
    | j + 2 =>
      have h1 : (mj_lay vs)[j]? = some (some u) := by simpa [mj_lay] using h
      have := mj_lay_args z0 cst vs (i + 2) j u h1
      rw [show i + (j + 2) = i + 2 + j by omega]
      exact List.mem_cons_of_mem _ this
  | .inr (.inr x) :: vs, i, j, u, h => by
    cases j with
    | zero => simp [mj_lay] at h; subst h; exact List.mem_cons_self
    | succ j =>
      have h1 : (mj_lay vs)[j]? = some (some u) := by simpa [mj_lay] using h
      have := mj_lay_args z0 cst vs (i + 1) j u h1
      rw [show i + (j + 1) = i + 1 + j by omega]
      rcases x with x | x <;> exact List.mem_cons_of_mem _ this
theorem mj_lay_len (z0 : Nat) (cst : Nat → Nat) : ∀ vs : List mj_V, (lg_sl (vs.map (mj_rl z0 cst))).length = (mj_lay vs).length
  | [] => rfl
  | .inl x :: vs => by
    have := mj_lay_len z0 cst vs
    simp [lg_sl, mj_lay, mj_rl, Value.category] at this ⊢
    omega
  | .inr (.inl x) :: vs => by
    have := mj_lay_len z0 cst vs
    simp [lg_sl, mj_lay, mj_rl, Value.category] at this ⊢
    omega
  | .inr (.inr (.inl x)) :: vs => by
    have := mj_lay_len z0 cst vs
    simp [lg_sl, mj_lay, mj_rl, Value.category] at this ⊢
    omega
  | .inr (.inr (.inr x)) :: vs => by
    have := mj_lay_len z0 cst vs
    simp [lg_sl, mj_lay, mj_rl, Value.category] at this ⊢
    omega
theorem mj_LH_ent {z0 : Nat} {cst : Nat → Nat} {m : Nat} {as : List mj_V} (h : (mj_lay as).length ≤ mj_ml m) : mj_LH z0 cst ((lg_sl (as.map (mj_rl z0 cst)) ++ List.replicate (mj_ml m - (lg_sl (as.map (mj_rl z0 cst))).length) Slot.unset).toArray) (mj_ml m) (mj_ent m as) := by
  have h0 := lv_entry (as.map (mj_rl z0 cst)) (n := mj_ml m) (by rw [mj_lay_len]; exact h)
  refine ⟨by unfold mj_ent; rw [List.length_append, List.length_replicate]; omega, h0.1, h0.2.1, fun j u hj => ?_⟩
  unfold mj_ent at hj
  by_cases hl : j < (mj_lay as).length
  · rw [List.getElem?_append_left hl] at hj
    have := mj_lay_args z0 cst as 0 j u hj
    rw [Nat.zero_add] at this
    exact h0.2.2 _ this
  · rw [List.getElem?_append_right (by omega)] at hj
    have := List.mem_of_getElem? hj
    have := (List.mem_replicate.mp this).2
    cases this
-- in range
def mj_okV : mj_V → Prop
  | .inl x => mj_rg x
  | _ => True
def mj_okZ (Z : mj_Z) : Prop := ∀ a j, mj_rg (Z.2.1 a j)
def mj_okL (L : mj_L) : Prop := ∀ (i : Nat) (v : mj_V), L[i]? = some (some v) → mj_okV v
def mj_nc (Z : mj_Z) : Nat := Z.1.length
def mj_sz : mj_S → Nat
  | (0, _, ks) => ks.length
  | (_, n, _) => n
def mj_sm : List mj_S → Nat
  | [] => 0
  | x :: r => mj_sz x + mj_sm r
def mj_ns (Z : mj_Z) : Nat := mj_sm Z.1
theorem mj_sm_app (a b : List mj_S) : mj_sm (a ++ b) = mj_sm a + mj_sm b := by
  induction a with
  | nil => simp [mj_sm]
  | cons x r ih => simp only [List.cons_append, mj_sm, ih]; omega
theorem mj_sm_set : ∀ (l : List mj_S) (i : Nat) (x y : mj_S), l[i]? = some x → mj_sz y = mj_sz x → mj_sm (l.set i y) = mj_sm l
  | [], i, x, y, h, _ => by simp at h
  | z :: r, 0, x, y, h, e => by simp at h; subst h; simp [mj_sm, e]
  | z :: r, i + 1, x, y, h, e => by
    have h1 : r[i]? = some x := by simpa using h
    simp only [List.set_cons_succ, mj_sm, mj_sm_set r i x y h1 e]
theorem mj_sm_rep (n : Nat) (x : mj_S) : mj_sm (List.replicate n x) = n * mj_sz x := by
  induction n with
  | zero => simp [mj_sm]
  | succ n ih => rw [List.replicate_succ, mj_sm, ih, Nat.succ_mul]; omega
-- the constants and the words of nest mates
def mj_isN : Cond → Bool
  | .methodLinkNest .. => true
  | .fieldLinkNest .. => true
  | _ => false
def mj_AOI (U : State) : Prop := (Cond.arrayOver (.array .int)).before #[] U = true
theorem mj_AOI.moved {u U : State} (hvm : u.vm.Alike U.vm) (h : mj_AOI u) : mj_AOI U := by
  obtain ⟨comp, c, k, h1, h2, h3, h4, h5⟩ := arrayOverA_spec h
  obtain ⟨k', hk', he⟩ := hvm.2.2 _ _ h3
  have hi := (hvm.findIdx?_eq _ (fun _ => rfl)).trans h2
  have hkind : k'.kind = .array comp (.array .int) := by rw [he]; exact h4
  have f1 : U.vm.findClass (FieldType.array FieldType.int).toString = some comp := by rw [hvm.findClass]; exact h1
  have f2 : U.vm.findClass ("[" ++ (FieldType.array FieldType.int).toString) = some c := by rw [hvm.findClass]; exact h5
  unfold mj_AOI
  simp only [Cond.before, Cond.holds, Cond.value, f1, f2, Option.bind_some]
  erw [hi]
  simp [hk', hkind]
def mj_CW (K : mj_C) (z0 : Nat) (cst : Nat → Nat) (U : State) (H : Heap) : Prop :=
  (∀ x ∈ tables_1, mj_isN x = true → va_Nw x U) ∧ va_AO "PermitBank$Tape" U ∧ mj_AOI U ∧
  (∀ k, k < 4 → va_T .int (cst k) (K k).1 (fun j => .int (Int32.ofInt ((K k).2 j))) (fun q => z0 ≤ q) U H) ∧ (∀ k, 1 ≤ k → k < 4 → va_Z "PermitBank" (mj_sN k) "[I" (.ref (cst k)) (fun q => z0 ≤ q) U H)
theorem mj_CW.moved {K : mj_C} {z0 : Nat} {cst : Nat → Nat} {s U : State} {H H1 : Heap} (hW : s.WarmedH U.vm) (hq : ∀ a : Nat, a < H.size → ¬ z0 ≤ a → H1[a]? = H[a]?) (h : mj_CW K z0 cst s H) : mj_CW K z0 cst U H1 := by
  obtain ⟨h1, h2, h3, h4, h5⟩ := h
  refine ⟨fun x hx hn => ?_, h2.moved hW.alike, h3.moved hW.alike, fun k hk => ((h4 k hk).moved hW.alike).kept hq, fun k a b => ((h5 k a b).moved hW.alike).kept hq⟩
  have h6 := h1 x hx hn
  cases x <;> first | exact va_Nw.warmM hW h6 | exact va_Nw.warmF hW h6 | (cases hn)
