-- Math.max and min, copies of arrays, what is made
theorem mj_wmx : (Cond.static Lib.Math.max.name ∈ mj_gt ∧ Cond.code Lib.Math.max.name Lib.Math.max.code 2 (some .int) ∈ mj_gt) ∧ (Cond.static Lib.Math.min.name ∈ mj_gt ∧ Cond.code Lib.Math.min.name Lib.Math.min.code 2 (some .int) ∈ mj_gt) ∧ Cond.initialized "java/lang/Math" ∈ mj_gt :=
  ⟨⟨mj_in (i := 432) (by decide +kernel) rfl, mj_in (i := 433) (by decide +kernel) rfl⟩, ⟨mj_in (i := 498) (by decide +kernel) rfl, mj_in (i := 499) (by decide +kernel) rfl⟩, mj_in (i := 11) (by decide +kernel) rfl⟩
theorem mj_wcp : Cond.static arraycopyName ∈ mj_gt ∧ Cond.native arraycopyName ∈ mj_gt ∧ Cond.initialized "java/lang/System" ∈ mj_gt :=
  ⟨mj_in (i := 619) (by decide +kernel) rfl, mj_in (i := 620) (by decide +kernel) rfl, mj_in (i := 12) (by decide +kernel) rfl⟩
theorem mj_wob : Cond.instanceMethod objectInit ∈ mj_gt ∧ Cond.code objectInit ⟨#[0xb1]⟩ 1 none ∈ mj_gt ∧ Cond.arrayClass .int ∈ mj_gt ∧ Cond.arrayClass .long ∈ mj_gt :=
  ⟨mj_in (i := 19) (by decide +kernel) rfl, mj_in (i := 20) (by decide +kernel) rfl, mj_in (i := 80) (by decide +kernel) rfl, mj_in (i := 279) (by decide +kernel) rfl⟩
def mj_kok : FieldType → mj_K → Bool
  | .int, .inl 0 => true
  | .long, .inl 1 => true
  | .boolean, .inl 2 => true
  | .object _, .inr none => true
  | .array _, .inr none => true
  | _, _ => false
theorem mj_k0_ok : ∀ ci, ci < 10 → (mj_k0 ci).length = mj_NN ci ∧ ∀ j, j < mj_NN ci → ((mj_k0 ci)[j]?.any fun k => mj_kok (mj_tT ci j) k) = true := by decide +kernel
section Steps
variable {K : mj_C} {z0 : Nat} {cst : Nat → Nat} {dD : va_G} {dA : Nat → ClassId} {y : Nat} {p : Program} {l : Launch} {e : Env} {R : Room} {s : State} {m : MethodId} {args : Array Value} {below : List Frame} {meth : Method} {c : Code} {Q : State → Prop} {n0 s0 : Nat}
variable {Z : mj_Z} {L : mj_L} {S : List mj_V} {H : Heap} {locs : List Loc} {ls : Array Slot} {pc : Nat} {a : Nat × mj_L × List mj_V × mj_Z}
theorem mj_cat_sum (z0 : Nat) (cst : Nat → Nat) : ∀ S : List mj_V, ((S.map (mj_rl z0 cst)).map fun v => v.category).sum = mj_cat S
  | [] => rfl
  | v :: S => by
    have := mj_cat_sum z0 cst S
    simp only [List.map_cons, List.sum_cons, mj_cat, mj_cat_rl] at this ⊢
    omega
theorem mj_arrV_congr {cA : ClassId} {N : Nat} {f g : Nat → Value} (h : ∀ j, j < N → f j = g j) : arrV cA N f = arrV cA N g := by
  unfold arrV
  congr 2
  funext j
  exact h j.val j.isLt
theorem mj_s_max (C : mj_Cx K z0 cst dD dA y n0 p s m args meth c) (X : mj_St z0 cst dD dA y n0 s0 s Z L S H locs ls) (kk : mj_Nx z0 cst dD dA y p l e R s m args below meth c Q n0 s0 a) (hR : 1 ≤ R.frames ∧ 64 ≤ R.locals) (hrm : mj_nc a.2.2.2 - n0 ≤ R.cells ∧ mj_ns a.2.2.2 - s0 ≤ R.slots) {ix ps : Nat} (hx : (mj_ci y, ix, 1000, 0, ps) ∈ mj_mL) (hd : decode (mj_bb y) pc = .ok (.invokestatic ix, 3)) (h : mj_mx (fun x y => max x y) (pc + 3) L S Z = some (.inl a)) : mj_G z0 cst p l e R s m args below meth c Q n0 s0 Z S pc H locs ls := by
  obtain ⟨xZ, xL, xS, xW, xV, xl, xN, xM⟩ := X
  have hlink := C.2.2.2.2.1 _ (mj_in (mj_mL_ok _ hx).1 rfl)
  unfold mj_mx at h
  split at h
  · rename_i y1 x1 S
    rw [mj_okS_c, mj_okS_c] at xS
    split at h
    · rename_i hcat
      obtain rfl := mj_go_a h
      refine va_mmax C.1 C.2.1 (C.2.2.1.trans xl.2.1.symm) C.2.2.2.1 hlink (C.2.2.2.2.1 _ mj_wmx.1.1) (C.2.2.2.2.1 _ mj_wmx.2.2) (C.2.2.2.2.1 _ mj_wmx.1.2) hR.1 (by rw [mj_cat_sum]; omega) hrm.1 hrm.2 hd ?_
      have hk := kk H locs ls xW xV xl
      unfold mj_G at hk
      simp only [List.map_cons, mj_rl] at hk
      have e : (if Int32.ofInt x1 < Int32.ofInt y1 then Int32.ofInt y1 else Int32.ofInt x1) = Int32.ofInt (max x1 y1) := by
        by_cases q : x1 < y1
        · rw [if_pos ((mj_lt32 xS.2.1 xS.1).mpr q)]
          congr 1
          omega
        · rw [if_neg (fun z => q ((mj_lt32 xS.2.1 xS.1).mp z))]
          congr 1
          omega
      rw [e]
      exact hk
    · cases h
  · cases h
theorem mj_s_min (C : mj_Cx K z0 cst dD dA y n0 p s m args meth c) (X : mj_St z0 cst dD dA y n0 s0 s Z L S H locs ls) (kk : mj_Nx z0 cst dD dA y p l e R s m args below meth c Q n0 s0 a) (hR : 1 ≤ R.frames ∧ 64 ≤ R.locals) (hrm : mj_nc a.2.2.2 - n0 ≤ R.cells ∧ mj_ns a.2.2.2 - s0 ≤ R.slots) {ix ps : Nat} (hx : (mj_ci y, ix, 1001, 0, ps) ∈ mj_mL) (hd : decode (mj_bb y) pc = .ok (.invokestatic ix, 3)) (h : mj_mx (fun x y => min x y) (pc + 3) L S Z = some (.inl a)) : mj_G z0 cst p l e R s m args below meth c Q n0 s0 Z S pc H locs ls := by
  obtain ⟨xZ, xL, xS, xW, xV, xl, xN, xM⟩ := X
  have hlink := C.2.2.2.2.1 _ (mj_in (mj_mL_ok _ hx).1 rfl)
  unfold mj_mx at h
  split at h
  · rename_i y1 x1 S
    rw [mj_okS_c, mj_okS_c] at xS
    split at h
    · rename_i hcat
      obtain rfl := mj_go_a h
      refine va_mmin C.1 C.2.1 (C.2.2.1.trans xl.2.1.symm) C.2.2.2.1 hlink (C.2.2.2.2.1 _ mj_wmx.2.1.1) (C.2.2.2.2.1 _ mj_wmx.2.2) (C.2.2.2.2.1 _ mj_wmx.2.1.2) hR.1 (by rw [mj_cat_sum]; omega) hrm.1 hrm.2 hd ?_
      have hk := kk H locs ls xW xV xl
      unfold mj_G at hk
      simp only [List.map_cons, mj_rl] at hk
      have e : (if Int32.ofInt y1 < Int32.ofInt x1 then Int32.ofInt y1 else Int32.ofInt x1) = Int32.ofInt (min x1 y1) := by
        by_cases q : y1 < x1
        · rw [if_pos ((mj_lt32 xS.1 xS.2.1).mpr q)]
          congr 1
          omega
        · rw [if_neg (fun z => q ((mj_lt32 xS.1 xS.2.1).mp z))]
          congr 1
          omega
      rw [e]
      exact hk
    · cases h
  · cases h
theorem mj_cpy_i {M : Nat → Nat → Int} {a b : Nat} {i j n : Nat} : va_cpy (fun k => Int32.ofInt (M a k)) (fun k => Int32.ofInt (M b k)) i j n = fun k => Int32.ofInt (mj_cpy M a i b j n b k) := by
  funext k
  unfold va_cpy mj_cpy
  by_cases q : j ≤ k ∧ k < j + n
  · rw [if_pos q, if_pos ⟨rfl, q⟩]
  · rw [if_neg q, if_neg (fun z => q z.2)]
theorem mj_cpy_l {M : Nat → Nat → Int64} {a b : Nat} {i j n : Nat} : va_cpy (fun k => M a k) (fun k => M b k) i j n = fun k => mj_cpy M a i b j n b k := by
  funext k
  unfold va_cpy mj_cpy
  by_cases q : j ≤ k ∧ k < j + n
  · rw [if_pos q, if_pos ⟨rfl, q⟩]
  · rw [if_neg q, if_neg (fun z => q z.2)]
theorem mj_cpy_ne {α : Type} {M : Nat → Nat → α} {a b : Nat} {i j n c : Nat} (h : c ≠ b) (k : Nat) : mj_cpy M a i b j n c k = M c k := if_neg (fun q => h q.1)
theorem mj_nn {x : Int} (hx : mj_rg x) (h : 0 ≤ x) : ¬ Int32.ofInt x < 0 := by
  rw [show (0 : Int32) = Int32.ofInt 0 from rfl, mj_lt32 hx mj_rg0]
  omega
theorem mj_s_acp (C : mj_Cx K z0 cst dD dA y n0 p s m args meth c) (X : mj_St z0 cst dD dA y n0 s0 s Z L S H locs ls) (kk : mj_Nx z0 cst dD dA y p l e R s m args below meth c Q n0 s0 a) (hR : 1 ≤ R.frames ∧ 64 ≤ R.locals) (hrm : mj_nc a.2.2.2 - n0 ≤ R.cells ∧ mj_ns a.2.2.2 - s0 ≤ R.slots) {ix ps : Nat} (hx : (mj_ci y, ix, 1002, 0, ps) ∈ mj_mL) (hd : decode (mj_bb y) pc = .ok (.invokestatic ix, 3)) (h : mj_acp (pc + 3) L S Z = some (.inl a)) : mj_G z0 cst p l e R s m args below meth c Q n0 s0 Z S pc H locs ls := by
  obtain ⟨xZ, xL, xS, xW, xV, xl, xN, xM⟩ := X
  have hlink := C.2.2.2.2.1 _ (mj_in (mj_mL_ok _ hx).1 rfl)
  unfold mj_acp at h
  split at h
  · rename_i n j qb i qa S
    rw [mj_okS_c, mj_okS_c, mj_okS_c, mj_okS_c] at xS
    split at h
    · rename_i hcat
      split at h
      · rename_i na nb hk1 hk2
        split at h
        · rename_i hr
          obtain ⟨ks1, g1, -⟩ := mj_al_ok hk1
          obtain ⟨ks2, g2, -⟩ := mj_al_ok hk2
          obtain rfl := mj_go_a h
          refine va_copyi C.1 C.2.1 (C.2.2.1.trans xl.2.1.symm) C.2.2.2.1 hlink (C.2.2.2.2.1 _ mj_wcp.2.1) (C.2.2.2.2.1 _ mj_wcp.1) (C.2.2.2.2.1 _ mj_wcp.2.2) C.2.2.2.2.2.2.1 xW.2 mj_D xV qa qb 0 0 (mj_W_get g1) (mj_W_get g2) rfl rfl rfl (mj_nn xS.2.2.2.1 hr.1) (mj_nn xS.2.1 hr.2.1) (mj_nn xS.1 hr.2.2.1) (by rw [mj_clamp xS.2.2.2.1, mj_clamp xS.1]; omega) (by rw [mj_clamp xS.2.1, mj_clamp xS.1]; omega) (fun _ _ => rfl) hR.1 (by rw [mj_cat_sum]; show _ + (7 + 11) ≤ _; omega) hd (fun H1 locs1 hP hD hS => ?_)
          rw [mj_clamp xS.2.2.2.1, mj_clamp xS.2.1, mj_clamp xS.1, mj_cpy_i] at hP
          rw [mj_W_set (z0 := z0) (dA := dA) (Z := Z) (e := .inl (dA 1, nb, .inl fun k => Int32.ofInt (mj_cpy Z.2.1 qa i.toNat qb j.toNat n.toNat qb k))) (Z' := (Z.1, mj_cpy Z.2.1 qa i.toNat qb j.toNat n.toNat, Z.2.2)) (sh := (1, nb, ks2)) rfl g2 rfl (fun i2 hi2 sh hsh => ⟨hsh, mj_el_u (fun j => mj_cpy_ne hi2 j) (fun j => rfl)⟩)] at hP
          exact mj_szd (Z := (Z.1, mj_cpy Z.2.1 qa i.toNat qb j.toNat n.toNat, Z.2.2)) C xN hP hS (fun hw => kk H1 locs1 ls hw hS xl)
        · cases h
      · rename_i na nb hk1 hk2 _
        split at h
        · rename_i hr
          obtain ⟨ks1, g1, -⟩ := mj_al_ok hk1
          obtain ⟨ks2, g2, -⟩ := mj_al_ok hk2
          obtain rfl := mj_go_a h
          refine va_copyl C.1 C.2.1 (C.2.2.1.trans xl.2.1.symm) C.2.2.2.1 hlink (C.2.2.2.2.1 _ mj_wcp.2.1) (C.2.2.2.2.1 _ mj_wcp.1) (C.2.2.2.2.1 _ mj_wcp.2.2) C.2.2.2.2.2.2.1 xW.2 mj_D xV qa qb 1 1 (mj_W_get g1) (mj_W_get g2) rfl rfl rfl (mj_nn xS.2.2.2.1 hr.1) (mj_nn xS.2.1 hr.2.1) (mj_nn xS.1 hr.2.2.1) (by rw [mj_clamp xS.2.2.2.1, mj_clamp xS.1]; omega) (by rw [mj_clamp xS.2.1, mj_clamp xS.1]; omega) (fun _ _ => rfl) hR.1 (by rw [mj_cat_sum]; show _ + (7 + 11) ≤ _; omega) hd (fun H1 locs1 hP hD hS => ?_)
          rw [mj_clamp xS.2.2.2.1, mj_clamp xS.2.1, mj_clamp xS.1, mj_cpy_l] at hP
          rw [mj_W_set (z0 := z0) (dA := dA) (Z := Z) (e := .inl (dA 2, nb, .inr (.inl fun k => mj_cpy Z.2.2 qa i.toNat qb j.toNat n.toNat qb k))) (Z' := (Z.1, Z.2.1, mj_cpy Z.2.2 qa i.toNat qb j.toNat n.toNat)) (sh := (2, nb, ks2)) rfl g2 rfl (fun i2 hi2 sh hsh => ⟨hsh, mj_el_u (fun j => rfl) (fun j => mj_cpy_ne hi2 j)⟩)] at hP
          exact mj_szd (Z := (Z.1, Z.2.1, mj_cpy Z.2.2 qa i.toNat qb j.toNat n.toNat)) C xN hP hS (fun hw => kk H1 locs1 ls hw hS xl)
        · cases h
      · cases h
    · cases h
  · cases h
theorem mj_s_oin (C : mj_Cx K z0 cst dD dA y n0 p s m args meth c) (X : mj_St z0 cst dD dA y n0 s0 s Z L S H locs ls) (kk : mj_Nx z0 cst dD dA y p l e R s m args below meth c Q n0 s0 a) (hR : 1 ≤ R.frames ∧ 64 ≤ R.locals) (hrm : mj_nc a.2.2.2 - n0 ≤ R.cells ∧ mj_ns a.2.2.2 - s0 ≤ R.slots) {ix ps : Nat} (hx : (mj_ci y, ix, 1003, 0, ps) ∈ mj_mL) (hd : decode (mj_bb y) pc = .ok (.invokespecial ix, 3)) (h : mj_oin (pc + 3) L S Z = some (.inl a)) : mj_G z0 cst p l e R s m args below meth c Q n0 s0 Z S pc H locs ls := by
  obtain ⟨xZ, xL, xS, xW, xV, xl, xN, xM⟩ := X
  have hlink := C.2.2.2.2.1 _ (mj_in (mj_mL_ok _ hx).1 rfl)
  unfold mj_oin at h
  split at h
  · split at h
    · rename_i hcat
      obtain rfl := mj_go_a h
      refine W.objInit C.1 C.2.1 C.2.2.2.1 hlink (C.2.2.2.2.1 _ mj_wob.1) (C.2.2.2.2.1 _ mj_wob.2.1) rfl (xl.2.1.trans C.2.2.1.symm) rfl hd hR.1 ?_ (kk H locs ls xW xV xl)
      rw [mj_cat_sum]
      show 2 * 0 + _ + 12 ≤ _
      omega
    · cases h
  · cases h
theorem mj_zr_old {α : Type} {M : Nat → Nat → α} {n : Nat} {z : α} {b : Nat} (h : b < n) (k : Nat) : mj_zr M n z b k = M b k := if_neg (by omega)
theorem mj_zr_new {α : Type} {M : Nat → Nat → α} {n : Nat} {z : α} {b : Nat} (h : n ≤ b) (k : Nat) : mj_zr M n z b k = z := if_pos h
theorem mj_W_app {l1 : List mj_S} : mj_W z0 dA (Z.1 ++ l1, mj_zr Z.2.1 Z.1.length 0, mj_zr Z.2.2 Z.1.length 0) = mj_W z0 dA Z ++ l1.mapIdx (fun i sh => (z0 + (Z.1.length + i), mj_el z0 dA (mj_zr Z.2.1 Z.1.length 0) (mj_zr Z.2.2 Z.1.length 0) (Z.1.length + i) sh)) := by
  apply List.ext_getElem?
  intro i
  rw [mj_W_at]
  by_cases hi : i < Z.1.length
  · rw [List.getElem?_append_left hi, List.getElem?_append_left (by rw [mj_W_len]; exact hi), mj_W_at]
    cases Z.1[i]? with
    | none => rfl
    | some sh =>
      simp only [Option.map_some]
      rw [mj_el_u (fun j => mj_zr_old hi j) (fun j => mj_zr_old hi j)]
  · rw [List.getElem?_append_right (by omega), List.getElem?_append_right (by rw [mj_W_len]; omega), mj_W_len, List.getElem?_mapIdx]
    rw [show Z.1.length + (i - Z.1.length) = i by omega]
theorem mj_szn {slots : Nat} {H1 : Heap} {g : JFrame} {q : Nat} {el : va_E} (C : mj_Cx K z0 cst dD dA y n0 p s m args meth c) (hn : n0 ≤ mj_nc Z) (hP : va_P dD mj_cl (mj_W z0 dA Z ++ [(q, el)]) H1) (hD : va_D (fun q => z0 ≤ q) (mj_W z0 dA Z ++ [(q, el)])) (k : q = z0 + Z.1.length → W p l e R s m args below meth c H1 locs (mj_nc Z - n0 + 1) slots Q g) : W p l e R s m args below meth c H1 locs (mj_nc Z - n0 + 1) slots Q g := by
  intro T hT X
  refine k ?_ T hT X
  have h1 := X.heapSize
  rw [hT, C.2.2.2.2.2.2.2.2.2.2] at h1
  have hlast : (mj_W z0 dA Z ++ [(q, el)])[Z.1.length]? = some (q, el) := by
    rw [List.getElem?_append_right (by rw [mj_W_len]; exact Nat.le_refl _), mj_W_len, Nat.sub_self]; rfl
  have h2 : q < H1.size := (hP _ _ hlast).lt
  have h3 : z0 ≤ q := hD.2 _ _ hlast
  have h4 : mj_nc Z = Z.1.length := rfl
  by_cases h5 : q - z0 < Z.1.length
  · exfalso
    have h6 : (mj_W z0 dA Z ++ [(q, el)])[q - z0]? = some (z0 + (q - z0), mj_el z0 dA Z.2.1 Z.2.2 (q - z0) Z.1[q - z0]) := by
      rw [List.getElem?_append_left (by rw [mj_W_len]; exact h5), mj_W_get (List.getElem?_eq_getElem h5)]
    have h7 := hD.1 _ _ _ _ hlast h6 (by show q = z0 + (q - z0); omega)
    omega
  · omega
theorem mj_s_new (C : mj_Cx K z0 cst dD dA y n0 p s m args meth c) (X : mj_St z0 cst dD dA y n0 s0 s Z L S H locs ls) (kk : mj_Nx z0 cst dD dA y p l e R s m args below meth c Q n0 s0 a) (hR : 1 ≤ R.frames ∧ 64 ≤ R.locals) (hrm : mj_nc a.2.2.2 - n0 ≤ R.cells ∧ mj_ns a.2.2.2 - s0 ≤ R.slots) {ix ci ps : Nat} {nm : String} (hx : (mj_ci y, ix, nm, ps) ∈ mj_cL) (hci : ci < 10) (hnm : nm = mj_own ci) (hd : decode (mj_bb y) pc = .ok (.new ix, 3)) (h : mj_new ci (pc + 3) L S Z = some (.inl a)) : mj_G z0 cst p l e R s m args below meth c Q n0 s0 Z S pc H locs ls := by
  obtain ⟨xZ, xL, xS, xW, xV, xl, xN, xM⟩ := X
  subst hnm
  have hlink := C.2.2.2.2.1 _ (mj_in (mj_cL_ok _ hx) rfl)
  obtain ⟨i1, i2⟩ := mj_ins ci hci
  obtain ⟨k1, k2⟩ := mj_k0_ok ci hci
  unfold mj_new at h
  obtain rfl := mj_go_a h
  have e1 : mj_nc (Z.1 ++ [(0, ci, mj_k0 ci)], mj_zr Z.2.1 Z.1.length 0, mj_zr Z.2.2 Z.1.length 0) = mj_nc Z + 1 := by simp [mj_nc]
  have e2 : mj_ns (Z.1 ++ [(0, ci, mj_k0 ci)], mj_zr Z.2.1 Z.1.length 0, mj_zr Z.2.2 Z.1.length 0) = mj_ns Z + mj_NN ci := by
    show mj_sm (_ ++ _) = _
    rw [mj_sm_app]
    show mj_sm Z.1 + ((mj_k0 ci).length + 0) = _
    rw [k1]
    rfl
  dsimp only at hrm
  rw [e1, e2] at hrm
  refine va_new (ci := ci) (fs := (mj_k0 ci).mapIdx fun j k => mj_fv z0 (mj_zr Z.2.1 Z.1.length 0) (mj_zr Z.2.2 Z.1.length 0) Z.1.length j k) C.1 C.2.1 C.2.2.2.2.1 (mj_uin hci) (mj_tT ci) (mj_tT_ok ci hci) C.2.2.2.1 hlink (C.2.2.2.2.1 _ (mj_in i1 rfl)) (C.2.2.2.2.1 _ (mj_in i2 rfl)) C.2.2.2.2.2.2.1 xW.2 mj_D xV (fun q hq => Nat.le_trans C.2.2.2.2.2.2.2.2.1 hq) (mj_cl_at hci) (fun j hj => ?_) (by omega) (by omega) hd (fun q H1 hP hD hS => ?_)
  · have h3 := k2 j hj
    unfold vp_V
    rw [List.getD_eq_getElem?_getD, List.getElem?_mapIdx]
    cases hk : (mj_k0 ci)[j]? with
    | none => rw [hk] at h3; cases h3
    | some k =>
      rw [hk] at h3
      have h4 : mj_kok (mj_tT ci j) k = true := h3
      simp only [Option.map_some, Option.getD_some]
      generalize mj_tT ci j = ty at h4
      unfold mj_kok at h4
      split at h4
      · simp only [mj_fv, mj_zr_new (Nat.le_refl _)]; rfl
      · simp only [mj_fv, mj_zr_new (Nat.le_refl _)]; rfl
      · simp only [mj_fv, mj_zr_new (Nat.le_refl _)]; rfl
      · rfl
      · rfl
      · cases h4
  · refine mj_szn C xN hP hD (fun hq => ?_)
    subst hq
    have e3 : mj_W z0 dA (Z.1 ++ [(0, ci, mj_k0 ci)], mj_zr Z.2.1 Z.1.length 0, mj_zr Z.2.2 Z.1.length 0) = mj_W z0 dA Z ++ [(z0 + Z.1.length, .inr (ci, (mj_k0 ci).mapIdx fun j k => mj_fv z0 (mj_zr Z.2.1 Z.1.length 0) (mj_zr Z.2.2 Z.1.length 0) Z.1.length j k))] := mj_W_app
    rw [← e3] at hP
    refine W.cs (cells' := mj_nc (Z.1 ++ [(0, ci, mj_k0 ci)], mj_zr Z.2.1 Z.1.length 0, mj_zr Z.2.2 Z.1.length 0) - n0) (slots' := mj_ns (Z.1 ++ [(0, ci, mj_k0 ci)], mj_zr Z.2.1 Z.1.length 0, mj_zr Z.2.2 Z.1.length 0) - s0) (by rw [e1]; omega) (by rw [e2]; omega) ?_
    exact mj_szd (Z := (Z.1 ++ [(0, ci, mj_k0 ci)], mj_zr Z.2.1 Z.1.length 0, mj_zr Z.2.2 Z.1.length 0)) C (by rw [e1]; omega) hP hS (fun hw => kk H1 locs ls hw hS xl)
theorem mj_s_nwi (C : mj_Cx K z0 cst dD dA y n0 p s m args meth c) (X : mj_St z0 cst dD dA y n0 s0 s Z L S H locs ls) (kk : mj_Nx z0 cst dD dA y p l e R s m args below meth c Q n0 s0 a) (hR : 1 ≤ R.frames ∧ 64 ≤ R.locals) (hrm : mj_nc a.2.2.2 - n0 ≤ R.cells ∧ mj_ns a.2.2.2 - s0 ≤ R.slots)  (hd : decode (mj_bb y) pc = .ok (.newarray .int, 2)) (h : mj_nwa 1 (pc + 2) L S Z = some (.inl a)) : mj_G z0 cst p l e R s m args below meth c Q n0 s0 Z S pc H locs ls := by
  obtain ⟨xZ, xL, xS, xW, xV, xl, xN, xM⟩ := X
  unfold mj_nwa at h
  split at h
  · rename_i n S
    rw [mj_okS_c] at xS
    split at h
    · rename_i hn
      obtain rfl := mj_go_a h
      have e1 : mj_nc (Z.1 ++ [(1, n.toNat, [])], mj_zr Z.2.1 Z.1.length 0, mj_zr Z.2.2 Z.1.length 0) = mj_nc Z + 1 := by simp [mj_nc]
      have e2 : mj_ns (Z.1 ++ [(1, n.toNat, [])], mj_zr Z.2.1 Z.1.length 0, mj_zr Z.2.2 Z.1.length 0) = mj_ns Z + n.toNat := by
        show mj_sm (_ ++ _) = _
        rw [mj_sm_app]
        rfl
      dsimp only at hrm
      rw [e1, e2] at hrm
      refine va_newa (atype := .int) (ty := .int) (N' := n.toNat) (a0 := (n.toNat, .inl fun j => Int32.ofInt (mj_zr Z.2.1 Z.1.length 0 Z.1.length j))) C.1 C.2.1 (C.2.2.2.2.1 _ mj_wob.2.2.1) rfl C.2.2.2.2.2.2.1 xW.2 mj_D xV (fun q hq => Nat.le_trans C.2.2.2.2.2.2.2.2.1 hq) (fun cA => ?_) (mj_nn xS.1 hn.1) (mj_clamp xS.1) (by show n.toNat * 4 ≤ _; omega) (by omega) (by omega) hd (fun q cA H1 hK hP hD hS => ?_)
      · rw [vp_cell_i]
        refine mj_arrV_congr (fun j _ => ?_)
        rw [mj_zr_new (Nat.le_refl _)]
        rfl
      · refine mj_szn C xN hP hD (fun hq => ?_)
        subst hq
        have hA1 := (hK.2 4 (cA, .int) rfl).2
        have hA2 := (hK.2 0 (dA 1, .int) rfl).2
        have hA : cA = dA 1 := Option.some.inj (hA1.symm.trans hA2)
        subst hA
        have e3 : mj_W z0 dA (Z.1 ++ [(1, n.toNat, [])], mj_zr Z.2.1 Z.1.length 0, mj_zr Z.2.2 Z.1.length 0) = mj_W z0 dA Z ++ [(z0 + Z.1.length, .inl (dA 1, n.toNat, .inl fun j => Int32.ofInt (mj_zr Z.2.1 Z.1.length 0 Z.1.length j)))] := mj_W_app
        rw [← e3] at hP
        refine W.cs (cells' := mj_nc (Z.1 ++ [(1, n.toNat, [])], mj_zr Z.2.1 Z.1.length 0, mj_zr Z.2.2 Z.1.length 0) - n0) (slots' := mj_ns (Z.1 ++ [(1, n.toNat, [])], mj_zr Z.2.1 Z.1.length 0, mj_zr Z.2.2 Z.1.length 0) - s0) (by rw [e1]; omega) (by rw [e2]; omega) ?_
        exact mj_szd (Z := (Z.1 ++ [(1, n.toNat, [])], mj_zr Z.2.1 Z.1.length 0, mj_zr Z.2.2 Z.1.length 0)) C (by rw [e1]; omega) hP hS (fun hw => kk H1 locs ls hw hS xl)
    · cases h
  · cases h
theorem mj_s_nwl (C : mj_Cx K z0 cst dD dA y n0 p s m args meth c) (X : mj_St z0 cst dD dA y n0 s0 s Z L S H locs ls) (kk : mj_Nx z0 cst dD dA y p l e R s m args below meth c Q n0 s0 a) (hR : 1 ≤ R.frames ∧ 64 ≤ R.locals) (hrm : mj_nc a.2.2.2 - n0 ≤ R.cells ∧ mj_ns a.2.2.2 - s0 ≤ R.slots)  (hd : decode (mj_bb y) pc = .ok (.newarray .long, 2)) (h : mj_nwa 2 (pc + 2) L S Z = some (.inl a)) : mj_G z0 cst p l e R s m args below meth c Q n0 s0 Z S pc H locs ls := by
  obtain ⟨xZ, xL, xS, xW, xV, xl, xN, xM⟩ := X
  unfold mj_nwa at h
  split at h
  · rename_i n S
    rw [mj_okS_c] at xS
    split at h
    · rename_i hn
      obtain rfl := mj_go_a h
      have e1 : mj_nc (Z.1 ++ [(2, n.toNat, [])], mj_zr Z.2.1 Z.1.length 0, mj_zr Z.2.2 Z.1.length 0) = mj_nc Z + 1 := by simp [mj_nc]
      have e2 : mj_ns (Z.1 ++ [(2, n.toNat, [])], mj_zr Z.2.1 Z.1.length 0, mj_zr Z.2.2 Z.1.length 0) = mj_ns Z + n.toNat := by
        show mj_sm (_ ++ _) = _
        rw [mj_sm_app]
        rfl
      dsimp only at hrm
      rw [e1, e2] at hrm
      refine va_newa (atype := .long) (ty := .long) (N' := n.toNat) (a0 := (n.toNat, .inr (.inl fun j => mj_zr Z.2.2 Z.1.length 0 Z.1.length j))) C.1 C.2.1 (C.2.2.2.2.1 _ mj_wob.2.2.2) rfl C.2.2.2.2.2.2.1 xW.2 mj_D xV (fun q hq => Nat.le_trans C.2.2.2.2.2.2.2.2.1 hq) (fun cA => ?_) (mj_nn xS.1 hn.1) (mj_clamp xS.1) (by show n.toNat * 8 ≤ _; omega) (by omega) (by omega) hd (fun q cA H1 hK hP hD hS => ?_)
      · rw [vp_cell_l]
        refine mj_arrV_congr (fun j _ => ?_)
        rw [mj_zr_new (Nat.le_refl _)]
        rfl
      · refine mj_szn C xN hP hD (fun hq => ?_)
        subst hq
        have hA1 := (hK.2 4 (cA, .long) rfl).2
        have hA2 := (hK.2 1 (dA 2, .long) rfl).2
        have hA : cA = dA 2 := Option.some.inj (hA1.symm.trans hA2)
        subst hA
        have e3 : mj_W z0 dA (Z.1 ++ [(2, n.toNat, [])], mj_zr Z.2.1 Z.1.length 0, mj_zr Z.2.2 Z.1.length 0) = mj_W z0 dA Z ++ [(z0 + Z.1.length, .inl (dA 2, n.toNat, .inr (.inl fun j => mj_zr Z.2.2 Z.1.length 0 Z.1.length j)))] := mj_W_app
        rw [← e3] at hP
        refine W.cs (cells' := mj_nc (Z.1 ++ [(2, n.toNat, [])], mj_zr Z.2.1 Z.1.length 0, mj_zr Z.2.2 Z.1.length 0) - n0) (slots' := mj_ns (Z.1 ++ [(2, n.toNat, [])], mj_zr Z.2.1 Z.1.length 0, mj_zr Z.2.2 Z.1.length 0) - s0) (by rw [e1]; omega) (by rw [e2]; omega) ?_
        exact mj_szd (Z := (Z.1 ++ [(2, n.toNat, [])], mj_zr Z.2.1 Z.1.length 0, mj_zr Z.2.2 Z.1.length 0)) C (by rw [e1]; omega) hP hS (fun hw => kk H1 locs ls hw hS xl)
    · cases h
  · cases h
theorem mj_s_nwr (C : mj_Cx K z0 cst dD dA y n0 p s m args meth c) (X : mj_St z0 cst dD dA y n0 s0 s Z L S H locs ls) (kk : mj_Nx z0 cst dD dA y p l e R s m args below meth c Q n0 s0 a) (hR : 1 ≤ R.frames ∧ 64 ≤ R.locals) (hrm : mj_nc a.2.2.2 - n0 ≤ R.cells ∧ mj_ns a.2.2.2 - s0 ≤ R.slots) {ix ps : Nat} (hx : (mj_ci y, ix, "PermitBank$Tape", ps) ∈ mj_cL) (hd : decode (mj_bb y) pc = .ok (.anewarray ix, 3)) (h : mj_nwr (pc + 3) L S Z = some (.inl a)) : mj_G z0 cst p l e R s m args below meth c Q n0 s0 Z S pc H locs ls := by
  obtain ⟨xZ, xL, xS, xW, xV, xl, xN, xM⟩ := X
  have hlink := C.2.2.2.2.1 _ (mj_in (mj_cL_ok _ hx) rfl)
  unfold mj_nwr at h
  split at h
  · rename_i n S
    rw [mj_okS_c] at xS
    split at h
    · rename_i hn
      obtain rfl := mj_go_a h
      have e1 : mj_nc (Z.1 ++ [(4, n.toNat, List.replicate n.toNat (.inr none : mj_K))], mj_zr Z.2.1 Z.1.length 0, mj_zr Z.2.2 Z.1.length 0) = mj_nc Z + 1 := by simp [mj_nc]
      have e2 : mj_ns (Z.1 ++ [(4, n.toNat, List.replicate n.toNat (.inr none : mj_K))], mj_zr Z.2.1 Z.1.length 0, mj_zr Z.2.2 Z.1.length 0) = mj_ns Z + n.toNat := by
        show mj_sm (_ ++ _) = _
        rw [mj_sm_app]
        rfl
      dsimp only at hrm
      rw [e1, e2] at hrm
      refine va_newq (C := "PermitBank$Tape") (N' := n.toNat) C.1 C.2.1 C.2.2.2.1 hlink C.2.2.2.2.2.2.2.1.2.1 C.2.2.2.2.2.2.1 xW.2 mj_D xV (fun q hq => Nat.le_trans C.2.2.2.2.2.2.2.2.1 hq) (mj_nn xS.1 hn.1) (mj_clamp xS.1) (by omega) (by omega) (by omega) hd (fun q cA H1 hK hP hD hS => ?_)
      refine mj_szn C xN hP hD (fun hq => ?_)
      subst hq
      obtain ⟨_, _, _, _, _, hA1⟩ := (hK.2 4 (cA, .object "PermitBank$Tape") rfl).2
      obtain ⟨_, _, _, _, _, hA2⟩ := (hK.2 3 (dA 4, .object "PermitBank$Tape") rfl).2
      have hA : cA = dA 4 := Option.some.inj (hA1.symm.trans hA2)
      subst hA
      have e4 : (fun j => mj_rf z0 (List.replicate n.toNat (.inr none)) j) = fun _ => none := by
        funext j
        unfold mj_rf
        rw [List.getElem?_replicate]
        split
        · rename_i h9
          split at h9
          · cases h9
          · cases h9
        · rfl
      have e3 : mj_W z0 dA (Z.1 ++ [(4, n.toNat, List.replicate n.toNat (.inr none : mj_K))], mj_zr Z.2.1 Z.1.length 0, mj_zr Z.2.2 Z.1.length 0) = mj_W z0 dA Z ++ [(z0 + Z.1.length, .inl (dA 4, n.toNat, .inr (.inr (.inr (.inr fun j => mj_rf z0 (List.replicate n.toNat (.inr none)) j)))))] := mj_W_app
      rw [e4] at e3
      rw [← e3] at hP
      refine W.cs (cells' := mj_nc (Z.1 ++ [(4, n.toNat, List.replicate n.toNat (.inr none : mj_K))], mj_zr Z.2.1 Z.1.length 0, mj_zr Z.2.2 Z.1.length 0) - n0) (slots' := mj_ns (Z.1 ++ [(4, n.toNat, List.replicate n.toNat (.inr none : mj_K))], mj_zr Z.2.1 Z.1.length 0, mj_zr Z.2.2 Z.1.length 0) - s0) (by rw [e1]; omega) (by rw [e2]; omega) ?_
      exact mj_szd (Z := (Z.1 ++ [(4, n.toNat, List.replicate n.toNat (.inr none : mj_K))], mj_zr Z.2.1 Z.1.length 0, mj_zr Z.2.2 Z.1.length 0)) C (by rw [e1]; omega) hP hS (fun hw => kk H1 locs ls hw hS xl)
    · cases h
  · cases h
theorem mj_s_nwm (C : mj_Cx K z0 cst dD dA y n0 p s m args meth c) (X : mj_St z0 cst dD dA y n0 s0 s Z L S H locs ls) (kk : mj_Nx z0 cst dD dA y p l e R s m args below meth c Q n0 s0 a) (hR : 1 ≤ R.frames ∧ 64 ≤ R.locals) (hrm : mj_nc a.2.2.2 - n0 ≤ R.cells ∧ mj_ns a.2.2.2 - s0 ≤ R.slots) {ix ps : Nat} (hx : (mj_ci y, ix, "[[I", ps) ∈ mj_cL) (hd : decode (mj_bb y) pc = .ok (.multianewarray ix 2, 4)) (h : mj_nwm (pc + 4) L S Z = some (.inl a)) : mj_G z0 cst p l e R s m args below meth c Q n0 s0 Z S pc H locs ls := by
  obtain ⟨xZ, xL, xS, xW, xV, xl, xN, xM⟩ := X
  have hlink := C.2.2.2.2.1 _ (mj_in (mj_cL_ok _ hx) rfl)
  unfold mj_nwm at h
  split at h
  · rename_i k n S
    rw [mj_okS_c, mj_okS_c] at xS
    split at h
    · rename_i hn
      obtain rfl := mj_go_a h
      have e1 : mj_nc (Z.1 ++ (3, n.toNat, (List.range n.toNat).map (fun i => .inr (some (Z.1.length + 1 + i)))) :: List.replicate n.toNat (1, k.toNat, []), mj_zr Z.2.1 Z.1.length 0, mj_zr Z.2.2 Z.1.length 0) = mj_nc Z + (1 + n.toNat) := by simp [mj_nc]; omega
      have e2 : mj_ns (Z.1 ++ (3, n.toNat, (List.range n.toNat).map (fun i => .inr (some (Z.1.length + 1 + i)))) :: List.replicate n.toNat (1, k.toNat, []), mj_zr Z.2.1 Z.1.length 0, mj_zr Z.2.2 Z.1.length 0) = mj_ns Z + (n.toNat + n.toNat * k.toNat) := by
        show mj_sm (_ ++ _) = _
        rw [mj_sm_app, mj_sm, mj_sm_rep]
        rfl
      dsimp only at hrm
      rw [e1, e2] at hrm
      refine mm_row (N := n.toNat) (M := k.toNat) C.1 C.2.1 C.2.2.2.1 hlink C.2.2.2.2.2.2.2.1.2.2.1 (C.2.2.2.2.1 _ mj_wob.2.2.1) hd (mj_nn xS.2.1 hn.1) (mj_nn xS.1 hn.2.2.1) (mj_clamp xS.2.1) (mj_clamp xS.1) (by omega) (by omega) (by omega) (by omega) (fun H1 cA cB fA fB hold htop hrow hsz => ?_)
      have hA2 := (C.2.2.2.2.2.2.1.2 2 (dA 3, .array .int) rfl).2
      have hB2 := (C.2.2.2.2.2.2.1.2 0 (dA 1, .int) rfl).2
      have hA : cA = dA 3 := Option.some.inj (fA.symm.trans hA2)
      have hB : cB = dA 1 := Option.some.inj (fB.symm.trans hB2)
      subst hA
      subst hB
      have hH : H.size = z0 + Z.1.length := xW.1
      rw [hH] at htop hrow hold
      have hP : va_P dD mj_cl (mj_W z0 dA (Z.1 ++ (3, n.toNat, (List.range n.toNat).map (fun i => .inr (some (Z.1.length + 1 + i)))) :: List.replicate n.toNat (1, k.toNat, []), mj_zr Z.2.1 Z.1.length 0, mj_zr Z.2.2 Z.1.length 0)) H1 := by
        intro i q hq
        rw [mj_W_app] at hq
        by_cases hi : i < Z.1.length
        · rw [List.getElem?_append_left (by rw [mj_W_len]; exact hi)] at hq
          have h1 := xW.2 i q hq
          exact h1.kept (hold _ (by have := h1.lt; omega))
        · rw [List.getElem?_append_right (by rw [mj_W_len]; omega), mj_W_len, List.getElem?_mapIdx] at hq
          generalize hj : i - Z.1.length = j at hq
          cases j with
          | zero =>
            cases hq
            show H1[z0 + (Z.1.length + 0)]? = some (vp_cell (dA 3) (n.toNat, .inr (.inr (.inr (.inr fun j => mj_rf z0 _ j)))))
            rw [Nat.add_zero, htop, vp_cell_q]
            congr 1
            unfold mm_o
            apply mj_arrV_congr
            intro j hj
            rw [if_pos hj]
            unfold mj_rf
            rw [List.getElem?_map, List.getElem?_range hj]
            show Value.ref (z0 + Z.1.length + 1 + j) = Value.ref (z0 + (Z.1.length + 1 + j))
            rw [show z0 + Z.1.length + 1 + j = z0 + (Z.1.length + 1 + j) by omega]
          | succ j =>
            rw [List.getElem?_cons_succ, List.getElem?_replicate] at hq
            by_cases hj2 : j < n.toNat
            · rw [if_pos hj2] at hq
              cases hq
              show H1[z0 + (Z.1.length + (j + 1))]? = some (vp_cell (dA 1) (k.toNat, .inl fun j2 => Int32.ofInt (mj_zr Z.2.1 Z.1.length 0 (Z.1.length + (j + 1)) j2)))
              rw [show z0 + (Z.1.length + (j + 1)) = z0 + Z.1.length + 1 + j by omega, hrow j hj2, vp_cell_i]
              congr 1
              unfold mm_r
              congr 1
              funext j2
              rw [mj_zr_new (by omega)]
              rfl
            · rw [if_neg hj2] at hq
              cases hq
      have hS : va_S (mj_Ad z0) s.heap H1 locs := ⟨by have := xV.1; omega, fun q h1 h2 => (hold q (by have := xV.1; omega)).trans (xV.2.1 q h1 h2), xV.2.2⟩
      rw [hH]
      refine W.cs (cells' := mj_nc (Z.1 ++ (3, n.toNat, (List.range n.toNat).map (fun i => .inr (some (Z.1.length + 1 + i)))) :: List.replicate n.toNat (1, k.toNat, []), mj_zr Z.2.1 Z.1.length 0, mj_zr Z.2.2 Z.1.length 0) - n0) (slots' := mj_ns (Z.1 ++ (3, n.toNat, (List.range n.toNat).map (fun i => .inr (some (Z.1.length + 1 + i)))) :: List.replicate n.toNat (1, k.toNat, []), mj_zr Z.2.1 Z.1.length 0, mj_zr Z.2.2 Z.1.length 0) - s0) (by rw [e1]; omega) (by rw [e2]; omega) ?_
      exact kk H1 locs ls ⟨by show H1.size = z0 + mj_nc (Z.1 ++ (3, n.toNat, (List.range n.toNat).map (fun i => .inr (some (Z.1.length + 1 + i)))) :: List.replicate n.toNat (1, k.toNat, []), mj_zr Z.2.1 Z.1.length 0, mj_zr Z.2.2 Z.1.length 0); rw [e1, hsz, hH]; show _ = z0 + (Z.1.length + _); omega, hP⟩ hS xl
    · cases h
  · cases h
theorem mj_s_aast (C : mj_Cx K z0 cst dD dA y n0 p s m args meth c) (X : mj_St z0 cst dD dA y n0 s0 s Z L S H locs ls) (kk : mj_Nx z0 cst dD dA y p l e R s m args below meth c Q n0 s0 a) (hR : 1 ≤ R.frames ∧ 64 ≤ R.locals) (hrm : mj_nc a.2.2.2 - n0 ≤ R.cells ∧ mj_ns a.2.2.2 - s0 ≤ R.slots)  (hd : decode (mj_bb y) pc = .ok (.aastore, 1)) (h : mj_aast (pc + 1) L S Z = some (.inl a)) : mj_G z0 cst p l e R s m args below meth c Q n0 s0 Z S pc H locs ls := by
  obtain ⟨xZ, xL, xS, xW, xV, xl, xN, xM⟩ := X
  unfold mj_aast at h
  split at h
  · rename_i b i q S
    rw [mj_okS_c, mj_okS_c] at xS
    split at h
    · rename_i n ks ks2 g1 g2
      split at h
      · rename_i hi
        obtain rfl := mj_go_a h
        refine va_astq C.1 C.2.1 C.2.2.2.2.2.2.1 xW.2 mj_D xV q 3 b 7 (mj_W_get g1) rfl (mj_W_obj g2) (mj_cl_at (ci := 7) (by decide)) (mj_vin xS.2.1 ⟨hi.1, hi.2.1⟩) hd (fun H1 locs1 hP hD hS => ?_)
        have e1 : mj_nc (Z.1.set q (4, n, ks.set i.toNat (.inr (some b))), Z.2) = mj_nc Z := List.length_set
        have e2 : mj_ns (Z.1.set q (4, n, ks.set i.toNat (.inr (some b))), Z.2) = mj_ns Z := mj_sm_set _ _ _ _ g1 (by simp [mj_sz])
        have e3 : va_up (fun j => mj_rf z0 ks j) (Int32.ofInt i).toNatClampNeg (some (z0 + b)) = fun j => mj_rf z0 (ks.set i.toNat (.inr (some b))) j := by
          rw [mj_clamp xS.2.1]
          funext j
          unfold va_up mj_rf
          by_cases e : j = i.toNat
          · subst e
            rw [if_pos rfl, List.getElem?_set_self hi.2.2]
          · rw [if_neg e, List.getElem?_set_ne (fun q => e q.symm)]
        rw [e3, mj_W_set (z0 := z0) (dA := dA) (Z := Z) (e := .inl (dA 4, n, .inr (.inr (.inr (.inr fun j => mj_rf z0 (ks.set i.toNat (.inr (some b))) j))))) (Z' := (Z.1.set q (4, n, ks.set i.toNat (.inr (some b))), Z.2)) (sh := (4, n, ks.set i.toNat (.inr (some b)))) List.length_set (List.getElem?_set_self (List.getElem?_eq_some_iff.mp g1).1) rfl (fun i2 hi2 sh hsh => ⟨by rw [List.getElem?_set_ne (fun q => hi2 q.symm)]; exact hsh, rfl⟩)] at hP
        refine W.cs (cells' := mj_nc (Z.1.set q (4, n, ks.set i.toNat (.inr (some b))), Z.2) - n0) (slots' := mj_ns (Z.1.set q (4, n, ks.set i.toNat (.inr (some b))), Z.2) - s0) (by rw [e1]) (by rw [e2]) ?_
        exact mj_szd (Z := (Z.1.set q (4, n, ks.set i.toNat (.inr (some b))), Z.2)) C (by rw [e1]; exact xN) hP hS (fun hw => kk H1 locs1 ls hw hS xl)
      · cases h
    · cases h
  · cases h
end Steps
