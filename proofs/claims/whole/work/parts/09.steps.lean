-- each mini instruction is what the machine does
def mj_ty (dA : Nat → ClassId) : List (ClassId × FieldType) := [(dA 1, .int), (dA 2, .long), (dA 3, .array .int), (dA 4, .object "PermitBank$Tape")]
def mj_Cx (K : mj_C) (z0 : Nat) (cst : Nat → Nat) (dD : va_G) (dA : Nat → ClassId) (y n0 : Nat) (p : Program) (s : State) (m : MethodId) (args : Array Value) (meth : Method) (c : Code) : Prop :=
  p.tables.exec = Jvm.exec ∧ c.code = mj_bb y ∧ c.maxLocals = mj_ml y ∧ s.vm.findClass (mj_own (mj_ci y)) = some m.cls ∧ (∀ w ∈ mj_gt, w.before args s = true) ∧ ((mj_yy y).name = "<init>" → meth.name = "<init>") ∧ va_K dD mj_cl (mj_ty dA) s ∧ mj_CW K z0 cst s s.heap ∧ z0 ≤ s.heap.size ∧ (∀ k j, mj_rg ((K k).2 j)) ∧ s.heap.size = z0 + n0
def mj_Ad (z0 : Nat) : Nat → Prop := fun q => z0 ≤ q
def mj_St (z0 : Nat) (cst : Nat → Nat) (dD : va_G) (dA : Nat → ClassId) (y n0 s0 : Nat) (s : State) (Z : mj_Z) (L : mj_L) (S : List mj_V) (H : Heap) (locs : List Loc) (ls : Array Slot) : Prop :=
  mj_okZ Z ∧ mj_okL L ∧ mj_okS S ∧ mj_Wd z0 dD dA Z H ∧ va_S (mj_Ad z0) s.heap H locs ∧ mj_LH z0 cst ls (mj_ml y) L ∧ n0 ≤ mj_nc Z ∧ s0 ≤ mj_ns Z
def mj_G (z0 : Nat) (cst : Nat → Nat) (p : Program) (l : Launch) (e : Env) (R : Room) (s : State) (m : MethodId) (args : Array Value) (below : List Frame) (meth : Method) (c : Code) (Q : State → Prop) (n0 s0 : Nat) (Z : mj_Z) (S : List mj_V) (pc : Nat) (H : Heap) (locs : List Loc) (ls : Array Slot) : Prop :=
  W p l e R s m args below meth c H locs (mj_nc Z - n0) (mj_ns Z - s0) Q (F0 m pc ls (S.map (mj_rl z0 cst)))
def mj_Nx (z0 : Nat) (cst : Nat → Nat) (dD : va_G) (dA : Nat → ClassId) (y : Nat) (p : Program) (l : Launch) (e : Env) (R : Room) (s : State) (m : MethodId) (args : Array Value) (below : List Frame) (meth : Method) (c : Code) (Q : State → Prop) (n0 s0 : Nat) (a : Nat × mj_L × List mj_V × mj_Z) : Prop :=
  ∀ (H : Heap) (locs : List Loc) (ls : Array Slot), mj_Wd z0 dD dA a.2.2.2 H → va_S (mj_Ad z0) s.heap H locs → mj_LH z0 cst ls (mj_ml y) a.2.1 → mj_G z0 cst p l e R s m args below meth c Q n0 s0 a.2.2.2 a.2.2.1 a.1 H locs ls
theorem mj_go_a {pc : Nat} {L : mj_L} {S : List mj_V} {Z : mj_Z} {a : Nat × mj_L × List mj_V × mj_Z} (h : mj_go pc L S Z = some (.inl a)) : a = (pc, L, S, Z) := by
  unfold mj_go at h
  cases h
  rfl
theorem mj_lt32 {x y : Int} (hx : mj_rg x) (hy : mj_rg y) : Int32.ofInt x < Int32.ofInt y ↔ x < y := by
  have h1 := Int32.toInt_ofInt_of_le (n := x) (by have := hx.1; omega) (by have := hx.2; omega)
  have h2 := Int32.toInt_ofInt_of_le (n := y) (by have := hy.1; omega) (by have := hy.2; omega)
  rw [Int32.lt_iff_toInt_lt, h1, h2]
theorem mj_le32 {x y : Int} (hx : mj_rg x) (hy : mj_rg y) : Int32.ofInt x ≤ Int32.ofInt y ↔ x ≤ y := by
  have h1 := Int32.toInt_ofInt_of_le (n := x) (by have := hx.1; omega) (by have := hx.2; omega)
  have h2 := Int32.toInt_ofInt_of_le (n := y) (by have := hy.1; omega) (by have := hy.2; omega)
  rw [Int32.le_iff_toInt_le, h1, h2]
theorem mj_eq32 {x y : Int} (hx : mj_rg x) (hy : mj_rg y) : Int32.ofInt x = Int32.ofInt y ↔ x = y := by
  have h1 := Int32.toInt_ofInt_of_le (n := x) (by have := hx.1; omega) (by have := hx.2; omega)
  have h2 := Int32.toInt_ofInt_of_le (n := y) (by have := hy.1; omega) (by have := hy.2; omega)
  rw [← Int32.toInt_inj, h1, h2]
theorem mj_toI {x : Int} (hx : mj_rg x) : (Int32.ofInt x).toInt = x := Int32.toInt_ofInt_of_le (by have := hx.1; omega) (by have := hx.2; omega)
theorem mj_clamp {x : Int} (hx : mj_rg x) : (Int32.ofInt x).toNatClampNeg = x.toNat := by
  show (Int32.ofInt x).toInt.toNat = _
  rw [mj_toI hx]
theorem mj_rg0 : mj_rg 0 := ⟨by decide, by decide⟩
theorem mj_vin {x : Int} {n : Nat} (hx : mj_rg x) (h : 0 ≤ x ∧ x < n) : vp_in (Int32.ofInt x) n := by
  unfold vp_in
  rw [show (0 : Int32) = Int32.ofInt 0 from rfl, mj_lt32 hx mj_rg0, mj_clamp hx]
  omega
theorem mj_dv32 {x y : Int} (hx : mj_rg x) (hy : mj_rg y) (h : 0 < y) : Int32.ofInt x / Int32.ofInt y = Int32.ofInt (x.tdiv y) := by
  apply Int32.toInt_inj.mp
  have h1 := mj_rg_tdiv hx h
  rw [Int32.toInt_div, mj_toI hx, mj_toI hy, mj_toI h1]
  apply Int.bmod_eq_of_le <;> have := h1.1 <;> have := h1.2 <;> omega
theorem mj_rm32 {x y : Int} (hx : mj_rg x) (hy : mj_rg y) (h : 0 < y) : Int32.ofInt x - Int32.ofInt x / Int32.ofInt y * Int32.ofInt y = Int32.ofInt (x.tmod y) := by
  apply Int32.toInt_inj.mp
  rw [rem_toInt, mj_toI hx, mj_toI hy, mj_toI (mj_rg_tmod h hy)]
theorem mj_and63 (x : Int) : Int32.ofInt x &&& Int32.ofInt 63 = Int32.ofInt (x % 64) := by
  apply Int32.toBitVec.inj
  show BitVec.ofInt 32 x &&& BitVec.ofInt 32 63 = BitVec.ofInt 32 (x % 64)
  apply BitVec.eq_of_toNat_eq
  rw [BitVec.toNat_and, BitVec.toNat_ofInt, BitVec.toNat_ofInt, BitVec.toNat_ofInt]
  have e : ((63 : Int) % (2 ^ 32 : Nat)).toNat = 2 ^ 6 - 1 := by decide
  rw [e, Nat.and_two_pow_sub_one_eq_mod]
  omega
section Steps
variable {K : mj_C} {z0 : Nat} {cst : Nat → Nat} {dD : va_G} {dA : Nat → ClassId} {y : Nat} {p : Program} {l : Launch} {e : Env} {R : Room} {s : State} {m : MethodId} {args : Array Value} {below : List Frame} {meth : Method} {c : Code} {Q : State → Prop} {n0 s0 : Nat}
variable {Z : mj_Z} {L : mj_L} {S : List mj_V} {H : Heap} {locs : List Loc} {ls : Array Slot} {pc : Nat} {a : Nat × mj_L × List mj_V × mj_Z}
theorem mj_s_iconst (C : mj_Cx K z0 cst dD dA y n0 p s m args meth c) (X : mj_St z0 cst dD dA y n0 s0 s Z L S H locs ls) (kk : mj_Nx z0 cst dD dA y p l e R s m args below meth c Q n0 s0 a) {n : Int} (hn : -128 ≤ n ∧ n ≤ 127) (hd : decode (mj_bb y) pc = .ok (.iconst n, 1)) (h : mj_go (pc + 1) L (.inl n :: S) Z = some (.inl a)) : mj_G z0 cst p l e R s m args below meth c Q n0 s0 Z S pc H locs ls := by
  obtain ⟨xZ, xL, xS, xW, xV, xl, xN, xM⟩ := X
  obtain rfl := mj_go_a h
  exact lv_iconst C.1 C.2.1 hd rfl (kk H locs ls xW xV xl)
theorem mj_s_bipush (C : mj_Cx K z0 cst dD dA y n0 p s m args meth c) (X : mj_St z0 cst dD dA y n0 s0 s Z L S H locs ls) (kk : mj_Nx z0 cst dD dA y p l e R s m args below meth c Q n0 s0 a) {n : Int} (hn : -128 ≤ n ∧ n ≤ 127) (hd : decode (mj_bb y) pc = .ok (.bipush n, 2)) (h : mj_go (pc + 2) L (.inl n :: S) Z = some (.inl a)) : mj_G z0 cst p l e R s m args below meth c Q n0 s0 Z S pc H locs ls := by
  obtain ⟨xZ, xL, xS, xW, xV, xl, xN, xM⟩ := X
  obtain rfl := mj_go_a h
  exact lv_bipush C.1 C.2.1 hd (by apply Int32.toInt_inj.mp; rw [Int8.toInt_toInt32, Int8.toInt_ofInt_of_le (by omega) (by omega), mj_toI ⟨by omega, by omega⟩]) (kk H locs ls xW xV xl)
theorem mj_s_sipush (C : mj_Cx K z0 cst dD dA y n0 p s m args meth c) (X : mj_St z0 cst dD dA y n0 s0 s Z L S H locs ls) (kk : mj_Nx z0 cst dD dA y p l e R s m args below meth c Q n0 s0 a) {n : Int} (hn : -32768 ≤ n ∧ n ≤ 32767) (hd : decode (mj_bb y) pc = .ok (.sipush n, 3)) (h : mj_go (pc + 3) L (.inl n :: S) Z = some (.inl a)) : mj_G z0 cst p l e R s m args below meth c Q n0 s0 Z S pc H locs ls := by
  obtain ⟨xZ, xL, xS, xW, xV, xl, xN, xM⟩ := X
  obtain rfl := mj_go_a h
  exact lv_sipush C.1 C.2.1 hd (by apply Int32.toInt_inj.mp; rw [Int16.toInt_toInt32, Int16.toInt_ofInt_of_le (by omega) (by omega), mj_toI ⟨by omega, by omega⟩]) (kk H locs ls xW xV xl)
theorem mj_s_iload_n (C : mj_Cx K z0 cst dD dA y n0 p s m args meth c) (X : mj_St z0 cst dD dA y n0 s0 s Z L S H locs ls) (kk : mj_Nx z0 cst dD dA y p l e R s m args below meth c Q n0 s0 a) {k : Fin 4} (hd : decode (mj_bb y) pc = .ok (.iload_n k, 1)) (h : mj_o1 k (pc + 1) L S Z = some (.inl a)) : mj_G z0 cst p l e R s m args below meth c Q n0 s0 Z S pc H locs ls := by
  obtain ⟨xZ, xL, xS, xW, xV, xl, xN, xM⟩ := X
  unfold mj_o1 at h
  split at h
  · rename_i w hx
    obtain rfl := mj_go_a h
    exact lv_iload_n C.1 C.2.1 hd rfl (xl.2.2.2 _ _ hx) (kk H locs ls xW xV xl)
  · cases h
theorem mj_s_iload (C : mj_Cx K z0 cst dD dA y n0 p s m args meth c) (X : mj_St z0 cst dD dA y n0 s0 s Z L S H locs ls) (kk : mj_Nx z0 cst dD dA y p l e R s m args below meth c Q n0 s0 a) {k : Nat} (hd : decode (mj_bb y) pc = .ok (.iload k, 2)) (h : mj_o1 k (pc + 2) L S Z = some (.inl a)) : mj_G z0 cst p l e R s m args below meth c Q n0 s0 Z S pc H locs ls := by
  obtain ⟨xZ, xL, xS, xW, xV, xl, xN, xM⟩ := X
  unfold mj_o1 at h
  split at h
  · rename_i w hx
    obtain rfl := mj_go_a h
    exact lv_iload C.1 C.2.1 hd (xl.2.2.2 _ _ hx) (kk H locs ls xW xV xl)
  · cases h
theorem mj_s_aload_n (C : mj_Cx K z0 cst dD dA y n0 p s m args meth c) (X : mj_St z0 cst dD dA y n0 s0 s Z L S H locs ls) (kk : mj_Nx z0 cst dD dA y p l e R s m args below meth c Q n0 s0 a) {k : Fin 4} (hd : decode (mj_bb y) pc = .ok (.aload_n k, 1)) (h : mj_o2 k (pc + 1) L S Z = some (.inl a)) : mj_G z0 cst p l e R s m args below meth c Q n0 s0 Z S pc H locs ls := by
  obtain ⟨xZ, xL, xS, xW, xV, xl, xN, xM⟩ := X
  unfold mj_o2 at h
  split at h
  · rename_i w hx
    obtain rfl := mj_go_a h
    rcases w with w | w
    · exact lv_aload_n C.1 C.2.1 hd rfl (xl.2.2.2 _ _ hx) (kk H locs ls xW xV xl)
    · exact lv_aload_n C.1 C.2.1 hd rfl (xl.2.2.2 _ _ hx) (kk H locs ls xW xV xl)
  · cases h
theorem mj_s_aload (C : mj_Cx K z0 cst dD dA y n0 p s m args meth c) (X : mj_St z0 cst dD dA y n0 s0 s Z L S H locs ls) (kk : mj_Nx z0 cst dD dA y p l e R s m args below meth c Q n0 s0 a) {k : Nat} (hd : decode (mj_bb y) pc = .ok (.aload k, 2)) (h : mj_o2 k (pc + 2) L S Z = some (.inl a)) : mj_G z0 cst p l e R s m args below meth c Q n0 s0 Z S pc H locs ls := by
  obtain ⟨xZ, xL, xS, xW, xV, xl, xN, xM⟩ := X
  unfold mj_o2 at h
  split at h
  · rename_i w hx
    obtain rfl := mj_go_a h
    rcases w with w | w
    · exact lv_aload C.1 C.2.1 hd (xl.2.2.2 _ _ hx) (kk H locs ls xW xV xl)
    · exact lv_aload C.1 C.2.1 hd (xl.2.2.2 _ _ hx) (kk H locs ls xW xV xl)
  · cases h
theorem mj_s_lload_n (C : mj_Cx K z0 cst dD dA y n0 p s m args meth c) (X : mj_St z0 cst dD dA y n0 s0 s Z L S H locs ls) (kk : mj_Nx z0 cst dD dA y p l e R s m args below meth c Q n0 s0 a) {k : Fin 4} (hd : decode (mj_bb y) pc = .ok (.lload_n k, 1)) (h : mj_o3 k (pc + 1) L S Z = some (.inl a)) : mj_G z0 cst p l e R s m args below meth c Q n0 s0 Z S pc H locs ls := by
  obtain ⟨xZ, xL, xS, xW, xV, xl, xN, xM⟩ := X
  unfold mj_o3 at h
  split at h
  · rename_i w hx
    obtain rfl := mj_go_a h
    exact lv_lload_n C.1 C.2.1 hd rfl (xl.2.2.2 _ _ hx) (kk H locs ls xW xV xl)
  · cases h
theorem mj_s_lload (C : mj_Cx K z0 cst dD dA y n0 p s m args meth c) (X : mj_St z0 cst dD dA y n0 s0 s Z L S H locs ls) (kk : mj_Nx z0 cst dD dA y p l e R s m args below meth c Q n0 s0 a) {k : Nat} (hd : decode (mj_bb y) pc = .ok (.lload k, 2)) (h : mj_o3 k (pc + 2) L S Z = some (.inl a)) : mj_G z0 cst p l e R s m args below meth c Q n0 s0 Z S pc H locs ls := by
  obtain ⟨xZ, xL, xS, xW, xV, xl, xN, xM⟩ := X
  unfold mj_o3 at h
  split at h
  · rename_i w hx
    obtain rfl := mj_go_a h
    exact lv_lload C.1 C.2.1 hd (xl.2.2.2 _ _ hx) (kk H locs ls xW xV xl)
  · cases h
theorem mj_s_istore_n (C : mj_Cx K z0 cst dD dA y n0 p s m args meth c) (X : mj_St z0 cst dD dA y n0 s0 s Z L S H locs ls) (kk : mj_Nx z0 cst dD dA y p l e R s m args below meth c Q n0 s0 a) {k : Fin 4} (hd : decode (mj_bb y) pc = .ok (.istore_n k, 1)) (h : mj_o4 k (pc + 1) L S Z = some (.inl a)) : mj_G z0 cst p l e R s m args below meth c Q n0 s0 Z S pc H locs ls := by
  obtain ⟨xZ, xL, xS, xW, xV, xl, xN, xM⟩ := X
  unfold mj_o4 at h
  split at h
  · rename_i w S
    split at h
    · rename_i hk
      obtain rfl := mj_go_a h
      exact lv_istore_n C.1 C.2.1 hd rfl (mj_LH_has xl) (by rw [← xl.1]; exact hk) rfl (fun ls1 h1 => kk H locs ls1 xW xV (mj_LH_st1 xl.1 (by rw [← xl.1]; exact hk) h1))
    · cases h
  · cases h
theorem mj_s_istore (C : mj_Cx K z0 cst dD dA y n0 p s m args meth c) (X : mj_St z0 cst dD dA y n0 s0 s Z L S H locs ls) (kk : mj_Nx z0 cst dD dA y p l e R s m args below meth c Q n0 s0 a) {k : Nat} (hd : decode (mj_bb y) pc = .ok (.istore k, 2)) (h : mj_o4 k (pc + 2) L S Z = some (.inl a)) : mj_G z0 cst p l e R s m args below meth c Q n0 s0 Z S pc H locs ls := by
  obtain ⟨xZ, xL, xS, xW, xV, xl, xN, xM⟩ := X
  unfold mj_o4 at h
  split at h
  · rename_i w S
    split at h
    · rename_i hk
      obtain rfl := mj_go_a h
      exact lv_istore C.1 C.2.1 hd (mj_LH_has xl) (by rw [← xl.1]; exact hk) rfl (fun ls1 h1 => kk H locs ls1 xW xV (mj_LH_st1 xl.1 (by rw [← xl.1]; exact hk) h1))
    · cases h
  · cases h
theorem mj_s_astore_n (C : mj_Cx K z0 cst dD dA y n0 p s m args meth c) (X : mj_St z0 cst dD dA y n0 s0 s Z L S H locs ls) (kk : mj_Nx z0 cst dD dA y p l e R s m args below meth c Q n0 s0 a) {k : Fin 4} (hd : decode (mj_bb y) pc = .ok (.astore_n k, 1)) (h : mj_o5 k (pc + 1) L S Z = some (.inl a)) : mj_G z0 cst p l e R s m args below meth c Q n0 s0 Z S pc H locs ls := by
  obtain ⟨xZ, xL, xS, xW, xV, xl, xN, xM⟩ := X
  unfold mj_o5 at h
  split at h
  · rename_i w S
    split at h
    · rename_i hk
      obtain rfl := mj_go_a h
      rcases w with w | w
      · exact lv_astore_n C.1 C.2.1 hd rfl (mj_LH_has xl) (by rw [← xl.1]; exact hk) rfl (fun ls1 h1 => kk H locs ls1 xW xV (mj_LH_st1 xl.1 (by rw [← xl.1]; exact hk) h1))
      · exact lv_astore_n C.1 C.2.1 hd rfl (mj_LH_has xl) (by rw [← xl.1]; exact hk) rfl (fun ls1 h1 => kk H locs ls1 xW xV (mj_LH_st1 xl.1 (by rw [← xl.1]; exact hk) h1))
    · cases h
  · cases h
theorem mj_s_astore (C : mj_Cx K z0 cst dD dA y n0 p s m args meth c) (X : mj_St z0 cst dD dA y n0 s0 s Z L S H locs ls) (kk : mj_Nx z0 cst dD dA y p l e R s m args below meth c Q n0 s0 a) {k : Nat} (hd : decode (mj_bb y) pc = .ok (.astore k, 2)) (h : mj_o5 k (pc + 2) L S Z = some (.inl a)) : mj_G z0 cst p l e R s m args below meth c Q n0 s0 Z S pc H locs ls := by
  obtain ⟨xZ, xL, xS, xW, xV, xl, xN, xM⟩ := X
  unfold mj_o5 at h
  split at h
  · rename_i w S
    split at h
    · rename_i hk
      obtain rfl := mj_go_a h
      rcases w with w | w
      · exact lv_astore C.1 C.2.1 hd (mj_LH_has xl) (by rw [← xl.1]; exact hk) rfl (fun ls1 h1 => kk H locs ls1 xW xV (mj_LH_st1 xl.1 (by rw [← xl.1]; exact hk) h1))
      · exact lv_astore C.1 C.2.1 hd (mj_LH_has xl) (by rw [← xl.1]; exact hk) rfl (fun ls1 h1 => kk H locs ls1 xW xV (mj_LH_st1 xl.1 (by rw [← xl.1]; exact hk) h1))
    · cases h
  · cases h
theorem mj_s_lstore_n (C : mj_Cx K z0 cst dD dA y n0 p s m args meth c) (X : mj_St z0 cst dD dA y n0 s0 s Z L S H locs ls) (kk : mj_Nx z0 cst dD dA y p l e R s m args below meth c Q n0 s0 a) {k : Fin 4} (hd : decode (mj_bb y) pc = .ok (.lstore_n k, 1)) (h : mj_o6 k (pc + 1) L S Z = some (.inl a)) : mj_G z0 cst p l e R s m args below meth c Q n0 s0 Z S pc H locs ls := by
  obtain ⟨xZ, xL, xS, xW, xV, xl, xN, xM⟩ := X
  unfold mj_o6 at h
  split at h
  · rename_i w S
    split at h
    · rename_i hk
      obtain rfl := mj_go_a h
      exact lv_lstore_n C.1 C.2.1 hd rfl (mj_LH_has xl) (by rw [← xl.1]; exact hk) rfl (fun ls1 h1 => kk H locs ls1 xW xV (mj_LH_st2 xl.1 (by rw [← xl.1]; exact hk) h1))
    · cases h
  · cases h
theorem mj_s_lstore (C : mj_Cx K z0 cst dD dA y n0 p s m args meth c) (X : mj_St z0 cst dD dA y n0 s0 s Z L S H locs ls) (kk : mj_Nx z0 cst dD dA y p l e R s m args below meth c Q n0 s0 a) {k : Nat} (hd : decode (mj_bb y) pc = .ok (.lstore k, 2)) (h : mj_o6 k (pc + 2) L S Z = some (.inl a)) : mj_G z0 cst p l e R s m args below meth c Q n0 s0 Z S pc H locs ls := by
  obtain ⟨xZ, xL, xS, xW, xV, xl, xN, xM⟩ := X
  unfold mj_o6 at h
  split at h
  · rename_i w S
    split at h
    · rename_i hk
      obtain rfl := mj_go_a h
      exact lv_lstore C.1 C.2.1 hd (mj_LH_has xl) (by rw [← xl.1]; exact hk) rfl (fun ls1 h1 => kk H locs ls1 xW xV (mj_LH_st2 xl.1 (by rw [← xl.1]; exact hk) h1))
    · cases h
  · cases h
theorem mj_s_iinc (C : mj_Cx K z0 cst dD dA y n0 p s m args meth c) (X : mj_St z0 cst dD dA y n0 s0 s Z L S H locs ls) (kk : mj_Nx z0 cst dD dA y p l e R s m args below meth c Q n0 s0 a) {n : Int} {k : Nat} (hd : decode (mj_bb y) pc = .ok (.iinc k n, 3)) (h : mj_o7 n k (pc + 3) L S Z = some (.inl a)) : mj_G z0 cst p l e R s m args below meth c Q n0 s0 Z S pc H locs ls := by
  obtain ⟨xZ, xL, xS, xW, xV, xl, xN, xM⟩ := X
  unfold mj_o7 at h
  split at h
  · rename_i x hx
    split at h
    · rename_i hk
      split at h
      · obtain rfl := mj_go_a h
        obtain ⟨q, hq⟩ := List.getElem?_of_mem (mj_al2_in (z0 := z0) (cst := cst) hx)
        refine lv_iinc C.1 C.2.1 hd (mj_LH_has xl) (k := q) (x := Int32.ofInt x) hq (v := Int32.ofInt (x + n)) (Int32.ofInt_add _ _).symm (by rw [← xl.1]; exact hk) rfl (fun ls1 h1 => kk H locs ls1 xW xV (mj_LH_st1 (v := .inl (x + n)) xl.1 (by rw [← xl.1]; exact hk) h1))
      · cases h
    · cases h
  · cases h
theorem mj_s_iadd (C : mj_Cx K z0 cst dD dA y n0 p s m args meth c) (X : mj_St z0 cst dD dA y n0 s0 s Z L S H locs ls) (kk : mj_Nx z0 cst dD dA y p l e R s m args below meth c Q n0 s0 a)  (hd : decode (mj_bb y) pc = .ok (.iadd, 1)) (h : mj_bin (fun x y => x + y) (pc + 1) L S Z = some (.inl a)) : mj_G z0 cst p l e R s m args below meth c Q n0 s0 Z S pc H locs ls := by
  obtain ⟨xZ, xL, xS, xW, xV, xl, xN, xM⟩ := X
  unfold mj_bin at h
  split at h
  · split at h
    · obtain rfl := mj_go_a h
      refine lv_iadd C.1 C.2.1 hd ?_
      rw [← Int32.ofInt_add]
      exact kk H locs ls xW xV xl
    · cases h
  · cases h
theorem mj_s_isub (C : mj_Cx K z0 cst dD dA y n0 p s m args meth c) (X : mj_St z0 cst dD dA y n0 s0 s Z L S H locs ls) (kk : mj_Nx z0 cst dD dA y p l e R s m args below meth c Q n0 s0 a)  (hd : decode (mj_bb y) pc = .ok (.isub, 1)) (h : mj_bin (fun x y => x - y) (pc + 1) L S Z = some (.inl a)) : mj_G z0 cst p l e R s m args below meth c Q n0 s0 Z S pc H locs ls := by
  obtain ⟨xZ, xL, xS, xW, xV, xl, xN, xM⟩ := X
  unfold mj_bin at h
  split at h
  · split at h
    · obtain rfl := mj_go_a h
      refine lv_isub C.1 C.2.1 hd ?_
      rw [← Int32.ofInt_sub]
      exact kk H locs ls xW xV xl
    · cases h
  · cases h
theorem mj_s_imul (C : mj_Cx K z0 cst dD dA y n0 p s m args meth c) (X : mj_St z0 cst dD dA y n0 s0 s Z L S H locs ls) (kk : mj_Nx z0 cst dD dA y p l e R s m args below meth c Q n0 s0 a)  (hd : decode (mj_bb y) pc = .ok (.imul, 1)) (h : mj_bin (fun x y => x * y) (pc + 1) L S Z = some (.inl a)) : mj_G z0 cst p l e R s m args below meth c Q n0 s0 Z S pc H locs ls := by
  obtain ⟨xZ, xL, xS, xW, xV, xl, xN, xM⟩ := X
  unfold mj_bin at h
  split at h
  · split at h
    · obtain rfl := mj_go_a h
      refine lv_imul C.1 C.2.1 hd ?_
      rw [← Int32.ofInt_mul]
      exact kk H locs ls xW xV xl
    · cases h
  · cases h
theorem mj_s_idiv (C : mj_Cx K z0 cst dD dA y n0 p s m args meth c) (X : mj_St z0 cst dD dA y n0 s0 s Z L S H locs ls) (kk : mj_Nx z0 cst dD dA y p l e R s m args below meth c Q n0 s0 a)  (hd : decode (mj_bb y) pc = .ok (.idiv, 1)) (h : mj_dv (fun x y => x.tdiv y) (pc + 1) L S Z = some (.inl a)) : mj_G z0 cst p l e R s m args below meth c Q n0 s0 Z S pc H locs ls := by
  obtain ⟨xZ, xL, xS, xW, xV, xl, xN, xM⟩ := X
  unfold mj_dv at h
  split at h
  · rw [mj_okS_c, mj_okS_c] at xS
    split at h
    · rename_i hy
      obtain rfl := mj_go_a h
      refine lv_idiv C.1 C.2.1 hd (fun q => ?_) ?_
      · rw [show (0 : Int32) = Int32.ofInt 0 from rfl, mj_eq32 xS.1 mj_rg0] at q
        omega
      rw [mj_dv32 xS.2.1 xS.1 hy]
      exact kk H locs ls xW xV xl
    · cases h
  · cases h
theorem mj_s_irem (C : mj_Cx K z0 cst dD dA y n0 p s m args meth c) (X : mj_St z0 cst dD dA y n0 s0 s Z L S H locs ls) (kk : mj_Nx z0 cst dD dA y p l e R s m args below meth c Q n0 s0 a)  (hd : decode (mj_bb y) pc = .ok (.irem, 1)) (h : mj_dv (fun x y => x.tmod y) (pc + 1) L S Z = some (.inl a)) : mj_G z0 cst p l e R s m args below meth c Q n0 s0 Z S pc H locs ls := by
  obtain ⟨xZ, xL, xS, xW, xV, xl, xN, xM⟩ := X
  unfold mj_dv at h
  split at h
  · rw [mj_okS_c, mj_okS_c] at xS
    split at h
    · rename_i hy
      obtain rfl := mj_go_a h
      refine lv_irem C.1 C.2.1 hd (fun q => ?_) ?_
      · rw [show (0 : Int32) = Int32.ofInt 0 from rfl, mj_eq32 xS.1 mj_rg0] at q
        omega
      rw [mj_rm32 xS.2.1 xS.1 hy]
      exact kk H locs ls xW xV xl
    · cases h
  · cases h
theorem mj_s_ineg (C : mj_Cx K z0 cst dD dA y n0 p s m args meth c) (X : mj_St z0 cst dD dA y n0 s0 s Z L S H locs ls) (kk : mj_Nx z0 cst dD dA y p l e R s m args below meth c Q n0 s0 a)  (hd : decode (mj_bb y) pc = .ok (.ineg, 1)) (h : mj_neg (pc + 1) L S Z = some (.inl a)) : mj_G z0 cst p l e R s m args below meth c Q n0 s0 Z S pc H locs ls := by
  obtain ⟨xZ, xL, xS, xW, xV, xl, xN, xM⟩ := X
  unfold mj_neg at h
  split at h
  · split at h
    · obtain rfl := mj_go_a h
      refine lv_ineg C.1 C.2.1 hd ?_
      have hk := kk H locs ls xW xV xl
      unfold mj_G at hk
      simpa [mj_rl] using hk
    · cases h
  · cases h
theorem mj_s_iand (C : mj_Cx K z0 cst dD dA y n0 p s m args meth c) (X : mj_St z0 cst dD dA y n0 s0 s Z L S H locs ls) (kk : mj_Nx z0 cst dD dA y p l e R s m args below meth c Q n0 s0 a)  (hd : decode (mj_bb y) pc = .ok (.iand, 1)) (h : mj_and (pc + 1) L S Z = some (.inl a)) : mj_G z0 cst p l e R s m args below meth c Q n0 s0 Z S pc H locs ls := by
  obtain ⟨xZ, xL, xS, xW, xV, xl, xN, xM⟩ := X
  unfold mj_and at h
  split at h
  · split at h
    · rename_i hy
      subst hy
      obtain rfl := mj_go_a h
      refine lv_iand C.1 C.2.1 hd ?_
      rw [mj_and63]
      exact kk H locs ls xW xV xl
    · split at h
      · rename_i hy
        obtain rfl := mj_go_a h
        refine lv_iand C.1 C.2.1 hd ?_
        have hk := kk H locs ls xW xV xl
        rcases hy with ⟨rfl | rfl, rfl | rfl⟩ <;> exact hk
      · cases h
  · cases h
theorem mj_fk_ok {h : List mj_S} {a ci j : Nat} {k : mj_K} (q : mj_fk h a ci j = some k) : ∃ ks, h[a]? = some (0, ci, ks) ∧ ks[j]? = some k := by
  unfold mj_fk at q
  split at q
  · rename_i c ks he
    split at q
    · rename_i e1
      subst e1
      exact ⟨ks, he, q⟩
    · cases q
  · cases q
theorem mj_al_ok {h : List mj_S} {t a n : Nat} (q : mj_al h t a = some n) : ∃ ks, h[a]? = some (t, n, ks) ∧ 0 < t := by
  unfold mj_al at q
  split at q
  · rename_i t' n' ks he
    split at q
    · rename_i e1
      cases q
      subst e1
      exact ⟨ks, he, Nat.succ_pos _⟩
    · cases q
  · cases q
theorem mj_W_obj {a ci : Nat} {ks : List mj_K} (h : Z.1[a]? = some (0, ci, ks)) : (mj_W z0 dA Z)[a]? = some (z0 + a, .inr (ci, ks.mapIdx fun j k => mj_fv z0 Z.2.1 Z.2.2 a j k)) := mj_W_get h
theorem mj_fv_at {a j : Nat} {ks : List mj_K} {k : mj_K} (h : ks[j]? = some k) : (ks.mapIdx fun j k => mj_fv z0 Z.2.1 Z.2.2 a j k)[j]? = some (mj_fv z0 Z.2.1 Z.2.2 a j k) := by
  rw [List.getElem?_mapIdx, h]; rfl
theorem mj_s_getf (C : mj_Cx K z0 cst dD dA y n0 p s m args meth c) (X : mj_St z0 cst dD dA y n0 s0 s Z L S H locs ls) (kk : mj_Nx z0 cst dD dA y p l e R s m args below meth c Q n0 s0 a) {ix ci j ps : Nat} (hx : (mj_ci y, ix, ci, j, ps) ∈ mj_fL) (hd : decode (mj_bb y) pc = .ok (.getfield ix, 3)) (h : mj_get ci j (pc + 3) L S Z = some (.inl a)) : mj_G z0 cst p l e R s m args below meth c Q n0 s0 Z S pc H locs ls := by
  obtain ⟨xZ, xL, xS, xW, xV, xl, xN, xM⟩ := X
  obtain ⟨f1, f2, f3⟩ := mj_fL_ok _ hx
  have hlink := C.2.2.2.2.1 _ (mj_in f3 rfl)
  unfold mj_get at h
  split at h
  · rename_i q S
    split at h
    · rename_i hk
      obtain ⟨ks, g1, g2⟩ := mj_fk_ok hk
      obtain rfl := mj_go_a h
      exact va_get C.1 C.2.1 C.2.2.2.2.1 (mj_uin f1) C.2.2.2.1 C.2.2.2.2.2.2.1 xW.2 q (mj_W_obj g1) (mj_cl_at f1) j f2 hlink (fun _ h9 => h9) (mj_fv_at g2) hd (kk H locs ls xW xV xl)
    · rename_i k0 hne hk
      obtain ⟨ks, g1, g2⟩ := mj_fk_ok hk
      obtain rfl := mj_go_a h
      refine va_get C.1 C.2.1 C.2.2.2.2.1 (mj_uin f1) C.2.2.2.1 C.2.2.2.2.2.2.1 xW.2 q (mj_W_obj g1) (mj_cl_at f1) j f2 hlink (fun _ h9 => h9) (v := .int (Int32.ofInt (Z.2.1 q j))) ?_ hd (kk H locs ls xW xV xl)
      rw [mj_fv_at g2]
      match k0, hne with
      | 0, _ => rfl
      | 1, hne => exact absurd rfl hne
      | k0 + 2, _ => rfl
    · rename_i b hk
      obtain ⟨ks, g1, g2⟩ := mj_fk_ok hk
      obtain rfl := mj_go_a h
      exact va_get C.1 C.2.1 C.2.2.2.2.1 (mj_uin f1) C.2.2.2.1 C.2.2.2.2.2.2.1 xW.2 q (mj_W_obj g1) (mj_cl_at f1) j f2 hlink (fun _ h9 => h9) (mj_fv_at g2) hd (kk H locs ls xW xV xl)
    · cases h
  · cases h
theorem mj_rfn {ty : FieldType} {a : Nat} (h : ty.isReference = true) : narrow ty (.ref a) = .ref a ∧ fits ty (.ref a) = true := by
  cases ty <;> simp [FieldType.isReference] at h <;> exact ⟨rfl, rfl⟩
theorem mj_set_fv {ks : List mj_K} {a j : Nat} {M' : Nat → Nat → Int} {N' : Nat → Nat → Int64} {k k' : mj_K} {v : Value} (hk : ks[j]? = some k) (hv : mj_fv z0 M' N' a j k' = v) (ho : ∀ i, i ≠ j → M' a i = Z.2.1 a i ∧ N' a i = Z.2.2 a i) :
    (ks.mapIdx fun j k => mj_fv z0 Z.2.1 Z.2.2 a j k).set j v = (ks.set j k').mapIdx fun j k => mj_fv z0 M' N' a j k := by
  have hlt := (List.getElem?_eq_some_iff.mp hk).1
  apply List.ext_getElem?
  intro i
  rw [List.getElem?_mapIdx]
  by_cases e : i = j
  · subst e
    rw [List.getElem?_set_self (by rw [List.length_mapIdx]; exact hlt), List.getElem?_set_self hlt]
    rw [Option.map_some, hv]
  · rw [List.getElem?_set_ne (fun q => e q.symm), List.getElem?_set_ne (fun q => e q.symm), List.getElem?_mapIdx]
    obtain ⟨o1, o2⟩ := ho i e
    cases ks[i]? with
    | none => rfl
    | some k1 =>
      simp only [Option.map_some, Option.some.injEq]
      rcases k1 with k1 | k1
      · match k1 with
        | 0 => simp [mj_fv, o1]
        | 1 => simp [mj_fv, o2]
        | k1 + 2 => simp [mj_fv, o1]
      · cases k1 <;> rfl
theorem mj_set_same {ks : List mj_K} {j : Nat} {k : mj_K} (h : ks[j]? = some k) : ks.set j k = ks := by
  apply List.ext_getElem?
  intro i
  by_cases e : i = j
  · subst e
    rw [List.getElem?_set_self (List.getElem?_eq_some_iff.mp h).1, h]
  · rw [List.getElem?_set_ne (fun q => e q.symm)]
theorem mj_u_self {α : Type} {M : Nat → Nat → α} {a j : Nat} {v : α} : mj_u M a j v a j = v := if_pos ⟨rfl, rfl⟩
theorem mj_u_ne2 {α : Type} {M : Nat → Nat → α} {a j : Nat} {v : α} {b k : Nat} (h : k ≠ j) : mj_u M a j v b k = M b k := if_neg (fun q => h q.2)
theorem mj_szd {slots : Nat} {Z : mj_Z} {H : Heap} {locs : List Loc} {g : JFrame} (C : mj_Cx K z0 cst dD dA y n0 p s m args meth c) (hn : n0 ≤ mj_nc Z) (hP : va_P dD mj_cl (mj_W z0 dA Z) H) (hV : va_S (mj_Ad z0) s.heap H locs) (k : mj_Wd z0 dD dA Z H → W p l e R s m args below meth c H locs (mj_nc Z - n0) slots Q g) : W p l e R s m args below meth c H locs (mj_nc Z - n0) slots Q g := by
  intro T hT X
  refine k ⟨?_, hP⟩ T hT X
  have h1 := X.heapSize
  rw [hT, C.2.2.2.2.2.2.2.2.2.2] at h1
  have h2 := hV.1
  rw [C.2.2.2.2.2.2.2.2.2.2] at h2
  show H.size = z0 + mj_nc Z
  rcases Nat.eq_zero_or_pos (mj_nc Z) with h3 | h3
  · omega
  · have h4 : mj_nc Z - 1 < Z.1.length := by show Z.1.length - 1 < _; have : mj_nc Z = Z.1.length := rfl; omega
    have h5 := (hP (mj_nc Z - 1) _ (mj_W_get (List.getElem?_eq_getElem h4))).lt
    have h6 : z0 + (mj_nc Z - 1) < H.size := h5
    omega
theorem mj_s_putf (C : mj_Cx K z0 cst dD dA y n0 p s m args meth c) (X : mj_St z0 cst dD dA y n0 s0 s Z L S H locs ls) (kk : mj_Nx z0 cst dD dA y p l e R s m args below meth c Q n0 s0 a) {q0 : Int} {ix ci j ps : Nat} (hx : (mj_ci y, ix, ci, j, ps) ∈ mj_fL) (hnf : (mj_TT ci j).2.2.2 = false) (htt : (q0 = 0 ∧ mj_tT ci j = .int) ∨ (q0 = 1 ∧ mj_tT ci j = .long) ∨ (q0 = 2 ∧ mj_tT ci j = .boolean)) (hd : decode (mj_bb y) pc = .ok (.putfield ix, 3)) (h : mj_put q0 ci j (pc + 3) L S Z = some (.inl a)) : mj_G z0 cst p l e R s m args below meth c Q n0 s0 Z S pc H locs ls := by
  obtain ⟨xZ, xL, xS, xW, xV, xl, xN, xM⟩ := X
  obtain ⟨f1, f2, f3⟩ := mj_fL_ok _ hx
  have hlink := C.2.2.2.2.1 _ (mj_in f3 rfl)
  unfold mj_put at h
  split at h
  · rename_i v q S
    split at h
    · rename_i hk
      split at h
      · rename_i hq
        subst hq
        have ht : mj_tT ci j = .int := by rcases htt with h | h | h <;> first | exact h.2 | exact absurd h.1 (by decide)
        obtain ⟨ks, g1, g2⟩ := mj_fk_ok hk
        obtain rfl := mj_go_a h
        refine va_put C.1 C.2.1 C.2.2.2.2.1 (mj_uin f1) (mj_tT ci) (mj_tT_ok ci f1) (mj_nm_ok ci f1) C.2.2.2.1 C.2.2.2.2.2.2.1 xW.2 mj_D xV q (mj_W_obj g1) (mj_cl_at f1) j f2 hlink (fun _ h9 => h9) hnf (ty := .int) (v := .int (Int32.ofInt v)) (by rw [mj_tT_ok ci f1 j f2, ht]) rfl rfl (by rw [List.length_mapIdx]; exact (List.getElem?_eq_some_iff.mp g2).1) hd (fun H1 locs1 hP hD hS => ?_)
        rw [mj_W_set (z0 := z0) (dA := dA) (Z := Z) (e := .inr (ci, (ks.mapIdx fun j k => mj_fv z0 Z.2.1 Z.2.2 q j k).set j (.int (Int32.ofInt v)))) (Z' := (Z.1, mj_u Z.2.1 q j v, Z.2.2)) (sh := (0, ci, ks)) rfl g1 (by simp only [mj_el]; rw [mj_set_fv g2 (k' := .inl 0) (M' := mj_u Z.2.1 q j v) (N' := Z.2.2) (by simp [mj_fv, mj_u_self]) (fun i hi => ⟨mj_u_ne2 hi, rfl⟩), mj_set_same g2]) (fun i hi sh hsh => ⟨hsh, mj_el_u (fun j => mj_u_ne hi j) (fun j => rfl)⟩)] at hP
        exact mj_szd (Z := (Z.1, mj_u Z.2.1 q j v, Z.2.2)) C xN hP hS (fun hw => kk H1 locs1 ls hw hS xl)
      · cases h
    · rename_i hk
      split at h
      · rename_i hq
        subst hq
        split at h
        · rename_i hv
          have ht : mj_tT ci j = .boolean := by rcases htt with h | h | h <;> first | exact h.2 | exact absurd h.1 (by decide)
          obtain ⟨ks, g1, g2⟩ := mj_fk_ok hk
          obtain rfl := mj_go_a h
          refine va_put C.1 C.2.1 C.2.2.2.2.1 (mj_uin f1) (mj_tT ci) (mj_tT_ok ci f1) (mj_nm_ok ci f1) C.2.2.2.1 C.2.2.2.2.2.2.1 xW.2 mj_D xV q (mj_W_obj g1) (mj_cl_at f1) j f2 hlink (fun _ h9 => h9) hnf (ty := .boolean) (v := .int (Int32.ofInt v)) (by rw [mj_tT_ok ci f1 j f2, ht]) (by rcases hv with rfl | rfl <;> rfl) (by rcases hv with rfl | rfl <;> rfl) (by rw [List.length_mapIdx]; exact (List.getElem?_eq_some_iff.mp g2).1) hd (fun H1 locs1 hP hD hS => ?_)
          rw [mj_W_set (z0 := z0) (dA := dA) (Z := Z) (e := .inr (ci, (ks.mapIdx fun j k => mj_fv z0 Z.2.1 Z.2.2 q j k).set j (.int (Int32.ofInt v)))) (Z' := (Z.1, mj_u Z.2.1 q j v, Z.2.2)) (sh := (0, ci, ks)) rfl g1 (by simp only [mj_el]; rw [mj_set_fv g2 (k' := .inl 2) (M' := mj_u Z.2.1 q j v) (N' := Z.2.2) (by simp [mj_fv, mj_u_self]) (fun i hi => ⟨mj_u_ne2 hi, rfl⟩), mj_set_same g2]) (fun i hi sh hsh => ⟨hsh, mj_el_u (fun j => mj_u_ne hi j) (fun j => rfl)⟩)] at hP
          exact mj_szd (Z := (Z.1, mj_u Z.2.1 q j v, Z.2.2)) C xN hP hS (fun hw => kk H1 locs1 ls hw hS xl)
        · cases h
      · cases h
    · cases h
  · rename_i v q S
    split at h
    · rename_i hk
      split at h
      · rename_i hq
        subst hq
        have ht : mj_tT ci j = .long := by rcases htt with h | h | h <;> first | exact h.2 | exact absurd h.1 (by decide)
        obtain ⟨ks, g1, g2⟩ := mj_fk_ok hk
        obtain rfl := mj_go_a h
        refine va_put C.1 C.2.1 C.2.2.2.2.1 (mj_uin f1) (mj_tT ci) (mj_tT_ok ci f1) (mj_nm_ok ci f1) C.2.2.2.1 C.2.2.2.2.2.2.1 xW.2 mj_D xV q (mj_W_obj g1) (mj_cl_at f1) j f2 hlink (fun _ h9 => h9) hnf (ty := .long) (v := .long v) (by rw [mj_tT_ok ci f1 j f2, ht]) rfl rfl (by rw [List.length_mapIdx]; exact (List.getElem?_eq_some_iff.mp g2).1) hd (fun H1 locs1 hP hD hS => ?_)
        rw [mj_W_set (z0 := z0) (dA := dA) (Z := Z) (e := .inr (ci, (ks.mapIdx fun j k => mj_fv z0 Z.2.1 Z.2.2 q j k).set j (.long v))) (Z' := (Z.1, Z.2.1, mj_u Z.2.2 q j v)) (sh := (0, ci, ks)) rfl g1 (by simp only [mj_el]; rw [mj_set_fv g2 (k' := .inl 1) (M' := Z.2.1) (N' := mj_u Z.2.2 q j v) (by simp [mj_fv, mj_u_self]) (fun i hi => ⟨rfl, mj_u_ne2 hi⟩), mj_set_same g2]) (fun i hi sh hsh => ⟨hsh, mj_el_u (fun j => rfl) (fun j => mj_u_ne hi j)⟩)] at hP
        exact mj_szd (Z := (Z.1, Z.2.1, mj_u Z.2.2 q j v)) C xN hP hS (fun hw => kk H1 locs1 ls hw hS xl)
      · cases h
    · cases h
  · cases h
theorem mj_s_putF (C : mj_Cx K z0 cst dD dA y n0 p s m args meth c) (X : mj_St z0 cst dD dA y n0 s0 s Z L S H locs ls) (kk : mj_Nx z0 cst dD dA y p l e R s m args below meth c Q n0 s0 a) {ix ci j ps : Nat} (hx : (mj_ci y, ix, ci, j, ps) ∈ mj_fL) (hnf : (mj_TT ci j).2.2.2 = true) (hci : ci = mj_ci y) (hin : (mj_yy y).name = "<init>") (hrf : (mj_tT ci j).isReference = true) (hd : decode (mj_bb y) pc = .ok (.putfield ix, 3)) (h : mj_putF ci j (pc + 3) L S Z = some (.inl a)) : mj_G z0 cst p l e R s m args below meth c Q n0 s0 Z S pc H locs ls := by
  obtain ⟨xZ, xL, xS, xW, xV, xl, xN, xM⟩ := X
  obtain ⟨f1, f2, f3⟩ := mj_fL_ok _ hx
  have hlink := C.2.2.2.2.1 _ (mj_in f3 rfl)
  have hin2 : meth.name = "<init>" := C.2.2.2.2.2.1 hin
  subst hci
  generalize hcy : mj_ci y = ci at *
  unfold mj_putF at h
  split at h
  · rename_i b q S
    split at h
    · rename_i c0 ks g1
      split at h
      · rename_i hc0
        subst hc0
        split at h
        · rename_i r g2
          obtain rfl := mj_go_a h
          refine va_putF C.1 C.2.1 C.2.2.2.2.1 (mj_uin f1) (mj_tT c0) (mj_tT_ok c0 f1) (mj_nm_ok c0 f1) (hcy ▸ C.2.2.2.1) C.2.2.2.2.2.2.1 xW.2 mj_D xV q (mj_W_obj g1) (mj_cl_at f1) j f2 hlink (fun _ h9 => h9) hnf hin2 rfl (ty := mj_tT c0 j) (v := .ref (z0 + b)) (mj_tT_ok c0 f1 j f2) (mj_rfn hrf).1 (mj_rfn hrf).2 (by rw [List.length_mapIdx]; exact (List.getElem?_eq_some_iff.mp g2).1) hd (fun H1 locs1 hP hD hS => ?_)
          rw [mj_W_set (z0 := z0) (dA := dA) (Z := Z) (e := .inr (c0, (ks.mapIdx fun j k => mj_fv z0 Z.2.1 Z.2.2 q j k).set j (.ref (z0 + b)))) (Z' := (Z.1.set q (0, c0, ks.set j (.inr (some b))), Z.2)) (sh := (0, c0, ks.set j (.inr (some b)))) (List.length_set) (List.getElem?_set_self (List.getElem?_eq_some_iff.mp g1).1) (by simp only [mj_el]; rw [mj_set_fv g2 (k' := .inr (some b)) (v := .ref (z0 + b)) (M' := Z.2.1) (N' := Z.2.2) rfl (fun i hi => ⟨rfl, rfl⟩)]) (fun i hi sh hsh => ⟨by rw [List.getElem?_set_ne (fun q => hi q.symm)]; exact hsh, rfl⟩)] at hP
          have e1 : mj_nc (Z.1.set q (0, c0, ks.set j (.inr (some b))), Z.2) = mj_nc Z := List.length_set
          have e2 : mj_ns (Z.1.set q (0, c0, ks.set j (.inr (some b))), Z.2) = mj_ns Z := mj_sm_set _ _ _ _ g1 (by simp [mj_sz])
          refine W.cs (cells' := mj_nc (Z.1.set q (0, c0, ks.set j (.inr (some b))), Z.2) - n0) (slots' := mj_ns (Z.1.set q (0, c0, ks.set j (.inr (some b))), Z.2) - s0) (by rw [e1]) (by rw [e2]) ?_
          exact mj_szd (Z := (Z.1.set q (0, c0, ks.set j (.inr (some b))), Z.2)) C (by rw [e1]; exact xN) hP hS (fun hw => kk H1 locs1 ls hw hS xl)
        · cases h
      · cases h
    · cases h
  · cases h
theorem mj_el_i {i n : Nat} {ks : List mj_K} : mj_el z0 dA Z.2.1 Z.2.2 i (1, n, ks) = .inl (dA 1, n, .inl fun j => Int32.ofInt (Z.2.1 i j)) := rfl
theorem mj_K_t {t : Nat} {ty : FieldType} (C : mj_Cx K z0 cst dD dA y n0 p s m args meth c) (h : (mj_ty dA)[t]? = some (dA (t + 1), ty)) : va_K dD mj_cl (mj_ty dA) s := C.2.2.2.2.2.2.1
theorem mj_upd_u {M : Nat → Nat → Int} {a : Nat} {i v : Int} (hi : mj_rg i) : upd (fun j => Int32.ofInt (M a j)) (Int32.ofInt i).toNatClampNeg (Int32.ofInt v) = fun j => Int32.ofInt (mj_u M a i.toNat v a j) := by
  funext j
  rw [mj_clamp hi]
  unfold upd mj_u
  by_cases e : j = i.toNat
  · rw [if_pos e, if_pos ⟨rfl, e⟩]
  · rw [if_neg e, if_neg (fun q => e q.2)]
theorem mj_upd_l {N : Nat → Nat → Int64} {a : Nat} {i : Int} {v : Int64} (hi : mj_rg i) : vp_updL (fun j => N a j) (Int32.ofInt i).toNatClampNeg v = fun j => mj_u N a i.toNat v a j := by
  funext j
  rw [mj_clamp hi]
  unfold vp_updL mj_u
  by_cases e : j = i.toNat
  · rw [if_pos e, if_pos ⟨rfl, e⟩]
  · rw [if_neg e, if_neg (fun q => e q.2)]
theorem mj_s_iald (C : mj_Cx K z0 cst dD dA y n0 p s m args meth c) (X : mj_St z0 cst dD dA y n0 s0 s Z L S H locs ls) (kk : mj_Nx z0 cst dD dA y p l e R s m args below meth c Q n0 s0 a)  (hd : decode (mj_bb y) pc = .ok (.iaload, 1)) (h : mj_iald K (pc + 1) L S Z = some (.inl a)) : mj_G z0 cst p l e R s m args below meth c Q n0 s0 Z S pc H locs ls := by
  obtain ⟨xZ, xL, xS, xW, xV, xl, xN, xM⟩ := X
  unfold mj_iald at h
  split at h
  · rename_i i q S
    rw [mj_okS_c] at xS
    split at h
    · rename_i n hk
      obtain ⟨ks, g1, -⟩ := mj_al_ok hk
      split at h
      · rename_i hi
        obtain rfl := mj_go_a h
        refine va_iald C.1 C.2.1 C.2.2.2.2.2.2.1 xW.2 q 0 (mj_W_get g1) rfl (mj_vin xS.1 hi) hd ?_
        rw [mj_clamp xS.1]
        exact kk H locs ls xW xV xl
      · cases h
    · cases h
  · rename_i i k S
    rw [mj_okS_c] at xS
    split at h
    · rename_i hk4
      split at h
      · rename_i hi
        obtain rfl := mj_go_a h
        refine va_ti C.1 C.2.1 (C.2.2.2.2.2.2.2.1.2.2.2.1 k hk4) xV (mj_vin xS.1 hi) rfl hd ?_
        rw [mj_clamp xS.1]
        exact kk H locs ls xW xV xl
      · cases h
    · cases h
  · cases h
theorem mj_s_iast (C : mj_Cx K z0 cst dD dA y n0 p s m args meth c) (X : mj_St z0 cst dD dA y n0 s0 s Z L S H locs ls) (kk : mj_Nx z0 cst dD dA y p l e R s m args below meth c Q n0 s0 a)  (hd : decode (mj_bb y) pc = .ok (.iastore, 1)) (h : mj_iast (pc + 1) L S Z = some (.inl a)) : mj_G z0 cst p l e R s m args below meth c Q n0 s0 Z S pc H locs ls := by
  obtain ⟨xZ, xL, xS, xW, xV, xl, xN, xM⟩ := X
  unfold mj_iast at h
  split at h
  · rename_i v i q S
    rw [mj_okS_c, mj_okS_c] at xS
    split at h
    · rename_i n hk
      obtain ⟨ks, g1, -⟩ := mj_al_ok hk
      split at h
      · rename_i hi
        obtain rfl := mj_go_a h
        refine va_iast C.1 C.2.1 C.2.2.2.2.2.2.1 xW.2 mj_D xV q 0 (mj_W_get g1) rfl (mj_vin xS.2.1 hi) hd (fun H1 locs1 hP hD hS => ?_)
        rw [mj_W_set (z0 := z0) (dA := dA) (Z := Z) (e := .inl (dA 1, n, .inl (upd (fun j => Int32.ofInt (Z.2.1 q j)) (Int32.ofInt i).toNatClampNeg (Int32.ofInt v)))) (Z' := (Z.1, mj_u Z.2.1 q i.toNat v, Z.2.2)) (sh := (1, n, ks)) rfl g1 (by simp only [mj_el]; rw [mj_upd_u xS.2.1]) (fun i2 hi2 sh hsh => ⟨hsh, mj_el_u (fun j => mj_u_ne hi2 j) (fun j => rfl)⟩)] at hP
        exact mj_szd (Z := (Z.1, mj_u Z.2.1 q i.toNat v, Z.2.2)) C xN hP hS (fun hw => kk H1 locs1 ls hw hS xl)
      · cases h
    · cases h
  · cases h
theorem mj_s_lald (C : mj_Cx K z0 cst dD dA y n0 p s m args meth c) (X : mj_St z0 cst dD dA y n0 s0 s Z L S H locs ls) (kk : mj_Nx z0 cst dD dA y p l e R s m args below meth c Q n0 s0 a)  (hd : decode (mj_bb y) pc = .ok (.laload, 1)) (h : mj_lald (pc + 1) L S Z = some (.inl a)) : mj_G z0 cst p l e R s m args below meth c Q n0 s0 Z S pc H locs ls := by
  obtain ⟨xZ, xL, xS, xW, xV, xl, xN, xM⟩ := X
  unfold mj_lald at h
  split at h
  · rename_i i q S
    rw [mj_okS_c] at xS
    split at h
    · rename_i n hk
      obtain ⟨ks, g1, -⟩ := mj_al_ok hk
      split at h
      · rename_i hi
        obtain rfl := mj_go_a h
        refine va_lald C.1 C.2.1 C.2.2.2.2.2.2.1 xW.2 q 1 (mj_W_get g1) rfl (mj_vin xS.1 hi) hd ?_
        rw [mj_clamp xS.1]
        exact kk H locs ls xW xV xl
      · cases h
    · cases h
  · cases h
theorem mj_s_last (C : mj_Cx K z0 cst dD dA y n0 p s m args meth c) (X : mj_St z0 cst dD dA y n0 s0 s Z L S H locs ls) (kk : mj_Nx z0 cst dD dA y p l e R s m args below meth c Q n0 s0 a)  (hd : decode (mj_bb y) pc = .ok (.lastore, 1)) (h : mj_last (pc + 1) L S Z = some (.inl a)) : mj_G z0 cst p l e R s m args below meth c Q n0 s0 Z S pc H locs ls := by
  obtain ⟨xZ, xL, xS, xW, xV, xl, xN, xM⟩ := X
  unfold mj_last at h
  split at h
  · rename_i v i q S
    rw [mj_okS_c, mj_okS_c] at xS
    split at h
    · rename_i n hk
      obtain ⟨ks, g1, -⟩ := mj_al_ok hk
      split at h
      · rename_i hi
        obtain rfl := mj_go_a h
        refine va_last C.1 C.2.1 C.2.2.2.2.2.2.1 xW.2 mj_D xV q 1 (mj_W_get g1) rfl (mj_vin xS.2.1 hi) hd (fun H1 locs1 hP hD hS => ?_)
        rw [mj_W_set (z0 := z0) (dA := dA) (Z := Z) (e := .inl (dA 2, n, .inr (.inl (vp_updL (fun j => Z.2.2 q j) (Int32.ofInt i).toNatClampNeg v)))) (Z' := (Z.1, Z.2.1, mj_u Z.2.2 q i.toNat v)) (sh := (2, n, ks)) rfl g1 (by simp only [mj_el]; rw [mj_upd_l xS.2.1]) (fun i2 hi2 sh hsh => ⟨hsh, mj_el_u (fun j => rfl) (fun j => mj_u_ne hi2 j)⟩)] at hP
        exact mj_szd (Z := (Z.1, Z.2.1, mj_u Z.2.2 q i.toNat v)) C xN hP hS (fun hw => kk H1 locs1 ls hw hS xl)
      · cases h
    · cases h
  · cases h
end Steps
