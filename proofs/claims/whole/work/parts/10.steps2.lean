-- more of the mini instructions
section Steps
variable {K : mj_C} {z0 : Nat} {cst : Nat → Nat} {dD : va_G} {dA : Nat → ClassId} {y : Nat} {p : Program} {l : Launch} {e : Env} {R : Room} {s : State} {m : MethodId} {args : Array Value} {below : List Frame} {meth : Method} {c : Code} {Q : State → Prop} {n0 s0 : Nat}
variable {Z : mj_Z} {L : mj_L} {S : List mj_V} {H : Heap} {locs : List Loc} {ls : Array Slot} {pc : Nat} {a : Nat × mj_L × List mj_V × mj_Z}
theorem mj_rr_ok {h : List mj_S} {a i b : Nat} (q : mj_rr h a i = some b) : ∃ t n ks, h[a]? = some (t + 3, n, ks) ∧ t < 2 ∧ i < n ∧ ks[i]? = some (.inr (some b)) := by
  unfold mj_rr at q
  split at q
  · rename_i t n ks he
    split at q
    · rename_i hi
      split at q
      · rename_i b' hb
        cases q
        exact ⟨t, n, ks, he, hi.1, hi.2, hb⟩
      · cases q
    · cases q
  · cases q
theorem mj_len_ok {h : List mj_S} {a n : Nat} (q : mj_len h a = some n) : ∃ t ks, h[a]? = some (t + 1, n, ks) ∧ t < 4 := by
  unfold mj_len at q
  split at q
  · rename_i t n' ks he
    split at q
    · cases q
      exact ⟨t, ks, he, ‹_›⟩
    · cases q
  · cases q
theorem mj_s_aald (C : mj_Cx K z0 cst dD dA y n0 p s m args meth c) (X : mj_St z0 cst dD dA y n0 s0 s Z L S H locs ls) (kk : mj_Nx z0 cst dD dA y p l e R s m args below meth c Q n0 s0 a)  (hd : decode (mj_bb y) pc = .ok (.aaload, 1)) (h : mj_aald (pc + 1) L S Z = some (.inl a)) : mj_G z0 cst p l e R s m args below meth c Q n0 s0 Z S pc H locs ls := by
  obtain ⟨xZ, xL, xS, xW, xV, xl, xN, xM⟩ := X
  unfold mj_aald at h
  split at h
  · rename_i i q S
    rw [mj_okS_c] at xS
    split at h
    · rename_i hi0
      split at h
      · rename_i b hb
        obtain ⟨t, n, ks, g1, g2, g3, g4⟩ := mj_rr_ok hb
        obtain rfl := mj_go_a h
        have hin : vp_in (Int32.ofInt i) n := mj_vin xS.1 ⟨hi0, by omega⟩
        have hf : va_rf (mj_rf z0 ks (Int32.ofInt i).toNatClampNeg) = .ref (z0 + b) := by
          rw [mj_clamp xS.1]
          unfold mj_rf
          rw [g4]
          rfl
        have key : ∀ ty : FieldType, ty.isReference = true → ArrOfT s (dA (t + 3)) ty → W p l e R s m args below meth c H locs (mj_nc Z - n0) (mj_ns Z - s0) Q (F0 m pc ls (.int (Int32.ofInt i) :: .ref (z0 + q) :: S.map (mj_rl z0 cst))) := by
          intro ty hty hA
          have hcell : H[z0 + q]? = some (vp_cell (dA (t + 3)) (n, .inr (.inr (.inr (.inr fun j => mj_rf z0 ks j))))) := xW.2 q _ (mj_W_get g1)
          rw [vp_cell_q] at hcell
          refine W.aald (v := .ref (z0 + b)) (ty := ty) C.1 C.2.1 hcell (hA n _) hty (fun q => by cases q) (by rw [arrV_size]; exact hin) ?_ rfl rfl hd (kk H locs ls xW xV xl)
          rw [arrV_read _ _ (by rw [mj_clamp xS.1]; exact g3), hf]
        have hT := C.2.2.2.2.2.2.1.2
        match t, g2 with
        | 0, _ => exact key (.array .int) rfl (hT 2 _ rfl).1
        | 1, _ => exact key (.object "PermitBank$Tape") rfl (hT 3 _ rfl).1
      · cases h
    · cases h
  · cases h
theorem mj_s_alen (C : mj_Cx K z0 cst dD dA y n0 p s m args meth c) (X : mj_St z0 cst dD dA y n0 s0 s Z L S H locs ls) (kk : mj_Nx z0 cst dD dA y p l e R s m args below meth c Q n0 s0 a)  (hd : decode (mj_bb y) pc = .ok (.arraylength, 1)) (h : mj_alen K (pc + 1) L S Z = some (.inl a)) : mj_G z0 cst p l e R s m args below meth c Q n0 s0 Z S pc H locs ls := by
  obtain ⟨xZ, xL, xS, xW, xV, xl, xN, xM⟩ := X
  unfold mj_alen at h
  split at h
  · rename_i q S
    split at h
    · rename_i n hn
      obtain ⟨t, ks, g1, g2⟩ := mj_len_ok hn
      split at h
      · obtain rfl := mj_go_a h
        have hv : Int32.ofNat n = Int32.ofInt (n : Int) := Int32.ofInt_eq_ofNat.symm
        match t, g2 with
        | 0, _ => exact va_alen C.1 C.2.1 C.2.2.2.2.2.2.1 xW.2 q 0 (mj_W_get g1) rfl hv hd (kk H locs ls xW xV xl)
        | 1, _ => exact va_alen C.1 C.2.1 C.2.2.2.2.2.2.1 xW.2 q 1 (mj_W_get g1) rfl hv hd (kk H locs ls xW xV xl)
        | 2, _ => exact va_alen C.1 C.2.1 C.2.2.2.2.2.2.1 xW.2 q 2 (mj_W_get g1) rfl hv hd (kk H locs ls xW xV xl)
        | 3, _ => exact va_alen C.1 C.2.1 C.2.2.2.2.2.2.1 xW.2 q 3 (mj_W_get g1) rfl hv hd (kk H locs ls xW xV xl)
      · cases h
    · cases h
  · rename_i k S
    split at h
    · rename_i hk4
      split at h
      · obtain rfl := mj_go_a h
        exact va_tlen C.1 C.2.1 (C.2.2.2.2.2.2.2.1.2.2.2.1 k hk4) xV Int32.ofInt_eq_ofNat.symm hd (kk H locs ls xW xV xl)
      · cases h
    · cases h
  · cases h
theorem mj_s_ifc (C : mj_Cx K z0 cst dD dA y n0 p s m args meth c) (X : mj_St z0 cst dD dA y n0 s0 s Z L S H locs ls) (kk : mj_Nx z0 cst dD dA y p l e R s m args below meth c Q n0 s0 a) {c0 : ClassFile.Cond} {off : Int} (hoff : 0 ≤ (pc : Int) + off) (hd : decode (mj_bb y) pc = .ok (.ifCond c0 off, 3)) (h : mj_if (mj_cc c0) (mj_tg pc off) (pc + 3) L S Z = some (.inl a)) : mj_G z0 cst p l e R s m args below meth c Q n0 s0 Z S pc H locs ls := by
  obtain ⟨xZ, xL, xS, xW, xV, xl, xN, xM⟩ := X
  unfold mj_if at h
  split at h
  · rename_i x S
    rw [mj_okS_c] at xS
    have ht : (pc : Int) + off = ((mj_tg pc off : Nat) : Int) := by unfold mj_tg; omega
    cases c0
    · simp only [mj_cc] at h
      unfold mj_br at h
      simp only at h
      refine lv_if_eq C.1 C.2.1 hd ht (fun q => ?_) (fun q => ?_)
      · rw [show (0 : Int32) = Int32.ofInt 0 from rfl] at q; rw [mj_eq32 xS.1 mj_rg0] at q; rw [if_pos q] at h
        obtain rfl := mj_go_a h
        exact kk H locs ls xW xV xl
      · rw [show (0 : Int32) = Int32.ofInt 0 from rfl] at q; rw [mj_eq32 xS.1 mj_rg0] at q; rw [if_neg q] at h
        obtain rfl := mj_go_a h
        exact kk H locs ls xW xV xl
    · simp only [mj_cc] at h
      unfold mj_br at h
      simp only at h
      refine lv_if_ne C.1 C.2.1 hd ht (fun q => ?_) (fun q => ?_)
      · rw [show (0 : Int32) = Int32.ofInt 0 from rfl] at q; rw [mj_eq32 xS.1 mj_rg0] at q; rw [if_neg q] at h
        obtain rfl := mj_go_a h
        exact kk H locs ls xW xV xl
      · rw [show (0 : Int32) = Int32.ofInt 0 from rfl] at q; rw [mj_eq32 xS.1 mj_rg0] at q; rw [if_pos q] at h
        obtain rfl := mj_go_a h
        exact kk H locs ls xW xV xl
    · simp only [mj_cc] at h
      unfold mj_br at h
      simp only at h
      refine lv_if_lt C.1 C.2.1 hd ht (fun q => ?_) (fun q => ?_)
      · rw [show (0 : Int32) = Int32.ofInt 0 from rfl] at q; rw [mj_lt32 xS.1 mj_rg0] at q; rw [if_pos q] at h
        obtain rfl := mj_go_a h
        exact kk H locs ls xW xV xl
      · rw [show (0 : Int32) = Int32.ofInt 0 from rfl] at q; rw [mj_lt32 xS.1 mj_rg0] at q; rw [if_neg q] at h
        obtain rfl := mj_go_a h
        exact kk H locs ls xW xV xl
    · simp only [mj_cc] at h
      unfold mj_br at h
      simp only at h
      refine lv_if_ge C.1 C.2.1 hd ht (fun q => ?_) (fun q => ?_)
      · rw [show (0 : Int32) = Int32.ofInt 0 from rfl] at q; rw [mj_le32 mj_rg0 xS.1] at q; rw [if_neg (by omega)] at h
        obtain rfl := mj_go_a h
        exact kk H locs ls xW xV xl
      · rw [show (0 : Int32) = Int32.ofInt 0 from rfl] at q; rw [mj_le32 mj_rg0 xS.1] at q; rw [if_pos (by omega)] at h
        obtain rfl := mj_go_a h
        exact kk H locs ls xW xV xl
    · simp only [mj_cc] at h
      unfold mj_br at h
      simp only at h
      refine lv_if_gt C.1 C.2.1 hd ht (fun q => ?_) (fun q => ?_)
      · rw [show (0 : Int32) = Int32.ofInt 0 from rfl] at q; rw [mj_lt32 mj_rg0 xS.1] at q; rw [if_pos q] at h
        obtain rfl := mj_go_a h
        exact kk H locs ls xW xV xl
      · rw [show (0 : Int32) = Int32.ofInt 0 from rfl] at q; rw [mj_lt32 mj_rg0 xS.1] at q; rw [if_neg q] at h
        obtain rfl := mj_go_a h
        exact kk H locs ls xW xV xl
    · simp only [mj_cc] at h
      unfold mj_br at h
      simp only at h
      refine lv_if_le C.1 C.2.1 hd ht (fun q => ?_) (fun q => ?_)
      · rw [show (0 : Int32) = Int32.ofInt 0 from rfl] at q; rw [mj_le32 xS.1 mj_rg0] at q; rw [if_neg (by omega)] at h
        obtain rfl := mj_go_a h
        exact kk H locs ls xW xV xl
      · rw [show (0 : Int32) = Int32.ofInt 0 from rfl] at q; rw [mj_le32 xS.1 mj_rg0] at q; rw [if_pos (by omega)] at h
        obtain rfl := mj_go_a h
        exact kk H locs ls xW xV xl
  · cases h
theorem mj_s_icmp (C : mj_Cx K z0 cst dD dA y n0 p s m args meth c) (X : mj_St z0 cst dD dA y n0 s0 s Z L S H locs ls) (kk : mj_Nx z0 cst dD dA y p l e R s m args below meth c Q n0 s0 a) {c0 : ClassFile.Cond} {off : Int} (hoff : 0 ≤ (pc : Int) + off) (hd : decode (mj_bb y) pc = .ok (.if_icmp c0 off, 3)) (h : mj_ic (mj_cc c0) (mj_tg pc off) (pc + 3) L S Z = some (.inl a)) : mj_G z0 cst p l e R s m args below meth c Q n0 s0 Z S pc H locs ls := by
  obtain ⟨xZ, xL, xS, xW, xV, xl, xN, xM⟩ := X
  unfold mj_ic at h
  split at h
  · rename_i y x S
    rw [mj_okS_c, mj_okS_c] at xS
    have ht : (pc : Int) + off = ((mj_tg pc off : Nat) : Int) := by unfold mj_tg; omega
    cases c0
    · simp only [mj_cc] at h
      unfold mj_br at h
      simp only at h
      refine lv_icmp_eq C.1 C.2.1 hd ht (fun q => ?_) (fun q => ?_)
      · rw [mj_eq32 xS.2.1 xS.1] at q; rw [if_pos q] at h
        obtain rfl := mj_go_a h
        exact kk H locs ls xW xV xl
      · rw [mj_eq32 xS.2.1 xS.1] at q; rw [if_neg q] at h
        obtain rfl := mj_go_a h
        exact kk H locs ls xW xV xl
    · simp only [mj_cc] at h
      unfold mj_br at h
      simp only at h
      refine lv_icmp_ne C.1 C.2.1 hd ht (fun q => ?_) (fun q => ?_)
      · rw [mj_eq32 xS.2.1 xS.1] at q; rw [if_neg q] at h
        obtain rfl := mj_go_a h
        exact kk H locs ls xW xV xl
      · rw [mj_eq32 xS.2.1 xS.1] at q; rw [if_pos q] at h
        obtain rfl := mj_go_a h
        exact kk H locs ls xW xV xl
    · simp only [mj_cc] at h
      unfold mj_br at h
      simp only at h
      refine lv_icmp_lt C.1 C.2.1 hd ht (fun q => ?_) (fun q => ?_)
      · rw [mj_lt32 xS.2.1 xS.1] at q; rw [if_pos q] at h
        obtain rfl := mj_go_a h
        exact kk H locs ls xW xV xl
      · rw [mj_lt32 xS.2.1 xS.1] at q; rw [if_neg q] at h
        obtain rfl := mj_go_a h
        exact kk H locs ls xW xV xl
    · simp only [mj_cc] at h
      unfold mj_br at h
      simp only at h
      refine lv_icmp_ge C.1 C.2.1 hd ht (fun q => ?_) (fun q => ?_)
      · rw [mj_le32 xS.1 xS.2.1] at q; rw [if_neg (by omega)] at h
        obtain rfl := mj_go_a h
        exact kk H locs ls xW xV xl
      · rw [mj_le32 xS.1 xS.2.1] at q; rw [if_pos (by omega)] at h
        obtain rfl := mj_go_a h
        exact kk H locs ls xW xV xl
    · simp only [mj_cc] at h
      unfold mj_br at h
      simp only at h
      refine lv_icmp_gt C.1 C.2.1 hd ht (fun q => ?_) (fun q => ?_)
      · rw [mj_lt32 xS.1 xS.2.1] at q; rw [if_pos q] at h
        obtain rfl := mj_go_a h
        exact kk H locs ls xW xV xl
      · rw [mj_lt32 xS.1 xS.2.1] at q; rw [if_neg q] at h
        obtain rfl := mj_go_a h
        exact kk H locs ls xW xV xl
    · simp only [mj_cc] at h
      unfold mj_br at h
      simp only at h
      refine lv_icmp_le C.1 C.2.1 hd ht (fun q => ?_) (fun q => ?_)
      · rw [mj_le32 xS.2.1 xS.1] at q; rw [if_neg (by omega)] at h
        obtain rfl := mj_go_a h
        exact kk H locs ls xW xV xl
      · rw [mj_le32 xS.2.1 xS.1] at q; rw [if_pos (by omega)] at h
        obtain rfl := mj_go_a h
        exact kk H locs ls xW xV xl
  · cases h
theorem mj_s_goto (C : mj_Cx K z0 cst dD dA y n0 p s m args meth c) (X : mj_St z0 cst dD dA y n0 s0 s Z L S H locs ls) (kk : mj_Nx z0 cst dD dA y p l e R s m args below meth c Q n0 s0 a) {off : Int} (hoff : 0 ≤ (pc : Int) + off) (hd : decode (mj_bb y) pc = .ok (.goto off, 3)) (h : mj_go (mj_tg pc off) L S Z = some (.inl a)) : mj_G z0 cst p l e R s m args below meth c Q n0 s0 Z S pc H locs ls := by
  obtain ⟨xZ, xL, xS, xW, xV, xl, xN, xM⟩ := X
  obtain rfl := mj_go_a h
  exact lv_goto C.1 C.2.1 hd (by unfold mj_tg; omega) (kk H locs ls xW xV xl)
theorem mj_sw_go {x : Int} {d : Nat} {L : mj_L} {S : List mj_V} {Z : mj_Z} {a : Nat × mj_L × List mj_V × mj_Z} : ∀ {tb : List (Int × Nat)}, mj_sw x d L S Z tb = some (.inl a) → ∃ t : Nat, a = (t, L, S, Z) ∧ (((∀ q : Int × Nat, q ∈ tb → q.1 ≠ x) ∧ t = d) ∨ (∃ i : Nat, tb[i]? = some (x, t) ∧ ∀ j : Nat, j < i → ∀ q : Int × Nat, tb[j]? = some q → q.1 ≠ x))
  | [], h => ⟨d, mj_go_a h, Or.inl ⟨fun q hq => (by cases hq), rfl⟩⟩
  | (k, t) :: r, h => by
    unfold mj_sw at h
    split at h
    · rename_i e
      subst e
      exact ⟨t, mj_go_a h, Or.inr ⟨0, rfl, fun j hj => absurd hj (Nat.not_lt_zero _)⟩⟩
    · rename_i e
      obtain ⟨t', h1, h2⟩ := mj_sw_go h
      refine ⟨t', h1, ?_⟩
      rcases h2 with ⟨h3, h4⟩ | ⟨i, h3, h4⟩
      · refine Or.inl ⟨fun q hq => ?_, h4⟩
        rcases List.mem_cons.mp hq with rfl | hq
        · exact fun e2 => e e2.symm
        · exact h3 q hq
      · refine Or.inr ⟨i + 1, h3, fun j hj q hq => ?_⟩
        cases j with
        | zero => cases hq; exact fun e2 => e e2.symm
        | succ j => exact h4 j (by omega) q hq
theorem mj_tsw_at (pc : Nat) : ∀ (lo : Int) (os : List Int) (i : Nat), (mj_tsw pc lo os)[i]? = (os[i]?).map fun o => (lo + i, mj_tg pc o)
  | lo, [], i => by simp [mj_tsw]
  | lo, o :: r, 0 => by simp [mj_tsw]
  | lo, o :: r, i + 1 => by
    show (mj_tsw pc (lo + 1) r)[i]? = _
    rw [mj_tsw_at pc (lo + 1) r i]
    simp only [List.getElem?_cons_succ]
    congr 1
    funext o
    rw [show lo + 1 + (i : Int) = lo + ((i + 1 : Nat) : Int) by omega]
theorem mj_s_tsw (C : mj_Cx K z0 cst dD dA y n0 p s m args meth c) (X : mj_St z0 cst dD dA y n0 s0 s Z L S H locs ls) (kk : mj_Nx z0 cst dD dA y p l e R s m args below meth c Q n0 s0 a) {ln : Nat} {d lo hi : Int} {offs : Array Int} (h1 : 0 ≤ (pc : Int) + d) (h2 : hi - lo + 1 = (offs.toList.length : Int)) (h3 : ∀ o ∈ offs.toList, 0 ≤ (pc : Int) + o) (hd : decode (mj_bb y) pc = .ok (.tableswitch d lo hi offs, ln)) (h : mj_swi (mj_tsw pc lo offs.toList) (mj_tg pc d) L S Z = some (.inl a)) : mj_G z0 cst p l e R s m args below meth c Q n0 s0 Z S pc H locs ls := by
  obtain ⟨xZ, xL, xS, xW, xV, xl, xN, xM⟩ := X
  unfold mj_swi at h
  split at h
  · rename_i x S
    rw [mj_okS_c] at xS
    obtain ⟨t, rfl, h5⟩ := mj_sw_go h
    have hx := mj_toI xS.1
    rcases h5 with ⟨h6, rfl⟩ | ⟨i, h6, -⟩
    · refine lv_tableOut C.1 C.2.1 hd ?_ (by unfold mj_tg; omega) (kk H locs ls xW xV xl)
      rw [hx]
      by_cases h7 : x < lo ∨ hi < x
      · exact h7
      · exfalso
        have h8 : (x - lo).toNat < offs.toList.length := by omega
        refine h6 (lo + ((x - lo).toNat : Int), mj_tg pc (offs.toList[(x - lo).toNat])) (List.mem_of_getElem? (i := (x - lo).toNat) ?_) (by show lo + _ = x; omega)
        rw [mj_tsw_at, List.getElem?_eq_getElem h8]
        rfl
    · rw [mj_tsw_at] at h6
      obtain ⟨o1, h7, h8⟩ := Option.map_eq_some_iff.mp h6
      have h9 : lo + (i : Int) = x := congrArg Prod.fst h8
      have h10 : mj_tg pc o1 = t := congrArg Prod.snd h8
      subst h10
      have hl := (List.getElem?_eq_some_iff.mp h7).1
      have ho := h3 o1 (List.mem_of_getElem? h7)
      refine lv_tableIn C.1 C.2.1 hd (by rw [hx]; omega) (by rw [hx]; omega) (off := o1) ?_ (by unfold mj_tg; omega) (kk H locs ls xW xV xl)
      rw [hx, ← Array.getElem?_toList, show (x - lo).toNat = i by omega]
      exact h7
  · cases h
theorem mj_lsw_off {x d : Int} {pc : Nat} {L : mj_L} {S : List mj_V} {Z : mj_Z} {a : Nat × mj_L × List mj_V × mj_Z} : ∀ {ps : List (Int × Int)}, mj_sw x (mj_tg pc d) L S Z (ps.map fun o => (o.1, mj_tg pc o.2)) = some (.inl a) → a = (mj_tg pc (Op.lookupswitch.offset ps d x), L, S, Z)
  | [], h => mj_go_a h
  | (k, o) :: r, h => by
    simp only [List.map_cons] at h
    unfold mj_sw at h
    rw [Op.lookupswitch.offset_cons]
    split at h
    · rename_i e
      rw [if_pos e.symm]
      exact mj_go_a h
    · rename_i e
      rw [if_neg (fun q => e q.symm)]
      exact mj_lsw_off h
theorem mj_off_in {x d : Int} : ∀ {ps : List (Int × Int)}, Op.lookupswitch.offset ps d x = d ∨ ∃ o ∈ ps, Op.lookupswitch.offset ps d x = o.2
  | [] => Or.inl rfl
  | (k, o) :: r => by
    rw [Op.lookupswitch.offset_cons]
    split
    · exact Or.inr ⟨(k, o), List.mem_cons_self, rfl⟩
    · rcases mj_off_in (x := x) (d := d) (ps := r) with h | ⟨q, h1, h2⟩
      · exact Or.inl h
      · exact Or.inr ⟨q, List.mem_cons_of_mem _ h1, h2⟩
theorem mj_s_lsw (C : mj_Cx K z0 cst dD dA y n0 p s m args meth c) (X : mj_St z0 cst dD dA y n0 s0 s Z L S H locs ls) (kk : mj_Nx z0 cst dD dA y p l e R s m args below meth c Q n0 s0 a) {ln : Nat} {d : Int} {ps : Array (Int × Int)} (h1 : 0 ≤ (pc : Int) + d) (h2 : ∀ o ∈ ps.toList, 0 ≤ (pc : Int) + o.2) (h3 : (ps.toList.zip (ps.toList.drop 1)).all (fun (a, next) => a.1 < next.1) = true) (hd : decode (mj_bb y) pc = .ok (.lookupswitch d ps, ln)) (h : mj_swi (ps.toList.map fun o => (o.1, mj_tg pc o.2)) (mj_tg pc d) L S Z = some (.inl a)) : mj_G z0 cst p l e R s m args below meth c Q n0 s0 Z S pc H locs ls := by
  obtain ⟨xZ, xL, xS, xW, xV, xl, xN, xM⟩ := X
  unfold mj_swi at h
  split at h
  · rename_i x S
    rw [mj_okS_c] at xS
    have h5 := mj_lsw_off h
    subst h5
    have hx := mj_toI xS.1
    have h6 : 0 ≤ (pc : Int) + Op.lookupswitch.offset ps.toList d x := by
      rcases mj_off_in (x := x) (d := d) (ps := ps.toList) with h | ⟨q, h7, h8⟩
      · rw [h]; exact h1
      · rw [h8]; exact h2 q h7
    exact lv_lookup C.1 C.2.1 hd h3 (by rw [hx]) (by unfold mj_tg; omega) (kk H locs ls xW xV xl)
  · cases h
theorem mj_s_dup (C : mj_Cx K z0 cst dD dA y n0 p s m args meth c) (X : mj_St z0 cst dD dA y n0 s0 s Z L S H locs ls) (kk : mj_Nx z0 cst dD dA y p l e R s m args below meth c Q n0 s0 a)  (hd : decode (mj_bb y) pc = .ok (.dup, 1)) (h : mj_dup (pc + 1) L S Z = some (.inl a)) : mj_G z0 cst p l e R s m args below meth c Q n0 s0 Z S pc H locs ls := by
  obtain ⟨xZ, xL, xS, xW, xV, xl, xN, xM⟩ := X
  unfold mj_dup at h
  split at h
  · split at h
    · rename_i hv
      obtain rfl := mj_go_a h
      exact lv_dup C.1 C.2.1 hd (by rw [mj_cat_rl]; exact hv) (kk H locs ls xW xV xl)
    · cases h
  · cases h
theorem mj_s_dup2 (C : mj_Cx K z0 cst dD dA y n0 p s m args meth c) (X : mj_St z0 cst dD dA y n0 s0 s Z L S H locs ls) (kk : mj_Nx z0 cst dD dA y p l e R s m args below meth c Q n0 s0 a)  (hd : decode (mj_bb y) pc = .ok (.dup2, 1)) (h : mj_dup2 (pc + 1) L S Z = some (.inl a)) : mj_G z0 cst p l e R s m args below meth c Q n0 s0 Z S pc H locs ls := by
  obtain ⟨xZ, xL, xS, xW, xV, xl, xN, xM⟩ := X
  unfold mj_dup2 at h
  split at h
  · split at h
    · rename_i hv
      obtain rfl := mj_go_a h
      exact lv_dup2_11 C.1 C.2.1 hd (by rw [mj_cat_rl]; exact hv.1) (by rw [mj_cat_rl]; exact hv.2) (kk H locs ls xW xV xl)
    · cases h
  · cases h
theorem mj_s_dupx (C : mj_Cx K z0 cst dD dA y n0 p s m args meth c) (X : mj_St z0 cst dD dA y n0 s0 s Z L S H locs ls) (kk : mj_Nx z0 cst dD dA y p l e R s m args below meth c Q n0 s0 a)  (hd : decode (mj_bb y) pc = .ok (.dup_x1, 1)) (h : mj_dupx (pc + 1) L S Z = some (.inl a)) : mj_G z0 cst p l e R s m args below meth c Q n0 s0 Z S pc H locs ls := by
  obtain ⟨xZ, xL, xS, xW, xV, xl, xN, xM⟩ := X
  unfold mj_dupx at h
  split at h
  · split at h
    · rename_i hv
      obtain rfl := mj_go_a h
      exact lv_dup_x1 C.1 C.2.1 hd (by rw [mj_cat_rl]; exact hv.1) (by rw [mj_cat_rl]; exact hv.2) (kk H locs ls xW xV xl)
    · cases h
  · cases h
theorem mj_s_pop (C : mj_Cx K z0 cst dD dA y n0 p s m args meth c) (X : mj_St z0 cst dD dA y n0 s0 s Z L S H locs ls) (kk : mj_Nx z0 cst dD dA y p l e R s m args below meth c Q n0 s0 a)  (hd : decode (mj_bb y) pc = .ok (.pop, 1)) (h : mj_pop (pc + 1) L S Z = some (.inl a)) : mj_G z0 cst p l e R s m args below meth c Q n0 s0 Z S pc H locs ls := by
  obtain ⟨xZ, xL, xS, xW, xV, xl, xN, xM⟩ := X
  unfold mj_pop at h
  split at h
  · split at h
    · rename_i hv
      obtain rfl := mj_go_a h
      exact lv_pop C.1 C.2.1 hd (by rw [mj_cat_rl]; exact hv) (kk H locs ls xW xV xl)
    · cases h
  · cases h
theorem mj_s_i2l (C : mj_Cx K z0 cst dD dA y n0 p s m args meth c) (X : mj_St z0 cst dD dA y n0 s0 s Z L S H locs ls) (kk : mj_Nx z0 cst dD dA y p l e R s m args below meth c Q n0 s0 a)  (hd : decode (mj_bb y) pc = .ok (.i2l, 1)) (h : mj_i2 mj_i64 (pc + 1) L S Z = some (.inl a)) : mj_G z0 cst p l e R s m args below meth c Q n0 s0 Z S pc H locs ls := by
  obtain ⟨xZ, xL, xS, xW, xV, xl, xN, xM⟩ := X
  unfold mj_i2 at h
  split at h
  · obtain rfl := mj_go_a h
    exact lv_i2l C.1 C.2.1 hd rfl (kk H locs ls xW xV xl)
  · cases h
theorem mj_s_i2b (C : mj_Cx K z0 cst dD dA y n0 p s m args meth c) (X : mj_St z0 cst dD dA y n0 s0 s Z L S H locs ls) (kk : mj_Nx z0 cst dD dA y p l e R s m args below meth c Q n0 s0 a)  (hd : decode (mj_bb y) pc = .ok (.i2b, 1)) (h : mj_i2 mj_i8 (pc + 1) L S Z = some (.inl a)) : mj_G z0 cst p l e R s m args below meth c Q n0 s0 Z S pc H locs ls := by
  obtain ⟨xZ, xL, xS, xW, xV, xl, xN, xM⟩ := X
  unfold mj_i2 at h
  split at h
  · obtain rfl := mj_go_a h
    exact lv_i2b C.1 C.2.1 hd (Int32.ofInt_toInt _).symm (kk H locs ls xW xV xl)
  · cases h
theorem mj_s_i2s (C : mj_Cx K z0 cst dD dA y n0 p s m args meth c) (X : mj_St z0 cst dD dA y n0 s0 s Z L S H locs ls) (kk : mj_Nx z0 cst dD dA y p l e R s m args below meth c Q n0 s0 a)  (hd : decode (mj_bb y) pc = .ok (.i2s, 1)) (h : mj_i2 mj_i16 (pc + 1) L S Z = some (.inl a)) : mj_G z0 cst p l e R s m args below meth c Q n0 s0 Z S pc H locs ls := by
  obtain ⟨xZ, xL, xS, xW, xV, xl, xN, xM⟩ := X
  unfold mj_i2 at h
  split at h
  · obtain rfl := mj_go_a h
    exact lv_i2s C.1 C.2.1 hd (Int32.ofInt_toInt _).symm (kk H locs ls xW xV xl)
  · cases h
theorem mj_s_l2i (C : mj_Cx K z0 cst dD dA y n0 p s m args meth c) (X : mj_St z0 cst dD dA y n0 s0 s Z L S H locs ls) (kk : mj_Nx z0 cst dD dA y p l e R s m args below meth c Q n0 s0 a)  (hd : decode (mj_bb y) pc = .ok (.l2i, 1)) (h : mj_l2 (pc + 1) L S Z = some (.inl a)) : mj_G z0 cst p l e R s m args below meth c Q n0 s0 Z S pc H locs ls := by
  obtain ⟨xZ, xL, xS, xW, xV, xl, xN, xM⟩ := X
  unfold mj_l2 at h
  split at h
  · obtain rfl := mj_go_a h
    exact lv_l2i C.1 C.2.1 hd (Int32.ofInt_toInt _).symm (kk H locs ls xW xV xl)
  · cases h
theorem mj_s_ladd (C : mj_Cx K z0 cst dD dA y n0 p s m args meth c) (X : mj_St z0 cst dD dA y n0 s0 s Z L S H locs ls) (kk : mj_Nx z0 cst dD dA y p l e R s m args below meth c Q n0 s0 a)  (hd : decode (mj_bb y) pc = .ok (.ladd, 1)) (h : mj_lbin (fun x y => x + y) (pc + 1) L S Z = some (.inl a)) : mj_G z0 cst p l e R s m args below meth c Q n0 s0 Z S pc H locs ls := by
  obtain ⟨xZ, xL, xS, xW, xV, xl, xN, xM⟩ := X
  unfold mj_lbin at h
  split at h
  · obtain rfl := mj_go_a h
    exact lv_ladd C.1 C.2.1 hd (kk H locs ls xW xV xl)
  · cases h
theorem mj_s_lsub (C : mj_Cx K z0 cst dD dA y n0 p s m args meth c) (X : mj_St z0 cst dD dA y n0 s0 s Z L S H locs ls) (kk : mj_Nx z0 cst dD dA y p l e R s m args below meth c Q n0 s0 a)  (hd : decode (mj_bb y) pc = .ok (.lsub, 1)) (h : mj_lbin (fun x y => x - y) (pc + 1) L S Z = some (.inl a)) : mj_G z0 cst p l e R s m args below meth c Q n0 s0 Z S pc H locs ls := by
  obtain ⟨xZ, xL, xS, xW, xV, xl, xN, xM⟩ := X
  unfold mj_lbin at h
  split at h
  · obtain rfl := mj_go_a h
    exact lv_lsub C.1 C.2.1 hd (kk H locs ls xW xV xl)
  · cases h
theorem mj_s_lmul (C : mj_Cx K z0 cst dD dA y n0 p s m args meth c) (X : mj_St z0 cst dD dA y n0 s0 s Z L S H locs ls) (kk : mj_Nx z0 cst dD dA y p l e R s m args below meth c Q n0 s0 a)  (hd : decode (mj_bb y) pc = .ok (.lmul, 1)) (h : mj_lbin (fun x y => x * y) (pc + 1) L S Z = some (.inl a)) : mj_G z0 cst p l e R s m args below meth c Q n0 s0 Z S pc H locs ls := by
  obtain ⟨xZ, xL, xS, xW, xV, xl, xN, xM⟩ := X
  unfold mj_lbin at h
  split at h
  · obtain rfl := mj_go_a h
    exact lv_lmul C.1 C.2.1 hd (kk H locs ls xW xV xl)
  · cases h
theorem mj_s_land (C : mj_Cx K z0 cst dD dA y n0 p s m args meth c) (X : mj_St z0 cst dD dA y n0 s0 s Z L S H locs ls) (kk : mj_Nx z0 cst dD dA y p l e R s m args below meth c Q n0 s0 a)  (hd : decode (mj_bb y) pc = .ok (.land, 1)) (h : mj_lbin (fun x y => x &&& y) (pc + 1) L S Z = some (.inl a)) : mj_G z0 cst p l e R s m args below meth c Q n0 s0 Z S pc H locs ls := by
  obtain ⟨xZ, xL, xS, xW, xV, xl, xN, xM⟩ := X
  unfold mj_lbin at h
  split at h
  · obtain rfl := mj_go_a h
    exact lv_land C.1 C.2.1 hd (kk H locs ls xW xV xl)
  · cases h
theorem mj_s_lor (C : mj_Cx K z0 cst dD dA y n0 p s m args meth c) (X : mj_St z0 cst dD dA y n0 s0 s Z L S H locs ls) (kk : mj_Nx z0 cst dD dA y p l e R s m args below meth c Q n0 s0 a)  (hd : decode (mj_bb y) pc = .ok (.lor, 1)) (h : mj_lbin (fun x y => x ||| y) (pc + 1) L S Z = some (.inl a)) : mj_G z0 cst p l e R s m args below meth c Q n0 s0 Z S pc H locs ls := by
  obtain ⟨xZ, xL, xS, xW, xV, xl, xN, xM⟩ := X
  unfold mj_lbin at h
  split at h
  · obtain rfl := mj_go_a h
    exact lv_lor C.1 C.2.1 hd (kk H locs ls xW xV xl)
  · cases h
theorem mj_s_ldiv (C : mj_Cx K z0 cst dD dA y n0 p s m args meth c) (X : mj_St z0 cst dD dA y n0 s0 s Z L S H locs ls) (kk : mj_Nx z0 cst dD dA y p l e R s m args below meth c Q n0 s0 a)  (hd : decode (mj_bb y) pc = .ok (.ldiv, 1)) (h : mj_ldv (fun x y => x / y) (pc + 1) L S Z = some (.inl a)) : mj_G z0 cst p l e R s m args below meth c Q n0 s0 Z S pc H locs ls := by
  obtain ⟨xZ, xL, xS, xW, xV, xl, xN, xM⟩ := X
  unfold mj_ldv at h
  split at h
  · split at h
    · cases h
    · rename_i hy
      obtain rfl := mj_go_a h
      exact lv_ldiv C.1 C.2.1 hd hy (kk H locs ls xW xV xl)
  · cases h
theorem mj_s_lrem (C : mj_Cx K z0 cst dD dA y n0 p s m args meth c) (X : mj_St z0 cst dD dA y n0 s0 s Z L S H locs ls) (kk : mj_Nx z0 cst dD dA y p l e R s m args below meth c Q n0 s0 a)  (hd : decode (mj_bb y) pc = .ok (.lrem, 1)) (h : mj_ldv (fun x y => x - x / y * y) (pc + 1) L S Z = some (.inl a)) : mj_G z0 cst p l e R s m args below meth c Q n0 s0 Z S pc H locs ls := by
  obtain ⟨xZ, xL, xS, xW, xV, xl, xN, xM⟩ := X
  unfold mj_ldv at h
  split at h
  · split at h
    · cases h
    · rename_i hy
      obtain rfl := mj_go_a h
      exact lv_lrem C.1 C.2.1 hd hy (kk H locs ls xW xV xl)
  · cases h
theorem mj_s_lshl (C : mj_Cx K z0 cst dD dA y n0 p s m args meth c) (X : mj_St z0 cst dD dA y n0 s0 s Z L S H locs ls) (kk : mj_Nx z0 cst dD dA y p l e R s m args below meth c Q n0 s0 a)  (hd : decode (mj_bb y) pc = .ok (.lshl, 1)) (h : mj_lsh (pc + 1) L S Z = some (.inl a)) : mj_G z0 cst p l e R s m args below meth c Q n0 s0 Z S pc H locs ls := by
  obtain ⟨xZ, xL, xS, xW, xV, xl, xN, xM⟩ := X
  unfold mj_lsh at h
  split at h
  · obtain rfl := mj_go_a h
    exact lv_lshl C.1 C.2.1 hd rfl (kk H locs ls xW xV xl)
  · cases h
theorem mj_s_lcmp (C : mj_Cx K z0 cst dD dA y n0 p s m args meth c) (X : mj_St z0 cst dD dA y n0 s0 s Z L S H locs ls) (kk : mj_Nx z0 cst dD dA y p l e R s m args below meth c Q n0 s0 a)  (hd : decode (mj_bb y) pc = .ok (.lcmp, 1)) (h : mj_lcm (pc + 1) L S Z = some (.inl a)) : mj_G z0 cst p l e R s m args below meth c Q n0 s0 Z S pc H locs ls := by
  obtain ⟨xZ, xL, xS, xW, xV, xl, xN, xM⟩ := X
  unfold mj_lcm at h
  split at h
  · rename_i y x S
    obtain rfl := mj_go_a h
    refine W.lcmp C.1 C.2.1 hd ?_
    have hk := kk H locs ls xW xV xl
    have e : Int32.ofInt (if x > y then 1 else if x = y then 0 else -1) = lg_cmp x y := by
      unfold lg_cmp
      split
      · rfl
      · split <;> rfl
    unfold mj_G at hk
    simp only [List.map_cons, mj_rl, e] at hk
    exact hk
  · cases h
theorem mj_s_lconst (C : mj_Cx K z0 cst dD dA y n0 p s m args meth c) (X : mj_St z0 cst dD dA y n0 s0 s Z L S H locs ls) (kk : mj_Nx z0 cst dD dA y p l e R s m args below meth c Q n0 s0 a) {k : Fin 2} (hd : decode (mj_bb y) pc = .ok (.lconst k, 1)) (h : mj_go (pc + 1) L (.inr (.inl (Int64.ofInt ((k : Nat) : Int))) :: S) Z = some (.inl a)) : mj_G z0 cst p l e R s m args below meth c Q n0 s0 Z S pc H locs ls := by
  obtain ⟨xZ, xL, xS, xW, xV, xl, xN, xM⟩ := X
  obtain rfl := mj_go_a h
  exact lv_lconst C.1 C.2.1 hd Int64.ofInt_eq_ofNat.symm (kk H locs ls xW xV xl)
theorem mj_s_ldc2 (C : mj_Cx K z0 cst dD dA y n0 p s m args meth c) (X : mj_St z0 cst dD dA y n0 s0 s Z L S H locs ls) (kk : mj_Nx z0 cst dD dA y p l e R s m args below meth c Q n0 s0 a) {ix ps : Nat} {n : Int} (hx : (mj_ci y, ix, n, ps) ∈ mj_lL) (hd : decode (mj_bb y) pc = .ok (.ldc2_w ix, 3)) (h : mj_go (pc + 3) L (.inr (.inl (Int64.ofInt n)) :: S) Z = some (.inl a)) : mj_G z0 cst p l e R s m args below meth c Q n0 s0 Z S pc H locs ls := by
  obtain ⟨xZ, xL, xS, xW, xV, xl, xN, xM⟩ := X
  have hlink := C.2.2.2.2.1 _ (mj_in (mj_lL_ok _ hx) rfl)
  obtain rfl := mj_go_a h
  exact lv_ldc2 C.1 C.2.1 C.2.2.2.1 hlink hd (kk H locs ls xW xV xl)
theorem mj_s_gets (C : mj_Cx K z0 cst dD dA y n0 p s m args meth c) (X : mj_St z0 cst dD dA y n0 s0 s Z L S H locs ls) (kk : mj_Nx z0 cst dD dA y p l e R s m args below meth c Q n0 s0 a) {ix k f ps : Nat} (hx : (mj_ci y, ix, k, f, ps) ∈ mj_sL) (hd : decode (mj_bb y) pc = .ok (.getstatic ix, 3)) (h : mj_go (pc + 3) L (.inr (.inr (.inr k)) :: S) Z = some (.inl a)) : mj_G z0 cst p l e R s m args below meth c Q n0 s0 Z S pc H locs ls := by
  obtain ⟨xZ, xL, xS, xW, xV, xl, xN, xM⟩ := X
  obtain ⟨f1, f2, f3⟩ := mj_sL_ok _ hx
  have hZz := C.2.2.2.2.2.2.2.1.2.2.2.2 k f1 f2
  obtain rfl := mj_go_a h
  dsimp only at f3
  by_cases hf : f = 0
  · rw [if_pos hf] at f3
    exact va_gets C.1 C.2.1 hZz xV C.2.2.2.1 (C.2.2.2.2.1 _ (mj_in f3 rfl)) (fun _ h9 => h9) hd (kk H locs ls xW xV xl)
  · rw [if_neg hf] at f3
    exact va_getsN C.1 C.2.1 hZz xV C.2.2.2.1 (va_Nw.use rfl (C.2.2.2.2.2.2.2.1.1 _ (List.mem_of_getElem? f3) rfl)) (fun _ h9 => h9) hd (kk H locs ls xW xV xl)
end Steps
