-- THE MACHINE DOES WHAT THE MINI MACHINE DOES
def mj_rI (z0 : Nat) (cst : Nat → Nat) (y : Nat) (r : Option mj_V) (ins : Instr) (st : List Value) : Prop := match r with
  | none => ins = .return_ ∧ st = [] ∧ mj_rt y = none
  | some (.inl x) => ins = .ireturn ∧ st = [.int (Int32.ofInt x)] ∧ (mj_rt y = some .int ∨ (mj_rt y = some .boolean ∧ (x = 0 ∨ x = 1)))
  | some (.inr (.inl x)) => ins = .lreturn ∧ st = [.long x] ∧ mj_rt y = some .long
  | some (.inr (.inr w)) => ins = .areturn ∧ st = [mj_rl z0 cst (.inr (.inr w))] ∧ ((∃ n, mj_rt y = some (.object n)) ∨ ∃ t, mj_rt y = some (.array t))
theorem mj_run_ok {K : mj_C} (hK : ∀ k j, mj_rg ((K k).2 j)) : ∀ (n d y pc : Nat) (L : mj_L) (S : List mj_V) (Z : mj_Z) (r : Option mj_V) (Zf : mj_Z), mj_run K n d y pc L S Z = some (r, Zf) → mj_okZ Z → mj_okL L → mj_okS S → mj_okZ Zf ∧ (∀ v, r = some v → mj_okV v) ∧ mj_nc Z ≤ mj_nc Zf ∧ mj_ns Z ≤ mj_ns Zf := by
  intro n
  induction n with
  | zero => intro d y pc L S Z r Zf h; simp [mj_run] at h
  | succ n ih =>
    intro d y pc L S Z r Zf h hZ hL hS
    rw [mj_run] at h
    cases hc : mj_cod y pc with
    | none => rw [hc] at h; simp at h
    | some q =>
      obtain ⟨mi, nx⟩ := q
      rw [hc] at h
      simp only at h
      have hmi : mi.1 = 0 → mj_rg mi.2.1 := by
        obtain ⟨i, len, -, htr, -⟩ := mj_cod_ok (mj_cod_lt hc) hc
        exact mj_tr_0 htr
      cases hs : mj_step K nx mi L S Z with
      | none => rw [hs] at h; simp at h
      | some act =>
        rw [hs] at h
        have hok := mj_step_ok hK hmi hs hZ hL hS
        rcases act with ⟨pc', L', S', Z'⟩ | r' | ⟨m', as, S'⟩
        · simp only at h
          obtain ⟨h1, h2, h3, h4, h5, -⟩ := hok
          obtain ⟨g1, g2, g3, g4⟩ := ih d y pc' L' S' Z' r Zf h h1 h2 h3
          exact ⟨g1, g2, Nat.le_trans h4 g3, Nat.le_trans h5 g4⟩
        · simp only [Option.some.injEq, Prod.mk.injEq] at h
          obtain ⟨rfl, rfl⟩ := h
          exact ⟨hZ, hok, Nat.le_refl _, Nat.le_refl _⟩
        · simp only at h
          obtain ⟨h1, h2⟩ := hok
          cases d with
          | zero => simp at h
          | succ d =>
            simp only at h
            split at h
            · cases hr : mj_run K n d m' 0 (mj_ent m' as) [] Z with
              | none => rw [hr] at h; simp at h
              | some x =>
                obtain ⟨r1, Z1⟩ := x
                rw [hr] at h
                simp only at h
                obtain ⟨g1, g2, g3, g4⟩ := ih d m' 0 _ _ Z r1 Z1 hr hZ (mj_okL_ent h1) mj_okS_nil
                obtain ⟨k1, k2, k3, k4⟩ := ih (d + 1) y nx L _ Z1 r Zf h g1 hL (by
                  intro v hv
                  rcases List.mem_append.mp hv with hv | hv
                  · cases r1 with
                    | none => cases hv
                    | some w =>
                      have : v = w := by simpa using hv
                      subst this
                      exact g2 v rfl
                  · exact h2 v hv)
                exact ⟨k1, k2, Nat.le_trans g3 k3, Nat.le_trans g4 k4⟩
            · cases h
def mj_Pc (K : mj_C) (z0 : Nat) (cst : Nat → Nat) (dD : va_G) (dA : Nat → ClassId) (as : List mj_V) (Z : mj_Z) : Array Value → State → Prop := fun v U =>
  v = (as.map (mj_rl z0 cst)).toArray ∧ mj_Wd z0 dD dA Z U.heap ∧ va_K dD mj_cl (mj_ty dA) U ∧ mj_CW K z0 cst U U.heap
def mj_Qc (z0 : Nat) (cst : Nat → Nat) (dD : va_G) (dA : Nat → ClassId) (r : Option mj_V) (Z : mj_Z) : Array Value → State → Outcome → State → Prop := fun _ st o t =>
  o = .returned (r.map (mj_rl z0 cst)) ∧ mj_Wd z0 dD dA Z t.heap ∧ va_F (mj_Ad z0) st t
theorem mj_blind {K : mj_C} {z0 : Nat} {cst : Nat → Nat} {dD : va_G} {dA : Nat → ClassId} {as : List mj_V} {Z : mj_Z} : FrameBlind (mj_Pc K z0 cst dD dA as Z) := by
  intro v U g mk h
  obtain ⟨h1, h2, h3, h4⟩ := h
  exact ⟨h1, h2, va_K.moved (u := U) (U := U.calling g mk v) (Vm.Alike.refl U.vm) h3, mj_CW.moved (s := U) (U := U.calling g mk v) (H := U.heap) (H1 := U.heap) (State.WarmedH.refl U) (fun _ _ _ => rfl) h4⟩
section Sim
variable {K : mj_C} {z0 : Nat} {cst : Nat → Nat} {dD : va_G} {dA : Nat → ClassId} {y : Nat} {p : Program} {l : Launch} {e : Env} {R : Room} {s : State} {m : MethodId} {args : Array Value} {below : List Frame} {meth : Method} {c : Code} {Q : State → Prop} {n0 s0 : Nat}
variable {Z : mj_Z} {L : mj_L} {S : List mj_V} {H : Heap} {locs : List Loc} {ls : Array Slot} {pc : Nat}
theorem mj_pre (C : mj_Cx K z0 cst dD dA y n0 p s m args meth c) (hW : mj_Wd z0 dD dA Z H) (hV : va_S (mj_Ad z0) s.heap H locs) (as : List mj_V) (U : State) (hU : U.heap = H) (hw : s.WarmedH U.vm) : mj_Pc K z0 cst dD dA as Z (as.map (mj_rl z0 cst)).toArray U := by
  refine ⟨rfl, by rw [hU]; exact hW, va_K.moved hw.alike C.2.2.2.2.2.2.1, ?_⟩
  rw [hU]
  exact mj_CW.moved hw (fun q h1 h2 => hV.2.1 q h1 h2) C.2.2.2.2.2.2.2.1
theorem mj_callq {r : Option mj_V} {Z' : mj_Z} {cells slots mc ms : Nat} {st0 rest : List Value} {av : Array Value} (hr : va_Run p l e R s m args below meth c H locs cells slots mc ms (F0 m pc ls st0) rest (mj_Qc z0 cst dD dA r Z' av) (mj_Ad z0)) (hS : va_S (mj_Ad z0) s.heap H locs)
    (kk : ∀ (H1 : Heap) (locs1 : List Loc), mj_Wd z0 dD dA Z' H1 → va_S (mj_Ad z0) s.heap H1 locs1 → W p l e R s m args below meth c H1 locs1 (cells + mc) (slots + ms) Q (F0 m (pc + 3) ls ((r.map (mj_rl z0 cst)).toList ++ rest))) : W p l e R s m args below meth c H locs cells slots Q (F0 m pc ls st0) := by
  intro T hT X
  obtain ⟨v, st₀, t, T', L1, h0, X', hL, e1, e2, ⟨hv, hw, hF⟩, st⟩ := hr T hT X
  cases hv
  obtain ⟨hz, hk⟩ := hF
  rw [h0] at hz hk
  obtain ⟨t2, a1, b1⟩ := kk T'.heap (locs ++ L1) (by rw [e1]; exact hw) ⟨Nat.le_trans hS.1 (by rw [e1]; exact hz), fun q h1 h2 => by rw [e1, hk q (Nat.lt_of_lt_of_le h1 hS.1) h2]; exact hS.2.1 q h1 h2, fun q hq => by
      rcases List.mem_append.mp hq with h | h
      · exact hS.2.2 q h
      · exact hL q h⟩ T' rfl X'
  exact ⟨t2, st t2 a1, b1⟩
theorem mj_goodgt : GoodIn mj_gt mj_gt := fun w h => ⟨h, good_of_word (mj_gt_good w h)⟩
theorem mj_goodws {m' : Nat} (hm : m' < 187) : GoodIn mj_gt (mj_ws m') := by
  have h := mj_cw_ok m' hm
  intro w hw
  rcases List.mem_cons.mp hw with rfl | hw
  · exact mj_goodgt _ (mj_in h rfl)
  · exact mj_goodgt w hw
theorem mj_goodin {m' : Nat} (hm : m' < 187) {ws : List Cond} (h : ∀ w ∈ ws, w ∈ mj_gt) : GoodIn mj_gt (ws ++ mj_ws m') := by
  intro w hw
  rcases List.mem_append.mp hw with h1 | h1
  · exact mj_goodgt w (h w h1)
  · exact mj_goodws hm w h1
def mj_MetAt (K : mj_C) (z0 : Nat) (cst : Nat → Nat) (dD : va_G) (dA : Nat → ClassId) (l : Launch) (d m' : Nat) (as : List mj_V) (Z : mj_Z) (r : Option mj_V) (Z' : mj_Z) : Prop :=
  Met l (mj_yy m') (mj_ws m') ({ frames := d + 1, cells := mj_nc Z' - mj_nc Z, slots := mj_ns Z' - mj_ns Z, locals := 64 * (d + 1) }) (mj_Pc K z0 cst dD dA as Z) (mj_Qc z0 cst dD dA r Z') (mj_nc Z' - mj_nc Z) (mj_ns Z' - mj_ns Z) (mj_Ad z0)
set_option maxHeartbeats 4000000 in
theorem mj_inv_call {d m' : Nat} {mi : mj_MI} {nx : Nat} {as S' : List mj_V} {r : Option mj_V} {Z' : mj_Z} (C : mj_Cx K z0 cst dD dA y n0 p s m args meth c) (X : mj_St z0 cst dD dA y n0 s0 s Z L S H locs ls) (hR : d + 1 + 1 ≤ R.frames ∧ 64 * (d + 1 + 1) ≤ R.locals) (hrm : mj_nc Z' - n0 ≤ R.cells ∧ mj_ns Z' - s0 ≤ R.slots) (h1 : mj_nc Z ≤ mj_nc Z') (h2 : mj_ns Z ≤ mj_ns Z') (hy : y < 188) (hc : mj_cod y pc = some (mi, nx)) (h32 : mi.1 = 32) (h : mj_step K nx mi L S Z = some (.inr (.inr (m', as, S')))) (hM : m' < 187 → mj_MetAt K z0 cst dD dA l d m' as Z r Z')
    (kk : ∀ (H1 : Heap) (locs1 : List Loc), mj_Wd z0 dD dA Z' H1 → va_S (mj_Ad z0) s.heap H1 locs1 → mj_G z0 cst p l e R s m args below meth c Q n0 s0 Z' (r.toList ++ S') nx H1 locs1 ls) : mj_G z0 cst p l e R s m args below meth c Q n0 s0 Z S pc H locs ls := by
  obtain ⟨i, len, hd, htr, rfl, hln⟩ := mj_cod_ok hy hc
  obtain ⟨op, n, a, b, tb⟩ := mi
  simp only at h32
  subst h32
  have h' : mj_inv a b S Z = some (.inr (.inr (m', as, S'))) := h
  unfold mj_inv at h'
  split at h'
  · rename_i hcond
    cases h'
    obtain ⟨c1, c2, c3⟩ := hcond
    obtain ⟨xZ, xL, xS, xW, xV, xl, xN, xM⟩ := X
    have hS : S = ((S.take (mj_nar m' b)).reverse).reverse ++ S.drop (mj_nar m' b) := by rw [List.reverse_reverse, List.take_append_drop]
    generalize hA : (S.take (mj_nar m' b)).reverse = as at hS hM c3
    generalize hD : S.drop (mj_nar m' b) = S' at hS c2 kk
    have hlen : as.length = mj_nar m' b := by rw [← hA, List.length_reverse, List.length_take]; omega
    have hrest : 2 * (F0 m pc ls (S'.map (mj_rl z0 cst))).monitorRoom + ((S'.map (mj_rl z0 cst)).map fun v => v.category).sum ≤ 8 := lv_room (by rw [mj_cat_sum]; exact c2)
    have hsz : ls.size = c.maxLocals := xl.2.1.trans C.2.2.1.symm
    have hcs : (mj_nc Z - n0) + (mj_nc Z' - mj_nc Z) = mj_nc Z' - n0 := by omega
    have hss : (mj_ns Z - s0) + (mj_ns Z' - mj_ns Z) = mj_ns Z' - s0 := by omega
    have hroom : (mj_nc Z - n0) + (mj_nc Z' - mj_nc Z) ≤ R.cells ∧ (mj_ns Z - s0) + (mj_ns Z' - mj_ns Z) ≤ R.slots := by rw [hcs, hss]; exact hrm
    have kk2 : ∀ (H1 : Heap) (locs1 : List Loc), mj_Wd z0 dD dA Z' H1 → va_S (mj_Ad z0) s.heap H1 locs1 → ∀ _ : len = 3, W p l e R s m args below meth c H1 locs1 ((mj_nc Z - n0) + (mj_nc Z' - mj_nc Z)) ((mj_ns Z - s0) + (mj_ns Z' - mj_ns Z)) Q (F0 m (pc + 3) ls ((r.map (mj_rl z0 cst)).toList ++ S'.map (mj_rl z0 cst))) := by
      intro H1 locs1 g1 g2 hl3
      subst hl3
      rw [hcs, hss]
      have := kk H1 locs1 g1 g2
      unfold mj_G at this
      rw [List.map_append] at this
      cases r with
      | none => exact this
      | some v => exact this
    cases i
    case invokevirtual ix =>
      obtain rfl := mj_ln (k := 2) hln rfl
      simp only [mj_tr, mj_fm, Option.bind_eq_some_iff] at htr
      obtain ⟨⟨o, ix', t, f, ps⟩, hx, htr⟩ := htr
      obtain ⟨q1, q2, q3⟩ := mj_fnd_ok hx
      simp only at q2 q3 htr
      subst q2
      subst q3
      split at htr
      · rename_i ht
        obtain ⟨t1, t2, t3, t4⟩ := ht
        cases htr
        subst t2
        have hlink := mj_in (mj_mL_ok _ q1).1 rfl
        obtain ⟨u1, u2, u3, u4, u5, u6⟩ := mj_mt_ok m' t1
        rw [t3] at u4
        have hsel := mj_inL (mj_se_ok m' t1 t3 t4) rfl
        have hini := mj_in (mj_ins _ u1).2 rfl
        have hsp : mj_sp m' = mj_yy m' := by
          unfold mj_sp
          rw [if_neg (by omega), if_neg (by omega), if_neg (by omega), if_neg (by omega)]
        simp only [if_pos] at hlink
        rw [hsp] at hlink
        unfold mj_rcv at c3
        rw [if_neg (by decide)] at c3
        split at c3
        · rename_i ba As
          split at c3
          · rename_i ci ks g1
            have hci : ci = mj_ci m' := by simpa using c3
            subst hci
            have hSt : S.map (mj_rl z0 cst) = (As.map (mj_rl z0 cst)).reverse ++ .ref (z0 + ba) :: S'.map (mj_rl z0 cst) := by
              rw [hS]
              simp [mj_rl]
            unfold mj_G
            refine mj_callq (rest := S'.map (mj_rl z0 cst)) (va_runV (As := As.map (mj_rl z0 cst)) (b := z0 + ba) (n := mj_np m') ⟨C.1, C.2.1, C.2.2.1, C.2.2.2.1, C.2.2.2.2.1⟩ (hM t1) (cwV (C := mj_own (mj_ci m')) (mj_np m') C.2.2.2.2.1 (mj_goodin t1 (fun w hw => ?_)) rfl rfl rfl ⟨rfl, u5.1, u5.2, u6⟩ ⟨hR.1, by have := hR.2; show 8 + (mj_ml m' + 11) + 64 * (d + 1) ≤ _; omega⟩) ⟨mj_blind, va_recv C.2.2.2.2.2.2.1 xW.2 (mj_cl_at u1) (mj_W_obj g1), fun U hU hw => mj_pre C xW xV _ U hU hw⟩ rfl ?_ (hsz.trans C.2.2.1) hSt hrest hd hroom) xV (fun H1 locs1 g1 g2 => kk2 H1 locs1 g1 g2 rfl)
            · simp only [List.mem_cons, List.not_mem_nil, or_false] at hw
              rcases hw with rfl | rfl | rfl | rfl
              · exact hlink
              · exact mj_in u4 rfl
              · exact hsel
              · exact hini
            · rw [List.length_map]
              have := hlen
              unfold mj_nar at this
              rw [if_neg (by decide)] at this
              simpa using this
          · cases c3
        · cases c3
      · cases htr
    case invokestatic ix =>
      obtain rfl := mj_ln (k := 2) hln rfl
      simp only [mj_tr, mj_fm, Option.bind_eq_some_iff] at htr
      obtain ⟨⟨o, ix', t, f, ps⟩, hx, htr⟩ := htr
      obtain ⟨q1, q2, q3⟩ := mj_fnd_ok hx
      simp only at q2 q3 htr
      subst q2
      subst q3
      split at htr
      · rename_i t1
        split at htr
        · rename_i t3
          cases htr
          obtain ⟨u1, u2, u3, u4, u5, u6⟩ := mj_mt_ok m' t1
          rw [if_pos t3] at u4
          have hini := mj_in (mj_ins _ u1).2 rfl
          have hsp : mj_sp m' = mj_yy m' := by
            unfold mj_sp
            rw [if_neg (by omega), if_neg (by omega), if_neg (by omega), if_neg (by omega)]
          have hl := (mj_mL_ok _ q1).1
          simp only [hsp] at hl
          have hSt : S.map (mj_rl z0 cst) = (as.map (mj_rl z0 cst)).reverse ++ S'.map (mj_rl z0 cst) := by
            rw [hS]
            simp
          have hnn : (as.map (mj_rl z0 cst)).length = mj_np m' := by
            rw [List.length_map]
            have := hlen
            unfold mj_nar at this
            simpa using this
          have hRR : d + 1 + 1 ≤ R.frames ∧ 8 + (mj_ml m' + 11) + 64 * (d + 1) ≤ R.locals := ⟨hR.1, by have := hR.2; omega⟩
          unfold mj_G
          by_cases hf : f = 0
          · rw [if_pos hf] at hl
            refine mj_callq (rest := S'.map (mj_rl z0 cst)) (va_runS (As := as.map (mj_rl z0 cst)) (n := mj_np m') ⟨C.1, C.2.1, C.2.2.1, C.2.2.2.1, C.2.2.2.2.1⟩ (hM t1) (va_cwS (mj_np m') C.2.2.2.2.1 (mj_goodin t1 (fun w hw => ?_)) rfl rfl rfl ⟨u5.1, u5.2, u6⟩ hRR) ⟨mj_blind, fun U hU hw => mj_pre C xW xV _ U hU hw⟩ rfl hnn (hsz.trans C.2.2.1) hSt hrest hd hroom) xV (fun H1 locs1 g1 g2 => kk2 H1 locs1 g1 g2 rfl)
            simp only [List.mem_cons, List.not_mem_nil, or_false] at hw
            rcases hw with rfl | rfl | rfl
            · exact mj_in hl rfl
            · exact mj_in u4 rfl
            · exact hini
          · rw [if_neg hf] at hl
            refine mj_callq (rest := S'.map (mj_rl z0 cst)) (va_runSN (As := as.map (mj_rl z0 cst)) (n := mj_np m') ⟨C.1, C.2.1, C.2.2.1, C.2.2.2.1, C.2.2.2.2.1⟩ (hM t1) ⟨va_cnB (mj_np m') C.2.2.2.2.1 (mj_goodws t1) rfl rfl rfl (C.2.2.2.2.2.2.2.1.1 _ (List.mem_of_getElem? hl) rfl) (C.2.2.2.2.1 _ hini) ⟨u5.1, u5.2, u6⟩ hRR, C.2.2.2.2.1 _ (mj_in u4 rfl), trivial⟩ ⟨mj_blind, fun U hU hw => mj_pre C xW xV _ U hU hw⟩ rfl hnn (hsz.trans C.2.2.1) hSt hrest hd hroom) xV (fun H1 locs1 g1 g2 => kk2 H1 locs1 g1 g2 rfl)
        · cases htr
      · split at htr
        · split at htr
          · cases htr
          · split at htr
            · cases htr
            · split at htr
              · cases htr
              · cases htr
        · cases htr
    case invokespecial ix =>
      obtain rfl := mj_ln (k := 2) hln rfl
      simp only [mj_tr, mj_fm, Option.bind_eq_some_iff] at htr
      obtain ⟨⟨o, ix', t, f, ps⟩, hx, htr⟩ := htr
      obtain ⟨q1, q2, q3⟩ := mj_fnd_ok hx
      simp only at q2 q3 htr
      subst q2
      subst q3
      split at htr
      · rename_i t1
        split at htr
        · rename_i t3
          obtain ⟨t3, t4, t5⟩ := t3
          cases htr
          obtain ⟨u1, u2, u3, u4, u5, u6⟩ := mj_mt_ok m' t1
          rw [t3] at u4
          have hini := mj_in (mj_ins _ u1).2 rfl
          have hsp : mj_sp m' = mj_yy m' := by
            unfold mj_sp
            rw [if_neg (by omega), if_neg (by omega), if_neg (by omega), if_neg (by omega)]
          have hl := (mj_mL_ok _ q1).1
          simp only [hsp] at hl
          have hRR : d + 1 + 1 ≤ R.frames ∧ 8 + (mj_ml m' + 11) + 64 * (d + 1) ≤ R.locals := ⟨hR.1, by have := hR.2; omega⟩
          have hwse : mj_ws m' = Cond.code (mj_yy m') (mj_bb m') (mj_ml m') none :: mj_gt := by unfold mj_ws; rw [t5]
          unfold mj_rcv at c3
          rw [if_neg (by decide)] at c3
          split at c3
          · rename_i ba As
            have hSt : S.map (mj_rl z0 cst) = (As.map (mj_rl z0 cst)).reverse ++ .ref (z0 + ba) :: S'.map (mj_rl z0 cst) := by
              rw [hS]
              simp [mj_rl]
            have hnn : (As.map (mj_rl z0 cst)).length = mj_np m' := by
              rw [List.length_map]
              have := hlen
              unfold mj_nar at this
              rw [if_neg (by decide)] at this
              simpa using this
            unfold mj_G
            by_cases hf : f = 0
            · rw [if_pos hf] at hl
              exact mj_callq (rest := S'.map (mj_rl z0 cst)) (va_runI (As := As.map (mj_rl z0 cst)) (b := z0 + ba) (n := mj_np m') ⟨C.1, C.2.1, C.2.2.1, C.2.2.2.1, C.2.2.2.2.1⟩ (hM t1) (cwI (mj_np m') C.2.2.2.2.1 (mj_goodws t1) hwse rfl rfl (C.2.2.2.2.1 _ hini) (C.2.2.2.2.1 _ (mj_in hl rfl)) (C.2.2.2.2.1 _ (mj_in u4 rfl)) t4 ⟨u5.1, u5.2, u6⟩ hRR) ⟨mj_blind, fun U hU hw => mj_pre C xW xV _ U hU hw⟩ rfl hnn (hsz.trans C.2.2.1) hSt hrest hd hroom) xV (fun H1 locs1 g1 g2 => kk2 H1 locs1 g1 g2 rfl)
            · rw [if_neg hf] at hl
              exact mj_callq (rest := S'.map (mj_rl z0 cst)) (va_runIN (As := As.map (mj_rl z0 cst)) (b := z0 + ba) (n := mj_np m') ⟨C.1, C.2.1, C.2.2.1, C.2.2.2.1, C.2.2.2.2.1⟩ (hM t1) ⟨va_cnB (mj_np m') C.2.2.2.2.1 (mj_goodws t1) hwse rfl rfl (C.2.2.2.2.2.2.2.1.1 _ (List.mem_of_getElem? hl) rfl) (C.2.2.2.2.1 _ hini) ⟨u5.1, u5.2, u6⟩ hRR, t4, C.2.2.2.2.1 _ (mj_in u4 rfl)⟩ ⟨mj_blind, fun U hU hw => mj_pre C xW xV _ U hU hw⟩ rfl hnn (hsz.trans C.2.2.1) hSt hrest hd hroom) xV (fun H1 locs1 g1 g2 => kk2 H1 locs1 g1 g2 rfl)
          · cases c3
        · cases htr
      · split at htr
        · cases htr
        · cases htr
    case newarray t => cases t <;> cases htr
    case multianewarray ix dm =>
      rcases dm with _ | _ | _ | dm
      all_goals first
        | cases htr
        | (simp only [mj_tr, Option.bind_eq_some_iff] at htr; obtain ⟨x, -, htr⟩ := htr; (repeat' split at htr) <;> cases htr)
    all_goals first
      | cases htr
      | (simp only [mj_tr, mj_fm] at htr; (repeat' split at htr) <;> cases htr)
      | (simp only [mj_tr, Option.bind_eq_some_iff, Option.map_eq_some_iff] at htr; obtain ⟨x, -, htr⟩ := htr; (repeat' split at htr) <;> cases htr)
  · cases h'
end Sim
