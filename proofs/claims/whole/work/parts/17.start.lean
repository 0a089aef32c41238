/-! THE CLAIM OUT OF ONE WALK OF THE LAW'S BODY. Your part is whole_start (and what it stands on); all else here is the same for every law, but numbers. -/
def R_law : String := "PermitBankLaw"
def lw_P (b : Addr) (xs : List Int32) (args : Array Value) (s : State) : Prop := args = #[.ref b] ∧ s.IntsAt b xs ∧ xs.length ≤ 3072 ∧ (Jvm.Cond.and given_1 narrow_1).before args s = true
def lw_Q (_ : Array Value) (s : State) (o : Outcome) (t : State) : Prop := o = .returned (some (.int 1)) ∧ Framed s o t [] 600000 7302250
def lw_Z (below : List Frame) (a : Array Value) (s : State) : State → Prop := fun t => ∃ o, t.status = .running ∧ Ended t below o ∧ lw_Q a s o t
/-- the law's own end, with 1 on the stack, nothing written that was there before, its room as the claim has it -/
theorem lw_ret {p : Program} {l : Launch} {e : Env} {s : State} {m : MethodId} {below : List Frame} {meth : Method} {c : Code} {b : Nat} (hx : p.tables.exec = Jvm.exec) (hb : c.code = code) (hr : meth.sig.returnType = ret) (hlocks : meth.locks = false) {pc : Nat} {H : Heap} {ls : Array Slot} (hdg : decode code pc = .ok (.ireturn, 1)) : W p l e room_1 s m #[Value.ref b] below meth c H [] 600000 7302250 (lw_Z below #[Value.ref b] s) (F0 m pc ls [.int 1]) := by
  intro T hT X
  obtain ⟨fs, hret, hrun, hended, hW, hframe⟩ := X.leave (v := some (.int 1)) (hlocks := hlocks) (fun h => by rw [hr] at h; cases h)
  have hmeth' : T.vm.method? m = some meth := X.method'
  refine ⟨T.setFrames fs, ?_, .returned (some (.int 1)), hrun, hended, rfl, ⟨_, rfl⟩, hW, hframe⟩
  jvm_step X.here [X.here.top, hx, hb, hdg, hmeth', hr, ret, narrow_b1]
  (try refine ⟨rfl, ?_⟩); (try refine ⟨rfl, ?_⟩)
  first | (intro acts; rw [hret _ acts rfl rfl rfl]) | rw [hret _ _ rfl rfl rfl]
  exact Steps.refl _
/-- what holds at the law's entry: the machine, the code, the tables' words (any of lw_tbl by 'hts w (by decide +kernel)'), the script of L ints xs at the cell b, what the Statement gives of the start (any of its parts by flat_of_before) -/
def lw_At (p : Program) (s : State) (m : MethodId) (meth : Method) (c : Code) (b L : Nat) (xs : Nat → Int32) : Prop :=
  p.tables.exec = Jvm.exec ∧ c.code = code ∧ meth.sig.returnType = ret ∧ c.maxLocals = 4 ∧ s.vm.findClass R_law = some m.cls ∧ (∀ w ∈ lw_tbl, w.before #[Value.ref b] s = true) ∧ va_X b L xs s s.heap ∧ b < s.heap.size ∧ meth.locks = false ∧ (Jvm.Cond.and given_1 narrow_1).before #[Value.ref b] s = true
-- from the start that the Statement allows to the mini machine's run of the law
def mj_Kc (L : Nat) (xs : Nat → Int32) : mj_C := fun k => match k with
  | 0 => (L, fun j => (xs j).toInt)
  | 1 => (4, fun j => if j = 2 then 1 else if j = 3 then 1 else 0)
  | 2 => (4, fun j => if j = 0 then 20 else if j = 1 then 40 else if j = 2 then 20 else 9)
  | _ => (4, fun j => if j = 3 then 5 else 20)
theorem mj_Kc_rg (L : Nat) (xs : Nat → Int32) : ∀ k j, mj_rg ((mj_Kc L xs k).2 j) := by
  intro k j
  match k with
  | 0 => exact mj_rg_i _
  | 1 => show mj_rg (if j = 2 then 1 else if j = 3 then 1 else 0); (repeat' split) <;> constructor <;> decide
  | 2 => show mj_rg (if j = 0 then 20 else if j = 1 then 40 else if j = 2 then 20 else 9); (repeat' split) <;> constructor <;> decide
  | k + 3 => show mj_rg (if j = 3 then 5 else 20); split <;> constructor <;> decide
theorem mj_stat {args : Array Value} {s : State} {n : String} {z0 : Nat} {f : Nat → Int} (hl : (Cond.laysStatic "PermitBank" n "[I").before args s = true) (hini : (Cond.initialized "PermitBank").before args s = true) (harr : (Cond.arrayOf (.static "PermitBank" n "[I") .int).before args s = true) (hlen : (Cond.eq (.length (.static "PermitBank" n "[I")) (.int 4)).before args s = true)
    (hel : ∀ j : Nat, j < 4 → (Cond.eq (.elem (.static "PermitBank" n "[I") (.int (Int32.ofNat j))) (.int (Int32.ofInt (f j)))).before args s = true) (hA : ∀ a : Nat, a < s.heap.size → ¬ z0 ≤ a) :
    ∃ t : Nat, va_T .int t 4 (fun j => .int (Int32.ofInt (f j))) (fun q => z0 ≤ q) s s.heap ∧ va_Z "PermitBank" n "[I" (.ref t) (fun q => z0 ≤ q) s s.heap := by
  obtain ⟨t, h1, h2⟩ := va_Tof (N := 4) (f := fun j => .int (Int32.ofInt (f j))) (A := fun q => z0 ≤ q) (by decide) harr (va_eqt hlen) (fun j hj => va_eqt (hel j hj)) hA
  exact ⟨t, h2, va_Zof hl hini h1 hA⟩
theorem mj_arrOf {args : Array Value} {s : State} {ty : FieldType} (h : (Cond.arrayClass ty).before args s = true) : ∃ cA : ClassId, ArrOfT s cA ty ∧ s.vm.findClass ("[" ++ ty.toString) = some cA := by
  obtain ⟨c, k, comp, h1, h2, h3⟩ := Cond.arrayClass_spec h
  exact ⟨c, fun n z => ⟨(fun q hq => by cases hq), k, h2, comp, h3⟩, h1⟩
set_option maxRecDepth 100000 in
set_option maxHeartbeats 4000000 in
theorem mj_begin {p : Program} {e : Env} {s : State} {m : MethodId} {below : List Frame} {meth : Method} {c : Code} (l : Launch) {b L : Nat} {xs : Nat → Int32} (C0 : lw_At p s m meth c b L xs)
    (hrun : ∃ d, d ≤ 1000 ∧ mj_X (mj_Kc L xs) d 187 [.inr (.inr (.inr 0))] ([], fun _ _ => 0, fun _ _ => 0) (fun r Z => r = some (.inl 1) ∧ mj_nc Z ≤ 600000 ∧ mj_ns Z ≤ 7302250)) :
    W p l e room_1 s m #[Value.ref b] below meth c s.heap [] 0 0 (lw_Z below #[Value.ref b] s) (entryFrame m ([Value.ref b] : List Value).toArray 4) := by
  obtain ⟨hx, hb, hr, hml, hown, hts, hX, hbl, hlocks, hgv⟩ := id C0
  have hs := flat_of_before _ hgv
  have hA : ∀ a : Nat, a < s.heap.size → ¬ s.heap.size ≤ a := fun a h => by omega
  have hini : (Cond.initialized "PermitBank").before #[Value.ref b] s = true := hts _ (List.mem_append_right _ (List.mem_of_getElem? (i := 1) (by decide +kernel)))
  obtain ⟨t1, hT1, hZ1⟩ := mj_stat (n := "LEAST") (f := (mj_Kc L xs 1).2) (hts _ (List.mem_append_right _ (List.mem_of_getElem? (i := 320) (by decide +kernel)))) hini (hs _ (by decide +kernel)) (hs _ (by decide +kernel)) (fun j hj => by
    match j, hj with
    | 0, _ => exact hs (Cond.eq (.elem (.static "PermitBank" "LEAST" "[I") (.int 0)) (.int 0)) (by decide +kernel)
    | 1, _ => exact hs (Cond.eq (.elem (.static "PermitBank" "LEAST" "[I") (.int 1)) (.int 0)) (by decide +kernel)
    | 2, _ => exact hs (Cond.eq (.elem (.static "PermitBank" "LEAST" "[I") (.int 2)) (.int 1)) (by decide +kernel)
    | 3, _ => exact hs (Cond.eq (.elem (.static "PermitBank" "LEAST" "[I") (.int 3)) (.int 1)) (by decide +kernel)) hA
  obtain ⟨t2, hT2, hZ2⟩ := mj_stat (n := "MOST") (f := (mj_Kc L xs 2).2) (hts _ (List.mem_append_right _ (List.mem_of_getElem? (i := 322) (by decide +kernel)))) hini (hs _ (by decide +kernel)) (hs _ (by decide +kernel)) (fun j hj => by
    match j, hj with
    | 0, _ => exact hs (Cond.eq (.elem (.static "PermitBank" "MOST" "[I") (.int 0)) (.int 20)) (by decide +kernel)
    | 1, _ => exact hs (Cond.eq (.elem (.static "PermitBank" "MOST" "[I") (.int 1)) (.int 40)) (by decide +kernel)
    | 2, _ => exact hs (Cond.eq (.elem (.static "PermitBank" "MOST" "[I") (.int 2)) (.int 20)) (by decide +kernel)
    | 3, _ => exact hs (Cond.eq (.elem (.static "PermitBank" "MOST" "[I") (.int 3)) (.int 9)) (by decide +kernel)) hA
  obtain ⟨t3, hT3, hZ3⟩ := mj_stat (n := "MOST_SETTING") (f := (mj_Kc L xs 3).2) (hts _ (List.mem_append_right _ (List.mem_of_getElem? (i := 363) (by decide +kernel)))) hini (hs _ (by decide +kernel)) (hs _ (by decide +kernel)) (fun j hj => by
    match j, hj with
    | 0, _ => exact hs (Cond.eq (.elem (.static "PermitBank" "MOST_SETTING" "[I") (.int 0)) (.int 20)) (by decide +kernel)
    | 1, _ => exact hs (Cond.eq (.elem (.static "PermitBank" "MOST_SETTING" "[I") (.int 1)) (.int 20)) (by decide +kernel)
    | 2, _ => exact hs (Cond.eq (.elem (.static "PermitBank" "MOST_SETTING" "[I") (.int 2)) (.int 20)) (by decide +kernel)
    | 3, _ => exact hs (Cond.eq (.elem (.static "PermitBank" "MOST_SETTING" "[I") (.int 3)) (.int 5)) (by decide +kernel)) hA
  -- classes
  have hgt : ∀ w ∈ mj_gt, w.before #[Value.ref b] s = true := fun w hw => hts w (List.mem_filter.mp hw).1
  have hcls : ∀ ci, ∃ q : ClassId × (Nat → Nat), ci < 10 → u_Kn s (mj_own ci) (mj_TT ci) (mj_NN ci) q.1 q.2 := by
    intro ci
    by_cases h : ci < 10
    · obtain ⟨cC, iS, h1⟩ := u_known (C := mj_own ci) (T := mj_TT ci) (N := mj_NN ci) hgt (mj_uin h) (hgt _ (mj_in (mj_ins ci h).1 rfl))
      exact ⟨(cC, iS), fun _ => h1⟩
    · exact ⟨(0, fun _ => 0), fun q => absurd q h⟩
  obtain ⟨fD, hfD⟩ := Classical.axiomOfChoice hcls
  obtain ⟨a1, ha1, hb1⟩ := mj_arrOf (hgt _ mj_wob.2.2.1)
  obtain ⟨a2, ha2, hb2⟩ := mj_arrOf (hgt _ mj_wob.2.2.2)
  have hAOI : mj_AOI s := hts (Cond.arrayOver (.array .int)) (List.mem_append_right _ (List.mem_of_getElem? (i := 133) (by decide +kernel)))
  have hAOT : va_AO "PermitBank$Tape" s := hts (Cond.arrayOver (.object "PermitBank$Tape")) (List.mem_append_right _ (List.mem_of_getElem? (i := 261) (by decide +kernel)))
  obtain ⟨comp3, a3, k3, g31, -, g33, g34, g35⟩ := arrayOverA_spec hAOI
  obtain ⟨comp4, a4, k4, g41, -, g43, g44, g45⟩ := Cond.arrayOver_spec hAOT
  obtain ⟨dA, hdA⟩ : ∃ dA : Nat → ClassId, dA 1 = a1 ∧ dA 2 = a2 ∧ dA 3 = a3 ∧ dA 4 = a4 := ⟨fun k => if k = 1 then a1 else if k = 2 then a2 else if k = 3 then a3 else a4, rfl, rfl, rfl, rfl⟩
  obtain ⟨d1, d2, d3, d4⟩ := hdA
  have hK : va_K (fun ci => (fD ci).1, fun ci => (fD ci).2) mj_cl (mj_ty dA) s := by
    refine ⟨fun ci q hq => ?_, fun k q hk => ?_⟩
    · obtain ⟨h1, rfl⟩ := mj_cl_of hq
      exact hfD ci h1
    · unfold mj_ty at hk
      match k, hk with
      | 0, hk => cases hk; rw [d1]; exact ⟨ha1, hb1⟩
      | 1, hk => cases hk; rw [d2]; exact ⟨ha2, hb2⟩
      | 2, hk => cases hk; rw [d3]; exact ⟨fun n z => ⟨(fun q hq => by cases hq), k3, g33, comp3, g34⟩, g35⟩
      | 3, hk => cases hk; rw [d4]; exact ⟨fun n z => ⟨(fun q hq => by cases hq), k4, g43, comp4, g44⟩, k4, comp4, g43, g44, g41, g45⟩
      | k + 4, hk => simp at hk
  have hXT : va_T .int b L (fun j => .int (Int32.ofInt ((mj_Kc L xs 0).2 j))) (fun q => s.heap.size ≤ q) s s.heap := by
    obtain ⟨scr, h1, h2, h3, h4, h5⟩ := hX
    refine ⟨scr, h1, h2, h3, by omega, by rw [h4], fun j hj => ?_, hA b hbl⟩
    rw [h5 j hj]
    show _ = some (Value.int (Int32.ofInt (xs j).toInt))
    rw [Int32.ofInt_toInt]
  have hCW : mj_CW (mj_Kc L xs) s.heap.size (fun k => if k = 0 then b else if k = 1 then t1 else if k = 2 then t2 else t3) s s.heap := by
    refine ⟨fun w hw hn => ?_, hAOT, hAOI, fun k hk => ?_, fun k h1 hk => ?_⟩
    · refine va_tabs ?_ rfl (hts w (List.mem_append_right _ hw))
      cases w <;> first | rfl | cases hn
    · match k, hk with
      | 0, _ => exact hXT
      | 1, _ => exact hT1
      | 2, _ => exact hT2
      | 3, _ => exact hT3
    · match k, hk, h1 with
      | 1, _, _ => exact hZ1
      | 2, _, _ => exact hZ2
      | 3, _, _ => exact hZ3
  obtain ⟨d, hd, n, r, Zf, hrn, rfl, hnc, hns⟩ := hrun
  have hlay : (mj_lay [.inr (.inr (.inr 0))]).length ≤ mj_ml 187 := by decide +kernel
  have key := mj_sim (mj_Kc L xs) s.heap.size (fun k => if k = 0 then b else if k = 1 then t1 else if k = 2 then t2 else t3) (fun ci => (fD ci).1, fun ci => (fD ci).2) dA l (mj_Kc_rg L xs) n d 187 0 (mj_ent 187 [.inr (.inr (.inr 0))]) [] ([], fun _ _ => 0, fun _ _ => 0) (some (.inl 1)) Zf hrn p e room_1 s m #[Value.ref b] below meth c (lw_Z below #[Value.ref b] s) 0 0 s.heap [] ((lg_sl ([.inr (.inr (.inr 0))].map (mj_rl s.heap.size (fun k => if k = 0 then b else if k = 1 then t1 else if k = 2 then t2 else t3))) ++ List.replicate (mj_ml 187 - (lg_sl ([.inr (.inr (.inr 0))].map (mj_rl s.heap.size (fun k => if k = 0 then b else if k = 1 then t1 else if k = 2 then t2 else t3)))).length) Slot.unset).toArray)
    ⟨hx, hb, hml, hown, hgt, fun h9 => absurd h9 (by decide +kernel), hK, hCW, Nat.le_refl _, mj_Kc_rg L xs, rfl⟩
    ⟨fun a j => mj_rg0, mj_okL_ent (fun v hv => by rw [List.mem_singleton.mp hv]; trivial), mj_okS_nil, ⟨rfl, fun k q h => by simp [mj_W] at h⟩, va_S.rf, mj_LH_ent hlay, Nat.zero_le _, Nat.zero_le _⟩
    ⟨by show d + 1 ≤ 2048; omega, by show 64 * (d + 1) ≤ 84000; omega⟩ ⟨by show _ - 0 ≤ 600000; omega, by show _ - 0 ≤ 7302250; omega⟩ ?_
  · rw [lg_entry_eq]
    exact key
  · intro H locs pc ls ins st hW hV hdc hI
    obtain ⟨rfl, rfl, -⟩ := hI
    refine W.widen (k := 600000) (n := 7302250) (by omega) (by omega) ?_
    refine va_forget hV.2.2 ?_
    exact lw_ret hx hb hr hlocks hdc
