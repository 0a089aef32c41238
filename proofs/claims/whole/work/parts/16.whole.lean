-- the run of a method, by induction on its steps; then the law's
theorem mj_inv_nr (m' k : Nat) (S : List mj_V) (Z : mj_Z) (r : Option mj_V) : ¬ mj_inv m' k S Z = some (.inr (.inl r)) := by
  intro h
  unfold mj_inv at h
  split at h <;> cases h
set_option maxHeartbeats 8000000 in
theorem mj_ret_is {K : mj_C} {z0 : Nat} {cst : Nat → Nat} {y pc nx : Nat} {mi : mj_MI} {L : mj_L} {S : List mj_V} {Z : mj_Z} {r : Option mj_V} (hy : y < 188) (hc : mj_cod y pc = some (mi, nx)) (h : mj_step K nx mi L S Z = some (.inr (.inl r))) : ∃ ins, decode (mj_bb y) pc = .ok (ins, 1) ∧ mj_rI z0 cst y r ins (S.map (mj_rl z0 cst)) := by
  obtain ⟨i, len, hd, htr, rfl, hln⟩ := mj_cod_ok hy hc
  rcases mj_kind h with ⟨a, ha⟩ | hk
  · cases ha
  cases i
  case return_ =>
    obtain rfl := mj_ln (k := 0) hln rfl
    simp only [mj_tr] at htr
    split at htr
    · rename_i hr
      cases htr
      have h' : mj_rt0 S = some (.inr (.inl r)) := h
      unfold mj_rt0 at h'
      split at h'
      · cases h'
        exact ⟨_, hd, rfl, rfl, hr⟩
      · cases h'
    · cases htr
  case ireturn =>
    obtain rfl := mj_ln (k := 0) hln rfl
    simp only [mj_tr] at htr
    split at htr
    · rename_i hr
      cases htr
      have h' : mj_rti 0 S = some (.inr (.inl r)) := h
      unfold mj_rti at h'
      split at h'
      · rw [if_pos rfl] at h'
        cases h'
        exact ⟨_, hd, rfl, rfl, Or.inl hr⟩
      · cases h'
    · rename_i hr
      cases htr
      have h' : mj_rti 1 S = some (.inr (.inl r)) := h
      unfold mj_rti at h'
      split at h'
      · rw [if_neg (by decide)] at h'
        split at h'
        · rename_i hx
          cases h'
          exact ⟨_, hd, rfl, rfl, Or.inr ⟨hr, hx⟩⟩
        · cases h'
      · cases h'
    · cases htr
  case lreturn =>
    obtain rfl := mj_ln (k := 0) hln rfl
    simp only [mj_tr] at htr
    split at htr
    · rename_i hr
      cases htr
      have h' : mj_rtl S = some (.inr (.inl r)) := h
      unfold mj_rtl at h'
      split at h'
      · cases h'
        exact ⟨_, hd, rfl, rfl, hr⟩
      · cases h'
    · cases htr
  case areturn =>
    obtain rfl := mj_ln (k := 0) hln rfl
    simp only [mj_tr] at htr
    split at htr
    · rename_i hr
      cases htr
      have h' : mj_rta S = some (.inr (.inl r)) := h
      unfold mj_rta at h'
      split at h'
      · cases h'
        exact ⟨_, hd, rfl, rfl, Or.inl ⟨_, hr⟩⟩
      · cases h'
    · rename_i hr
      cases htr
      have h' : mj_rta S = some (.inr (.inl r)) := h
      unfold mj_rta at h'
      split at h'
      · cases h'
        exact ⟨_, hd, rfl, rfl, Or.inr ⟨_, hr⟩⟩
      · cases h'
    · cases htr
  case newarray t =>
    exfalso
    cases t
    all_goals first
      | (cases htr; done)
      | (cases htr; simp at hk; done)
  case multianewarray ix dm =>
    exfalso
    rcases dm with _ | _ | _ | dm
    all_goals first
      | (cases htr; done)
      | (simp only [mj_tr, Option.bind_eq_some_iff] at htr; obtain ⟨x, -, htr⟩ := htr; (repeat' split at htr) <;> first | (cases htr; done) | (cases htr; simp at hk; done))
  all_goals exfalso
  all_goals first
    | (cases htr; done)
    | (cases htr; simp at hk; done)
    | (simp only [mj_tr] at htr; (repeat' split at htr) <;> first | (cases htr; done) | (cases htr; simp at hk; done))
    | (simp only [mj_tr, mj_fm, Option.bind_eq_some_iff, Option.map_eq_some_iff] at htr; obtain ⟨x, -, htr⟩ := htr; (repeat' split at htr) <;> first | (cases htr; done) | (cases htr; simp at hk; done) | (cases htr; exact absurd h (mj_inv_nr _ _ _ _ _)))
def mj_End (z0 : Nat) (cst : Nat → Nat) (dD : va_G) (dA : Nat → ClassId) (y : Nat) (p : Program) (l : Launch) (e : Env) (R : Room) (s : State) (m : MethodId) (args : Array Value) (below : List Frame) (meth : Method) (c : Code) (Q : State → Prop) (n0 s0 : Nat) (r : Option mj_V) (Zf : mj_Z) : Prop :=
  ∀ (H : Heap) (locs : List Loc) (pc : Nat) (ls : Array Slot) (ins : Instr) (st : List Value), mj_Wd z0 dD dA Zf H → va_S (mj_Ad z0) s.heap H locs → decode (mj_bb y) pc = .ok (ins, 1) → mj_rI z0 cst y r ins st → W p l e R s m args below meth c H locs (mj_nc Zf - n0) (mj_ns Zf - s0) Q (F0 m pc ls st)
def mj_Pn (K : mj_C) (z0 : Nat) (cst : Nat → Nat) (dD : va_G) (dA : Nat → ClassId) (l : Launch) (n : Nat) : Prop :=
  ∀ (d y pc : Nat) (L : mj_L) (S : List mj_V) (Z : mj_Z) (r : Option mj_V) (Zf : mj_Z), mj_run K n d y pc L S Z = some (r, Zf) →
    ∀ (p : Program) (e : Env) (R : Room) (s : State) (m : MethodId) (args : Array Value) (below : List Frame) (meth : Method) (c : Code) (Q : State → Prop) (n0 s0 : Nat) (H : Heap) (locs : List Loc) (ls : Array Slot),
      mj_Cx K z0 cst dD dA y n0 p s m args meth c → mj_St z0 cst dD dA y n0 s0 s Z L S H locs ls → (d + 1 ≤ R.frames ∧ 64 * (d + 1) ≤ R.locals) → (mj_nc Zf - n0 ≤ R.cells ∧ mj_ns Zf - s0 ≤ R.slots) → mj_End z0 cst dD dA y p l e R s m args below meth c Q n0 s0 r Zf → mj_G z0 cst p l e R s m args below meth c Q n0 s0 Z S pc H locs ls
theorem mj_met {K : mj_C} {z0 : Nat} {cst : Nat → Nat} {dD : va_G} {dA : Nat → ClassId} {l : Launch} {n d m' : Nat} {as : List mj_V} {Z Z' : mj_Z} {r : Option mj_V} (hP : mj_Pn K z0 cst dD dA l n) (hm : m' < 187) (hKr : ∀ k j, mj_rg ((K k).2 j)) (hZ : mj_okZ Z) (has : mj_okS as) (hlay : (mj_lay as).length ≤ mj_ml m') (h : mj_run K n d m' 0 (mj_ent m' as) [] Z = some (r, Z')) : mj_MetAt K z0 cst dD dA l d m' as Z r Z' := by
  obtain ⟨u1, u2, u3, u4, u5, u6⟩ := mj_mt_ok m' hm
  refine Met.ofW (cc := mj_bb m') (maxL := mj_ml m') (ret := mj_rt m') u3 rfl ?_
  intro p e s m args below meth c s₁ B hml hv
  obtain ⟨rfl, hWd, hK, hCW⟩ := hv
  have hts : ∀ w ∈ mj_gt, w.before (as.map (mj_rl z0 cst)).toArray s = true := fun w hw => atoms_spec (ws := mj_ws m') B.pre w (List.mem_cons_of_mem _ hw)
  have hr := B.returns
  have hlocks := B.notSynchronized
  rw [lg_entry_eq]
  have hls := mj_LH_ent (z0 := z0) (cst := cst) (m := m') hlay
  have hx := B.exec
  have hb := B.bytes
  refine W.cs (cells' := mj_nc Z - mj_nc Z) (slots' := mj_ns Z - mj_ns Z) (Nat.sub_self _).symm (Nat.sub_self _).symm ?_
  refine hP d m' 0 (mj_ent m' as) [] Z r Z' h p e _ s m (as.map (mj_rl z0 cst)).toArray below meth c _ (mj_nc Z) (mj_ns Z) s.heap [] _ ⟨hx, hb, hml, findClass_of_methodNamed B.named, hts, (fun h9 => (name_of_methodNamed B.named B.method).1.trans h9), hK, hCW, by rw [hWd.1]; exact Nat.le_add_right _ _, hKr, hWd.1⟩ ⟨hZ, mj_okL_ent has, mj_okS_nil, hWd, va_S.rf, hls, Nat.le_refl _, Nat.le_refl _⟩ ⟨Nat.le_refl _, Nat.le_refl _⟩ ⟨Nat.le_refl _, Nat.le_refl _⟩ ?_
  intro H locs pc ls ins st hW hV hd hI
  have hq : ∀ t : State, t.heap = H → s.WarmedH t.vm → mj_Qc z0 cst dD dA r Z' (as.map (mj_rl z0 cst)).toArray s (.returned (r.map (mj_rl z0 cst))) t := fun t ht _ => ⟨rfl, by rw [ht]; exact hW, hV.F ht⟩
  unfold mj_rI at hI
  split at hI
  · obtain ⟨rfl, rfl, i3⟩ := hI
    exact W.vret hx hb (hr.trans i3) hq hV.2.2 hd hlocks
  · rename_i x
    obtain ⟨rfl, rfl, i3⟩ := hI
    rcases i3 with i3 | ⟨i3, i4⟩
    · exact W.iret hx hb (hr.trans i3) hq hV.2.2 hd hlocks
    · exact W.zret (ty := .boolean) hx hb (hr.trans i3) (by rcases i4 with rfl | rfl <;> rfl) hq hV.2.2 hd hlocks
  · obtain ⟨rfl, rfl, i3⟩ := hI
    exact W.lret hx hb (hr.trans i3) hq hV.2.2 hd hlocks
  · rename_i w
    obtain ⟨rfl, rfl, i3⟩ := hI
    have hv2 : mj_rl z0 cst (.inr (.inr w)) = .null ∨ ∃ a, mj_rl z0 cst (.inr (.inr w)) = .ref a := by
      rcases w with w | w
      · exact Or.inr ⟨_, rfl⟩
      · exact Or.inr ⟨_, rfl⟩
    rcases i3 with ⟨q, i3⟩ | ⟨q, i3⟩
    · exact W.aret hx hb (hr.trans i3) (Or.inl ⟨q, rfl⟩) hv2 hq hV.2.2 hd hlocks
    · exact W.aret hx hb (hr.trans i3) (Or.inr ⟨q, rfl⟩) hv2 hq hV.2.2 hd hlocks
theorem mj_sim (K : mj_C) (z0 : Nat) (cst : Nat → Nat) (dD : va_G) (dA : Nat → ClassId) (l : Launch) (hKr : ∀ k j, mj_rg ((K k).2 j)) : ∀ n, mj_Pn K z0 cst dD dA l n := by
  intro n
  induction n with
  | zero => intro d y pc L S Z r Zf h; simp [mj_run] at h
  | succ n ih =>
    intro d y pc L S Z r Zf h p e R s m args below meth c Q n0 s0 H locs ls C X hR hrm hend
    have hXc := X
    obtain ⟨xZ, xL, xS, xW, xV, xl, xN, xM⟩ := X
    obtain ⟨-, -, hfc, hfs⟩ := mj_run_ok hKr _ _ _ _ _ _ _ _ _ h xZ xL xS
    rw [mj_run] at h
    cases hc : mj_cod y pc with
    | none => rw [hc] at h; simp at h
    | some q =>
      obtain ⟨mi, nx⟩ := q
      have hy := mj_cod_lt hc
      rw [hc] at h
      simp only at h
      have hmi : mi.1 = 0 → mj_rg mi.2.1 := by
        obtain ⟨i, len, -, htr, -⟩ := mj_cod_ok hy hc
        exact mj_tr_0 htr
      cases hs : mj_step K nx mi L S Z with
      | none => rw [hs] at h; simp at h
      | some act =>
        rw [hs] at h
        have hok := mj_step_ok hKr hmi hs xZ xL xS
        rcases act with ⟨pc', L', S', Z'⟩ | r' | ⟨m', as, S'⟩
        · simp only at h
          obtain ⟨h1, h2, h3, h4, h5, -⟩ := hok
          obtain ⟨-, -, g3, g4⟩ := mj_run_ok hKr _ _ _ _ _ _ _ _ _ h h1 h2 h3
          refine mj_one (a := (pc', L', S', Z')) C hXc ?_ ⟨by omega, by omega⟩ ⟨by show mj_nc Z' - n0 ≤ _; omega, by show mj_ns Z' - s0 ≤ _; omega⟩ hy hc hs
          intro H1 locs1 ls1 hW hV hl
          exact ih d y pc' L' S' Z' r Zf h p e R s m args below meth c Q n0 s0 H1 locs1 ls1 C ⟨h1, h2, h3, hW, hV, hl, Nat.le_trans xN h4, Nat.le_trans xM h5⟩ hR hrm hend
        · simp only [Option.some.injEq, Prod.mk.injEq] at h
          obtain ⟨rfl, rfl⟩ := h
          obtain ⟨ins, hd, hI⟩ := mj_ret_is (z0 := z0) (cst := cst) hy hc hs
          exact hend H locs pc ls ins _ xW xV hd hI
        · simp only at h
          obtain ⟨h1, h2⟩ := hok
          cases d with
          | zero => simp at h
          | succ d =>
            simp only at h
            split at h
            · rename_i hlay
              cases hr : mj_run K n d m' 0 (mj_ent m' as) [] Z with
              | none => rw [hr] at h; simp at h
              | some x =>
                obtain ⟨r1, Z1⟩ := x
                rw [hr] at h
                simp only at h
                obtain ⟨g1, g2, g3, g4⟩ := mj_run_ok hKr _ _ _ _ _ _ _ _ _ hr xZ (mj_okL_ent h1) mj_okS_nil
                have hS1 : mj_okS (r1.toList ++ S') := by
                  intro v hv
                  rcases List.mem_append.mp hv with hv | hv
                  · cases r1 with
                    | none => cases hv
                    | some w =>
                      have : v = w := by simpa using hv
                      subst this
                      exact g2 v rfl
                  · exact h2 v hv
                obtain ⟨-, -, k3, k4⟩ := mj_run_ok hKr _ _ _ _ _ _ _ _ _ h g1 xL hS1
                have h32 : mi.1 = 32 := by
                  rcases mj_kind hs with ⟨a, ha⟩ | hk
                  · cases ha
                  · obtain ⟨op, mr⟩ := mi
                    simp only at hk
                    have h5 : op = 28 ∨ op = 29 ∨ op = 30 ∨ op = 31 ∨ op = 32 := by omega
                    rcases h5 with rfl | rfl | rfl | rfl | rfl
                    · exfalso; have h' : mj_rt0 S = _ := hs; unfold mj_rt0 at h'; (repeat' split at h') <;> cases h'
                    · exfalso; have h' : mj_rti mr.2.2.1 S = _ := hs; unfold mj_rti at h'; (repeat' split at h') <;> cases h'
                    · exfalso; have h' : mj_rtl S = _ := hs; unfold mj_rtl at h'; (repeat' split at h') <;> cases h'
                    · exfalso; have h' : mj_rta S = _ := hs; unfold mj_rta at h'; (repeat' split at h') <;> cases h'
                    · rfl
                refine mj_inv_call (d := d) (r := r1) (Z' := Z1) C hXc ⟨by omega, by omega⟩ ⟨by omega, by omega⟩ g3 g4 hy hc h32 hs (fun hm => mj_met ih hm hKr xZ h1 hlay hr) ?_
                intro H1 locs1 hW hV
                exact ih (d + 1) y nx L _ Z1 r Zf h p e R s m args below meth c Q n0 s0 H1 locs1 ls C ⟨g1, xL, hS1, hW, hV, xl, Nat.le_trans xN g3, Nat.le_trans xM g4⟩ hR hrm hend
            · cases h
