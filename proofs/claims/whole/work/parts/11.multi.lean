-- new int[n][k]: one row of rows, then its rows, one behind the other
def mm_o (cA : ClassId) (N h i : Nat) : Cell := arrV cA N fun j => if j < i then .ref (h + 1 + j) else .null
def mm_r (cB : ClassId) (M : Nat) : Cell := arrV cB M fun _ => .int 0
def mm_f (s : State) (cA cB : ClassId) (N M : Nat) : Nat → State
  | 0 => s.pushCell (mm_o cA N s.heap.size 0)
  | i + 1 => ((mm_f s cA cB N M i).pushCell (mm_r cB M)).setCell s.heap.size (mm_o cA N s.heap.size (i + 1))
theorem mm_o_step (cA : ClassId) (N h i : Nat) : (mm_o cA N h i).setSlot i (.ref (h + 1 + i)) = mm_o cA N h (i + 1) := by
  unfold mm_o
  rw [arrV_store]
  congr 1
  funext j
  unfold updV
  by_cases e : j = i
  · subst e
    rw [if_pos rfl, if_pos (Nat.lt_succ_self _)]
  · rw [if_neg e]
    show (if j < i then Value.ref (h + 1 + j) else Value.null) = _
    by_cases q : j < i
    · rw [if_pos q, if_pos (by omega)]
    · rw [if_neg q, if_neg (by omega)]
theorem mm_f_is (s : State) (cA cB : ClassId) (N M : Nat) : ∀ i, (mm_f s cA cB N M i).heap.size = s.heap.size + 1 + i ∧ (mm_f s cA cB N M i).heap[s.heap.size]? = some (mm_o cA N s.heap.size i) ∧ (mm_f s cA cB N M i).vm = s.vm ∧ (mm_f s cA cB N M i).slotsUsed = s.slotsUsed + N + i * M
  | 0 => ⟨by simp [mm_f], by simp [mm_f], rfl, by simp [mm_f, mm_o, arrV]⟩
  | i + 1 => by
    obtain ⟨h1, h2, h3, h4⟩ := mm_f_is s cA cB N M i
    have hlt : s.heap.size < (mm_f s cA cB N M i).heap.size := by omega
    have h5 : ((mm_f s cA cB N M i).pushCell (mm_r cB M)).heap[s.heap.size]? = some (mm_o cA N s.heap.size i) := by rw [State.heap_pushCell_of_lt (h := hlt)]; exact h2
    refine ⟨?_, State.heap_setCell_self h5, by simp [mm_f, h3], ?_⟩
    · simp [mm_f, State.setCell, h1]; omega
    · simp [mm_f, h4, mm_r, arrV, Nat.succ_mul]; omega
theorem mm_f_old (s : State) (cA cB : ClassId) (N M : Nat) {q : Addr} (hq : q < s.heap.size) : ∀ i, (mm_f s cA cB N M i).heap[q]? = s.heap[q]?
  | 0 => State.heap_pushCell_of_lt _ _ hq
  | i + 1 => by
    have h1 := (mm_f_is s cA cB N M i).1
    have hlt : q < (mm_f s cA cB N M i).heap.size := Nat.lt_of_lt_of_le hq (by rw [h1]; omega)
    show (((mm_f s cA cB N M i).pushCell (mm_r cB M)).setCell s.heap.size _).heap[q]? = _
    rw [State.heap_setCell_other (Nat.ne_of_gt hq), State.heap_pushCell_of_lt (h := hlt)]
    exact mm_f_old s cA cB N M hq i
theorem mm_f_row (s : State) (cA cB : ClassId) (N M : Nat) : ∀ i j, j < i → (mm_f s cA cB N M i).heap[s.heap.size + 1 + j]? = some (mm_r cB M)
  | 0, _, h => absurd h (Nat.not_lt_zero _)
  | i + 1, j, h => by
    have h1 := (mm_f_is s cA cB N M i).1
    show (((mm_f s cA cB N M i).pushCell (mm_r cB M)).setCell s.heap.size _).heap[s.heap.size + 1 + j]? = _
    rw [State.heap_setCell_other (show s.heap.size ≠ s.heap.size + 1 + j by omega)]
    by_cases hj : j < i
    · rw [State.heap_pushCell_of_lt (h := show s.heap.size + 1 + j < (mm_f s cA cB N M i).heap.size by rw [h1]; omega)]
      exact mm_f_row s cA cB N M i j hj
    · have e : j = i := by omega
      subst e
      rw [← h1]
      exact State.heap_pushCell_size _ _
theorem mm_f_top (s : State) (f : JFrame) (cA cB : ClassId) (N M : Nat) : ∀ i, mm_f (s.setTop f) cA cB N M i = (mm_f s cA cB N M i).setTop f
  | 0 => rfl
  | i + 1 => by simp only [mm_f, mm_f_top s f cA cB N M i, State.heap_setTop, State.pushCell_setTop, State.setCell_setTop]
section Mm
variable {E : CtlPost} {e : Env} {d : Bool} {acts : List Action} {s : State}
theorem mm_alloc {cA comp : ClassId} {kA : Class} {ty : FieldType} {N : Nat} {x : Value} (hk : s.vm.classes[cA]? = some kA) (hkind : kA.kind = .array comp ty) (hl : ¬ N > e.platform.arrayLengthLimit) (hh : ¬ N * componentBytes ty > e.platform.maxHeapBytes) (hf : fits ty x = true) (hdf : x.isDefault = true) {P : Addr → Pre}
    (h1 : s.heap.size < e.platform.maxCells) (h2 : s.slotsUsed + N ≤ e.platform.maxSlots) (hP : P s.heap.size d acts (s.pushCell (arrV cA N fun _ => x))) : wp (Jvm.newArray cA N x) P E e d acts s := by
  have hs : ∀ i v, (Array.replicate N x)[i]? = some v → s.fitsSlot cA .none i v = true := by
    intro i v hv
    rw [Array.getElem?_replicate] at hv
    split at hv
    · cases hv; simp [State.fitsSlot, State.slotType?, hk, hkind, hf]
    · cases hv
  have ha : allocActs (Array.replicate N x) s.heap.size acts = acts := by
    have : ((Array.replicate N x).all (·.isDefault)) = true := by
      rw [Array.all_replicate]; split <;> simp [hdf]
    unfold allocActs; rw [if_pos this]
  rw [← arrV_new] at hP
  simp only [Jvm.newArray, Jvm.arrayFits, wp_bind', W.ask, W.ite, hl, if_false, wp_pure', W.theClass, hk, hkind, hh, W.alloc, W.stop, Option.some.injEq, exists_eq_left', Array.size_replicate, ha]
  rw [if_neg (by omega)]
  exact ⟨h1, h2, hs, hP⟩
theorem mm_make {cA cB ci : ClassId} {kA kB : Class} {n k : Int32} {N M : Nat} (hkA : s.vm.classes[cA]? = some kA) (hA : kA.kind = .array cB (.array .int)) (hkB : s.vm.classes[cB]? = some kB) (hB : kB.kind = .array ci .int) (hn : ¬ n < 0) (hk : ¬ k < 0) (hN : n.toNatClampNeg = N) (hM : k.toNatClampNeg = M)
    (l1 : ¬ N > e.platform.arrayLengthLimit) (l2 : ¬ N * 4 > e.platform.maxHeapBytes) (l3 : ¬ M > e.platform.arrayLengthLimit) (l4 : ¬ M * 4 > e.platform.maxHeapBytes) (hc : s.heap.size + 1 + N ≤ e.platform.maxCells) (hs : s.slotsUsed + N + N * M ≤ e.platform.maxSlots)
    {P : Addr → Pre} (hP : ∀ d' acts', P s.heap.size d' acts' (mm_f s cA cB N M N)) : wp (Op.multianewarray.make cA [n, k]) P E e d acts s := by
  subst hN
  subst hM
  have hbad : ([k].find? (· < 0)) = none := by simp [hk]
  rw [Op.multianewarray.make]
  simp only [wp_bind', W.ite, hn, if_false, wp_pure', W.theClass, hkA, hA, Option.some.injEq, exists_eq_left']
  refine mm_alloc hkA hA l1 l2 rfl rfl (by omega) (by have := Nat.zero_le (n.toNatClampNeg * k.toNatClampNeg); omega) ?_
  have h0 : s.pushCell (arrV cA n.toNatClampNeg fun _ => Value.null) = mm_f s cA cB n.toNatClampNeg k.toNatClampNeg 0 := by
    show _ = s.pushCell (mm_o cA n.toNatClampNeg s.heap.size 0)
    unfold mm_o
    simp
  rw [h0]
  simp only [hbad]
  rw [ite_self, wp_bind', Std.Legacy.Range.forIn_eq_forIn_range']
  have hz : ([:n.toNatClampNeg] : Std.Legacy.Range).size = n.toNatClampNeg := by simp [Std.Legacy.Range.size]
  rw [hz]
  show wp (forIn (List.range' 0 n.toNatClampNeg 1) PUnit.unit _) _ E e d acts _
  refine wp_forIn_inv (fun rest s' => ∃ i, i ≤ n.toNatClampNeg ∧ rest = List.range' i (n.toNatClampNeg - i) ∧ s' = mm_f s cA cB n.toNatClampNeg k.toNatClampNeg i) _ _ ⟨0, Nat.zero_le _, rfl, rfl⟩ ?_ ?_
  · rintro x rest s' d' acts' Q' ⟨i, hi, hr, rfl⟩ next
    have hlt : i < n.toNatClampNeg := by
      rcases Nat.lt_or_ge i n.toNatClampNeg with h | h
      · exact h
      · rw [show n.toNatClampNeg - i = 0 by omega] at hr; simp at hr
    rw [show n.toNatClampNeg - i = (n.toNatClampNeg - (i + 1)) + 1 by omega, List.range'_succ] at hr
    obtain ⟨rfl, hr2⟩ := List.cons.inj hr
    obtain ⟨f1, f2, f3, f4⟩ := mm_f_is s cA cB n.toNatClampNeg k.toNatClampNeg x
    have hm : x * k.toNatClampNeg + k.toNatClampNeg ≤ n.toNatClampNeg * k.toNatClampNeg := by
      have := Nat.mul_le_mul_right k.toNatClampNeg (show x + 1 ≤ n.toNatClampNeg from hlt)
      rw [Nat.succ_mul] at this
      exact this
    have hlt0 : s.heap.size < (mm_f s cA cB n.toNatClampNeg k.toNatClampNeg x).heap.size := by rw [f1]; omega
    simp only [wp_bind']
    rw [Op.multianewarray.make]
    simp only [wp_bind', W.ite, hk, if_false, wp_pure', W.theClass, show (mm_f s cA cB n.toNatClampNeg k.toNatClampNeg x).vm.classes[cB]? = some kB by rw [f3]; exact hkB, hB, Option.some.injEq, exists_eq_left']
    refine mm_alloc (ty := .int) (by rw [f3]; exact hkB) hB l3 l4 rfl rfl (by rw [f1]; omega) (by rw [f4]; omega) ?_
    simp only [wp_bind', W.writeLoc, wp_pure']
    refine ⟨mm_o cA n.toNatClampNeg s.heap.size x, by rw [State.heap_pushCell_of_lt (h := hlt0)]; exact f2, by simp [mm_o, arrV], by simp [mm_o, arrV]; exact hlt, ?_, next _ _ _ ⟨x + 1, hlt, hr2, ?_⟩⟩
    · show State.fitsSlot _ cA .none x (.ref _) = true
      simp [State.fitsSlot, State.slotType?, f3, hkA, hA, fits]
    · rw [f1, mm_o_step]
      rfl
  · rintro s' d' acts' ⟨i, hi, hr, rfl⟩
    have e1 : i = n.toNatClampNeg := by
      rcases Nat.lt_or_ge i n.toNatClampNeg with h | h
      · rw [show n.toNatClampNeg - i = (n.toNatClampNeg - (i + 1)) + 1 by omega, List.range'_succ] at hr; cases hr
      · omega
    subst e1
    simp only [wp_pure']
    exact hP _ _
end Mm
section Mn
variable {p : Program} {l : Launch} {e : Env} {R : Room} {s : State} {m : MethodId} {args : Array Value} {below : List Frame} {meth : Method} {c : Code} {T : State} {locs : List Loc} {cells slots : Nat} {H : Heap} {Q : State → Prop}
theorem mm_stand (X : Stand p l e R s m args below meth c T locs cells slots) (cA cB : ClassId) (N M : Nat) : ∀ i, Stand p l e R s m args below meth c (mm_f T cA cB N M i) (locs ++ (List.range i).map fun j => ⟨T.heap.size, j⟩) (cells + 1 + i) (slots + N + i * M)
  | 0 => by
    have h := X.pushed (mm_o cA N T.heap.size 0)
    rw [show (mm_o cA N T.heap.size 0).slots.size = N by simp [mm_o, arrV]] at h
    simpa [mm_f] using h
  | i + 1 => by
    have Y := mm_stand X cA cB N M i
    obtain ⟨f1, f2, -, -⟩ := mm_f_is T cA cB N M i
    have hlt0 : T.heap.size < (mm_f T cA cB N M i).heap.size := by rw [f1]; omega
    have hcell : ((mm_f T cA cB N M i).pushCell (mm_r cB M)).heap[T.heap.size]? = some (mm_o cA N T.heap.size i) := by rw [State.heap_pushCell_of_lt (h := hlt0)]; exact f2
    have h := (Y.pushed (mm_r cB M)).stored hcell i (.ref (T.heap.size + 1 + i))
    rw [mm_o_step, show (mm_r cB M).slots.size = M by simp [mm_r, arrV]] at h
    have e2 : (locs ++ (List.range (i + 1)).map fun j => (⟨T.heap.size, j⟩ : Loc)) = (locs ++ (List.range i).map fun j => (⟨T.heap.size, j⟩ : Loc)) ++ [⟨T.heap.size, i⟩] := by simp [List.range_succ, List.append_assoc]
    rw [e2, show slots + N + (i + 1) * M = slots + N + i * M + M by rw [Nat.succ_mul]; omega]
    exact h
theorem mm_row {cc : ByteArray} (hexec : p.tables.exec = Jvm.exec) (hb : c.code = cc) {own : String} {index : Nat} (hown : s.vm.findClass own = some m.cls) (hlink : (Cond.classLink own index "[[I").before args s = true) (hover : mj_AOI s) (harr : (Cond.arrayClass .int).before args s = true) {n k : Int32} {N M : Nat} {pc : Nat} {ls : Array Slot} {rest : List Value}
    (hdg : decode cc pc = .ok (.multianewarray index 2, 4)) (hn : ¬ n < 0) (hk : ¬ k < 0) (hN : n.toNatClampNeg = N) (hM : k.toNatClampNeg = M) (hN1 : N ≤ 1000) (hM1 : M ≤ 1000) (hcells : cells + (1 + N) ≤ R.cells) (hslots : slots + (N + N * M) ≤ R.slots)
    (kk : ∀ (H1 : Heap) (cA cB : ClassId), s.vm.findClass "[[I" = some cA → s.vm.findClass "[I" = some cB → (∀ q, q < H.size → H1[q]? = H[q]?) → H1[H.size]? = some (mm_o cA N H.size N) → (∀ j, j < N → H1[H.size + 1 + j]? = some (mm_r cB M)) → H1.size = H.size + 1 + N →
      W p l e R s m args below meth c H1 locs (cells + 1 + N) (slots + N + N * M) Q (F0 m (pc + 4) ls (.ref H.size :: rest))) : W p l e R s m args below meth c H locs cells slots Q (F0 m pc ls (.int k :: .int n :: rest)) := by
  intro T hT X
  subst hT
  subst hb
  have hpl : e.platform.magicAccessors = ({} : Platform).magicAccessors := by rw [X.admits.platform]
  obtain ⟨cB, cA, kA, hcomp, -, hkA, hkindA, hnameA⟩ := arrayOverA_spec hover
  obtain ⟨cB', kB, ci, hcomp', hkB, hkindB⟩ := Cond.arrayClass_spec harr
  have eB : cB' = cB := Option.some.inj (hcomp'.symm.trans hcomp)
  subst eB
  obtain ⟨c0, hfc0, hcl⟩ := Cond.classLink_spec hown hlink e.platform hpl
  cases hnameA.symm.trans hfc0
  obtain ⟨hg₁, hwarm₁, hready₁⟩ := State.classEntry (e := e) X.warmed hcl
  generalize T.vm.noted m.cls index (.cls cA) = vm₁ at hg₁ hwarm₁ hready₁
  obtain ⟨kA₁, hkA₁, heA⟩ := hwarm₁.alike.2.2 _ _ hkA
  obtain ⟨kB₁, hkB₁, heB⟩ := hwarm₁.alike.2.2 _ _ hkB
  have X₁ := X.noted hwarm₁
  obtain ⟨hr1, hr2⟩ := X.roomAbove hcells hslots
  have XF := (mm_stand X₁ cA cB' N M N).dropFresh (fun x hx => by
    obtain ⟨j, -, rfl⟩ := List.mem_map.mp hx
    exact X.heapGrown)
  obtain ⟨f1, f2, -, -⟩ := mm_f_is (T.setVm vm₁) cA cB' N M N
  obtain ⟨t, a1, b1⟩ := kk (mm_f (T.setVm vm₁) cA cB' N M N).heap cA cB' hnameA hcomp (fun q hq => mm_f_old (T.setVm vm₁) cA cB' N M hq N) f2 (fun j hj => mm_f_row (T.setVm vm₁) cA cB' N M N j hj) f1 _ rfl XF
  refine ⟨t, ?_, b1⟩
  have l1 : ¬ N > e.platform.arrayLengthLimit := by rw [Launch.admits_arrayLengthLimit X.admits]; omega
  have l2 : ¬ N * 4 > e.platform.maxHeapBytes := by rw [Launch.admits_maxHeapBytes X.admits]; omega
  have l3 : ¬ M > e.platform.arrayLengthLimit := by rw [Launch.admits_arrayLengthLimit X.admits]; omega
  have l4 : ¬ M * 4 > e.platform.maxHeapBytes := by rw [Launch.admits_maxHeapBytes X.admits]; omega
  jvm_step X.here [hexec, hdg]
  simp only [Op.multianewarray.sem, wp_bind', W.resolveClassAt_links (State.method?_setTop (F0 m pc ls (.int k :: .int n :: rest)) X.here.top) hg₁]
  rw [W.popN, if_neg (by decide)]
  refine ⟨F0 m pc ls (.int k :: .int n :: rest), State.topJava?_setTop' (s := T.setVm vm₁) _ X.here.top, [.int n, .int k], rest, rfl, rfl, ?_⟩
  simp only [List.mapM_cons, List.mapM_nil, wp_bind', wp_pure']
  refine mm_make (kA := kA₁) (kB := kB₁) hkA₁ (by rw [heA]; exact hkindA) hkB₁ (by rw [heB]; exact hkindB) hn hk hN hM l1 l2 l3 l4 (by show T.heap.size + 1 + N ≤ _; omega) (by show T.slotsUsed + _ + _ ≤ _; omega) (fun d' acts' => ?_)
  have eS : ((T.setTop (F0 m pc ls (.int k :: .int n :: rest))).setVm vm₁).setTop (F0 m pc ls rest) = (T.setVm vm₁).setTop (F0 m pc ls rest) := by
    show ((T.setVm vm₁).setTop _).setTop _ = _
    rw [State.setTop_setTop]
  rw [eS, mm_f_top]
  simp only [wp_bind', W.mark, W.pushRef, State.topJava?_setTop' _ XF.here.top, Option.some.injEq, exists_eq_left', State.setTop_setTop, State.heap_setTop]
  intro acts
  simp [jvm, XF.here.top]
  exact a1
end Mn
