-- what would be, odds, means, events: the words, the model's calls
def qNO : Int64 := Int64.ofInt (-9223372036854775808)
def qMore (s : Nat → Int) (y : Int) : Int64 := if (0 ≤ y ∧ y < s 0) ∧ ¬ s (1 + y.toNat) = 20 then wTt (pU s (1 + y.toNat) (s (1 + y.toNat) + 1)) - wTt s else qNO
def sShk (s : Nat → Int) (b n : Int) : Nat → Int := pU s (6 + b.toNat) (max 0 (s (6 + b.toNat) + n))
def qShock (s : Nat → Int) (y b n : Int) : Int64 := if (0 ≤ y ∧ y < s 0) ∧ (0 ≤ b ∧ b < s 0) ∧ -9 ≤ n ∧ n ≤ 9 then (Int32.ofInt (wPr (sShk s b n) y.toNat - wPr s y.toNat)).toInt64 else qNO
def qFirst (s : Nat → Int) (c : Nat) : Int := if pFd (fun i => ¬ wPr s (s (c + 1 + 2 * i)).toNat = s (c + 2 + 2 * i)) (fun _ => inferInstance) (s c).toNat 0 < (s c).toNat then ((pFd (fun i => ¬ wPr s (s (c + 1 + 2 * i)).toNat = s (c + 2 + 2 * i)) (fun _ => inferInstance) (s c).toNat 0 : Nat) : Int) else -5
abbrev fOk (s : Nat → Int) (y i : Nat) : Prop := qFirst (pU s (6 + y) ((2 * i : Nat) : Int)) 46 = -5
def fN (s : Nat → Int) (y a n : Nat) : Int := pS (fun i => if fOk s y i then 1 else 0) a n
def fL (s : Nat → Int) (y a : Nat) : Int := if pFd (fun i => fOk s y i) (fun _ => inferInstance) (11 - a) a < 11 then ((2 * pFd (fun i => fOk s y i) (fun _ => inferInstance) (11 - a) a : Nat) : Int) else -5
def qFits (s : Nat → Int) (y what : Int) : Int := if (0 ≤ y ∧ y < s 0) ∧ 0 ≤ what ∧ what ≤ 1 then (if what = 0 then fN s y.toNat 0 11 else fL s y.toNat 0) else -1
def qPart (a b : Nat) (part : Int) : Int64 := Int64.ofInt (((if part = 0 then a / Nat.gcd a b else b / Nat.gcd a b) : Nat) : Int)
def odN (s : Nat → Int) (y n : Nat) : Int := pS (fun c => if s 43 < wPr (pU s (1 + y) (c : Int)) y then 1 else 0) 0 n
def qOdds (s : Nat → Int) (y part : Int) : Int64 := if (0 ≤ y ∧ y < s 0) ∧ 0 ≤ part ∧ part ≤ 1 then qPart (odN s y.toNat 10).toNat 10 part else qNO
def qMean (s : Nat → Int) (part : Int) : Int64 := if ¬ s 0 = 0 ∧ 0 ≤ part ∧ part ≤ 1 then qPart (pS (wPr s) 0 (s 0).toNat).toNat (s 0).toNat part else qNO
def evS (s : Nat → Int) (what n : Int) : Nat → Int := if what = 0 then pU s (1 + n.toNat) 0 else if what = 1 then pU s (6 + n.toNat) (min 40 (s (6 + n.toNat) + 5)) else if what = 2 then pU s 45 n else pU s 42 n
def evN (s : Nat → Int) : Nat → Nat → Int
  | 0 => s
  | i + 1 => evS (evN s i) (s (58 + 2 * i)) (s (59 + 2 * i))
def qAfter (s : Nat → Int) (what : Int) : Int64 := if 0 ≤ what ∧ what ≤ 2 then (if what = 0 then wTt (evN s (s 57).toNat) else if what = 1 then (Int32.ofInt (((wG (evN s (s 57).toNat)).1 : Nat) : Int)).toInt64 else (Int32.ofInt (wB (evN s (s 57).toNat)).2.2.1).toInt64) else qNO
theorem wPr_rg (s : Nat → Int) (y : Nat) : 0 ≤ wPr s y ∧ wPr s y ≤ 20 := by
  have h : (wG s).2.2.2 (gOf (wG s) y) ≤ 20 := gF_20 s (wB s).1 (s 0).toNat (gOf (wG s) y)
  unfold wPr
  omega
theorem qOf4 {s : Nat → Int} {y : Nat} (h : (y : Int) < s 0) : qOf s (y : Int) 4 = wPr s y := by
  unfold qOf
  rw [if_pos (by omega), if_neg (by omega), if_neg (by omega), if_neg (by omega), if_neg (by omega), if_pos rfl, Int.toNat_natCast]
theorem fA : ∀ y : Nat, y < 101 → ((if Int64.ofInt (y : Int) > Int64.ofInt 0 then (1 : Int) else if Int64.ofInt (y : Int) = Int64.ofInt 0 then 0 else -1) = 0 ↔ y = 0) := by decide +kernel
theorem fZ : ∀ y : Nat, y < 101 → (¬ y = 0 → ¬ Int64.ofInt (y : Int) = 0) := by decide +kernel
theorem fI : ∀ y : Nat, y < 101 → (Int32.ofInt (y : Int)).toInt64 = Int64.ofInt (y : Int) := by decide +kernel
theorem fB : ∀ x : Nat, x < 101 → ∀ y : Nat, y < 101 → (¬ y = 0 → Int64.ofInt (x : Int) - Int64.ofInt (x : Int) / Int64.ofInt (y : Int) * Int64.ofInt (y : Int) = Int64.ofInt ((x % y : Nat) : Int)) := by decide +kernel
theorem fC : ∀ x : Nat, x < 101 → ∀ y : Nat, y < 101 → (¬ y = 0 → Int64.ofInt (x : Int) / Int64.ofInt (y : Int) = Int64.ofInt ((x / y : Nat) : Int)) := by decide +kernel
theorem evS_rg {s : Nat → Int} (hs : pRg s) {what n : Int} (h1 : what < 2 → 0 ≤ n ∧ n < s 0) (h2 : ¬ what < 2 → 0 ≤ n ∧ n ≤ 20) : pRg (evS s what n) := by
  have h5 := hs.2.1
  unfold evS
  (repeat' split)
  · exact pRg_put hs (by have := h1 (by omega); omega) (by omega)
  · have := hs.1 (6 + n.toNat) (by have := h1 (by omega); omega)
    exact pRg_put hs (by have := h1 (by omega); omega) (by omega)
  · exact pRg_put hs (by omega) (by omega)
  · by_cases e : what < 2
    · have := h1 e
      exact pRg_put hs (by omega) (by omega)
    · have := h2 e
      exact pRg_put hs (by omega) (by omega)
theorem evS_ne {s : Nat → Int} {what n : Int} {i : Nat} (hi : 46 ≤ i ∨ i = 0 ∨ i = 11) (h1 : what < 2 → 0 ≤ n ∧ n < 5) : evS s what n i = s i := by
  unfold evS
  (repeat' split)
  · rw [pU_ne (by have := h1 (by omega); omega)]
  · rw [pU_ne (by have := h1 (by omega); omega)]
  · rw [pU_ne (by omega)]
  · rw [pU_ne (by omega)]
theorem evN_sp {s : Nat → Int} (hs : pVI s) : ∀ i : Nat, (i : Int) ≤ s 57 → pRg (evN s i) ∧ ∀ j, 46 ≤ j ∨ j = 0 ∨ j = 11 → evN s i j = s j
  | 0, _ => ⟨hs.1, fun _ _ => rfl⟩
  | i + 1, hi => by
    have h5 := hs.1.2.1
    have ⟨h1, h2⟩ := evN_sp hs i (by omega)
    have h3 := hs.2.2.2.2.2.2 i (by omega)
    refine ⟨?_, fun j hj => ?_⟩
    · rw [evN]
      refine evS_rg h1 (fun q => ?_) (fun q => ?_)
      · rw [h2 0 (by omega)]; exact h3.2.1 q
      · by_cases e : s (58 + 2 * i) = 2
        · have := h3.2.2.1 e; omega
        · have := h3.2.2.2 (by omega); omega
    · rw [evN, evS_ne hj (fun q => by have := h3.2.1 q; omega)]; exact h2 j hj
theorem pC_back {s m s' : Nat → Int} (h : ∀ i, 91 ≤ i → s' i = s i) : pC (pC s m) s' = s := by
  funext i
  unfold pC
  by_cases e : i < 91
  · rw [if_pos e, if_pos e]
  · rw [if_neg e]; exact h i (by omega)
theorem pS_cons {f : Nat → Int} {a : Nat} : ∀ n, pS f a (n + 1) = f a + pS f (a + 1) n
  | 0 => by rw [pS, pS, pS, Nat.add_zero]; omega
  | n + 1 => by rw [pS, pS_cons n, pS, show a + 1 + n = a + (n + 1) by omega]; omega
theorem mKq_m {M M1 : Nat → Nat → Int} {f : Nat → Int} (h : mKp (st M [(129, f)]) M1) : mKq M M1 := ⟨fun c hc => (h.1 c (by omega)).trans (by rw [st_c, if_neg (by omega), st_nil]), fun j hj => h.2 j hj⟩
theorem mW_129 {M : Nat → Nat → Int} {f : Nat → Int} (h : mW M) : mW (st M [(129, f)]) := h
theorem x_115_127_129 {K : mj_C} {d : Nat} {M : Nat → Nat → Int} {N : Nat → Nat → Int64}  : mj_X K d 115 [.inr (.inr (.inl 127)), .inr (.inr (.inl 129))] (mj_Sh, M, N) (fun r Z => r = none ∧ Z = (mj_Sh, st M [(129, pC (M 127) (M 129))], N)) := by
  show mj_T K d 115 0 [some (.inr (.inr (.inl 127))), some (.inr (.inr (.inl 129))), none] [] (mj_Sh, M, N) _
  have key : ∀ i : Nat, i ≤ 91 → ∀ f : Nat → Int, (∀ j, f j = if j < i then M 127 j else M 129 j) → mj_T K d 115 2 [some (.inr (.inr (.inl 127))), some (.inr (.inr (.inl 129))), some (.inl ((i : Nat) : Int))] [] (mj_Sh, (st M [(129, f)]), N) (fun r Z => r = none ∧ Z = (mj_Sh, st M [(129, pC (M 127) (M 129))], N)) := by
    refine up_to 91 ?_ ?_
    · show ∀ f : Nat → Int, (∀ j, f j = if j < 91 then M 127 j else M 129 j) → mj_T K d 115 2 [some (.inr (.inr (.inl 127))), some (.inr (.inr (.inl 129))), some (.inl ((91 : Nat) : Int))] [] (mj_Sh, (st M [(129, f)]), N) (fun r Z => r = none ∧ Z = (mj_Sh, st M [(129, pC (M 127) (M 129))], N))
      intro f hf
      refine tw_iload k115_2 rfl ?_
      refine tw_const k115_3 ?_
      refine tw_cgeT k115_5 (by omega) ?_
      exact tw_rv k115_20 (⟨rfl, by rw [show f = pC (M 127) (M 129) from funext hf]⟩)
    · intro i hmi ih
      have ih : ∀ f : Nat → Int, (∀ j, f j = if j < (i + 1) then M 127 j else M 129 j) → mj_T K d 115 2 [some (.inr (.inr (.inl 127))), some (.inr (.inr (.inl 129))), some (.inl (((i + 1) : Nat) : Int))] [] (mj_Sh, (st M [(129, f)]), N) (fun r Z => r = none ∧ Z = (mj_Sh, st M [(129, pC (M 127) (M 129))], N)) := ih
      show ∀ f : Nat → Int, (∀ j, f j = if j < i then M 127 j else M 129 j) → mj_T K d 115 2 [some (.inr (.inr (.inl 127))), some (.inr (.inr (.inl 129))), some (.inl ((i : Nat) : Int))] [] (mj_Sh, (st M [(129, f)]), N) (fun r Z => r = none ∧ Z = (mj_Sh, st M [(129, pC (M 127) (M 129))], N))
      intro f hf
      refine tw_iload k115_2 rfl ?_
      refine tw_const k115_3 ?_
      refine tw_cgeF k115_5 (by omega) ?_
      refine tw_aload k115_8 rfl ?_
      refine tw_iload k115_9 rfl ?_
      refine tw_aload k115_10 rfl ?_
      refine tw_iload k115_11 rfl ?_
      refine tw_iald (j := i) (v := (M 127 i)) k115_12 al127 rfl (by omega) rfl ?_
      refine tw_iast (M := M) (N := N) (l := [(129, f)]) (l' := [(129, (pU f i (M 127 i)))]) (j := i) k115_13 al129 rfl (by omega) rfl ?_
      refine tw_iinc k115_14 rfl (v := ((i + 1 : Nat) : Int)) rfl (by omega) rfl (L' := [some (.inr (.inr (.inl 127))), some (.inr (.inr (.inl 129))), some (.inl ((i + 1 : Nat) : Int))]) rfl ?_
      refine tw_goto k115_17 ?_
      refine ih _ (fun j => ?_)
      by_cases e : j = i
      · subst e; rw [pU_eq, if_pos (by omega)]
      · rw [pU_ne e, hf j]
        by_cases e2 : j < i
        · rw [if_pos e2, if_pos (by omega)]
        · rw [if_neg e2, if_neg (by omega)]
  refine tw_const k115_0 ?_
  refine tw_istore k115_1 rfl (L' := [some (.inr (.inr (.inl 127))), some (.inr (.inr (.inl 129))), some (.inl (0 : Int))]) rfl ?_
  refine tw_pad (M := M) (N := N) (l := []) (l' := [(129, M 129)]) [129] rfl ?_
  exact key 0 (by omega) _ (fun j => by rw [if_neg (by omega)])
theorem x_115_129_127 {K : mj_C} {d : Nat} {M : Nat → Nat → Int} {N : Nat → Nat → Int64}  : mj_X K d 115 [.inr (.inr (.inl 129)), .inr (.inr (.inl 127))] (mj_Sh, M, N) (fun r Z => r = none ∧ Z = (mj_Sh, st M [(127, pC (M 129) (M 127))], N)) := by
  show mj_T K d 115 0 [some (.inr (.inr (.inl 129))), some (.inr (.inr (.inl 127))), none] [] (mj_Sh, M, N) _
  have key : ∀ i : Nat, i ≤ 91 → ∀ f : Nat → Int, (∀ j, f j = if j < i then M 129 j else M 127 j) → mj_T K d 115 2 [some (.inr (.inr (.inl 129))), some (.inr (.inr (.inl 127))), some (.inl ((i : Nat) : Int))] [] (mj_Sh, (st M [(127, f)]), N) (fun r Z => r = none ∧ Z = (mj_Sh, st M [(127, pC (M 129) (M 127))], N)) := by
    refine up_to 91 ?_ ?_
    · show ∀ f : Nat → Int, (∀ j, f j = if j < 91 then M 129 j else M 127 j) → mj_T K d 115 2 [some (.inr (.inr (.inl 129))), some (.inr (.inr (.inl 127))), some (.inl ((91 : Nat) : Int))] [] (mj_Sh, (st M [(127, f)]), N) (fun r Z => r = none ∧ Z = (mj_Sh, st M [(127, pC (M 129) (M 127))], N))
      intro f hf
      refine tw_iload k115_2 rfl ?_
      refine tw_const k115_3 ?_
      refine tw_cgeT k115_5 (by omega) ?_
      exact tw_rv k115_20 (⟨rfl, by rw [show f = pC (M 129) (M 127) from funext hf]⟩)
    · intro i hmi ih
      have ih : ∀ f : Nat → Int, (∀ j, f j = if j < (i + 1) then M 129 j else M 127 j) → mj_T K d 115 2 [some (.inr (.inr (.inl 129))), some (.inr (.inr (.inl 127))), some (.inl (((i + 1) : Nat) : Int))] [] (mj_Sh, (st M [(127, f)]), N) (fun r Z => r = none ∧ Z = (mj_Sh, st M [(127, pC (M 129) (M 127))], N)) := ih
      show ∀ f : Nat → Int, (∀ j, f j = if j < i then M 129 j else M 127 j) → mj_T K d 115 2 [some (.inr (.inr (.inl 129))), some (.inr (.inr (.inl 127))), some (.inl ((i : Nat) : Int))] [] (mj_Sh, (st M [(127, f)]), N) (fun r Z => r = none ∧ Z = (mj_Sh, st M [(127, pC (M 129) (M 127))], N))
      intro f hf
      refine tw_iload k115_2 rfl ?_
      refine tw_const k115_3 ?_
      refine tw_cgeF k115_5 (by omega) ?_
      refine tw_aload k115_8 rfl ?_
      refine tw_iload k115_9 rfl ?_
      refine tw_aload k115_10 rfl ?_
      refine tw_iload k115_11 rfl ?_
      refine tw_iald (j := i) (v := (M 129 i)) k115_12 al129 rfl (by omega) rfl ?_
      refine tw_iast (M := M) (N := N) (l := [(127, f)]) (l' := [(127, (pU f i (M 129 i)))]) (j := i) k115_13 al127 rfl (by omega) rfl ?_
      refine tw_iinc k115_14 rfl (v := ((i + 1 : Nat) : Int)) rfl (by omega) rfl (L' := [some (.inr (.inr (.inl 129))), some (.inr (.inr (.inl 127))), some (.inl ((i + 1 : Nat) : Int))]) rfl ?_
      refine tw_goto k115_17 ?_
      refine ih _ (fun j => ?_)
      by_cases e : j = i
      · subst e; rw [pU_eq, if_pos (by omega)]
      · rw [pU_ne e, hf j]
        by_cases e2 : j < i
        · rw [if_pos e2, if_pos (by omega)]
        · rw [if_neg e2, if_neg (by omega)]
  refine tw_const k115_0 ?_
  refine tw_istore k115_1 rfl (L' := [some (.inr (.inr (.inl 129))), some (.inr (.inr (.inl 127))), some (.inl (0 : Int))]) rfl ?_
  refine tw_pad (M := M) (N := N) (l := []) (l' := [(127, M 127)]) [127] rfl ?_
  exact key 0 (by omega) _ (fun j => by rw [if_neg (by omega)])
theorem x_115_127_128 {K : mj_C} {d : Nat} {M : Nat → Nat → Int} {N : Nat → Nat → Int64}  : mj_X K d 115 [.inr (.inr (.inl 127)), .inr (.inr (.inl 128))] (mj_Sh, M, N) (fun r Z => r = none ∧ Z = (mj_Sh, st M [(128, pC (M 127) (M 128))], N)) := by
  show mj_T K d 115 0 [some (.inr (.inr (.inl 127))), some (.inr (.inr (.inl 128))), none] [] (mj_Sh, M, N) _
  have key : ∀ i : Nat, i ≤ 91 → ∀ f : Nat → Int, (∀ j, f j = if j < i then M 127 j else M 128 j) → mj_T K d 115 2 [some (.inr (.inr (.inl 127))), some (.inr (.inr (.inl 128))), some (.inl ((i : Nat) : Int))] [] (mj_Sh, (st M [(128, f)]), N) (fun r Z => r = none ∧ Z = (mj_Sh, st M [(128, pC (M 127) (M 128))], N)) := by
    refine up_to 91 ?_ ?_
    · show ∀ f : Nat → Int, (∀ j, f j = if j < 91 then M 127 j else M 128 j) → mj_T K d 115 2 [some (.inr (.inr (.inl 127))), some (.inr (.inr (.inl 128))), some (.inl ((91 : Nat) : Int))] [] (mj_Sh, (st M [(128, f)]), N) (fun r Z => r = none ∧ Z = (mj_Sh, st M [(128, pC (M 127) (M 128))], N))
      intro f hf
      refine tw_iload k115_2 rfl ?_
      refine tw_const k115_3 ?_
      refine tw_cgeT k115_5 (by omega) ?_
      exact tw_rv k115_20 (⟨rfl, by rw [show f = pC (M 127) (M 128) from funext hf]⟩)
    · intro i hmi ih
      have ih : ∀ f : Nat → Int, (∀ j, f j = if j < (i + 1) then M 127 j else M 128 j) → mj_T K d 115 2 [some (.inr (.inr (.inl 127))), some (.inr (.inr (.inl 128))), some (.inl (((i + 1) : Nat) : Int))] [] (mj_Sh, (st M [(128, f)]), N) (fun r Z => r = none ∧ Z = (mj_Sh, st M [(128, pC (M 127) (M 128))], N)) := ih
      show ∀ f : Nat → Int, (∀ j, f j = if j < i then M 127 j else M 128 j) → mj_T K d 115 2 [some (.inr (.inr (.inl 127))), some (.inr (.inr (.inl 128))), some (.inl ((i : Nat) : Int))] [] (mj_Sh, (st M [(128, f)]), N) (fun r Z => r = none ∧ Z = (mj_Sh, st M [(128, pC (M 127) (M 128))], N))
      intro f hf
      refine tw_iload k115_2 rfl ?_
      refine tw_const k115_3 ?_
      refine tw_cgeF k115_5 (by omega) ?_
      refine tw_aload k115_8 rfl ?_
      refine tw_iload k115_9 rfl ?_
      refine tw_aload k115_10 rfl ?_
      refine tw_iload k115_11 rfl ?_
      refine tw_iald (j := i) (v := (M 127 i)) k115_12 al127 rfl (by omega) rfl ?_
      refine tw_iast (M := M) (N := N) (l := [(128, f)]) (l' := [(128, (pU f i (M 127 i)))]) (j := i) k115_13 al128 rfl (by omega) rfl ?_
      refine tw_iinc k115_14 rfl (v := ((i + 1 : Nat) : Int)) rfl (by omega) rfl (L' := [some (.inr (.inr (.inl 127))), some (.inr (.inr (.inl 128))), some (.inl ((i + 1 : Nat) : Int))]) rfl ?_
      refine tw_goto k115_17 ?_
      refine ih _ (fun j => ?_)
      by_cases e : j = i
      · subst e; rw [pU_eq, if_pos (by omega)]
      · rw [pU_ne e, hf j]
        by_cases e2 : j < i
        · rw [if_pos e2, if_pos (by omega)]
        · rw [if_neg e2, if_neg (by omega)]
  refine tw_const k115_0 ?_
  refine tw_istore k115_1 rfl (L' := [some (.inr (.inr (.inl 127))), some (.inr (.inr (.inl 128))), some (.inl (0 : Int))]) rfl ?_
  refine tw_pad (M := M) (N := N) (l := []) (l' := [(128, M 128)]) [128] rfl ?_
  exact key 0 (by omega) _ (fun j => by rw [if_neg (by omega)])
theorem x_115_128_127 {K : mj_C} {d : Nat} {M : Nat → Nat → Int} {N : Nat → Nat → Int64}  : mj_X K d 115 [.inr (.inr (.inl 128)), .inr (.inr (.inl 127))] (mj_Sh, M, N) (fun r Z => r = none ∧ Z = (mj_Sh, st M [(127, pC (M 128) (M 127))], N)) := by
  show mj_T K d 115 0 [some (.inr (.inr (.inl 128))), some (.inr (.inr (.inl 127))), none] [] (mj_Sh, M, N) _
  have key : ∀ i : Nat, i ≤ 91 → ∀ f : Nat → Int, (∀ j, f j = if j < i then M 128 j else M 127 j) → mj_T K d 115 2 [some (.inr (.inr (.inl 128))), some (.inr (.inr (.inl 127))), some (.inl ((i : Nat) : Int))] [] (mj_Sh, (st M [(127, f)]), N) (fun r Z => r = none ∧ Z = (mj_Sh, st M [(127, pC (M 128) (M 127))], N)) := by
    refine up_to 91 ?_ ?_
    · show ∀ f : Nat → Int, (∀ j, f j = if j < 91 then M 128 j else M 127 j) → mj_T K d 115 2 [some (.inr (.inr (.inl 128))), some (.inr (.inr (.inl 127))), some (.inl ((91 : Nat) : Int))] [] (mj_Sh, (st M [(127, f)]), N) (fun r Z => r = none ∧ Z = (mj_Sh, st M [(127, pC (M 128) (M 127))], N))
      intro f hf
      refine tw_iload k115_2 rfl ?_
      refine tw_const k115_3 ?_
      refine tw_cgeT k115_5 (by omega) ?_
      exact tw_rv k115_20 (⟨rfl, by rw [show f = pC (M 128) (M 127) from funext hf]⟩)
    · intro i hmi ih
      have ih : ∀ f : Nat → Int, (∀ j, f j = if j < (i + 1) then M 128 j else M 127 j) → mj_T K d 115 2 [some (.inr (.inr (.inl 128))), some (.inr (.inr (.inl 127))), some (.inl (((i + 1) : Nat) : Int))] [] (mj_Sh, (st M [(127, f)]), N) (fun r Z => r = none ∧ Z = (mj_Sh, st M [(127, pC (M 128) (M 127))], N)) := ih
      show ∀ f : Nat → Int, (∀ j, f j = if j < i then M 128 j else M 127 j) → mj_T K d 115 2 [some (.inr (.inr (.inl 128))), some (.inr (.inr (.inl 127))), some (.inl ((i : Nat) : Int))] [] (mj_Sh, (st M [(127, f)]), N) (fun r Z => r = none ∧ Z = (mj_Sh, st M [(127, pC (M 128) (M 127))], N))
      intro f hf
      refine tw_iload k115_2 rfl ?_
      refine tw_const k115_3 ?_
      refine tw_cgeF k115_5 (by omega) ?_
      refine tw_aload k115_8 rfl ?_
      refine tw_iload k115_9 rfl ?_
      refine tw_aload k115_10 rfl ?_
      refine tw_iload k115_11 rfl ?_
      refine tw_iald (j := i) (v := (M 128 i)) k115_12 al128 rfl (by omega) rfl ?_
      refine tw_iast (M := M) (N := N) (l := [(127, f)]) (l' := [(127, (pU f i (M 128 i)))]) (j := i) k115_13 al127 rfl (by omega) rfl ?_
      refine tw_iinc k115_14 rfl (v := ((i + 1 : Nat) : Int)) rfl (by omega) rfl (L' := [some (.inr (.inr (.inl 128))), some (.inr (.inr (.inl 127))), some (.inl ((i + 1 : Nat) : Int))]) rfl ?_
      refine tw_goto k115_17 ?_
      refine ih _ (fun j => ?_)
      by_cases e : j = i
      · subst e; rw [pU_eq, if_pos (by omega)]
      · rw [pU_ne e, hf j]
        by_cases e2 : j < i
        · rw [if_pos e2, if_pos (by omega)]
        · rw [if_neg e2, if_neg (by omega)]
  refine tw_const k115_0 ?_
  refine tw_istore k115_1 rfl (L' := [some (.inr (.inr (.inl 128))), some (.inr (.inr (.inl 127))), some (.inl (0 : Int))]) rfl ?_
  refine tw_pad (M := M) (N := N) (l := []) (l' := [(127, M 127)]) [127] rfl ?_
  exact key 0 (by omega) _ (fun j => by rw [if_neg (by omega)])
theorem x_162 {K : mj_C} {d : Nat} {M : Nat → Nat → Int} {N : Nat → Nat → Int64} (hD : 1 ≤ d)  : mj_X K d 162 [.inr (.inr (.inl 126))] (mj_Sh, M, N) (fun r Z => r = none ∧ Z = (mj_Sh, st M [(129, pC (M 127) (M 129))], N)) := by
  show mj_T K d 162 0 [some (.inr (.inr (.inl 126)))] [] (mj_Sh, M, N) _
  refine tw_aload k162_0 rfl ?_
  refine tw_getr k162_1 f126_0 ?_
  refine tw_aload k162_4 rfl ?_
  refine tw_getr k162_5 f126_2 ?_
  refine tw_call (by omega) (S' := []) (as := [.inr (.inr (.inl 127)), .inr (.inr (.inl 129))]) k162_8 (x_115_127_129 (M := M) (N := N)) rfl rfl rfl rfl rfl (fun r8 Z8 hq8 => ?_)
  obtain ⟨rfl, rfl⟩ := hq8
  refine tw_as (S := []) (M := (st M [(129, (pC (M 127) (M 129)))])) (N := N) rfl rfl ?_
  exact tw_rv k162_11 (⟨rfl, rfl⟩)
theorem x_163 {K : mj_C} {d : Nat} {M : Nat → Nat → Int} {N : Nat → Nat → Int64} (hD : 7 ≤ d) (hp : pRg (pC (M 129) (M 127))) : mj_X K d 163 [.inr (.inr (.inl 126))] (mj_Sh, M, N) (fun r Z => r = none ∧ ∃ M1, Z = (mj_Sh, M1, N) ∧ M1 127 = pC (M 129) (M 127) ∧ mW M1 ∧ mKp M M1) := by
  show mj_T K d 163 0 [some (.inr (.inr (.inl 126)))] [] (mj_Sh, M, N) _
  refine tw_aload k163_0 rfl ?_
  refine tw_getr k163_1 f126_2 ?_
  refine tw_aload k163_4 rfl ?_
  refine tw_getr k163_5 f126_0 ?_
  refine tw_call (by omega) (S' := []) (as := [.inr (.inr (.inl 129)), .inr (.inr (.inl 127))]) k163_8 (x_115_129_127 (M := M) (N := N)) rfl rfl rfl rfl rfl (fun r8 Z8 hq8 => ?_)
  obtain ⟨rfl, rfl⟩ := hq8
  refine tw_as (S := []) (M := (st M [(127, (pC (M 129) (M 127)))])) (N := N) rfl rfl ?_
  refine tw_aload k163_11 rfl ?_
  refine tw_call (by omega) (S' := []) (as := [.inr (.inr (.inl 126))]) k163_12 (x_133 (M := (st M [(127, (pC (M 129) (M 127)))])) (N := N) (by omega) hp) rfl rfl rfl rfl rfl (fun r12 Z12 hq12 => ?_)
  obtain ⟨rfl, M1, rfl, hw, hf⟩ := hq12
  have hk := wk1 (M := (st M [(127, (pC (M 129) (M 127)))])) hp hw hf
  refine tw_as (S := []) (M := M1) (N := N) rfl rfl ?_
  exact tw_rv k163_15 (⟨rfl, M1, rfl, hk.2, hk.1, mKp_s (mFr_p hf)⟩)
theorem x_164 {K : mj_C} {d : Nat} {M : Nat → Nat → Int} {N : Nat → Nat → Int64} (hD : 8 ≤ d) (hV : pVI (M 127)) (hM : mW M) (y : Int) : mj_X K d 164 [.inr (.inr (.inl 126)), .inl y] (mj_Sh, M, N) (fun r Z => r = some (.inr (.inl (qMore (M 127) y))) ∧ ∃ M1, Z = (mj_Sh, M1, N) ∧ M1 127 = M 127 ∧ mW M1 ∧ mKq M M1) := by
  show mj_T K d 164 0 [some (.inr (.inr (.inl 126))), some (.inl y), none, none, none, none] [] (mj_Sh, M, N) _
  have hs := hV.1
  have h0 := hs.1 0 (by omega)
  have h5 := hs.2.1
  have h11 := hs.1 11 (by omega)
  have hc11 := hs.2.2.1
  by_cases hyy : 0 ≤ y ∧ y < M 127 0
  · obtain ⟨k, rfl⟩ : ∃ k : Nat, y = (k : Int) := ⟨y.toNat, by omega⟩
    have hcap := hs.1 (1 + k) (by omega)
    have hc20 := hV.2.1 k (by omega)
    refine tw_aload k164_0 rfl ?_
    refine tw_iload k164_1 rfl ?_
    refine tw_callbT (by omega) (S' := []) (as := [.inr (.inr (.inl 126)), .inl ((k : Nat) : Int)]) k164_2 (x_113 (M := M) (N := N) (by omega) hs ((k : Nat) : Int)) rfl rfl rfl rfl rfl hyy ?_
    refine tw_zeqF k164_5 (by decide) ?_
    refine tw_aload k164_8 rfl ?_
    refine tw_getr k164_9 f126_0 ?_
    refine tw_const k164_12 ?_
    refine tw_iload k164_13 rfl ?_
    refine tw_iadd k164_14 (v := ((1 + k : Nat) : Int)) rfl (by omega) ?_
    refine tw_iald (j := 1 + k) (v := (M 127 (1 + k))) k164_15 al127 rfl (by omega) rfl ?_
    refine tw_const k164_16 ?_
    refine tw_cne k164_18 (fun h18 => ?_) (fun h18 => ?_)
    · refine tw_aload k164_25 rfl ?_
      refine tw_callp (v := .inr (.inl (wTt (M 127)))) (by omega) (S' := []) (as := [.inr (.inr (.inl 126))]) k164_26 (x_155 (M := M) (N := N) (by omega) hM) rfl rfl rfl rfl rfl ?_
      refine tw_lstore k164_29 rfl (L' := [some (.inr (.inr (.inl 126))), some (.inl ((k : Nat) : Int)), some (.inr (.inl (wTt (M 127)))), none, none, none]) rfl ?_
      refine tw_aload k164_30 rfl ?_
      refine tw_call (by omega) (S' := []) (as := [.inr (.inr (.inl 126))]) k164_31 (x_162 (M := M) (N := N) (by omega)) rfl rfl rfl rfl rfl (fun r31 Z31 hq31 => ?_)
      obtain ⟨rfl, rfl⟩ := hq31
      refine tw_as (S := []) (M := (st M [(129, (pC (M 127) (M 129)))])) (N := N) rfl rfl ?_
      refine tw_aload k164_34 rfl ?_
      refine tw_const k164_35 ?_
      refine tw_iload k164_36 rfl ?_
      refine tw_iadd k164_37 (v := ((1 + k : Nat) : Int)) rfl (by omega) ?_
      refine tw_aload k164_38 rfl ?_
      refine tw_getr k164_39 f126_0 ?_
      refine tw_const k164_42 ?_
      refine tw_iload k164_43 rfl ?_
      refine tw_iadd k164_44 (v := ((1 + k : Nat) : Int)) rfl (by omega) ?_
      refine tw_iald (j := 1 + k) (v := (M 127 (1 + k))) k164_45 al127 rfl (by omega) rfl ?_
      refine tw_const k164_46 ?_
      refine tw_iadd k164_47 (v := ((M 127 (1 + k)) + (1 : Int))) rfl (by omega) ?_
      refine tw_call (by omega) (S' := []) (as := [.inr (.inr (.inl 126)), .inl ((1 + k : Nat) : Int), .inl ((M 127 (1 + k)) + (1 : Int))]) k164_48 (x_136 (M := (st M [(129, (pC (M 127) (M 129)))])) (N := N) (by omega) (1 + k) (by omega) (M 127 (1 + k) + 1) (pRg_put hs (by omega) (by omega))) rfl rfl rfl rfl rfl (fun r48 Z48 hq48 => ?_)
      obtain ⟨rfl, M2, rfl, hb1, hb2, hb3⟩ := hq48
      have hb1 : M2 127 = pU (M 127) (1 + k) (M 127 (1 + k) + 1) := hb1
      have hb5 : M2 129 = pC (M 127) (M 129) := (hb3.1 129 (by omega)).trans rfl
      have hb4 : pC (M2 129) (M2 127) = M 127 := by rw [hb5, hb1]; exact pC_back (fun i hi => pU_ne (by omega))
      refine tw_as (S := [.inl (M 127 (1 + k))]) (M := M2) (N := N) rfl rfl ?_
      refine tw_popi k164_51 ?_
      refine tw_aload k164_52 rfl ?_
      refine tw_callp (v := .inr (.inl (wTt (M2 127)))) (by omega) (S' := []) (as := [.inr (.inr (.inl 126))]) k164_53 (x_155 (M := M2) (N := N) (by omega) hb2) rfl rfl rfl rfl rfl ?_
      refine tw_lload k164_56 rfl ?_
      refine tw_lsub k164_57 ?_
      refine tw_lstore k164_58 rfl (L' := [some (.inr (.inr (.inl 126))), some (.inl ((k : Nat) : Int)), some (.inr (.inl (wTt (M 127)))), none, some (.inr (.inl ((wTt (M2 127)) - (wTt (M 127))))), none]) rfl ?_
      refine tw_aload k164_60 rfl ?_
      refine tw_call (by omega) (S' := []) (as := [.inr (.inr (.inl 126))]) k164_61 (x_163 (M := M2) (N := N) (by omega) (by rw [hb4]; exact hs)) rfl rfl rfl rfl rfl (fun r61 Z61 hq61 => ?_)
      obtain ⟨rfl, M3, rfl, hc1, hc2, hc3⟩ := hq61
      refine tw_as (S := []) (M := M3) (N := N) rfl rfl ?_
      refine tw_lload k164_64 rfl ?_
      exact tw_rl k164_66 (⟨by unfold qMore; simp only [Int.toNat_natCast]; rw [if_pos ⟨hyy, h18⟩, hb1], M3, rfl, by rw [hc1, hb4], hc2, mKq_tr (mKq_m hb3) (mKp_q hc3)⟩)
    · refine tw_lconst k164_21 ?_
      exact tw_rl k164_24 (⟨by unfold qMore; simp only [Int.toNat_natCast]; rw [if_neg (by omega)]; rfl, M, rfl, rfl, hM, mKq_refl M⟩)
  · refine tw_aload k164_0 rfl ?_
    refine tw_iload k164_1 rfl ?_
    refine tw_callbF (by omega) (S' := []) (as := [.inr (.inr (.inl 126)), .inl y]) k164_2 (x_113 (M := M) (N := N) (by omega) hs y) rfl rfl rfl rfl rfl hyy ?_
    refine tw_zeqT k164_5 (by decide) ?_
    refine tw_lconst k164_21 ?_
    exact tw_rl k164_24 (⟨by unfold qMore; rw [if_neg (fun q => hyy q.1)]; rfl, M, rfl, rfl, hM, mKq_refl M⟩)
theorem x_165 {K : mj_C} {d : Nat} {M : Nat → Nat → Int} {N : Nat → Nat → Int64} (hD : 8 ≤ d) (hV : pVI (M 127)) (hM : mW M) (y b n : Int) : mj_X K d 165 [.inr (.inr (.inl 126)), .inl y, .inl b, .inl n] (mj_Sh, M, N) (fun r Z => r = some (.inr (.inl (qShock (M 127) y b n))) ∧ ∃ M1, Z = (mj_Sh, M1, N) ∧ M1 127 = M 127 ∧ mW M1 ∧ mKq M M1) := by
  show mj_T K d 165 0 [some (.inr (.inr (.inl 126))), some (.inl y), some (.inl b), some (.inl n), none, none] [] (mj_Sh, M, N) _
  have hs := hV.1
  have h0 := hs.1 0 (by omega)
  have h5 := hs.2.1
  have h11 := hs.1 11 (by omega)
  have hc11 := hs.2.2.1
  by_cases hyy : (0 ≤ y ∧ y < M 127 0) ∧ (0 ≤ b ∧ b < M 127 0) ∧ -9 ≤ n ∧ n ≤ 9
  · obtain ⟨hy1, hy2, hy3⟩ := hyy
    obtain ⟨k, rfl⟩ : ∃ k : Nat, y = (k : Int) := ⟨y.toNat, by omega⟩
    obtain ⟨b, rfl⟩ : ∃ q : Nat, b = (q : Int) := ⟨b.toNat, by omega⟩
    have hem := hs.1 (6 + b) (by omega)
    have hem40 := hV.2.1 b (by omega)
    have hw1 := wPr_rg (M 127) k
    have hw2 := wPr_rg (pU (M 127) (6 + b) (max 0 (M 127 (6 + b) + n))) k
    refine tw_aload k165_0 rfl ?_
    refine tw_iload k165_1 rfl ?_
    refine tw_callbT (by omega) (S' := []) (as := [.inr (.inr (.inl 126)), .inl ((k : Nat) : Int)]) k165_2 (x_113 (M := M) (N := N) (by omega) hs ((k : Nat) : Int)) rfl rfl rfl rfl rfl hy1 ?_
    refine tw_zeqF k165_5 (by decide) ?_
    refine tw_aload k165_8 rfl ?_
    refine tw_iload k165_9 rfl ?_
    refine tw_callbT (by omega) (S' := []) (as := [.inr (.inr (.inl 126)), .inl ((b : Nat) : Int)]) k165_10 (x_113 (M := M) (N := N) (by omega) hs ((b : Nat) : Int)) rfl rfl rfl rfl rfl hy2 ?_
    refine tw_zeqF k165_13 (by decide) ?_
    refine tw_iload k165_16 rfl ?_
    refine tw_const k165_17 ?_
    refine tw_const k165_19 ?_
    refine tw_callbT (by omega) (S' := []) (as := [.inl n, .inl (-9 : Int), .inl (9 : Int)]) k165_21 (x_112 n (-9 : Int) (9 : Int)) rfl rfl rfl rfl rfl hy3 ?_
    refine tw_zneT k165_24 (by decide) ?_
    refine tw_aload k165_31 rfl ?_
    refine tw_iload k165_32 rfl ?_
    refine tw_const k165_33 ?_
    refine tw_callp (v := .inl (qOf (M 127) (k : Int) 4)) (by omega) (S' := []) (as := [.inr (.inr (.inl 126)), .inl ((k : Nat) : Int), .inl (4 : Int)]) k165_34 (x_148 (M := M) (N := N) (by omega) hM (k : Int) 4) rfl rfl rfl rfl rfl ?_
    refine tw_eqS (S' := [.inl (wPr (M 127) k)]) (e_c (congrArg Sum.inl (qOf4 (by omega))) rfl) ?_
    refine tw_istore k165_37 rfl (L' := [some (.inr (.inr (.inl 126))), some (.inl ((k : Nat) : Int)), some (.inl ((b : Nat) : Int)), some (.inl n), some (.inl (wPr (M 127) k)), none]) rfl ?_
    refine tw_aload k165_39 rfl ?_
    refine tw_call (by omega) (S' := []) (as := [.inr (.inr (.inl 126))]) k165_40 (x_162 (M := M) (N := N) (by omega)) rfl rfl rfl rfl rfl (fun r40 Z40 hq40 => ?_)
    obtain ⟨rfl, rfl⟩ := hq40
    refine tw_as (S := []) (M := (st M [(129, (pC (M 127) (M 129)))])) (N := N) rfl rfl ?_
    refine tw_aload k165_43 rfl ?_
    refine tw_const k165_44 ?_
    refine tw_iload k165_46 rfl ?_
    refine tw_iadd k165_47 (v := ((6 + b : Nat) : Int)) rfl (by omega) ?_
    refine tw_const k165_48 ?_
    refine tw_aload k165_49 rfl ?_
    refine tw_getr k165_50 f126_0 ?_
    refine tw_const k165_53 ?_
    refine tw_iload k165_55 rfl ?_
    refine tw_iadd k165_56 (v := ((6 + b : Nat) : Int)) rfl (by omega) ?_
    refine tw_iald (j := 6 + b) (v := (M 127 (6 + b))) k165_57 al127 rfl (by omega) rfl ?_
    refine tw_iload k165_58 rfl ?_
    refine tw_iadd k165_59 (v := ((M 127 (6 + b)) + n)) rfl (by omega) ?_
    refine tw_max k165_60 rfl ?_
    refine tw_eqS (S' := [.inl (max 0 (M 127 (6 + b) + n)), .inl ((6 + b : Nat) : Int), .inr (.inr (.inl 126))]) (e_c (congrArg Sum.inl rfl) rfl) ?_
    refine tw_call (by omega) (S' := []) (as := [.inr (.inr (.inl 126)), .inl ((6 + b : Nat) : Int), .inl (max 0 (M 127 (6 + b) + n))]) k165_63 (x_136 (M := (st M [(129, (pC (M 127) (M 129)))])) (N := N) (by omega) (6 + b) (by omega) (max 0 (M 127 (6 + b) + n)) (pRg_put hs (by omega) (by omega))) rfl rfl rfl rfl rfl (fun r63 Z63 hq63 => ?_)
    obtain ⟨rfl, M2, rfl, hb1, hb2, hb3⟩ := hq63
    have hb1 : M2 127 = pU (M 127) (6 + b) (max 0 (M 127 (6 + b) + n)) := hb1
    have hb5 : M2 129 = pC (M 127) (M 129) := (hb3.1 129 (by omega)).trans rfl
    have hb4 : pC (M2 129) (M2 127) = M 127 := by rw [hb5, hb1]; exact pC_back (fun i hi => pU_ne (by omega))
    refine tw_as (S := [.inl (M 127 (6 + b))]) (M := M2) (N := N) rfl rfl ?_
    refine tw_popi k165_66 ?_
    refine tw_aload k165_67 rfl ?_
    refine tw_iload k165_68 rfl ?_
    refine tw_const k165_69 ?_
    refine tw_callp (v := .inl (qOf (M2 127) (k : Int) 4)) (by omega) (S' := []) (as := [.inr (.inr (.inl 126)), .inl ((k : Nat) : Int), .inl (4 : Int)]) k165_70 (x_148 (M := M2) (N := N) (by omega) hb2 (k : Int) 4) rfl rfl rfl rfl rfl ?_
    refine tw_eqS (S' := [.inl (wPr (pU (M 127) (6 + b) (max 0 (M 127 (6 + b) + n))) k)]) (e_c (congrArg Sum.inl (by rw [hb1]; exact qOf4 (by rw [pU_ne (by omega)]; omega))) rfl) ?_
    refine tw_iload k165_73 rfl ?_
    refine tw_isub k165_75 (v := ((wPr (pU (M 127) (6 + b) (max 0 (M 127 (6 + b) + n))) k) - (wPr (M 127) k))) rfl (by omega) ?_
    refine tw_istore k165_76 rfl (L' := [some (.inr (.inr (.inl 126))), some (.inl ((k : Nat) : Int)), some (.inl ((b : Nat) : Int)), some (.inl n), some (.inl (wPr (M 127) k)), some (.inl ((wPr (pU (M 127) (6 + b) (max 0 (M 127 (6 + b) + n))) k) - (wPr (M 127) k)))]) rfl ?_
    refine tw_aload k165_78 rfl ?_
    refine tw_call (by omega) (S' := []) (as := [.inr (.inr (.inl 126))]) k165_79 (x_163 (M := M2) (N := N) (by omega) (by rw [hb4]; exact hs)) rfl rfl rfl rfl rfl (fun r79 Z79 hq79 => ?_)
    obtain ⟨rfl, M3, rfl, hc1, hc2, hc3⟩ := hq79
    refine tw_as (S := []) (M := M3) (N := N) rfl rfl ?_
    refine tw_iload k165_82 rfl ?_
    refine tw_i2l k165_84 ?_
    exact tw_rl k165_85 (⟨by unfold qShock sShk; simp only [Int.toNat_natCast]; rw [if_pos ⟨hy1, hy2, hy3⟩], M3, rfl, by rw [hc1, hb4], hc2, mKq_tr (mKq_m hb3) (mKp_q hc3)⟩)
  · refine tw_aload k165_0 rfl ?_
    refine tw_iload k165_1 rfl ?_
    refine tw_callb (by omega) (S' := []) (as := [.inr (.inr (.inl 126)), .inl y]) k165_2 (x_113 (M := M) (N := N) (by omega) hs y) rfl rfl rfl rfl rfl (fun h2 => ?_) (fun h2 => ?_)
    · refine tw_zeqF k165_5 (by decide) ?_
      refine tw_aload k165_8 rfl ?_
      refine tw_iload k165_9 rfl ?_
      refine tw_callb (by omega) (S' := []) (as := [.inr (.inr (.inl 126)), .inl b]) k165_10 (x_113 (M := M) (N := N) (by omega) hs b) rfl rfl rfl rfl rfl (fun h10 => ?_) (fun h10 => ?_)
      · refine tw_zeqF k165_13 (by decide) ?_
        refine tw_iload k165_16 rfl ?_
        refine tw_const k165_17 ?_
        refine tw_const k165_19 ?_
        refine tw_callb (by omega) (S' := []) (as := [.inl n, .inl (-9 : Int), .inl (9 : Int)]) k165_21 (x_112 n (-9 : Int) (9 : Int)) rfl rfl rfl rfl rfl (fun h21 => ?_) (fun h21 => ?_)
        · refine tw_zneT k165_24 (by decide) ?_
          exact absurd ⟨h2, h10, h21⟩ hyy
        · refine tw_zneF k165_24 (by decide) ?_
          refine tw_lconst k165_27 ?_
          exact tw_rl k165_30 (⟨by unfold qShock; rw [if_neg (fun q => hyy q)]; rfl, M, rfl, rfl, hM, mKq_refl M⟩)
      · refine tw_zeqT k165_13 (by decide) ?_
        refine tw_lconst k165_27 ?_
        exact tw_rl k165_30 (⟨by unfold qShock; rw [if_neg (fun q => hyy q)]; rfl, M, rfl, rfl, hM, mKq_refl M⟩)
    · refine tw_zeqT k165_5 (by decide) ?_
      refine tw_lconst k165_27 ?_
      exact tw_rl k165_30 (⟨by unfold qShock; rw [if_neg (fun q => hyy q)]; rfl, M, rfl, rfl, hM, mKq_refl M⟩)
theorem x_167_46 {K : mj_C} {d : Nat} {M : Nat → Nat → Int} {N : Nat → Nat → Int64} (hD : 3 ≤ d) (hM : mW M) (hl : pLs (M 127) 46 5) : mj_X K d 167 [.inr (.inr (.inl 126)), .inl (46 : Int)] (mj_Sh, M, N) (fun r Z => r = some (.inl (qFirst (M 127) 46)) ∧ Z = (mj_Sh, M, N)) := by
  show mj_T K d 167 0 [some (.inr (.inr (.inl 126))), some (.inl (46 : Int)), none] [] (mj_Sh, M, N) _
  have hl1 := hl.1
  have hl2 := hl.2.1
  have key : ∀ i : Nat, i ≤ (M 127 46).toNat → (∀ j, j < i → wPr (M 127) (M 127 (46 + 1 + 2 * j)).toNat = M 127 (46 + 2 + 2 * j)) → mj_T K d 167 2 [some (.inr (.inr (.inl 126))), some (.inl (46 : Int)), some (.inl ((i : Nat) : Int))] [] (mj_Sh, M, N) (fun r Z => r = some (.inl (qFirst (M 127) 46)) ∧ Z = (mj_Sh, M, N)) := by
    refine up_to (M 127 46).toNat ?_ ?_
    · show (∀ j, j < (M 127 46).toNat → wPr (M 127) (M 127 (46 + 1 + 2 * j)).toNat = M 127 (46 + 2 + 2 * j)) → mj_T K d 167 2 [some (.inr (.inr (.inl 126))), some (.inl (46 : Int)), some (.inl (((M 127 46).toNat : Nat) : Int))] [] (mj_Sh, M, N) (fun r Z => r = some (.inl (qFirst (M 127) 46)) ∧ Z = (mj_Sh, M, N))
      intro hN
      refine tw_iload k167_2 rfl ?_
      refine tw_aload k167_3 rfl ?_
      refine tw_getr k167_4 f126_0 ?_
      refine tw_iload k167_7 rfl ?_
      refine tw_iald (j := 46) (v := (M 127 46)) k167_8 al127 rfl (by decide) rfl ?_
      refine tw_cgeT k167_9 (by omega) ?_
      refine tw_const k167_52 ?_
      exact tw_ri k167_54 (⟨by unfold qFirst; rw [pFd_no _ 0 (fun j _ hj => fun q => q (hN j (by omega))), if_neg (by omega)], rfl⟩)
    · intro i hmi ih
      have ih : (∀ j, j < (i + 1) → wPr (M 127) (M 127 (46 + 1 + 2 * j)).toNat = M 127 (46 + 2 + 2 * j)) → mj_T K d 167 2 [some (.inr (.inr (.inl 126))), some (.inl (46 : Int)), some (.inl (((i + 1) : Nat) : Int))] [] (mj_Sh, M, N) (fun r Z => r = some (.inl (qFirst (M 127) 46)) ∧ Z = (mj_Sh, M, N)) := ih
      show (∀ j, j < i → wPr (M 127) (M 127 (46 + 1 + 2 * j)).toNat = M 127 (46 + 2 + 2 * j)) → mj_T K d 167 2 [some (.inr (.inr (.inl 126))), some (.inl (46 : Int)), some (.inl ((i : Nat) : Int))] [] (mj_Sh, M, N) (fun r Z => r = some (.inl (qFirst (M 127) 46)) ∧ Z = (mj_Sh, M, N))
      intro hN
      have hx := hl.2.2 i (by omega)
      obtain ⟨k, hke⟩ : ∃ k : Nat, M 127 (46 + 1 + 2 * i) = (k : Int) := ⟨(M 127 (46 + 1 + 2 * i)).toNat, by omega⟩
      have hkt : (M 127 (46 + 1 + 2 * i)).toNat = k := by omega
      refine tw_iload k167_2 rfl ?_
      refine tw_aload k167_3 rfl ?_
      refine tw_getr k167_4 f126_0 ?_
      refine tw_iload k167_7 rfl ?_
      refine tw_iald (j := 46) (v := (M 127 46)) k167_8 al127 rfl (by decide) rfl ?_
      refine tw_cgeF k167_9 (by omega) ?_
      refine tw_aload k167_12 rfl ?_
      refine tw_aload k167_13 rfl ?_
      refine tw_getr k167_14 f126_0 ?_
      refine tw_iload k167_17 rfl ?_
      refine tw_const k167_18 ?_
      refine tw_iadd k167_19 (v := (47 : Int)) rfl (by decide) ?_
      refine tw_const k167_20 ?_
      refine tw_iload k167_21 rfl ?_
      refine tw_imul k167_22 (v := ((2 * i : Nat) : Int)) rfl (by omega) ?_
      refine tw_iadd k167_23 (v := ((47 + (2 * i) : Nat) : Int)) rfl (by omega) ?_
      refine tw_iald (j := (46 + 1 + 2 * i)) (v := ((k : Nat) : Int)) k167_24 al127 (by omega) (by omega) hke ?_
      refine tw_const k167_25 ?_
      refine tw_callp (v := .inl (qOf (M 127) (k : Int) 4)) (by omega) (S' := []) (as := [.inr (.inr (.inl 126)), .inl ((k : Nat) : Int), .inl (4 : Int)]) k167_26 (x_148 (M := M) (N := N) (by omega) hM (k : Int) 4) rfl rfl rfl rfl rfl ?_
      refine tw_eqS (S' := [.inl (wPr (M 127) k)]) (e_c (congrArg Sum.inl (qOf4 (by omega))) rfl) ?_
      refine tw_aload k167_29 rfl ?_
      refine tw_getr k167_30 f126_0 ?_
      refine tw_iload k167_33 rfl ?_
      refine tw_const k167_34 ?_
      refine tw_iadd k167_35 (v := (48 : Int)) rfl (by decide) ?_
      refine tw_const k167_36 ?_
      refine tw_iload k167_37 rfl ?_
      refine tw_imul k167_38 (v := ((2 * i : Nat) : Int)) rfl (by omega) ?_
      refine tw_iadd k167_39 (v := ((48 + (2 * i) : Nat) : Int)) rfl (by omega) ?_
      refine tw_iald (j := (46 + 2 + 2 * i)) (v := (M 127 (46 + 2 + 2 * i))) k167_40 al127 (by omega) (by omega) rfl ?_
      refine tw_ceq k167_41 (fun h41 => ?_) (fun h41 => ?_)
      · refine tw_iinc k167_46 rfl (v := ((i + 1 : Nat) : Int)) rfl (by omega) rfl (L' := [some (.inr (.inr (.inl 126))), some (.inl (46 : Int)), some (.inl ((i + 1 : Nat) : Int))]) rfl ?_
        refine tw_goto k167_49 ?_
        exact ih (fun j hj => by
          by_cases e : j = i
          · subst e; rw [hkt]; exact h41
          · exact hN j (by omega))
      · refine tw_iload k167_44 rfl ?_
        exact tw_ri k167_45 (⟨by unfold qFirst; rw [pFd_eq (P := (fun i => ¬ wPr (M 127) (M 127 (46 + 1 + 2 * i)).toNat = M 127 (46 + 2 + 2 * i))) _ 0 i (by omega) (by omega) (show ¬ wPr (M 127) (M 127 (46 + 1 + 2 * i)).toNat = M 127 (46 + 2 + 2 * i) by rw [hkt]; exact h41) (fun j _ hj => fun q => q (hN j hj)), if_pos (by omega)], rfl⟩)
  refine tw_const k167_0 ?_
  refine tw_istore k167_1 rfl (L' := [some (.inr (.inr (.inl 126))), some (.inl (46 : Int)), some (.inl (0 : Int))]) rfl ?_
  exact key 0 (by omega) (fun j hj => by omega)
theorem x_167_74 {K : mj_C} {d : Nat} {M : Nat → Nat → Int} {N : Nat → Nat → Int64} (hD : 3 ≤ d) (hM : mW M) (hl : pLs (M 127) 74 8) : mj_X K d 167 [.inr (.inr (.inl 126)), .inl (74 : Int)] (mj_Sh, M, N) (fun r Z => r = some (.inl (qFirst (M 127) 74)) ∧ Z = (mj_Sh, M, N)) := by
  show mj_T K d 167 0 [some (.inr (.inr (.inl 126))), some (.inl (74 : Int)), none] [] (mj_Sh, M, N) _
  have hl1 := hl.1
  have hl2 := hl.2.1
  have key : ∀ i : Nat, i ≤ (M 127 74).toNat → (∀ j, j < i → wPr (M 127) (M 127 (74 + 1 + 2 * j)).toNat = M 127 (74 + 2 + 2 * j)) → mj_T K d 167 2 [some (.inr (.inr (.inl 126))), some (.inl (74 : Int)), some (.inl ((i : Nat) : Int))] [] (mj_Sh, M, N) (fun r Z => r = some (.inl (qFirst (M 127) 74)) ∧ Z = (mj_Sh, M, N)) := by
    refine up_to (M 127 74).toNat ?_ ?_
    · show (∀ j, j < (M 127 74).toNat → wPr (M 127) (M 127 (74 + 1 + 2 * j)).toNat = M 127 (74 + 2 + 2 * j)) → mj_T K d 167 2 [some (.inr (.inr (.inl 126))), some (.inl (74 : Int)), some (.inl (((M 127 74).toNat : Nat) : Int))] [] (mj_Sh, M, N) (fun r Z => r = some (.inl (qFirst (M 127) 74)) ∧ Z = (mj_Sh, M, N))
      intro hN
      refine tw_iload k167_2 rfl ?_
      refine tw_aload k167_3 rfl ?_
      refine tw_getr k167_4 f126_0 ?_
      refine tw_iload k167_7 rfl ?_
      refine tw_iald (j := 74) (v := (M 127 74)) k167_8 al127 rfl (by decide) rfl ?_
      refine tw_cgeT k167_9 (by omega) ?_
      refine tw_const k167_52 ?_
      exact tw_ri k167_54 (⟨by unfold qFirst; rw [pFd_no _ 0 (fun j _ hj => fun q => q (hN j (by omega))), if_neg (by omega)], rfl⟩)
    · intro i hmi ih
      have ih : (∀ j, j < (i + 1) → wPr (M 127) (M 127 (74 + 1 + 2 * j)).toNat = M 127 (74 + 2 + 2 * j)) → mj_T K d 167 2 [some (.inr (.inr (.inl 126))), some (.inl (74 : Int)), some (.inl (((i + 1) : Nat) : Int))] [] (mj_Sh, M, N) (fun r Z => r = some (.inl (qFirst (M 127) 74)) ∧ Z = (mj_Sh, M, N)) := ih
      show (∀ j, j < i → wPr (M 127) (M 127 (74 + 1 + 2 * j)).toNat = M 127 (74 + 2 + 2 * j)) → mj_T K d 167 2 [some (.inr (.inr (.inl 126))), some (.inl (74 : Int)), some (.inl ((i : Nat) : Int))] [] (mj_Sh, M, N) (fun r Z => r = some (.inl (qFirst (M 127) 74)) ∧ Z = (mj_Sh, M, N))
      intro hN
      have hx := hl.2.2 i (by omega)
      obtain ⟨k, hke⟩ : ∃ k : Nat, M 127 (74 + 1 + 2 * i) = (k : Int) := ⟨(M 127 (74 + 1 + 2 * i)).toNat, by omega⟩
      have hkt : (M 127 (74 + 1 + 2 * i)).toNat = k := by omega
      refine tw_iload k167_2 rfl ?_
      refine tw_aload k167_3 rfl ?_
      refine tw_getr k167_4 f126_0 ?_
      refine tw_iload k167_7 rfl ?_
      refine tw_iald (j := 74) (v := (M 127 74)) k167_8 al127 rfl (by decide) rfl ?_
      refine tw_cgeF k167_9 (by omega) ?_
      refine tw_aload k167_12 rfl ?_
      refine tw_aload k167_13 rfl ?_
      refine tw_getr k167_14 f126_0 ?_
      refine tw_iload k167_17 rfl ?_
      refine tw_const k167_18 ?_
      refine tw_iadd k167_19 (v := (75 : Int)) rfl (by decide) ?_
      refine tw_const k167_20 ?_
      refine tw_iload k167_21 rfl ?_
      refine tw_imul k167_22 (v := ((2 * i : Nat) : Int)) rfl (by omega) ?_
      refine tw_iadd k167_23 (v := ((75 + (2 * i) : Nat) : Int)) rfl (by omega) ?_
      refine tw_iald (j := (74 + 1 + 2 * i)) (v := ((k : Nat) : Int)) k167_24 al127 (by omega) (by omega) hke ?_
      refine tw_const k167_25 ?_
      refine tw_callp (v := .inl (qOf (M 127) (k : Int) 4)) (by omega) (S' := []) (as := [.inr (.inr (.inl 126)), .inl ((k : Nat) : Int), .inl (4 : Int)]) k167_26 (x_148 (M := M) (N := N) (by omega) hM (k : Int) 4) rfl rfl rfl rfl rfl ?_
      refine tw_eqS (S' := [.inl (wPr (M 127) k)]) (e_c (congrArg Sum.inl (qOf4 (by omega))) rfl) ?_
      refine tw_aload k167_29 rfl ?_
      refine tw_getr k167_30 f126_0 ?_
      refine tw_iload k167_33 rfl ?_
      refine tw_const k167_34 ?_
      refine tw_iadd k167_35 (v := (76 : Int)) rfl (by decide) ?_
      refine tw_const k167_36 ?_
      refine tw_iload k167_37 rfl ?_
      refine tw_imul k167_38 (v := ((2 * i : Nat) : Int)) rfl (by omega) ?_
      refine tw_iadd k167_39 (v := ((76 + (2 * i) : Nat) : Int)) rfl (by omega) ?_
      refine tw_iald (j := (74 + 2 + 2 * i)) (v := (M 127 (74 + 2 + 2 * i))) k167_40 al127 (by omega) (by omega) rfl ?_
      refine tw_ceq k167_41 (fun h41 => ?_) (fun h41 => ?_)
      · refine tw_iinc k167_46 rfl (v := ((i + 1 : Nat) : Int)) rfl (by omega) rfl (L' := [some (.inr (.inr (.inl 126))), some (.inl (74 : Int)), some (.inl ((i + 1 : Nat) : Int))]) rfl ?_
        refine tw_goto k167_49 ?_
        exact ih (fun j hj => by
          by_cases e : j = i
          · subst e; rw [hkt]; exact h41
          · exact hN j (by omega))
      · refine tw_iload k167_44 rfl ?_
        exact tw_ri k167_45 (⟨by unfold qFirst; rw [pFd_eq (P := (fun i => ¬ wPr (M 127) (M 127 (74 + 1 + 2 * i)).toNat = M 127 (74 + 2 + 2 * i))) _ 0 i (by omega) (by omega) (show ¬ wPr (M 127) (M 127 (74 + 1 + 2 * i)).toNat = M 127 (74 + 2 + 2 * i) by rw [hkt]; exact h41) (fun j _ hj => fun q => q (hN j hj)), if_pos (by omega)], rfl⟩)
  refine tw_const k167_0 ?_
  refine tw_istore k167_1 rfl (L' := [some (.inr (.inr (.inl 126))), some (.inl (74 : Int)), some (.inl (0 : Int))]) rfl ?_
  exact key 0 (by omega) (fun j hj => by omega)
theorem x_177 {K : mj_C} {d : Nat} {M : Nat → Nat → Int} {N : Nat → Nat → Int64} (hD : 4 ≤ d) (hM : mW M) (hl : pLs (M 127) 74 8) : mj_X K d 177 [.inr (.inr (.inl 126))] (mj_Sh, M, N) (fun r Z => r = some (.inl (qFirst (M 127) 74)) ∧ Z = (mj_Sh, M, N)) := by
  show mj_T K d 177 0 [some (.inr (.inr (.inl 126)))] [] (mj_Sh, M, N) _
  refine tw_aload k177_0 rfl ?_
  refine tw_const k177_1 ?_
  refine tw_callp (v := .inl (qFirst (M 127) 74)) (by omega) (S' := []) (as := [.inr (.inr (.inl 126)), .inl (74 : Int)]) k177_3 (x_167_74 (M := M) (N := N) (by omega) hM hl) rfl rfl rfl rfl rfl ?_
  exact tw_ri k177_6 (⟨rfl, rfl⟩)
theorem x_170 {K : mj_C} {Z : mj_Z} : ∀ (n y x d : Nat), y ≤ n → y < 101 → x < 101 → y + 1 ≤ d → mj_X K d 170 [.inr (.inl (Int64.ofInt ((x : Nat) : Int))), .inr (.inl (Int64.ofInt ((y : Nat) : Int)))] Z (fun r Z' => r = some (.inr (.inl (Int64.ofInt ((Nat.gcd x y : Nat) : Int)))) ∧ Z' = Z) := by
  intro n
  induction n with
  | zero =>
    intro y x d hn hy hx hd
    show mj_T K d 170 0 [some (.inr (.inl (Int64.ofInt ((x : Nat) : Int)))), none, some (.inr (.inl (Int64.ofInt ((y : Nat) : Int)))), none] [] Z _
    have hy0 : y = 0 := by omega
    refine tw_lload k170_0 rfl ?_
    refine tw_lconst k170_1 ?_
    refine tw_lcmp k170_2 ?_
    refine tw_zneF k170_3 ((fA y (by omega)).mpr hy0) ?_
    refine tw_lload k170_6 rfl ?_
    refine tw_goto k170_7 ?_
    exact tw_rl k170_17 (⟨by rw [hy0, Nat.gcd_zero_right], rfl⟩)
  | succ n ih =>
    intro y x d hn hy hx hd
    show mj_T K d 170 0 [some (.inr (.inl (Int64.ofInt ((x : Nat) : Int)))), none, some (.inr (.inl (Int64.ofInt ((y : Nat) : Int)))), none] [] Z _
    have ih := fun (y x d : Nat) => ih y x d
    by_cases hy0 : y = 0
    · refine tw_lload k170_0 rfl ?_
      refine tw_lconst k170_1 ?_
      refine tw_lcmp k170_2 ?_
      refine tw_zneF k170_3 ((fA y (by omega)).mpr hy0) ?_
      refine tw_lload k170_6 rfl ?_
      refine tw_goto k170_7 ?_
      exact tw_rl k170_17 (⟨by rw [hy0, Nat.gcd_zero_right], rfl⟩)
    · refine tw_lload k170_0 rfl ?_
      refine tw_lconst k170_1 ?_
      refine tw_lcmp k170_2 ?_
      refine tw_zneT k170_3 (fun q => hy0 ((fA y (by omega)).mp q)) ?_
      refine tw_lload k170_10 rfl ?_
      refine tw_lload k170_11 rfl ?_
      refine tw_lload k170_12 rfl ?_
      refine tw_lrem k170_13 (fZ y (by omega) hy0) ?_
      refine tw_call (by omega) (S' := []) (as := [.inr (.inl (Int64.ofInt ((y : Nat) : Int))), .inr (.inl ((Int64.ofInt ((x : Nat) : Int)) - (Int64.ofInt ((x : Nat) : Int)) / (Int64.ofInt ((y : Nat) : Int)) * (Int64.ofInt ((y : Nat) : Int))))]) k170_14 (show mj_X K (d - 1) 170 [.inr (.inl (Int64.ofInt ((y : Nat) : Int))), .inr (.inl ((Int64.ofInt ((x : Nat) : Int)) - (Int64.ofInt ((x : Nat) : Int)) / (Int64.ofInt ((y : Nat) : Int)) * (Int64.ofInt ((y : Nat) : Int))))] Z (fun r Z' => r = some (.inr (.inl (Int64.ofInt ((Nat.gcd y (x % y) : Nat) : Int)))) ∧ Z' = Z) by rw [fB x (by omega) y (by omega) hy0]; exact ih (x % y) y (d - 1) (by have := Nat.mod_lt x (show 0 < y by omega); omega) (by have := Nat.mod_lt x (show 0 < y by omega); omega) (by omega) (by have := Nat.mod_lt x (show 0 < y by omega); omega)) rfl rfl rfl rfl rfl (fun r14 Z14 hq14 => ?_)
      obtain ⟨rfl, rfl⟩ := hq14
      exact tw_rl k170_17 (⟨by rw [Nat.gcd_comm x y, Nat.gcd_rec y x, Nat.gcd_comm (x % y) y], rfl⟩)
theorem x_171 {K : mj_C} {d : Nat} {Z : mj_Z} (x y : Nat) (hx : x < 101) (hy : y < 101) (hy0 : ¬ y = 0) (part : Int) (hd : y + 2 ≤ d) : mj_X K d 171 [.inr (.inl (Int64.ofInt ((x : Nat) : Int))), .inr (.inl (Int64.ofInt ((y : Nat) : Int))), .inl part] Z (fun r Z' => r = some (.inr (.inl (qPart x y part))) ∧ Z' = Z) := by
  show mj_T K d 171 0 [some (.inr (.inl (Int64.ofInt ((x : Nat) : Int)))), none, some (.inr (.inl (Int64.ofInt ((y : Nat) : Int)))), none, some (.inl part)] [] Z _
  have hgz : ¬ Nat.gcd x y = 0 := fun q => by have := Nat.eq_zero_of_gcd_eq_zero_right q; omega
  have hgl : Nat.gcd x y < 101 := by have := Nat.le_of_dvd (show 0 < y by omega) (Nat.gcd_dvd_right x y); omega
  refine tw_iload k171_0 rfl ?_
  refine tw_zne k171_2 (fun h2 => ?_) (fun h2 => ?_)
  · refine tw_lload k171_9 rfl ?_
    refine tw_lload k171_10 rfl ?_
    refine tw_lload k171_11 rfl ?_
    refine tw_callp (v := .inr (.inl (Int64.ofInt ((Nat.gcd x y : Nat) : Int)))) (by omega) (S' := [.inr (.inl (Int64.ofInt ((y : Nat) : Int)))]) (as := [.inr (.inl (Int64.ofInt ((x : Nat) : Int))), .inr (.inl (Int64.ofInt ((y : Nat) : Int)))]) k171_12 (x_170 y y x (d - 1) (Nat.le_refl _) (by omega) (by omega) (by omega)) rfl rfl rfl rfl rfl ?_
    refine tw_ldiv k171_15 (fZ _ hgl hgz) ?_
    exact tw_rl k171_16 (⟨by rw [fC _ (by omega) _ hgl hgz]; unfold qPart; rw [if_neg (by omega)], rfl⟩)
  · refine tw_lload k171_5 rfl ?_
    refine tw_goto k171_6 ?_
    refine tw_lload k171_10 rfl ?_
    refine tw_lload k171_11 rfl ?_
    refine tw_callp (v := .inr (.inl (Int64.ofInt ((Nat.gcd x y : Nat) : Int)))) (by omega) (S' := [.inr (.inl (Int64.ofInt ((x : Nat) : Int)))]) (as := [.inr (.inl (Int64.ofInt ((x : Nat) : Int))), .inr (.inl (Int64.ofInt ((y : Nat) : Int)))]) k171_12 (x_170 y y x (d - 1) (Nat.le_refl _) (by omega) (by omega) (by omega)) rfl rfl rfl rfl rfl ?_
    refine tw_ldiv k171_15 (fZ _ hgl hgz) ?_
    exact tw_rl k171_16 (⟨by rw [fC _ (by omega) _ hgl hgz]; unfold qPart; rw [if_pos (by omega)], rfl⟩)
theorem x_173 {K : mj_C} {d : Nat} {M : Nat → Nat → Int} {N : Nat → Nat → Int64} (hD : 9 ≤ d) (hs : pRg (M 127)) (hM : mW M) (part : Int) : mj_X K d 173 [.inr (.inr (.inl 126)), .inl part] (mj_Sh, M, N) (fun r Z => r = some (.inr (.inl (qMean (M 127) part))) ∧ Z = (mj_Sh, M, N)) := by
  show mj_T K d 173 0 [some (.inr (.inr (.inl 126))), some (.inl part), none, none] [] (mj_Sh, M, N) _
  have h0 := hs.1 0 (by omega)
  have h5 := hs.2.1
  by_cases hyy : ¬ M 127 0 = 0 ∧ 0 ≤ part ∧ part ≤ 1
  · have key : ∀ i : Nat, i ≤ (M 127 0).toNat → mj_T K d 173 26 [some (.inr (.inr (.inl 126))), some (.inl part), some (.inl (pS (wPr (M 127)) 0 i)), some (.inl ((i : Nat) : Int))] [] (mj_Sh, M, N) (fun r Z => r = some (.inr (.inl (qMean (M 127) part))) ∧ Z = (mj_Sh, M, N)) := by
      refine up_to (M 127 0).toNat ?_ ?_
      · show mj_T K d 173 26 [some (.inr (.inr (.inl 126))), some (.inl part), some (.inl (pS (wPr (M 127)) 0 (M 127 0).toNat)), some (.inl (((M 127 0).toNat : Nat) : Int))] [] (mj_Sh, M, N) (fun r Z => r = some (.inr (.inl (qMean (M 127) part))) ∧ Z = (mj_Sh, M, N))
        have hpr := pS_rg (f := wPr (M 127)) (a := 0) (B := 20) (M 127 0).toNat (fun i _ _ => wPr_rg _ _)
        obtain ⟨x, hx⟩ : ∃ x : Nat, pS (wPr (M 127)) 0 (M 127 0).toNat = (x : Int) := ⟨(pS (wPr (M 127)) 0 (M 127 0).toNat).toNat, by omega⟩
        obtain ⟨Y, hY⟩ : ∃ Y : Nat, M 127 0 = (Y : Int) := ⟨(M 127 0).toNat, by omega⟩
        refine tw_iload k173_26 rfl ?_
        refine tw_aload k173_27 rfl ?_
        refine tw_getr k173_28 f126_0 ?_
        refine tw_const k173_31 ?_
        refine tw_iald (j := 0) (v := (M 127 0)) k173_32 al127 rfl (by decide) rfl ?_
        refine tw_cgeT k173_33 (by omega) ?_
        refine tw_iload k173_51 rfl ?_
        refine tw_i2l k173_52 ?_
        refine tw_aload k173_53 rfl ?_
        refine tw_getr k173_54 f126_0 ?_
        refine tw_const k173_57 ?_
        refine tw_iald (j := 0) (v := (M 127 0)) k173_58 al127 rfl (by decide) rfl ?_
        refine tw_i2l k173_59 ?_
        refine tw_iload k173_60 rfl ?_
        refine tw_callp (v := .inr (.inl (qPart x Y part))) (by omega) (S' := []) (as := [.inr (.inl ((Int32.ofInt (pS (wPr (M 127)) 0 (M 127 0).toNat)).toInt64)), .inr (.inl ((Int32.ofInt (M 127 0)).toInt64)), .inl part]) k173_61 (show mj_X K (d - 1) 171 [.inr (.inl ((Int32.ofInt (pS (wPr (M 127)) 0 (M 127 0).toNat)).toInt64)), .inr (.inl ((Int32.ofInt (M 127 0)).toInt64)), .inl part] _ (fun r Z' => r = some (.inr (.inl (qPart x Y part))) ∧ Z' = (mj_Sh, M, N)) by rw [hx, hY, fI x (by omega), fI Y (by omega)]; exact x_171 x Y (by omega) (by omega) (by omega) part (by omega)) rfl rfl rfl rfl rfl ?_
        exact tw_rl k173_64 (⟨by unfold qMean; rw [if_pos ⟨hyy.1, hyy.2⟩, hx, hY]; rfl, rfl⟩)
      · intro i hmi ih
        have ih : mj_T K d 173 26 [some (.inr (.inr (.inl 126))), some (.inl part), some (.inl (pS (wPr (M 127)) 0 (i + 1))), some (.inl (((i + 1) : Nat) : Int))] [] (mj_Sh, M, N) (fun r Z => r = some (.inr (.inl (qMean (M 127) part))) ∧ Z = (mj_Sh, M, N)) := ih
        show mj_T K d 173 26 [some (.inr (.inr (.inl 126))), some (.inl part), some (.inl (pS (wPr (M 127)) 0 i)), some (.inl ((i : Nat) : Int))] [] (mj_Sh, M, N) (fun r Z => r = some (.inr (.inl (qMean (M 127) part))) ∧ Z = (mj_Sh, M, N))
        have hpr := pS_rg (f := wPr (M 127)) (a := 0) (B := 20) i (fun i _ _ => wPr_rg _ _)
        have hpi := wPr_rg (M 127) i
        refine tw_iload k173_26 rfl ?_
        refine tw_aload k173_27 rfl ?_
        refine tw_getr k173_28 f126_0 ?_
        refine tw_const k173_31 ?_
        refine tw_iald (j := 0) (v := (M 127 0)) k173_32 al127 rfl (by decide) rfl ?_
        refine tw_cgeF k173_33 (by omega) ?_
        refine tw_iload k173_36 rfl ?_
        refine tw_aload k173_37 rfl ?_
        refine tw_iload k173_38 rfl ?_
        refine tw_const k173_39 ?_
        refine tw_callp (v := .inl (qOf (M 127) (i : Int) 4)) (by omega) (S' := [.inl (pS (wPr (M 127)) 0 i)]) (as := [.inr (.inr (.inl 126)), .inl ((i : Nat) : Int), .inl (4 : Int)]) k173_40 (x_148 (M := M) (N := N) (by omega) hM (i : Int) 4) rfl rfl rfl rfl rfl ?_
        refine tw_eqS (S' := [.inl (wPr (M 127) i), .inl (pS (wPr (M 127)) 0 i)]) (e_c (congrArg Sum.inl (qOf4 (by omega))) rfl) ?_
        refine tw_iadd k173_43 (v := ((pS (wPr (M 127)) 0 i) + (wPr (M 127) i))) rfl (by omega) ?_
        refine tw_istore k173_44 rfl (L' := [some (.inr (.inr (.inl 126))), some (.inl part), some (.inl ((pS (wPr (M 127)) 0 i) + (wPr (M 127) i))), some (.inl ((i : Nat) : Int))]) rfl ?_
        refine tw_iinc k173_45 rfl (v := ((i + 1 : Nat) : Int)) rfl (by omega) rfl (L' := [some (.inr (.inr (.inl 126))), some (.inl part), some (.inl ((pS (wPr (M 127)) 0 i) + (wPr (M 127) i))), some (.inl ((i + 1 : Nat) : Int))]) rfl ?_
        refine tw_goto k173_48 ?_
        refine tw_eqL (L' := [some (.inr (.inr (.inl 126))), some (.inl part), some (.inl (pS (wPr (M 127)) 0 (i + 1))), some (.inl (((i + 1) : Nat) : Int))]) (e_c rfl (e_c rfl (e_c (e_i (by rw [pS, Nat.zero_add])) (e_c rfl rfl)))) ?_
        exact ih
    refine tw_aload k173_0 rfl ?_
    refine tw_getr k173_1 f126_0 ?_
    refine tw_const k173_4 ?_
    refine tw_iald (j := 0) (v := (M 127 0)) k173_5 al127 rfl (by decide) rfl ?_
    refine tw_zeqF k173_6 (by omega) ?_
    refine tw_iload k173_9 rfl ?_
    refine tw_const k173_10 ?_
    refine tw_const k173_11 ?_
    refine tw_callbT (by omega) (S' := []) (as := [.inl part, .inl (0 : Int), .inl (1 : Int)]) k173_12 (x_112 part (0 : Int) (1 : Int)) rfl rfl rfl rfl rfl hyy.2 ?_
    refine tw_zneT k173_15 (by decide) ?_
    refine tw_const k173_22 ?_
    refine tw_istore k173_23 rfl (L' := [some (.inr (.inr (.inl 126))), some (.inl part), some (.inl (0 : Int)), none]) rfl ?_
    refine tw_const k173_24 ?_
    refine tw_istore k173_25 rfl (L' := [some (.inr (.inr (.inl 126))), some (.inl part), some (.inl (0 : Int)), some (.inl (0 : Int))]) rfl ?_
    refine tw_eqL (L' := [some (.inr (.inr (.inl 126))), some (.inl part), some (.inl (pS (wPr (M 127)) 0 0)), some (.inl ((0 : Nat) : Int))]) (e_c rfl (e_c rfl (e_c (e_i rfl) (e_c (e_i rfl) rfl)))) ?_
    exact key 0 (by omega)
  · refine tw_aload k173_0 rfl ?_
    refine tw_getr k173_1 f126_0 ?_
    refine tw_const k173_4 ?_
    refine tw_iald (j := 0) (v := (M 127 0)) k173_5 al127 rfl (by decide) rfl ?_
    refine tw_zeq k173_6 (fun h6 => ?_) (fun h6 => ?_)
    · refine tw_lconst k173_18 ?_
      exact tw_rl k173_21 (⟨by unfold qMean; rw [if_neg hyy]; rfl, rfl⟩)
    · refine tw_iload k173_9 rfl ?_
      refine tw_const k173_10 ?_
      refine tw_const k173_11 ?_
      refine tw_callbF (by omega) (S' := []) (as := [.inl part, .inl (0 : Int), .inl (1 : Int)]) k173_12 (x_112 part (0 : Int) (1 : Int)) rfl rfl rfl rfl rfl (fun q => hyy ⟨h6, q⟩) ?_
      refine tw_zneF k173_15 (by decide) ?_
      refine tw_lconst k173_18 ?_
      exact tw_rl k173_21 (⟨by unfold qMean; rw [if_neg hyy]; rfl, rfl⟩)
