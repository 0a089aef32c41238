-- judging, the image, tapes: the words, the model's calls
def tOk (so it : Nat → Int) : Prop := ∀ t, t < 6 → (-1 ≤ so t ∧ so t ≤ 4) ∧ (0 ≤ it t ∧ it t ≤ 60) ∧ (so t = -1 → it t = 0)
abbrev lq (v w : Int64) : Prop := (if v > w then (1 : Int) else if v = w then 0 else -1) = 0
abbrev tpK (t k n : Int) : Prop := (0 ≤ t ∧ t ≤ 5) ∧ (-1 ≤ k ∧ k ≤ 4) ∧ (0 ≤ k → 0 ≤ n ∧ n ≤ 60)
def qTape (t k n : Int) : Int := if 0 ≤ t ∧ t ≤ 5 then (if (-1 ≤ k ∧ k ≤ 4) ∧ (0 ≤ k → n ≤ 60) then (if 0 ≤ k → 0 ≤ n then 1 else -14) else -2) else -1
def tpN (k n : Int) : Int := if k < 0 then 0 else n
def aTpS (so : Nat → Int) (t k n : Int) : Nat → Int := if tpK t k n then pU so t.toNat k else so
def aTpI (it : Nat → Int) (t k n : Int) : Nat → Int := if tpK t k n then pU it t.toNat (tpN k n) else it
def aTpC (ce : Nat → Int64) (t k n : Int) : Nat → Int64 := if tpK t k n then (fun c => if 60 * t.toNat ≤ c ∧ c < 60 * t.toNat + (tpN k n).toNat then Int64.ofInt 0 else ce c) else ce
def lb (k : Int) (v : Int64) : Int64 := if k = 0 then (Int32.ofInt ((Int32.ofInt (v.toInt32.toInt)).toInt8.toInt32.toInt)).toInt64 else if k = 1 then (Int32.ofInt ((Int32.ofInt (v.toInt32.toInt)).toInt16.toInt32.toInt)).toInt64 else if k = 2 then (Int32.ofInt (v.toInt32.toInt)).toInt64 else if k = 3 then v else if lq v (Int64.ofInt 0) then Int64.ofInt 0 else Int64.ofInt 1
abbrev tiK (so it : Nat → Int) (t i : Int) : Prop := (0 ≤ t ∧ t ≤ 5) ∧ 0 ≤ so t.toNat ∧ 0 ≤ i ∧ i < it t.toNat
def qItem (so it : Nat → Int) (t i : Int) : Int := if 0 ≤ t ∧ t ≤ 5 then (if 0 ≤ so t.toNat then (if 0 ≤ i ∧ i < it t.toNat then 1 else -13) else -11) else -1
def aItem (so it : Nat → Int) (ce : Nat → Int64) (t i : Int) (v : Int64) : Nat → Int64 := if tiK so it t i then pU ce (60 * t.toNat + i.toNat) (lb (so t.toNat) v) else ce
def qPeek (so it : Nat → Int) (ce : Nat → Int64) (t i : Int) : Int64 := if tiK so it t i then ce (60 * t.toNat + i.toNat) else qNO
abbrev tsK (so it : Nat → Int) (t i o j n : Int) : Prop := ((0 ≤ t ∧ t ≤ 5) ∧ 0 ≤ o ∧ o ≤ 5) ∧ (0 ≤ so t.toNat ∧ 0 ≤ so o.toNat) ∧ so t.toNat = so o.toNat ∧ 0 ≤ n ∧ (0 ≤ i ∧ i + n ≤ it t.toNat) ∧ 0 ≤ j ∧ j + n ≤ it o.toNat
def qShift (so it : Nat → Int) (t i o j n : Int) : Int := if (0 ≤ t ∧ t ≤ 5) ∧ 0 ≤ o ∧ o ≤ 5 then (if 0 ≤ so t.toNat ∧ 0 ≤ so o.toNat then (if so t.toNat = so o.toNat then (if 0 ≤ n ∧ (0 ≤ i ∧ i + n ≤ it t.toNat) ∧ 0 ≤ j ∧ j + n ≤ it o.toNat then n else -13) else -12) else -11) else -1
def aShift (so it : Nat → Int) (ce : Nat → Int64) (t i o j n : Int) : Nat → Int64 := if tsK so it t i o j n then pCp ce ce (60 * t.toNat + i.toNat) (60 * o.toNat + j.toNat) n.toNat else ce
def jF (s so it : Nat → Int) (ce : Nat → Int64) (t : Nat) (i : Int) : Nat → Nat → Int
  | 0, _ => -5
  | n + 1, y => if so t < 0 ∨ i < 0 ∨ it t - 1 - (y : Int) < i then 100 + (y : Int) else if lq (ce (60 * t + i.toNat + y)) (Int32.ofInt (wPr s y)).toInt64 then jF s so it ce t i n (y + 1) else (y : Int)
def qJudge (s so it : Nat → Int) (ce : Nat → Int64) (t i : Int) : Int := if 0 ≤ t ∧ t ≤ 5 then (if 0 ≤ so t.toNat ∧ ¬ so t.toNat = 3 then -12 else jF s so it ce t.toNat i (s 0).toNat 0) else -1
def qCount (s : Nat → Int) (ln what : Int) : Int := if what = 0 then s 46 else if what = 1 then s 57 else if what = 2 then s 74 else if what = 3 then ln else -2
def qFeed (ln sign : Int) : Int := if 0 ≤ sign ∧ sign ≤ 127 then (if ln < 100 then ln + 1 else -4) else -2
def aFdT (tx : Nat → Int) (ln sign : Int) : Nat → Int := if (0 ≤ sign ∧ sign ≤ 127) ∧ ln < 100 then pU tx ln.toNat sign else tx
def aFdL (ln sign : Int) : Int := if (0 ≤ sign ∧ sign ≤ 127) ∧ ln < 100 then ln + 1 else ln
theorem pVI_cg {s s' : Nat → Int} (h : ∀ i, i < 91 → s' i = s i) (hs : pVI s) : pVI s' := by
  obtain ⟨h1, h2, h3, h4, h5⟩ := hs
  have e0 := h 0 (by omega)
  refine ⟨pRg_cg (fun i hi => h i (by omega)) h1, fun y hy => by rw [h _ (by omega), h _ (by omega)]; exact h2 y hy, ?_, ?_, ?_⟩
  · unfold pLs at h3 ⊢
    rw [h 46 (by omega), e0]
    have := h3.2.1
    refine ⟨h3.1, h3.2.1, fun i hi => ?_⟩
    rw [h _ (by omega), h _ (by omega)]; exact h3.2.2 i hi
  · unfold pLs at h4 ⊢
    rw [h 74 (by omega), e0]
    have := h4.2.1
    refine ⟨h4.1, h4.2.1, fun i hi => ?_⟩
    rw [h _ (by omega), h _ (by omega)]; exact h4.2.2 i hi
  · unfold pEv at h5 ⊢
    rw [h 57 (by omega), e0]
    have := h5.2.1
    refine ⟨h5.1, h5.2.1, fun i hi => ?_⟩
    rw [h _ (by omega), h _ (by omega)]; exact h5.2.2 i hi
theorem pVI_pC {f g : Nat → Int} (h : pVI f) : pVI (pC f g) := pVI_cg (fun i hi => if_pos hi) h
theorem x_178 {K : mj_C} {d : Nat} {Z : mj_Z} (hD : 1 ≤ d) (t : Int) : mj_X K d 178 [.inl t] Z (fun r Z' => r = some (.inl (if 0 ≤ t ∧ t ≤ 5 then 1 else 0)) ∧ Z' = Z) := by
  show mj_T K d 178 0 [some (.inl t)] [] Z _
  refine tw_iload k178_0 rfl ?_
  refine tw_const k178_1 ?_
  refine tw_const k178_2 ?_
  refine tw_callb (by omega) (S' := []) (as := [.inl t, .inl (0 : Int), .inl (5 : Int)]) k178_3 (x_112 t (0 : Int) (5 : Int)) rfl rfl rfl rfl rfl (fun h3 => ?_) (fun h3 => ?_)
  · exact tw_rb k178_6 (by decide) (⟨by rw [if_pos (by omega)], rfl⟩)
  · exact tw_rb k178_6 (by decide) (⟨by rw [if_neg (by omega)], rfl⟩)
theorem x_179 {K : mj_C} {d : Nat} {M : Nat → Nat → Int} {N : Nat → Nat → Int64} (hD : 4 ≤ d) (hs : pRg (M 127)) (hM : mW M) (hT : tOk (M 145) (M 146)) (t i : Int) : mj_X K d 179 [.inr (.inr (.inl 126)), .inl t, .inl i] (mj_Sh, M, N) (fun r Z => r = some (.inl (qJudge (M 127) (M 145) (M 146) (N 147) t i)) ∧ Z = (mj_Sh, M, N)) := by
  show mj_T K d 179 0 [some (.inr (.inr (.inl 126))), some (.inl t), some (.inl i), none] [] (mj_Sh, M, N) _
  have h0 := hs.1 0 (by omega)
  have h5 := hs.2.1
  by_cases hyy : 0 ≤ t ∧ t ≤ 5
  · obtain ⟨k, rfl⟩ : ∃ k : Nat, t = (k : Int) := ⟨t.toNat, by omega⟩
    have htk := hT k (by omega)
    have key : ∀ y : Nat, y ≤ (M 127 0).toNat → jF (M 127) (M 145) (M 146) (N 147) k i ((M 127 0).toNat - y) y = qJudge (M 127) (M 145) (M 146) (N 147) ((k : Nat) : Int) i → mj_T K d 179 33 [some (.inr (.inr (.inl 126))), some (.inl ((k : Nat) : Int)), some (.inl i), some (.inl ((y : Nat) : Int))] [] (mj_Sh, M, N) (fun r Z => r = some (.inl (qJudge (M 127) (M 145) (M 146) (N 147) ((k : Nat) : Int) i)) ∧ Z = (mj_Sh, M, N)) := by
      refine up_to (M 127 0).toNat ?_ ?_
      · show jF (M 127) (M 145) (M 146) (N 147) k i ((M 127 0).toNat - (M 127 0).toNat) (M 127 0).toNat = qJudge (M 127) (M 145) (M 146) (N 147) ((k : Nat) : Int) i → mj_T K d 179 33 [some (.inr (.inr (.inl 126))), some (.inl ((k : Nat) : Int)), some (.inl i), some (.inl (((M 127 0).toNat : Nat) : Int))] [] (mj_Sh, M, N) (fun r Z => r = some (.inl (qJudge (M 127) (M 145) (M 146) (N 147) ((k : Nat) : Int) i)) ∧ Z = (mj_Sh, M, N))
        intro hj
        refine tw_iload k179_33 rfl ?_
        refine tw_aload k179_34 rfl ?_
        refine tw_getr k179_35 f126_0 ?_
        refine tw_const k179_38 ?_
        refine tw_iald (j := 0) (v := (M 127 0)) k179_39 al127 rfl (by decide) rfl ?_
        refine tw_cgeT k179_40 (by omega) ?_
        refine tw_const k179_107 ?_
        exact tw_ri k179_109 (⟨by rw [← hj, Nat.sub_self, jF], rfl⟩)
      · intro y hmy ih
        have ih : jF (M 127) (M 145) (M 146) (N 147) k i ((M 127 0).toNat - (y + 1)) (y + 1) = qJudge (M 127) (M 145) (M 146) (N 147) ((k : Nat) : Int) i → mj_T K d 179 33 [some (.inr (.inr (.inl 126))), some (.inl ((k : Nat) : Int)), some (.inl i), some (.inl (((y + 1) : Nat) : Int))] [] (mj_Sh, M, N) (fun r Z => r = some (.inl (qJudge (M 127) (M 145) (M 146) (N 147) ((k : Nat) : Int) i)) ∧ Z = (mj_Sh, M, N)) := ih
        show jF (M 127) (M 145) (M 146) (N 147) k i ((M 127 0).toNat - y) y = qJudge (M 127) (M 145) (M 146) (N 147) ((k : Nat) : Int) i → mj_T K d 179 33 [some (.inr (.inr (.inl 126))), some (.inl ((k : Nat) : Int)), some (.inl i), some (.inl ((y : Nat) : Int))] [] (mj_Sh, M, N) (fun r Z => r = some (.inl (qJudge (M 127) (M 145) (M 146) (N 147) ((k : Nat) : Int) i)) ∧ Z = (mj_Sh, M, N))
        intro hj
        have hjs : (M 127 0).toNat - y = ((M 127 0).toNat - (y + 1)) + 1 := by omega
        rw [hjs, jF] at hj
        have htk := hT k (by omega)
        refine tw_iload k179_33 rfl ?_
        refine tw_aload k179_34 rfl ?_
        refine tw_getr k179_35 f126_0 ?_
        refine tw_const k179_38 ?_
        refine tw_iald (j := 0) (v := (M 127 0)) k179_39 al127 rfl (by decide) rfl ?_
        refine tw_cgeF k179_40 (by omega) ?_
        refine tw_aload k179_43 rfl ?_
        refine tw_getr k179_44 f126_26 ?_
        refine tw_iload k179_47 rfl ?_
        refine tw_iald (j := k) (v := (M 145 k)) k179_48 al145 rfl (by omega) rfl ?_
        refine tw_zlt k179_49 (fun h49 => ?_) (fun h49 => ?_)
        · refine tw_const k179_70 ?_
          refine tw_iload k179_72 rfl ?_
          refine tw_iadd k179_73 (v := ((100 + y : Nat) : Int)) rfl (by omega) ?_
          exact tw_ri k179_74 (⟨by rw [← hj, if_pos (by omega)]; rfl, rfl⟩)
        · refine tw_iload k179_52 rfl ?_
          refine tw_zlt k179_53 (fun h53 => ?_) (fun h53 => ?_)
          · refine tw_const k179_70 ?_
            refine tw_iload k179_72 rfl ?_
            refine tw_iadd k179_73 (v := ((100 + y : Nat) : Int)) rfl (by omega) ?_
            exact tw_ri k179_74 (⟨by rw [← hj, if_pos (by omega)]; rfl, rfl⟩)
          · refine tw_iload k179_56 rfl ?_
            refine tw_aload k179_57 rfl ?_
            refine tw_getr k179_58 f126_27 ?_
            refine tw_iload k179_61 rfl ?_
            refine tw_iald (j := k) (v := (M 146 k)) k179_62 al146 rfl (by omega) rfl ?_
            refine tw_const k179_63 ?_
            refine tw_isub k179_64 (v := ((M 146 k) - (1 : Int))) rfl (by omega) ?_
            refine tw_iload k179_65 rfl ?_
            refine tw_isub k179_66 (v := (((M 146 k) - (1 : Int)) - ((y : Nat) : Int))) rfl (by omega) ?_
            refine tw_cle k179_67 (fun h67 => ?_) (fun h67 => ?_)
            · refine tw_aload k179_75 rfl ?_
              refine tw_getr k179_76 f126_28 ?_
              refine tw_const k179_79 ?_
              refine tw_iload k179_81 rfl ?_
              refine tw_imul k179_82 (v := ((60 * k : Nat) : Int)) rfl (by omega) ?_
              refine tw_iload k179_83 rfl ?_
              refine tw_iadd k179_84 (v := (((60 * k : Nat) : Int) + i)) rfl (by omega) ?_
              refine tw_iload k179_85 rfl ?_
              refine tw_iadd k179_86 (v := ((((60 * k : Nat) : Int) + i) + ((y : Nat) : Int))) rfl (by omega) ?_
              refine tw_lald (j := (60 * k + i.toNat + y)) (v := (N 147 (60 * k + i.toNat + y))) k179_87 al147 (by omega) (by omega) rfl ?_
              refine tw_aload k179_88 rfl ?_
              refine tw_iload k179_89 rfl ?_
              refine tw_const k179_90 ?_
              refine tw_callp (v := .inl (qOf (M 127) (y : Int) 4)) (by omega) (S' := [.inr (.inl (N 147 (60 * k + i.toNat + y)))]) (as := [.inr (.inr (.inl 126)), .inl ((y : Nat) : Int), .inl (4 : Int)]) k179_91 (x_148 (M := M) (N := N) (by omega) hM (y : Int) 4) rfl rfl rfl rfl rfl ?_
              refine tw_eqS (S' := [.inl (wPr (M 127) y), .inr (.inl (N 147 (60 * k + i.toNat + y)))]) (e_c (congrArg Sum.inl (qOf4 (by omega))) rfl) ?_
              refine tw_i2l k179_94 ?_
              refine tw_lcmp k179_95 ?_
              refine tw_zeq k179_96 (fun h96 => ?_) (fun h96 => ?_)
              · refine tw_iinc k179_101 rfl (v := ((y + 1 : Nat) : Int)) rfl (by omega) rfl (L' := [some (.inr (.inr (.inl 126))), some (.inl ((k : Nat) : Int)), some (.inl i), some (.inl ((y + 1 : Nat) : Int))]) rfl ?_
                refine tw_goto k179_104 ?_
                refine ih ?_
                rw [← hj, if_neg (by omega), if_pos h96]
              · refine tw_iload k179_99 rfl ?_
                exact tw_ri k179_100 (⟨by rw [← hj, if_neg (by omega), if_neg h96], rfl⟩)
            · refine tw_const k179_70 ?_
              refine tw_iload k179_72 rfl ?_
              refine tw_iadd k179_73 (v := ((100 + y : Nat) : Int)) rfl (by omega) ?_
              exact tw_ri k179_74 (⟨by rw [← hj, if_pos (by omega)]; rfl, rfl⟩)
    refine tw_iload k179_0 rfl ?_
    refine tw_callbT (by omega) (S' := []) (as := [.inl ((k : Nat) : Int)]) k179_1 (x_178 (by omega) ((k : Nat) : Int)) rfl rfl rfl rfl rfl hyy ?_
    refine tw_zneT k179_4 (by decide) ?_
    refine tw_aload k179_9 rfl ?_
    refine tw_getr k179_10 f126_26 ?_
    refine tw_iload k179_13 rfl ?_
    refine tw_iald (j := k) (v := (M 145 k)) k179_14 al145 rfl (by omega) rfl ?_
    refine tw_zlt k179_15 (fun h15 => ?_) (fun h15 => ?_)
    · refine tw_const k179_31 ?_
      refine tw_istore k179_32 rfl (L' := [some (.inr (.inr (.inl 126))), some (.inl ((k : Nat) : Int)), some (.inl i), some (.inl (0 : Int))]) rfl ?_
      refine tw_eqL (L' := [some (.inr (.inr (.inl 126))), some (.inl ((k : Nat) : Int)), some (.inl i), some (.inl ((0 : Nat) : Int))]) (e_c rfl (e_c rfl (e_c rfl (e_c (e_i rfl) rfl)))) ?_
      exact key 0 (by omega) (by unfold qJudge; rw [if_pos hyy]; simp only [Int.toNat_natCast]; rw [if_neg (by omega), Nat.sub_zero])
    · refine tw_aload k179_18 rfl ?_
      refine tw_getr k179_19 f126_26 ?_
      refine tw_iload k179_22 rfl ?_
      refine tw_iald (j := k) (v := (M 145 k)) k179_23 al145 rfl (by omega) rfl ?_
      refine tw_const k179_24 ?_
      refine tw_ceq k179_25 (fun h25 => ?_) (fun h25 => ?_)
      · refine tw_const k179_31 ?_
        refine tw_istore k179_32 rfl (L' := [some (.inr (.inr (.inl 126))), some (.inl ((k : Nat) : Int)), some (.inl i), some (.inl (0 : Int))]) rfl ?_
        refine tw_eqL (L' := [some (.inr (.inr (.inl 126))), some (.inl ((k : Nat) : Int)), some (.inl i), some (.inl ((0 : Nat) : Int))]) (e_c rfl (e_c rfl (e_c rfl (e_c (e_i rfl) rfl)))) ?_
        exact key 0 (by omega) (by unfold qJudge; rw [if_pos hyy]; simp only [Int.toNat_natCast]; rw [if_neg (by omega), Nat.sub_zero])
      · refine tw_const k179_28 ?_
        exact tw_ri k179_30 (⟨by unfold qJudge; rw [if_pos hyy]; simp only [Int.toNat_natCast]; rw [if_pos (by omega)], rfl⟩)
  · refine tw_iload k179_0 rfl ?_
    refine tw_callbF (by omega) (S' := []) (as := [.inl t]) k179_1 (x_178 (by omega) t) rfl rfl rfl rfl rfl hyy ?_
    refine tw_zneF k179_4 (by decide) ?_
    refine tw_const k179_7 ?_
    exact tw_ri k179_8 (⟨by unfold qJudge; rw [if_neg hyy], rfl⟩)
theorem x_180 {K : mj_C} {d : Nat} {M : Nat → Nat → Int} {N : Nat → Nat → Int64} (hD : 1 ≤ d)  : mj_X K d 180 [.inr (.inr (.inl 126))] (mj_Sh, M, N) (fun r Z => r = some (.inl (M 127 0)) ∧ Z = (mj_Sh, st M [(128, pC (M 127) (M 128)), (126, pU (M 126) 3 1)], N)) := by
  show mj_T K d 180 0 [some (.inr (.inr (.inl 126)))] [] (mj_Sh, M, N) _
  refine tw_aload k180_0 rfl ?_
  refine tw_getr k180_1 f126_0 ?_
  refine tw_aload k180_4 rfl ?_
  refine tw_getr k180_5 f126_1 ?_
  refine tw_call (by omega) (S' := []) (as := [.inr (.inr (.inl 127)), .inr (.inr (.inl 128))]) k180_8 (x_115_127_128 (M := M) (N := N)) rfl rfl rfl rfl rfl (fun r8 Z8 hq8 => ?_)
  obtain ⟨rfl, rfl⟩ := hq8
  refine tw_as (S := []) (M := (st M [(128, (pC (M 127) (M 128)))])) (N := N) rfl rfl ?_
  refine tw_aload k180_11 rfl ?_
  refine tw_const k180_12 ?_
  refine tw_putz (M := M) (N := N) (l := [(128, (pC (M 127) (M 128)))]) (l' := [(128, (pC (M 127) (M 128))), (126, (pU (M 126) 3 (1 : Int)))]) k180_13 f126_3 (by decide) rfl ?_
  refine tw_aload k180_16 rfl ?_
  refine tw_getr k180_17 f126_0 ?_
  refine tw_const k180_20 ?_
  refine tw_iald (j := 0) (v := (M 127 0)) k180_21 al127 rfl (by decide) rfl ?_
  exact tw_ri k180_22 (⟨rfl, rfl⟩)
theorem x_181 {K : mj_C} {d : Nat} {M : Nat → Nat → Int} {N : Nat → Nat → Int64} (hD : 7 ≤ d) (hp : ¬ M 126 3 = 0 → pRg (pC (M 128) (M 127))) : mj_X K d 181 [.inr (.inr (.inl 126))] (mj_Sh, M, N) (fun r Z => (M 126 3 = 0 ∧ r = some (.inl (-3)) ∧ Z = (mj_Sh, M, N)) ∨ (¬ M 126 3 = 0 ∧ r = some (.inl (pC (M 128) (M 127) 0)) ∧ ∃ M1, Z = (mj_Sh, M1, N) ∧ M1 127 = pC (M 128) (M 127) ∧ mW M1 ∧ mKp M M1)) := by
  show mj_T K d 181 0 [some (.inr (.inr (.inl 126)))] [] (mj_Sh, M, N) _
  refine tw_aload k181_0 rfl ?_
  refine tw_geti k181_1 f126_3 rfl (v := (M 126 3)) rfl ?_
  refine tw_zne k181_4 (fun h4 => ?_) (fun h4 => ?_)
  · refine tw_aload k181_10 rfl ?_
    refine tw_getr k181_11 f126_1 ?_
    refine tw_aload k181_14 rfl ?_
    refine tw_getr k181_15 f126_0 ?_
    refine tw_call (by omega) (S' := []) (as := [.inr (.inr (.inl 128)), .inr (.inr (.inl 127))]) k181_18 (x_115_128_127 (M := M) (N := N)) rfl rfl rfl rfl rfl (fun r18 Z18 hq18 => ?_)
    obtain ⟨rfl, rfl⟩ := hq18
    refine tw_as (S := []) (M := (st M [(127, (pC (M 128) (M 127)))])) (N := N) rfl rfl ?_
    refine tw_aload k181_21 rfl ?_
    refine tw_call (by omega) (S' := []) (as := [.inr (.inr (.inl 126))]) k181_22 (x_133 (M := (st M [(127, (pC (M 128) (M 127)))])) (N := N) (by omega) (hp h4)) rfl rfl rfl rfl rfl (fun r22 Z22 hq22 => ?_)
    obtain ⟨rfl, M1, rfl, hw, hf⟩ := hq22
    have hk := wk1 (M := (st M [(127, (pC (M 128) (M 127)))])) (hp h4) hw hf
    refine tw_as (S := []) (M := M1) (N := N) rfl rfl ?_
    refine tw_aload k181_25 rfl ?_
    refine tw_getr k181_26 f126_0 ?_
    refine tw_const k181_29 ?_
    refine tw_iald (j := 0) (v := (pC (M 128) (M 127) 0)) k181_30 al127 rfl (by decide) (by rw [hk.2]; rfl) ?_
    exact tw_ri k181_31 (Or.inr ⟨h4, rfl, M1, rfl, hk.2, hk.1, mKp_s (mFr_p hf)⟩)
  · refine tw_const k181_7 ?_
    exact tw_ri k181_9 (Or.inl ⟨by omega, rfl, rfl⟩)
theorem x_182 {K : mj_C} {d : Nat} {M : Nat → Nat → Int} {N : Nat → Nat → Int64} (what : Int) : mj_X K d 182 [.inr (.inr (.inl 126)), .inl what] (mj_Sh, M, N) (fun r Z => r = some (.inl (qCount (M 127) (M 126 23) what)) ∧ Z = (mj_Sh, M, N)) := by
  show mj_T K d 182 0 [some (.inr (.inr (.inl 126))), some (.inl what)] [] (mj_Sh, M, N) _
  refine tw_iload k182_0 rfl ?_
  refine tw_sw k182_1 ?_
  refine tw_pk (fun h1_0 => ?_) (fun h1_0 => ?_)
  · refine tw_aload k182_32 rfl ?_
    refine tw_getr k182_33 f126_0 ?_
    refine tw_const k182_36 ?_
    refine tw_iald (j := 46) (v := (M 127 46)) k182_38 al127 rfl (by decide) rfl ?_
    exact tw_ri k182_39 (⟨by unfold qCount; (try simp only [Int.toNat_natCast]); (repeat' split) <;> first | rfl | omega, rfl⟩)
  · skip
    refine tw_pk (fun h1_1 => ?_) (fun h1_1 => ?_)
    · refine tw_aload k182_40 rfl ?_
      refine tw_getr k182_41 f126_0 ?_
      refine tw_const k182_44 ?_
      refine tw_iald (j := 57) (v := (M 127 57)) k182_46 al127 rfl (by decide) rfl ?_
      exact tw_ri k182_47 (⟨by unfold qCount; (try simp only [Int.toNat_natCast]); (repeat' split) <;> first | rfl | omega, rfl⟩)
    · skip
      refine tw_pk (fun h1_2 => ?_) (fun h1_2 => ?_)
      · refine tw_aload k182_48 rfl ?_
        refine tw_getr k182_49 f126_0 ?_
        refine tw_const k182_52 ?_
        refine tw_iald (j := 74) (v := (M 127 74)) k182_54 al127 rfl (by decide) rfl ?_
        exact tw_ri k182_55 (⟨by unfold qCount; (try simp only [Int.toNat_natCast]); (repeat' split) <;> first | rfl | omega, rfl⟩)
      · skip
        refine tw_pk (fun h1_3 => ?_) (fun h1_3 => ?_)
        · refine tw_aload k182_56 rfl ?_
          refine tw_geti k182_57 f126_23 rfl (v := (M 126 23)) rfl ?_
          exact tw_ri k182_60 (⟨by unfold qCount; (try simp only [Int.toNat_natCast]); (repeat' split) <;> first | rfl | omega, rfl⟩)
        · skip
          refine tw_pk0 ?_
          refine tw_const k182_61 ?_
          exact tw_ri k182_63 (⟨by unfold qCount; (try simp only [Int.toNat_natCast]); (repeat' split) <;> first | rfl | omega, rfl⟩)
theorem st_3r {M : Nat → Nat → Int} {N : Nat → Nat → Int64} : (mj_Sh, M, N) = (mj_Sh, st M [(145, M 145), (146, M 146)], st N [(147, N 147)]) := by
  rw [show st M [(145, M 145), (146, M 146)] = M from st_self M [145, 146], show st N [(147, N 147)] = N from st_self N [147]]
theorem tp_no {so it : Nat → Int} {ce : Nat → Int64} {t k n : Int} (h : ¬ tpK t k n) : aTpS so t k n = so ∧ aTpI it t k n = it ∧ aTpC ce t k n = ce := by
  unfold aTpS aTpI aTpC
  rw [if_neg h, if_neg h, if_neg h]
  exact ⟨rfl, rfl, rfl⟩
theorem x_183 {K : mj_C} {d : Nat} {M : Nat → Nat → Int} {N : Nat → Nat → Int64} (hD : 2 ≤ d) (t k n : Int) : mj_X K d 183 [.inr (.inr (.inl 126)), .inl t, .inl k, .inl n] (mj_Sh, M, N) (fun r Z => r = some (.inl (qTape t k n)) ∧ Z = (mj_Sh, st M [(145, aTpS (M 145) t k n), (146, aTpI (M 146) t k n)], st N [(147, aTpC (N 147) t k n)])) := by
  show mj_T K d 183 0 [some (.inr (.inr (.inl 126))), some (.inl t), some (.inl k), some (.inl n), none] [] (mj_Sh, M, N) _
  by_cases hyy : 0 ≤ t ∧ t ≤ 5
  · obtain ⟨q, rfl⟩ : ∃ q : Nat, t = (q : Int) := ⟨t.toNat, by omega⟩
    refine tw_iload k183_0 rfl ?_
    refine tw_callbT (by omega) (S' := []) (as := [.inl ((q : Nat) : Int)]) k183_1 (x_178 (by omega) ((q : Nat) : Int)) rfl rfl rfl rfl rfl hyy ?_
    refine tw_zneT k183_4 (by decide) ?_
    refine tw_iload k183_9 rfl ?_
    refine tw_const k183_10 ?_
    refine tw_const k183_11 ?_
    refine tw_callb (by omega) (S' := []) (as := [.inl k, .inl (-1 : Int), .inl (4 : Int)]) k183_12 (x_112 k (-1 : Int) (4 : Int)) rfl rfl rfl rfl rfl (fun h12 => ?_) (fun h12 => ?_)
    · refine tw_zeqF k183_15 (by decide) ?_
      refine tw_iload k183_18 rfl ?_
      refine tw_zlt k183_19 (fun h19 => ?_) (fun h19 => ?_)
      · refine tw_iload k183_31 rfl ?_
        refine tw_zlt k183_32 (fun h32 => ?_) (fun h32 => ?_)
        · have htp : tpK ((q : Nat) : Int) k n := by unfold tpK; omega
          have hn0 : 0 ≤ tpN k n ∧ tpN k n ≤ 60 := by unfold tpN; split <;> omega
          have key : ∀ i : Nat, i ≤ (tpN k n).toNat → ∀ f : Nat → Int64, (∀ c, f c = if 60 * q ≤ c ∧ c < 60 * q + i then Int64.ofInt 0 else N 147 c) → mj_T K d 183 67 [some (.inr (.inr (.inl 126))), some (.inl ((q : Nat) : Int)), some (.inl k), some (.inl n), some (.inl ((i : Nat) : Int))] [] (mj_Sh, (st M [(145, (pU (M 145) q k)), (146, (pU (M 146) q (tpN k n)))]), (st N [(147, f)])) (fun r Z => r = some (.inl (qTape ((q : Nat) : Int) k n)) ∧ Z = (mj_Sh, st M [(145, aTpS (M 145) ((q : Nat) : Int) k n), (146, aTpI (M 146) ((q : Nat) : Int) k n)], st N [(147, aTpC (N 147) ((q : Nat) : Int) k n)])) := by
            refine up_to (tpN k n).toNat ?_ ?_
            · show ∀ f : Nat → Int64, (∀ c, f c = if 60 * q ≤ c ∧ c < 60 * q + (tpN k n).toNat then Int64.ofInt 0 else N 147 c) → mj_T K d 183 67 [some (.inr (.inr (.inl 126))), some (.inl ((q : Nat) : Int)), some (.inl k), some (.inl n), some (.inl (((tpN k n).toNat : Nat) : Int))] [] (mj_Sh, (st M [(145, (pU (M 145) q k)), (146, (pU (M 146) q (tpN k n)))]), (st N [(147, f)])) (fun r Z => r = some (.inl (qTape ((q : Nat) : Int) k n)) ∧ Z = (mj_Sh, st M [(145, aTpS (M 145) ((q : Nat) : Int) k n), (146, aTpI (M 146) ((q : Nat) : Int) k n)], st N [(147, aTpC (N 147) ((q : Nat) : Int) k n)]))
              intro f hf
              refine tw_iload k183_67 rfl ?_
              refine tw_aload k183_69 rfl ?_
              refine tw_getr k183_70 f126_27 ?_
              refine tw_iload k183_73 rfl ?_
              refine tw_iald (j := q) (v := (tpN k n)) k183_74 al146 rfl (by omega) (show (pU (M 146) q (tpN k n)) q = _ from pU_eq) ?_
              refine tw_cgeT k183_75 (by omega) ?_
              refine tw_const k183_97 ?_
              exact tw_ri k183_98 (⟨by unfold qTape; (try simp only [Int.toNat_natCast]); (repeat' split) <;> first | rfl | omega, by unfold aTpS aTpI aTpC; rw [if_pos htp, if_pos htp, if_pos htp, show f = _ from funext hf]; rfl⟩)
            · intro i hmi ih
              have ih : ∀ f : Nat → Int64, (∀ c, f c = if 60 * q ≤ c ∧ c < 60 * q + (i + 1) then Int64.ofInt 0 else N 147 c) → mj_T K d 183 67 [some (.inr (.inr (.inl 126))), some (.inl ((q : Nat) : Int)), some (.inl k), some (.inl n), some (.inl (((i + 1) : Nat) : Int))] [] (mj_Sh, (st M [(145, (pU (M 145) q k)), (146, (pU (M 146) q (tpN k n)))]), (st N [(147, f)])) (fun r Z => r = some (.inl (qTape ((q : Nat) : Int) k n)) ∧ Z = (mj_Sh, st M [(145, aTpS (M 145) ((q : Nat) : Int) k n), (146, aTpI (M 146) ((q : Nat) : Int) k n)], st N [(147, aTpC (N 147) ((q : Nat) : Int) k n)])) := ih
              show ∀ f : Nat → Int64, (∀ c, f c = if 60 * q ≤ c ∧ c < 60 * q + i then Int64.ofInt 0 else N 147 c) → mj_T K d 183 67 [some (.inr (.inr (.inl 126))), some (.inl ((q : Nat) : Int)), some (.inl k), some (.inl n), some (.inl ((i : Nat) : Int))] [] (mj_Sh, (st M [(145, (pU (M 145) q k)), (146, (pU (M 146) q (tpN k n)))]), (st N [(147, f)])) (fun r Z => r = some (.inl (qTape ((q : Nat) : Int) k n)) ∧ Z = (mj_Sh, st M [(145, aTpS (M 145) ((q : Nat) : Int) k n), (146, aTpI (M 146) ((q : Nat) : Int) k n)], st N [(147, aTpC (N 147) ((q : Nat) : Int) k n)]))
              intro f hf
              refine tw_iload k183_67 rfl ?_
              refine tw_aload k183_69 rfl ?_
              refine tw_getr k183_70 f126_27 ?_
              refine tw_iload k183_73 rfl ?_
              refine tw_iald (j := q) (v := (tpN k n)) k183_74 al146 rfl (by omega) (show (pU (M 146) q (tpN k n)) q = _ from pU_eq) ?_
              refine tw_cgeF k183_75 (by omega) ?_
              refine tw_aload k183_78 rfl ?_
              refine tw_getr k183_79 f126_28 ?_
              refine tw_const k183_82 ?_
              refine tw_iload k183_84 rfl ?_
              refine tw_imul k183_85 (v := ((60 * q : Nat) : Int)) rfl (by omega) ?_
              refine tw_iload k183_86 rfl ?_
              refine tw_iadd k183_88 (v := (((60 * q) + i : Nat) : Int)) rfl (by omega) ?_
              refine tw_lconst k183_89 ?_
              refine tw_last (M := (st M [(145, (pU (M 145) q k)), (146, (pU (M 146) q (tpN k n)))])) (N := N) (l := [(147, f)]) (l' := [(147, (pU f (60 * q + i) (Int64.ofInt 0)))]) (j := (60 * q + i)) k183_90 al147 (by omega) (by omega) rfl ?_
              refine tw_iinc k183_91 rfl (v := ((i + 1 : Nat) : Int)) rfl (by omega) rfl (L' := [some (.inr (.inr (.inl 126))), some (.inl ((q : Nat) : Int)), some (.inl k), some (.inl n), some (.inl ((i + 1 : Nat) : Int))]) rfl ?_
              refine tw_goto k183_94 ?_
              refine ih _ (fun c => ?_)
              by_cases e : c = 60 * q + i
              · subst e; rw [pU_eq, if_pos (by omega)]
              · rw [pU_ne e, hf c]
                by_cases e2 : 60 * q ≤ c ∧ c < 60 * q + i
                · rw [if_pos e2, if_pos (by omega)]
                · rw [if_neg e2, if_neg (by omega)]
          refine tw_aload k183_42 rfl ?_
          refine tw_getr k183_43 f126_26 ?_
          refine tw_iload k183_46 rfl ?_
          refine tw_iload k183_47 rfl ?_
          refine tw_iast (M := M) (N := N) (l := []) (l' := [(145, (pU (M 145) q k))]) (j := q) k183_48 al145 rfl (by omega) rfl ?_
          refine tw_aload k183_49 rfl ?_
          refine tw_getr k183_50 f126_27 ?_
          refine tw_iload k183_53 rfl ?_
          refine tw_iload k183_54 rfl ?_
          refine tw_zge k183_55 (fun h55 => ?_) (fun h55 => ?_)
          · refine tw_iload k183_62 rfl ?_
            refine tw_iast (M := M) (N := N) (l := [(145, (pU (M 145) q k))]) (l' := [(145, (pU (M 145) q k)), (146, (pU (M 146) q n))]) (j := q) k183_63 al146 rfl (by omega) rfl ?_
            refine tw_const k183_64 ?_
            refine tw_istore k183_65 rfl (L' := [some (.inr (.inr (.inl 126))), some (.inl ((q : Nat) : Int)), some (.inl k), some (.inl n), some (.inl (0 : Int))]) rfl ?_
            refine tw_as (M := (st M [(145, (pU (M 145) q k)), (146, (pU (M 146) q (tpN k n)))])) (N := st N [(147, N 147)]) (by rw [show tpN k n = n by unfold tpN; rw [if_neg (by omega)]]) (st_self N [147]).symm ?_
            exact key 0 (by omega) _ (fun c => by rw [if_neg (by omega)])
          · refine tw_const k183_58 ?_
            refine tw_goto k183_59 ?_
            refine tw_iast (M := M) (N := N) (l := [(145, (pU (M 145) q k))]) (l' := [(145, (pU (M 145) q k)), (146, (pU (M 146) q (0 : Int)))]) (j := q) k183_63 al146 rfl (by omega) rfl ?_
            refine tw_const k183_64 ?_
            refine tw_istore k183_65 rfl (L' := [some (.inr (.inr (.inl 126))), some (.inl ((q : Nat) : Int)), some (.inl k), some (.inl n), some (.inl (0 : Int))]) rfl ?_
            refine tw_as (M := (st M [(145, (pU (M 145) q k)), (146, (pU (M 146) q (tpN k n)))])) (N := st N [(147, N 147)]) (by rw [show tpN k n = (0 : Int) by unfold tpN; rw [if_pos (by omega)]]) (st_self N [147]).symm ?_
            exact key 0 (by omega) _ (fun c => by rw [if_neg (by omega)])
        · refine tw_iload k183_35 rfl ?_
          refine tw_zge k183_36 (fun h36 => ?_) (fun h36 => ?_)
          · have htp : tpK ((q : Nat) : Int) k n := by unfold tpK; omega
            have hn0 : 0 ≤ tpN k n ∧ tpN k n ≤ 60 := by unfold tpN; split <;> omega
            have key : ∀ i : Nat, i ≤ (tpN k n).toNat → ∀ f : Nat → Int64, (∀ c, f c = if 60 * q ≤ c ∧ c < 60 * q + i then Int64.ofInt 0 else N 147 c) → mj_T K d 183 67 [some (.inr (.inr (.inl 126))), some (.inl ((q : Nat) : Int)), some (.inl k), some (.inl n), some (.inl ((i : Nat) : Int))] [] (mj_Sh, (st M [(145, (pU (M 145) q k)), (146, (pU (M 146) q (tpN k n)))]), (st N [(147, f)])) (fun r Z => r = some (.inl (qTape ((q : Nat) : Int) k n)) ∧ Z = (mj_Sh, st M [(145, aTpS (M 145) ((q : Nat) : Int) k n), (146, aTpI (M 146) ((q : Nat) : Int) k n)], st N [(147, aTpC (N 147) ((q : Nat) : Int) k n)])) := by
              refine up_to (tpN k n).toNat ?_ ?_
              · show ∀ f : Nat → Int64, (∀ c, f c = if 60 * q ≤ c ∧ c < 60 * q + (tpN k n).toNat then Int64.ofInt 0 else N 147 c) → mj_T K d 183 67 [some (.inr (.inr (.inl 126))), some (.inl ((q : Nat) : Int)), some (.inl k), some (.inl n), some (.inl (((tpN k n).toNat : Nat) : Int))] [] (mj_Sh, (st M [(145, (pU (M 145) q k)), (146, (pU (M 146) q (tpN k n)))]), (st N [(147, f)])) (fun r Z => r = some (.inl (qTape ((q : Nat) : Int) k n)) ∧ Z = (mj_Sh, st M [(145, aTpS (M 145) ((q : Nat) : Int) k n), (146, aTpI (M 146) ((q : Nat) : Int) k n)], st N [(147, aTpC (N 147) ((q : Nat) : Int) k n)]))
                intro f hf
                refine tw_iload k183_67 rfl ?_
                refine tw_aload k183_69 rfl ?_
                refine tw_getr k183_70 f126_27 ?_
                refine tw_iload k183_73 rfl ?_
                refine tw_iald (j := q) (v := (tpN k n)) k183_74 al146 rfl (by omega) (show (pU (M 146) q (tpN k n)) q = _ from pU_eq) ?_
                refine tw_cgeT k183_75 (by omega) ?_
                refine tw_const k183_97 ?_
                exact tw_ri k183_98 (⟨by unfold qTape; (try simp only [Int.toNat_natCast]); (repeat' split) <;> first | rfl | omega, by unfold aTpS aTpI aTpC; rw [if_pos htp, if_pos htp, if_pos htp, show f = _ from funext hf]; rfl⟩)
              · intro i hmi ih
                have ih : ∀ f : Nat → Int64, (∀ c, f c = if 60 * q ≤ c ∧ c < 60 * q + (i + 1) then Int64.ofInt 0 else N 147 c) → mj_T K d 183 67 [some (.inr (.inr (.inl 126))), some (.inl ((q : Nat) : Int)), some (.inl k), some (.inl n), some (.inl (((i + 1) : Nat) : Int))] [] (mj_Sh, (st M [(145, (pU (M 145) q k)), (146, (pU (M 146) q (tpN k n)))]), (st N [(147, f)])) (fun r Z => r = some (.inl (qTape ((q : Nat) : Int) k n)) ∧ Z = (mj_Sh, st M [(145, aTpS (M 145) ((q : Nat) : Int) k n), (146, aTpI (M 146) ((q : Nat) : Int) k n)], st N [(147, aTpC (N 147) ((q : Nat) : Int) k n)])) := ih
                show ∀ f : Nat → Int64, (∀ c, f c = if 60 * q ≤ c ∧ c < 60 * q + i then Int64.ofInt 0 else N 147 c) → mj_T K d 183 67 [some (.inr (.inr (.inl 126))), some (.inl ((q : Nat) : Int)), some (.inl k), some (.inl n), some (.inl ((i : Nat) : Int))] [] (mj_Sh, (st M [(145, (pU (M 145) q k)), (146, (pU (M 146) q (tpN k n)))]), (st N [(147, f)])) (fun r Z => r = some (.inl (qTape ((q : Nat) : Int) k n)) ∧ Z = (mj_Sh, st M [(145, aTpS (M 145) ((q : Nat) : Int) k n), (146, aTpI (M 146) ((q : Nat) : Int) k n)], st N [(147, aTpC (N 147) ((q : Nat) : Int) k n)]))
                intro f hf
                refine tw_iload k183_67 rfl ?_
                refine tw_aload k183_69 rfl ?_
                refine tw_getr k183_70 f126_27 ?_
                refine tw_iload k183_73 rfl ?_
                refine tw_iald (j := q) (v := (tpN k n)) k183_74 al146 rfl (by omega) (show (pU (M 146) q (tpN k n)) q = _ from pU_eq) ?_
                refine tw_cgeF k183_75 (by omega) ?_
                refine tw_aload k183_78 rfl ?_
                refine tw_getr k183_79 f126_28 ?_
                refine tw_const k183_82 ?_
                refine tw_iload k183_84 rfl ?_
                refine tw_imul k183_85 (v := ((60 * q : Nat) : Int)) rfl (by omega) ?_
                refine tw_iload k183_86 rfl ?_
                refine tw_iadd k183_88 (v := (((60 * q) + i : Nat) : Int)) rfl (by omega) ?_
                refine tw_lconst k183_89 ?_
                refine tw_last (M := (st M [(145, (pU (M 145) q k)), (146, (pU (M 146) q (tpN k n)))])) (N := N) (l := [(147, f)]) (l' := [(147, (pU f (60 * q + i) (Int64.ofInt 0)))]) (j := (60 * q + i)) k183_90 al147 (by omega) (by omega) rfl ?_
                refine tw_iinc k183_91 rfl (v := ((i + 1 : Nat) : Int)) rfl (by omega) rfl (L' := [some (.inr (.inr (.inl 126))), some (.inl ((q : Nat) : Int)), some (.inl k), some (.inl n), some (.inl ((i + 1 : Nat) : Int))]) rfl ?_
                refine tw_goto k183_94 ?_
                refine ih _ (fun c => ?_)
                by_cases e : c = 60 * q + i
                · subst e; rw [pU_eq, if_pos (by omega)]
                · rw [pU_ne e, hf c]
                  by_cases e2 : 60 * q ≤ c ∧ c < 60 * q + i
                  · rw [if_pos e2, if_pos (by omega)]
                  · rw [if_neg e2, if_neg (by omega)]
            refine tw_aload k183_42 rfl ?_
            refine tw_getr k183_43 f126_26 ?_
            refine tw_iload k183_46 rfl ?_
            refine tw_iload k183_47 rfl ?_
            refine tw_iast (M := M) (N := N) (l := []) (l' := [(145, (pU (M 145) q k))]) (j := q) k183_48 al145 rfl (by omega) rfl ?_
            refine tw_aload k183_49 rfl ?_
            refine tw_getr k183_50 f126_27 ?_
            refine tw_iload k183_53 rfl ?_
            refine tw_iload k183_54 rfl ?_
            refine tw_zge k183_55 (fun h55 => ?_) (fun h55 => ?_)
            · refine tw_iload k183_62 rfl ?_
              refine tw_iast (M := M) (N := N) (l := [(145, (pU (M 145) q k))]) (l' := [(145, (pU (M 145) q k)), (146, (pU (M 146) q n))]) (j := q) k183_63 al146 rfl (by omega) rfl ?_
              refine tw_const k183_64 ?_
              refine tw_istore k183_65 rfl (L' := [some (.inr (.inr (.inl 126))), some (.inl ((q : Nat) : Int)), some (.inl k), some (.inl n), some (.inl (0 : Int))]) rfl ?_
              refine tw_as (M := (st M [(145, (pU (M 145) q k)), (146, (pU (M 146) q (tpN k n)))])) (N := st N [(147, N 147)]) (by rw [show tpN k n = n by unfold tpN; rw [if_neg (by omega)]]) (st_self N [147]).symm ?_
              exact key 0 (by omega) _ (fun c => by rw [if_neg (by omega)])
            · refine tw_const k183_58 ?_
              refine tw_goto k183_59 ?_
              refine tw_iast (M := M) (N := N) (l := [(145, (pU (M 145) q k))]) (l' := [(145, (pU (M 145) q k)), (146, (pU (M 146) q (0 : Int)))]) (j := q) k183_63 al146 rfl (by omega) rfl ?_
              refine tw_const k183_64 ?_
              refine tw_istore k183_65 rfl (L' := [some (.inr (.inr (.inl 126))), some (.inl ((q : Nat) : Int)), some (.inl k), some (.inl n), some (.inl (0 : Int))]) rfl ?_
              refine tw_as (M := (st M [(145, (pU (M 145) q k)), (146, (pU (M 146) q (tpN k n)))])) (N := st N [(147, N 147)]) (by rw [show tpN k n = (0 : Int) by unfold tpN; rw [if_pos (by omega)]]) (st_self N [147]).symm ?_
              exact key 0 (by omega) _ (fun c => by rw [if_neg (by omega)])
          · refine tw_const k183_39 ?_
            exact tw_ri k183_41 (⟨by unfold qTape; (try simp only [Int.toNat_natCast]); (repeat' split) <;> first | rfl | omega, by have h := tp_no (so := M 145) (it := M 146) (ce := N 147) (show ¬ tpK ((q : Nat) : Int) k n by unfold tpK; omega); rw [h.1, h.2.1, h.2.2]; exact st_3r⟩)
      · refine tw_iload k183_22 rfl ?_
        refine tw_const k183_23 ?_
        refine tw_cle k183_25 (fun h25 => ?_) (fun h25 => ?_)
        · refine tw_iload k183_31 rfl ?_
          refine tw_zlt k183_32 (fun h32 => ?_) (fun h32 => ?_)
          · have htp : tpK ((q : Nat) : Int) k n := by unfold tpK; omega
            have hn0 : 0 ≤ tpN k n ∧ tpN k n ≤ 60 := by unfold tpN; split <;> omega
            have key : ∀ i : Nat, i ≤ (tpN k n).toNat → ∀ f : Nat → Int64, (∀ c, f c = if 60 * q ≤ c ∧ c < 60 * q + i then Int64.ofInt 0 else N 147 c) → mj_T K d 183 67 [some (.inr (.inr (.inl 126))), some (.inl ((q : Nat) : Int)), some (.inl k), some (.inl n), some (.inl ((i : Nat) : Int))] [] (mj_Sh, (st M [(145, (pU (M 145) q k)), (146, (pU (M 146) q (tpN k n)))]), (st N [(147, f)])) (fun r Z => r = some (.inl (qTape ((q : Nat) : Int) k n)) ∧ Z = (mj_Sh, st M [(145, aTpS (M 145) ((q : Nat) : Int) k n), (146, aTpI (M 146) ((q : Nat) : Int) k n)], st N [(147, aTpC (N 147) ((q : Nat) : Int) k n)])) := by
              refine up_to (tpN k n).toNat ?_ ?_
              · show ∀ f : Nat → Int64, (∀ c, f c = if 60 * q ≤ c ∧ c < 60 * q + (tpN k n).toNat then Int64.ofInt 0 else N 147 c) → mj_T K d 183 67 [some (.inr (.inr (.inl 126))), some (.inl ((q : Nat) : Int)), some (.inl k), some (.inl n), some (.inl (((tpN k n).toNat : Nat) : Int))] [] (mj_Sh, (st M [(145, (pU (M 145) q k)), (146, (pU (M 146) q (tpN k n)))]), (st N [(147, f)])) (fun r Z => r = some (.inl (qTape ((q : Nat) : Int) k n)) ∧ Z = (mj_Sh, st M [(145, aTpS (M 145) ((q : Nat) : Int) k n), (146, aTpI (M 146) ((q : Nat) : Int) k n)], st N [(147, aTpC (N 147) ((q : Nat) : Int) k n)]))
                intro f hf
                refine tw_iload k183_67 rfl ?_
                refine tw_aload k183_69 rfl ?_
                refine tw_getr k183_70 f126_27 ?_
                refine tw_iload k183_73 rfl ?_
                refine tw_iald (j := q) (v := (tpN k n)) k183_74 al146 rfl (by omega) (show (pU (M 146) q (tpN k n)) q = _ from pU_eq) ?_
                refine tw_cgeT k183_75 (by omega) ?_
                refine tw_const k183_97 ?_
                exact tw_ri k183_98 (⟨by unfold qTape; (try simp only [Int.toNat_natCast]); (repeat' split) <;> first | rfl | omega, by unfold aTpS aTpI aTpC; rw [if_pos htp, if_pos htp, if_pos htp, show f = _ from funext hf]; rfl⟩)
              · intro i hmi ih
                have ih : ∀ f : Nat → Int64, (∀ c, f c = if 60 * q ≤ c ∧ c < 60 * q + (i + 1) then Int64.ofInt 0 else N 147 c) → mj_T K d 183 67 [some (.inr (.inr (.inl 126))), some (.inl ((q : Nat) : Int)), some (.inl k), some (.inl n), some (.inl (((i + 1) : Nat) : Int))] [] (mj_Sh, (st M [(145, (pU (M 145) q k)), (146, (pU (M 146) q (tpN k n)))]), (st N [(147, f)])) (fun r Z => r = some (.inl (qTape ((q : Nat) : Int) k n)) ∧ Z = (mj_Sh, st M [(145, aTpS (M 145) ((q : Nat) : Int) k n), (146, aTpI (M 146) ((q : Nat) : Int) k n)], st N [(147, aTpC (N 147) ((q : Nat) : Int) k n)])) := ih
                show ∀ f : Nat → Int64, (∀ c, f c = if 60 * q ≤ c ∧ c < 60 * q + i then Int64.ofInt 0 else N 147 c) → mj_T K d 183 67 [some (.inr (.inr (.inl 126))), some (.inl ((q : Nat) : Int)), some (.inl k), some (.inl n), some (.inl ((i : Nat) : Int))] [] (mj_Sh, (st M [(145, (pU (M 145) q k)), (146, (pU (M 146) q (tpN k n)))]), (st N [(147, f)])) (fun r Z => r = some (.inl (qTape ((q : Nat) : Int) k n)) ∧ Z = (mj_Sh, st M [(145, aTpS (M 145) ((q : Nat) : Int) k n), (146, aTpI (M 146) ((q : Nat) : Int) k n)], st N [(147, aTpC (N 147) ((q : Nat) : Int) k n)]))
                intro f hf
                refine tw_iload k183_67 rfl ?_
                refine tw_aload k183_69 rfl ?_
                refine tw_getr k183_70 f126_27 ?_
                refine tw_iload k183_73 rfl ?_
                refine tw_iald (j := q) (v := (tpN k n)) k183_74 al146 rfl (by omega) (show (pU (M 146) q (tpN k n)) q = _ from pU_eq) ?_
                refine tw_cgeF k183_75 (by omega) ?_
                refine tw_aload k183_78 rfl ?_
                refine tw_getr k183_79 f126_28 ?_
                refine tw_const k183_82 ?_
                refine tw_iload k183_84 rfl ?_
                refine tw_imul k183_85 (v := ((60 * q : Nat) : Int)) rfl (by omega) ?_
                refine tw_iload k183_86 rfl ?_
                refine tw_iadd k183_88 (v := (((60 * q) + i : Nat) : Int)) rfl (by omega) ?_
                refine tw_lconst k183_89 ?_
                refine tw_last (M := (st M [(145, (pU (M 145) q k)), (146, (pU (M 146) q (tpN k n)))])) (N := N) (l := [(147, f)]) (l' := [(147, (pU f (60 * q + i) (Int64.ofInt 0)))]) (j := (60 * q + i)) k183_90 al147 (by omega) (by omega) rfl ?_
                refine tw_iinc k183_91 rfl (v := ((i + 1 : Nat) : Int)) rfl (by omega) rfl (L' := [some (.inr (.inr (.inl 126))), some (.inl ((q : Nat) : Int)), some (.inl k), some (.inl n), some (.inl ((i + 1 : Nat) : Int))]) rfl ?_
                refine tw_goto k183_94 ?_
                refine ih _ (fun c => ?_)
                by_cases e : c = 60 * q + i
                · subst e; rw [pU_eq, if_pos (by omega)]
                · rw [pU_ne e, hf c]
                  by_cases e2 : 60 * q ≤ c ∧ c < 60 * q + i
                  · rw [if_pos e2, if_pos (by omega)]
                  · rw [if_neg e2, if_neg (by omega)]
            refine tw_aload k183_42 rfl ?_
            refine tw_getr k183_43 f126_26 ?_
            refine tw_iload k183_46 rfl ?_
            refine tw_iload k183_47 rfl ?_
            refine tw_iast (M := M) (N := N) (l := []) (l' := [(145, (pU (M 145) q k))]) (j := q) k183_48 al145 rfl (by omega) rfl ?_
            refine tw_aload k183_49 rfl ?_
            refine tw_getr k183_50 f126_27 ?_
            refine tw_iload k183_53 rfl ?_
            refine tw_iload k183_54 rfl ?_
            refine tw_zge k183_55 (fun h55 => ?_) (fun h55 => ?_)
            · refine tw_iload k183_62 rfl ?_
              refine tw_iast (M := M) (N := N) (l := [(145, (pU (M 145) q k))]) (l' := [(145, (pU (M 145) q k)), (146, (pU (M 146) q n))]) (j := q) k183_63 al146 rfl (by omega) rfl ?_
              refine tw_const k183_64 ?_
              refine tw_istore k183_65 rfl (L' := [some (.inr (.inr (.inl 126))), some (.inl ((q : Nat) : Int)), some (.inl k), some (.inl n), some (.inl (0 : Int))]) rfl ?_
              refine tw_as (M := (st M [(145, (pU (M 145) q k)), (146, (pU (M 146) q (tpN k n)))])) (N := st N [(147, N 147)]) (by rw [show tpN k n = n by unfold tpN; rw [if_neg (by omega)]]) (st_self N [147]).symm ?_
              exact key 0 (by omega) _ (fun c => by rw [if_neg (by omega)])
            · refine tw_const k183_58 ?_
              refine tw_goto k183_59 ?_
              refine tw_iast (M := M) (N := N) (l := [(145, (pU (M 145) q k))]) (l' := [(145, (pU (M 145) q k)), (146, (pU (M 146) q (0 : Int)))]) (j := q) k183_63 al146 rfl (by omega) rfl ?_
              refine tw_const k183_64 ?_
              refine tw_istore k183_65 rfl (L' := [some (.inr (.inr (.inl 126))), some (.inl ((q : Nat) : Int)), some (.inl k), some (.inl n), some (.inl (0 : Int))]) rfl ?_
              refine tw_as (M := (st M [(145, (pU (M 145) q k)), (146, (pU (M 146) q (tpN k n)))])) (N := st N [(147, N 147)]) (by rw [show tpN k n = (0 : Int) by unfold tpN; rw [if_pos (by omega)]]) (st_self N [147]).symm ?_
              exact key 0 (by omega) _ (fun c => by rw [if_neg (by omega)])
          · refine tw_iload k183_35 rfl ?_
            refine tw_zge k183_36 (fun h36 => ?_) (fun h36 => ?_)
            · have htp : tpK ((q : Nat) : Int) k n := by unfold tpK; omega
              have hn0 : 0 ≤ tpN k n ∧ tpN k n ≤ 60 := by unfold tpN; split <;> omega
              have key : ∀ i : Nat, i ≤ (tpN k n).toNat → ∀ f : Nat → Int64, (∀ c, f c = if 60 * q ≤ c ∧ c < 60 * q + i then Int64.ofInt 0 else N 147 c) → mj_T K d 183 67 [some (.inr (.inr (.inl 126))), some (.inl ((q : Nat) : Int)), some (.inl k), some (.inl n), some (.inl ((i : Nat) : Int))] [] (mj_Sh, (st M [(145, (pU (M 145) q k)), (146, (pU (M 146) q (tpN k n)))]), (st N [(147, f)])) (fun r Z => r = some (.inl (qTape ((q : Nat) : Int) k n)) ∧ Z = (mj_Sh, st M [(145, aTpS (M 145) ((q : Nat) : Int) k n), (146, aTpI (M 146) ((q : Nat) : Int) k n)], st N [(147, aTpC (N 147) ((q : Nat) : Int) k n)])) := by
                refine up_to (tpN k n).toNat ?_ ?_
                · show ∀ f : Nat → Int64, (∀ c, f c = if 60 * q ≤ c ∧ c < 60 * q + (tpN k n).toNat then Int64.ofInt 0 else N 147 c) → mj_T K d 183 67 [some (.inr (.inr (.inl 126))), some (.inl ((q : Nat) : Int)), some (.inl k), some (.inl n), some (.inl (((tpN k n).toNat : Nat) : Int))] [] (mj_Sh, (st M [(145, (pU (M 145) q k)), (146, (pU (M 146) q (tpN k n)))]), (st N [(147, f)])) (fun r Z => r = some (.inl (qTape ((q : Nat) : Int) k n)) ∧ Z = (mj_Sh, st M [(145, aTpS (M 145) ((q : Nat) : Int) k n), (146, aTpI (M 146) ((q : Nat) : Int) k n)], st N [(147, aTpC (N 147) ((q : Nat) : Int) k n)]))
                  intro f hf
                  refine tw_iload k183_67 rfl ?_
                  refine tw_aload k183_69 rfl ?_
                  refine tw_getr k183_70 f126_27 ?_
                  refine tw_iload k183_73 rfl ?_
                  refine tw_iald (j := q) (v := (tpN k n)) k183_74 al146 rfl (by omega) (show (pU (M 146) q (tpN k n)) q = _ from pU_eq) ?_
                  refine tw_cgeT k183_75 (by omega) ?_
                  refine tw_const k183_97 ?_
                  exact tw_ri k183_98 (⟨by unfold qTape; (try simp only [Int.toNat_natCast]); (repeat' split) <;> first | rfl | omega, by unfold aTpS aTpI aTpC; rw [if_pos htp, if_pos htp, if_pos htp, show f = _ from funext hf]; rfl⟩)
                · intro i hmi ih
                  have ih : ∀ f : Nat → Int64, (∀ c, f c = if 60 * q ≤ c ∧ c < 60 * q + (i + 1) then Int64.ofInt 0 else N 147 c) → mj_T K d 183 67 [some (.inr (.inr (.inl 126))), some (.inl ((q : Nat) : Int)), some (.inl k), some (.inl n), some (.inl (((i + 1) : Nat) : Int))] [] (mj_Sh, (st M [(145, (pU (M 145) q k)), (146, (pU (M 146) q (tpN k n)))]), (st N [(147, f)])) (fun r Z => r = some (.inl (qTape ((q : Nat) : Int) k n)) ∧ Z = (mj_Sh, st M [(145, aTpS (M 145) ((q : Nat) : Int) k n), (146, aTpI (M 146) ((q : Nat) : Int) k n)], st N [(147, aTpC (N 147) ((q : Nat) : Int) k n)])) := ih
                  show ∀ f : Nat → Int64, (∀ c, f c = if 60 * q ≤ c ∧ c < 60 * q + i then Int64.ofInt 0 else N 147 c) → mj_T K d 183 67 [some (.inr (.inr (.inl 126))), some (.inl ((q : Nat) : Int)), some (.inl k), some (.inl n), some (.inl ((i : Nat) : Int))] [] (mj_Sh, (st M [(145, (pU (M 145) q k)), (146, (pU (M 146) q (tpN k n)))]), (st N [(147, f)])) (fun r Z => r = some (.inl (qTape ((q : Nat) : Int) k n)) ∧ Z = (mj_Sh, st M [(145, aTpS (M 145) ((q : Nat) : Int) k n), (146, aTpI (M 146) ((q : Nat) : Int) k n)], st N [(147, aTpC (N 147) ((q : Nat) : Int) k n)]))
                  intro f hf
                  refine tw_iload k183_67 rfl ?_
                  refine tw_aload k183_69 rfl ?_
                  refine tw_getr k183_70 f126_27 ?_
                  refine tw_iload k183_73 rfl ?_
                  refine tw_iald (j := q) (v := (tpN k n)) k183_74 al146 rfl (by omega) (show (pU (M 146) q (tpN k n)) q = _ from pU_eq) ?_
                  refine tw_cgeF k183_75 (by omega) ?_
                  refine tw_aload k183_78 rfl ?_
                  refine tw_getr k183_79 f126_28 ?_
                  refine tw_const k183_82 ?_
                  refine tw_iload k183_84 rfl ?_
                  refine tw_imul k183_85 (v := ((60 * q : Nat) : Int)) rfl (by omega) ?_
                  refine tw_iload k183_86 rfl ?_
                  refine tw_iadd k183_88 (v := (((60 * q) + i : Nat) : Int)) rfl (by omega) ?_
                  refine tw_lconst k183_89 ?_
                  refine tw_last (M := (st M [(145, (pU (M 145) q k)), (146, (pU (M 146) q (tpN k n)))])) (N := N) (l := [(147, f)]) (l' := [(147, (pU f (60 * q + i) (Int64.ofInt 0)))]) (j := (60 * q + i)) k183_90 al147 (by omega) (by omega) rfl ?_
                  refine tw_iinc k183_91 rfl (v := ((i + 1 : Nat) : Int)) rfl (by omega) rfl (L' := [some (.inr (.inr (.inl 126))), some (.inl ((q : Nat) : Int)), some (.inl k), some (.inl n), some (.inl ((i + 1 : Nat) : Int))]) rfl ?_
                  refine tw_goto k183_94 ?_
                  refine ih _ (fun c => ?_)
                  by_cases e : c = 60 * q + i
                  · subst e; rw [pU_eq, if_pos (by omega)]
                  · rw [pU_ne e, hf c]
                    by_cases e2 : 60 * q ≤ c ∧ c < 60 * q + i
                    · rw [if_pos e2, if_pos (by omega)]
                    · rw [if_neg e2, if_neg (by omega)]
              refine tw_aload k183_42 rfl ?_
              refine tw_getr k183_43 f126_26 ?_
              refine tw_iload k183_46 rfl ?_
              refine tw_iload k183_47 rfl ?_
              refine tw_iast (M := M) (N := N) (l := []) (l' := [(145, (pU (M 145) q k))]) (j := q) k183_48 al145 rfl (by omega) rfl ?_
              refine tw_aload k183_49 rfl ?_
              refine tw_getr k183_50 f126_27 ?_
              refine tw_iload k183_53 rfl ?_
              refine tw_iload k183_54 rfl ?_
              refine tw_zge k183_55 (fun h55 => ?_) (fun h55 => ?_)
              · refine tw_iload k183_62 rfl ?_
                refine tw_iast (M := M) (N := N) (l := [(145, (pU (M 145) q k))]) (l' := [(145, (pU (M 145) q k)), (146, (pU (M 146) q n))]) (j := q) k183_63 al146 rfl (by omega) rfl ?_
                refine tw_const k183_64 ?_
                refine tw_istore k183_65 rfl (L' := [some (.inr (.inr (.inl 126))), some (.inl ((q : Nat) : Int)), some (.inl k), some (.inl n), some (.inl (0 : Int))]) rfl ?_
                refine tw_as (M := (st M [(145, (pU (M 145) q k)), (146, (pU (M 146) q (tpN k n)))])) (N := st N [(147, N 147)]) (by rw [show tpN k n = n by unfold tpN; rw [if_neg (by omega)]]) (st_self N [147]).symm ?_
                exact key 0 (by omega) _ (fun c => by rw [if_neg (by omega)])
              · refine tw_const k183_58 ?_
                refine tw_goto k183_59 ?_
                refine tw_iast (M := M) (N := N) (l := [(145, (pU (M 145) q k))]) (l' := [(145, (pU (M 145) q k)), (146, (pU (M 146) q (0 : Int)))]) (j := q) k183_63 al146 rfl (by omega) rfl ?_
                refine tw_const k183_64 ?_
                refine tw_istore k183_65 rfl (L' := [some (.inr (.inr (.inl 126))), some (.inl ((q : Nat) : Int)), some (.inl k), some (.inl n), some (.inl (0 : Int))]) rfl ?_
                refine tw_as (M := (st M [(145, (pU (M 145) q k)), (146, (pU (M 146) q (tpN k n)))])) (N := st N [(147, N 147)]) (by rw [show tpN k n = (0 : Int) by unfold tpN; rw [if_pos (by omega)]]) (st_self N [147]).symm ?_
                exact key 0 (by omega) _ (fun c => by rw [if_neg (by omega)])
            · refine tw_const k183_39 ?_
              exact tw_ri k183_41 (⟨by unfold qTape; (try simp only [Int.toNat_natCast]); (repeat' split) <;> first | rfl | omega, by have h := tp_no (so := M 145) (it := M 146) (ce := N 147) (show ¬ tpK ((q : Nat) : Int) k n by unfold tpK; omega); rw [h.1, h.2.1, h.2.2]; exact st_3r⟩)
        · refine tw_const k183_28 ?_
          exact tw_ri k183_30 (⟨by unfold qTape; (try simp only [Int.toNat_natCast]); (repeat' split) <;> first | rfl | omega, by have h := tp_no (so := M 145) (it := M 146) (ce := N 147) (show ¬ tpK ((q : Nat) : Int) k n by unfold tpK; omega); rw [h.1, h.2.1, h.2.2]; exact st_3r⟩)
    · refine tw_zeqT k183_15 (by decide) ?_
      refine tw_const k183_28 ?_
      exact tw_ri k183_30 (⟨by unfold qTape; (try simp only [Int.toNat_natCast]); (repeat' split) <;> first | rfl | omega, by have h := tp_no (so := M 145) (it := M 146) (ce := N 147) (show ¬ tpK ((q : Nat) : Int) k n by unfold tpK; omega); rw [h.1, h.2.1, h.2.2]; exact st_3r⟩)
  · refine tw_iload k183_0 rfl ?_
    refine tw_callbF (by omega) (S' := []) (as := [.inl t]) k183_1 (x_178 (by omega) t) rfl rfl rfl rfl rfl hyy ?_
    refine tw_zneF k183_4 (by decide) ?_
    refine tw_const k183_7 ?_
    exact tw_ri k183_8 (⟨by unfold qTape; (try simp only [Int.toNat_natCast]); (repeat' split) <;> first | rfl | omega, by have h := tp_no (so := M 145) (it := M 146) (ce := N 147) (show ¬ tpK t k n by unfold tpK; omega); rw [h.1, h.2.1, h.2.2]; exact st_3r⟩)
theorem x_184 {K : mj_C} {d : Nat} {M : Nat → Nat → Int} {N : Nat → Nat → Int64} (hD : 2 ≤ d) (hT : tOk (M 145) (M 146)) (t i : Int) (v : Int64) : mj_X K d 184 [.inr (.inr (.inl 126)), .inl t, .inl i, .inr (.inl v)] (mj_Sh, M, N) (fun r Z => r = some (.inl (qItem (M 145) (M 146) t i)) ∧ Z = (mj_Sh, M, st N [(147, aItem (M 145) (M 146) (N 147) t i v)])) := by
  show mj_T K d 184 0 [some (.inr (.inr (.inl 126))), some (.inl t), some (.inl i), some (.inr (.inl v)), none] [] (mj_Sh, M, N) _
  by_cases hyy : 0 ≤ t ∧ t ≤ 5
  · obtain ⟨q, rfl⟩ : ∃ q : Nat, t = (q : Int) := ⟨t.toNat, by omega⟩
    have htk := hT q (by omega)
    by_cases hi0 : 0 ≤ i
    · obtain ⟨j, rfl⟩ : ∃ j : Nat, i = (j : Int) := ⟨i.toNat, by omega⟩
      refine tw_iload k184_0 rfl ?_
      refine tw_callbT (by omega) (S' := []) (as := [.inl ((q : Nat) : Int)]) k184_1 (x_178 (by omega) ((q : Nat) : Int)) rfl rfl rfl rfl rfl hyy ?_
      refine tw_zneT k184_4 (by decide) ?_
      refine tw_aload k184_9 rfl ?_
      refine tw_getr k184_10 f126_26 ?_
      refine tw_iload k184_13 rfl ?_
      refine tw_iald (j := q) (v := (M 145 q)) k184_14 al145 rfl (by omega) rfl ?_
      refine tw_zge k184_15 (fun h15 => ?_) (fun h15 => ?_)
      · refine tw_iload k184_21 rfl ?_
        refine tw_const k184_22 ?_
        refine tw_aload k184_23 rfl ?_
        refine tw_getr k184_24 f126_27 ?_
        refine tw_iload k184_27 rfl ?_
        refine tw_iald (j := q) (v := (M 146 q)) k184_28 al146 rfl (by omega) rfl ?_
        refine tw_const k184_29 ?_
        refine tw_isub k184_30 (v := ((M 146 q) - (1 : Int))) rfl (by omega) ?_
        refine tw_callb (by omega) (S' := []) (as := [.inl ((j : Nat) : Int), .inl (0 : Int), .inl ((M 146 q) - (1 : Int))]) k184_31 (x_112 ((j : Nat) : Int) (0 : Int) ((M 146 q) - (1 : Int))) rfl rfl rfl rfl rfl (fun h31 => ?_) (fun h31 => ?_)
        · refine tw_zneT k184_34 (by decide) ?_
          refine tw_aload k184_40 rfl ?_
          refine tw_getr k184_41 f126_28 ?_
          refine tw_const k184_44 ?_
          refine tw_iload k184_46 rfl ?_
          refine tw_imul k184_47 (v := ((60 * q : Nat) : Int)) rfl (by omega) ?_
          refine tw_iload k184_48 rfl ?_
          refine tw_iadd k184_49 (v := (((60 * q) + j : Nat) : Int)) rfl (by omega) ?_
          refine tw_aload k184_50 rfl ?_
          refine tw_getr k184_51 f126_26 ?_
          refine tw_iload k184_54 rfl ?_
          refine tw_iald (j := q) (v := (M 145 q)) k184_55 al145 rfl (by omega) rfl ?_
          refine tw_zne k184_56 (fun h56 => ?_) (fun h56 => ?_)
          · refine tw_aload k184_66 rfl ?_
            refine tw_getr k184_67 f126_26 ?_
            refine tw_iload k184_70 rfl ?_
            refine tw_iald (j := q) (v := (M 145 q)) k184_71 al145 rfl (by omega) rfl ?_
            refine tw_const k184_72 ?_
            refine tw_cne k184_73 (fun h73 => ?_) (fun h73 => ?_)
            · refine tw_aload k184_83 rfl ?_
              refine tw_getr k184_84 f126_26 ?_
              refine tw_iload k184_87 rfl ?_
              refine tw_iald (j := q) (v := (M 145 q)) k184_88 al145 rfl (by omega) rfl ?_
              refine tw_const k184_89 ?_
              refine tw_cne k184_90 (fun h90 => ?_) (fun h90 => ?_)
              · refine tw_aload k184_99 rfl ?_
                refine tw_getr k184_100 f126_26 ?_
                refine tw_iload k184_103 rfl ?_
                refine tw_iald (j := q) (v := (M 145 q)) k184_104 al145 rfl (by omega) rfl ?_
                refine tw_const k184_105 ?_
                refine tw_cne k184_106 (fun h106 => ?_) (fun h106 => ?_)
                · refine tw_lload k184_113 rfl ?_
                  refine tw_lconst k184_114 ?_
                  refine tw_lcmp k184_115 ?_
                  refine tw_zeq k184_116 (fun h116 => ?_) (fun h116 => ?_)
                  · refine tw_lconst k184_123 ?_
                    refine tw_last (M := M) (N := N) (l := []) (l' := [(147, (pU (N 147) ((60 * q) + j) (Int64.ofInt 0)))]) (j := (60 * q) + j) k184_124 al147 rfl (by omega) rfl ?_
                    refine tw_const k184_125 ?_
                    exact tw_ri k184_126 (⟨by unfold qItem; (try simp only [Int.toNat_natCast]); (repeat' split) <;> first | rfl | omega, by unfold aItem tiK; simp only [Int.toNat_natCast]; rw [if_pos ⟨⟨by omega, by omega⟩, by omega, by omega, by omega⟩]; unfold lb lq; (repeat' split) <;> first | rfl | (exfalso; omega) | (exfalso; simp_all; done)⟩)
                  · refine tw_lconst k184_119 ?_
                    refine tw_goto k184_120 ?_
                    refine tw_last (M := M) (N := N) (l := []) (l' := [(147, (pU (N 147) ((60 * q) + j) (Int64.ofInt 1)))]) (j := (60 * q) + j) k184_124 al147 rfl (by omega) rfl ?_
                    refine tw_const k184_125 ?_
                    exact tw_ri k184_126 (⟨by unfold qItem; (try simp only [Int.toNat_natCast]); (repeat' split) <;> first | rfl | omega, by unfold aItem tiK; simp only [Int.toNat_natCast]; rw [if_pos ⟨⟨by omega, by omega⟩, by omega, by omega, by omega⟩]; unfold lb lq; (repeat' split) <;> first | rfl | (exfalso; omega) | (exfalso; simp_all; done)⟩)
                · refine tw_lload k184_109 rfl ?_
                  refine tw_goto k184_110 ?_
                  refine tw_last (M := M) (N := N) (l := []) (l' := [(147, (pU (N 147) ((60 * q) + j) v))]) (j := (60 * q) + j) k184_124 al147 rfl (by omega) rfl ?_
                  refine tw_const k184_125 ?_
                  exact tw_ri k184_126 (⟨by unfold qItem; (try simp only [Int.toNat_natCast]); (repeat' split) <;> first | rfl | omega, by unfold aItem tiK; simp only [Int.toNat_natCast]; rw [if_pos ⟨⟨by omega, by omega⟩, by omega, by omega, by omega⟩]; unfold lb lq; (repeat' split) <;> first | rfl | (exfalso; omega) | (exfalso; simp_all; done)⟩)
              · refine tw_lload k184_93 rfl ?_
                refine tw_l2i k184_94 ?_
                refine tw_i2l k184_95 ?_
                refine tw_goto k184_96 ?_
                refine tw_last (M := M) (N := N) (l := []) (l' := [(147, (pU (N 147) ((60 * q) + j) ((Int32.ofInt (v.toInt32.toInt)).toInt64)))]) (j := (60 * q) + j) k184_124 al147 rfl (by omega) rfl ?_
                refine tw_const k184_125 ?_
                exact tw_ri k184_126 (⟨by unfold qItem; (try simp only [Int.toNat_natCast]); (repeat' split) <;> first | rfl | omega, by unfold aItem tiK; simp only [Int.toNat_natCast]; rw [if_pos ⟨⟨by omega, by omega⟩, by omega, by omega, by omega⟩]; unfold lb lq; (repeat' split) <;> first | rfl | (exfalso; omega) | (exfalso; simp_all; done)⟩)
            · refine tw_lload k184_76 rfl ?_
              refine tw_l2i k184_77 ?_
              refine tw_i2s k184_78 ?_
              refine tw_i2l k184_79 ?_
              refine tw_goto k184_80 ?_
              refine tw_last (M := M) (N := N) (l := []) (l' := [(147, (pU (N 147) ((60 * q) + j) ((Int32.ofInt ((Int32.ofInt (v.toInt32.toInt)).toInt16.toInt32.toInt)).toInt64)))]) (j := (60 * q) + j) k184_124 al147 rfl (by omega) rfl ?_
              refine tw_const k184_125 ?_
              exact tw_ri k184_126 (⟨by unfold qItem; (try simp only [Int.toNat_natCast]); (repeat' split) <;> first | rfl | omega, by unfold aItem tiK; simp only [Int.toNat_natCast]; rw [if_pos ⟨⟨by omega, by omega⟩, by omega, by omega, by omega⟩]; unfold lb lq; (repeat' split) <;> first | rfl | (exfalso; omega) | (exfalso; simp_all; done)⟩)
          · refine tw_lload k184_59 rfl ?_
            refine tw_l2i k184_60 ?_
            refine tw_i2b k184_61 ?_
            refine tw_i2l k184_62 ?_
            refine tw_goto k184_63 ?_
            refine tw_last (M := M) (N := N) (l := []) (l' := [(147, (pU (N 147) ((60 * q) + j) ((Int32.ofInt ((Int32.ofInt (v.toInt32.toInt)).toInt8.toInt32.toInt)).toInt64)))]) (j := (60 * q) + j) k184_124 al147 rfl (by omega) rfl ?_
            refine tw_const k184_125 ?_
            exact tw_ri k184_126 (⟨by unfold qItem; (try simp only [Int.toNat_natCast]); (repeat' split) <;> first | rfl | omega, by unfold aItem tiK; simp only [Int.toNat_natCast]; rw [if_pos ⟨⟨by omega, by omega⟩, by omega, by omega, by omega⟩]; unfold lb lq; (repeat' split) <;> first | rfl | (exfalso; omega) | (exfalso; simp_all; done)⟩)
        · refine tw_zneF k184_34 (by decide) ?_
          refine tw_const k184_37 ?_
          exact tw_ri k184_39 (⟨by unfold qItem; (try simp only [Int.toNat_natCast]); (repeat' split) <;> first | rfl | omega, by rw [show aItem (M 145) (M 146) (N 147) ((q : Nat) : Int) ((j : Nat) : Int) v = N 147 from if_neg (by unfold tiK; (try simp only [Int.toNat_natCast]); omega), show st N [(147, N 147)] = N from st_self N [147]]⟩)
      · refine tw_const k184_18 ?_
        exact tw_ri k184_20 (⟨by unfold qItem; (try simp only [Int.toNat_natCast]); (repeat' split) <;> first | rfl | omega, by rw [show aItem (M 145) (M 146) (N 147) ((q : Nat) : Int) ((j : Nat) : Int) v = N 147 from if_neg (by unfold tiK; (try simp only [Int.toNat_natCast]); omega), show st N [(147, N 147)] = N from st_self N [147]]⟩)
    · refine tw_iload k184_0 rfl ?_
      refine tw_callbT (by omega) (S' := []) (as := [.inl ((q : Nat) : Int)]) k184_1 (x_178 (by omega) ((q : Nat) : Int)) rfl rfl rfl rfl rfl hyy ?_
      refine tw_zneT k184_4 (by decide) ?_
      refine tw_aload k184_9 rfl ?_
      refine tw_getr k184_10 f126_26 ?_
      refine tw_iload k184_13 rfl ?_
      refine tw_iald (j := q) (v := (M 145 q)) k184_14 al145 rfl (by omega) rfl ?_
      refine tw_zge k184_15 (fun h15 => ?_) (fun h15 => ?_)
      · refine tw_iload k184_21 rfl ?_
        refine tw_const k184_22 ?_
        refine tw_aload k184_23 rfl ?_
        refine tw_getr k184_24 f126_27 ?_
        refine tw_iload k184_27 rfl ?_
        refine tw_iald (j := q) (v := (M 146 q)) k184_28 al146 rfl (by omega) rfl ?_
        refine tw_const k184_29 ?_
        refine tw_isub k184_30 (v := ((M 146 q) - (1 : Int))) rfl (by omega) ?_
        refine tw_callbF (by omega) (S' := []) (as := [.inl i, .inl (0 : Int), .inl ((M 146 q) - (1 : Int))]) k184_31 (x_112 i (0 : Int) ((M 146 q) - (1 : Int))) rfl rfl rfl rfl rfl (by omega) ?_
        refine tw_zneF k184_34 (by decide) ?_
        refine tw_const k184_37 ?_
        exact tw_ri k184_39 (⟨by unfold qItem; (try simp only [Int.toNat_natCast]); (repeat' split) <;> first | rfl | omega, by rw [show aItem (M 145) (M 146) (N 147) ((q : Nat) : Int) i v = N 147 from if_neg (by unfold tiK; (try simp only [Int.toNat_natCast]); omega), show st N [(147, N 147)] = N from st_self N [147]]⟩)
      · refine tw_const k184_18 ?_
        exact tw_ri k184_20 (⟨by unfold qItem; (try simp only [Int.toNat_natCast]); (repeat' split) <;> first | rfl | omega, by rw [show aItem (M 145) (M 146) (N 147) ((q : Nat) : Int) i v = N 147 from if_neg (by unfold tiK; (try simp only [Int.toNat_natCast]); omega), show st N [(147, N 147)] = N from st_self N [147]]⟩)
  · refine tw_iload k184_0 rfl ?_
    refine tw_callbF (by omega) (S' := []) (as := [.inl t]) k184_1 (x_178 (by omega) t) rfl rfl rfl rfl rfl hyy ?_
    refine tw_zneF k184_4 (by decide) ?_
    refine tw_const k184_7 ?_
    exact tw_ri k184_8 (⟨by unfold qItem; (try simp only [Int.toNat_natCast]); (repeat' split) <;> first | rfl | omega, by rw [show aItem (M 145) (M 146) (N 147) t i v = N 147 from if_neg (by unfold tiK; (try simp only [Int.toNat_natCast]); omega), show st N [(147, N 147)] = N from st_self N [147]]⟩)
theorem x_185 {K : mj_C} {d : Nat} {M : Nat → Nat → Int} {N : Nat → Nat → Int64} (hD : 2 ≤ d) (hT : tOk (M 145) (M 146)) (t i : Int) : mj_X K d 185 [.inr (.inr (.inl 126)), .inl t, .inl i] (mj_Sh, M, N) (fun r Z => r = some (.inr (.inl (qPeek (M 145) (M 146) (N 147) t i))) ∧ Z = (mj_Sh, M, N)) := by
  show mj_T K d 185 0 [some (.inr (.inr (.inl 126))), some (.inl t), some (.inl i)] [] (mj_Sh, M, N) _
  by_cases hyy : 0 ≤ t ∧ t ≤ 5
  · obtain ⟨q, rfl⟩ : ∃ q : Nat, t = (q : Int) := ⟨t.toNat, by omega⟩
    have htk := hT q (by omega)
    by_cases hi0 : 0 ≤ i
    · obtain ⟨j, rfl⟩ : ∃ j : Nat, i = (j : Int) := ⟨i.toNat, by omega⟩
      refine tw_iload k185_0 rfl ?_
      refine tw_callbT (by omega) (S' := []) (as := [.inl ((q : Nat) : Int)]) k185_1 (x_178 (by omega) ((q : Nat) : Int)) rfl rfl rfl rfl rfl hyy ?_
      refine tw_zeqF k185_4 (by decide) ?_
      refine tw_aload k185_7 rfl ?_
      refine tw_getr k185_8 f126_26 ?_
      refine tw_iload k185_11 rfl ?_
      refine tw_iald (j := q) (v := (M 145 q)) k185_12 al145 rfl (by omega) rfl ?_
      refine tw_zlt k185_13 (fun h13 => ?_) (fun h13 => ?_)
      · refine tw_lconst k185_46 ?_
        exact tw_rl k185_49 (⟨by unfold qPeek; rw [if_neg (by unfold tiK; (try simp only [Int.toNat_natCast]); omega)]; rfl, rfl⟩)
      · refine tw_iload k185_16 rfl ?_
        refine tw_const k185_17 ?_
        refine tw_aload k185_18 rfl ?_
        refine tw_getr k185_19 f126_27 ?_
        refine tw_iload k185_22 rfl ?_
        refine tw_iald (j := q) (v := (M 146 q)) k185_23 al146 rfl (by omega) rfl ?_
        refine tw_const k185_24 ?_
        refine tw_isub k185_25 (v := ((M 146 q) - (1 : Int))) rfl (by omega) ?_
        refine tw_callb (by omega) (S' := []) (as := [.inl ((j : Nat) : Int), .inl (0 : Int), .inl ((M 146 q) - (1 : Int))]) k185_26 (x_112 ((j : Nat) : Int) (0 : Int) ((M 146 q) - (1 : Int))) rfl rfl rfl rfl rfl (fun h26 => ?_) (fun h26 => ?_)
        · refine tw_zeqF k185_29 (by decide) ?_
          refine tw_aload k185_32 rfl ?_
          refine tw_getr k185_33 f126_28 ?_
          refine tw_const k185_36 ?_
          refine tw_iload k185_38 rfl ?_
          refine tw_imul k185_39 (v := ((60 * q : Nat) : Int)) rfl (by omega) ?_
          refine tw_iload k185_40 rfl ?_
          refine tw_iadd k185_41 (v := (((60 * q) + j : Nat) : Int)) rfl (by omega) ?_
          refine tw_lald (j := (60 * q) + j) (v := (N 147 ((60 * q) + j))) k185_42 al147 rfl (by omega) rfl ?_
          refine tw_goto k185_43 ?_
          exact tw_rl k185_49 (⟨by unfold qPeek tiK; simp only [Int.toNat_natCast]; rw [if_pos ⟨⟨by omega, by omega⟩, by omega, by omega, by omega⟩], rfl⟩)
        · refine tw_zeqT k185_29 (by decide) ?_
          refine tw_lconst k185_46 ?_
          exact tw_rl k185_49 (⟨by unfold qPeek; rw [if_neg (by unfold tiK; (try simp only [Int.toNat_natCast]); omega)]; rfl, rfl⟩)
    · refine tw_iload k185_0 rfl ?_
      refine tw_callbT (by omega) (S' := []) (as := [.inl ((q : Nat) : Int)]) k185_1 (x_178 (by omega) ((q : Nat) : Int)) rfl rfl rfl rfl rfl hyy ?_
      refine tw_zeqF k185_4 (by decide) ?_
      refine tw_aload k185_7 rfl ?_
      refine tw_getr k185_8 f126_26 ?_
      refine tw_iload k185_11 rfl ?_
      refine tw_iald (j := q) (v := (M 145 q)) k185_12 al145 rfl (by omega) rfl ?_
      refine tw_zlt k185_13 (fun h13 => ?_) (fun h13 => ?_)
      · refine tw_lconst k185_46 ?_
        exact tw_rl k185_49 (⟨by unfold qPeek; rw [if_neg (by unfold tiK; (try simp only [Int.toNat_natCast]); omega)]; rfl, rfl⟩)
      · refine tw_iload k185_16 rfl ?_
        refine tw_const k185_17 ?_
        refine tw_aload k185_18 rfl ?_
        refine tw_getr k185_19 f126_27 ?_
        refine tw_iload k185_22 rfl ?_
        refine tw_iald (j := q) (v := (M 146 q)) k185_23 al146 rfl (by omega) rfl ?_
        refine tw_const k185_24 ?_
        refine tw_isub k185_25 (v := ((M 146 q) - (1 : Int))) rfl (by omega) ?_
        refine tw_callbF (by omega) (S' := []) (as := [.inl i, .inl (0 : Int), .inl ((M 146 q) - (1 : Int))]) k185_26 (x_112 i (0 : Int) ((M 146 q) - (1 : Int))) rfl rfl rfl rfl rfl (by omega) ?_
        refine tw_zeqT k185_29 (by decide) ?_
        refine tw_lconst k185_46 ?_
        exact tw_rl k185_49 (⟨by unfold qPeek; rw [if_neg (by unfold tiK; (try simp only [Int.toNat_natCast]); omega)]; rfl, rfl⟩)
  · refine tw_iload k185_0 rfl ?_
    refine tw_callbF (by omega) (S' := []) (as := [.inl t]) k185_1 (x_178 (by omega) t) rfl rfl rfl rfl rfl hyy ?_
    refine tw_zeqT k185_4 (by decide) ?_
    refine tw_lconst k185_46 ?_
    exact tw_rl k185_49 (⟨by unfold qPeek; rw [if_neg (by unfold tiK; (try simp only [Int.toNat_natCast]); omega)]; rfl, rfl⟩)
theorem fd_no {M : Nat → Nat → Int} {ln sign : Int} (h : ¬ ((0 ≤ sign ∧ sign ≤ 127) ∧ ln < 100)) (e : M 126 23 = ln) : (st M [(143, aFdT (M 143) ln sign), (126, pU (M 126) 23 (aFdL ln sign))]) = M := by
  unfold aFdT aFdL
  rw [if_neg h, if_neg h, ← e, show pU (M 126) 23 (M 126 23) = M 126 from by funext i; unfold pU; split; (rename_i q; rw [q]); rfl]
  exact st_self M [143, 126]
theorem x_139 {K : mj_C} {d : Nat} {M : Nat → Nat → Int} {N : Nat → Nat → Int64} (hD : 1 ≤ d) (hl : 0 ≤ M 126 23 ∧ M 126 23 ≤ 100) (sign : Int) : mj_X K d 139 [.inr (.inr (.inl 126)), .inl sign] (mj_Sh, M, N) (fun r Z => r = some (.inl (qFeed (M 126 23) sign)) ∧ Z = (mj_Sh, st M [(143, aFdT (M 143) (M 126 23) sign), (126, pU (M 126) 23 (aFdL (M 126 23) sign))], N)) := by
  show mj_T K d 139 0 [some (.inr (.inr (.inl 126))), some (.inl sign)] [] (mj_Sh, M, N) _
  obtain ⟨n, hn0⟩ : ∃ n : Nat, M 126 23 = (n : Int) := ⟨(M 126 23).toNat, by omega⟩
  refine tw_iload k139_0 rfl ?_
  refine tw_const k139_1 ?_
  refine tw_const k139_2 ?_
  refine tw_callb (by omega) (S' := []) (as := [.inl sign, .inl (0 : Int), .inl (127 : Int)]) k139_4 (x_112 sign (0 : Int) (127 : Int)) rfl rfl rfl rfl rfl (fun h4 => ?_) (fun h4 => ?_)
  · refine tw_zneT k139_7 (by decide) ?_
    refine tw_aload k139_13 rfl ?_
    refine tw_geti k139_14 f126_23 rfl (v := ((n : Nat) : Int)) hn0 ?_
    refine tw_const k139_17 ?_
    refine tw_cne k139_19 (fun h19 => ?_) (fun h19 => ?_)
    · refine tw_aload k139_25 rfl ?_
      refine tw_getr k139_26 f126_21 ?_
      refine tw_aload k139_29 rfl ?_
      refine tw_geti k139_30 f126_23 rfl (v := ((n : Nat) : Int)) hn0 ?_
      refine tw_iload k139_33 rfl ?_
      refine tw_iast (M := M) (N := N) (l := []) (l' := [(143, (pU (M 143) n sign))]) (j := n) k139_34 al143 rfl (by omega) rfl ?_
      refine tw_aload k139_35 rfl ?_
      refine tw_dupr k139_36 ?_
      refine tw_geti k139_37 f126_23 rfl (v := ((n : Nat) : Int)) (show M 126 23 = _ from hn0) ?_
      refine tw_const k139_40 ?_
      refine tw_iadd k139_41 (v := ((n + 1 : Nat) : Int)) rfl (by omega) ?_
      refine tw_puti (M := M) (N := N) (l := [(143, (pU (M 143) n sign))]) (l' := [(143, (pU (M 143) n sign)), (126, (pU (M 126) 23 ((n + 1 : Nat) : Int)))]) k139_42 f126_23 rfl ?_
      refine tw_aload k139_45 rfl ?_
      refine tw_geti k139_46 f126_23 rfl (v := (((n + 1) : Nat) : Int)) (show (pU (M 126) 23 ((n + 1 : Nat) : Int)) 23 = _ from pU_eq) ?_
      exact tw_ri k139_49 (⟨by unfold qFeed; rw [if_pos h4, if_pos (by omega)]; exact congrArg (fun x => some (Sum.inl x)) (by omega), by unfold aFdT aFdL; rw [if_pos ⟨h4, by omega⟩, if_pos ⟨h4, by omega⟩, show (M 126 23).toNat = n by omega, show M 126 23 + 1 = ((n + 1 : Nat) : Int) by omega]⟩)
    · refine tw_const k139_22 ?_
      exact tw_ri k139_24 (⟨by unfold qFeed; (try simp only [Int.toNat_natCast]); (repeat' split) <;> first | rfl | omega, by rw [fd_no (by omega) rfl]⟩)
  · refine tw_zneF k139_7 (by decide) ?_
    refine tw_const k139_10 ?_
    exact tw_ri k139_12 (⟨by unfold qFeed; (try simp only [Int.toNat_natCast]); (repeat' split) <;> first | rfl | omega, by rw [fd_no (by omega) rfl]⟩)
