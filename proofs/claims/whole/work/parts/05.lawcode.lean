-- the law's instructions, fifty at a time
theorem mj_lw0 : ((mj_c187.drop 0).take 40).all (mj_chk 187) = true := by decide +kernel
theorem mj_lw1 : ((mj_c187.drop 40).take 40).all (mj_chk 187) = true := by decide +kernel
theorem mj_lw2 : ((mj_c187.drop 80).take 40).all (mj_chk 187) = true := by decide +kernel
theorem mj_lw3 : ((mj_c187.drop 120).take 40).all (mj_chk 187) = true := by decide +kernel
theorem mj_lw4 : ((mj_c187.drop 160).take 40).all (mj_chk 187) = true := by decide +kernel
theorem mj_lw5 : ((mj_c187.drop 200).take 40).all (mj_chk 187) = true := by decide +kernel
theorem mj_lw6 : ((mj_c187.drop 240).take 40).all (mj_chk 187) = true := by decide +kernel
theorem mj_lw7 : ((mj_c187.drop 280).take 40).all (mj_chk 187) = true := by decide +kernel
theorem mj_lw8 : ((mj_c187.drop 320).take 40).all (mj_chk 187) = true := by decide +kernel
theorem mj_lw9 : ((mj_c187.drop 360).take 40).all (mj_chk 187) = true := by decide +kernel
theorem mj_lw10 : ((mj_c187.drop 400).take 40).all (mj_chk 187) = true := by decide +kernel
theorem mj_lw11 : ((mj_c187.drop 440).take 40).all (mj_chk 187) = true := by decide +kernel
theorem mj_lw12 : ((mj_c187.drop 480).take 40).all (mj_chk 187) = true := by decide +kernel
theorem mj_lw13 : ((mj_c187.drop 520).take 40).all (mj_chk 187) = true := by decide +kernel
theorem mj_lw14 : ((mj_c187.drop 560).take 40).all (mj_chk 187) = true := by decide +kernel
theorem mj_lw15 : ((mj_c187.drop 600).take 40).all (mj_chk 187) = true := by decide +kernel
theorem mj_lw16 : ((mj_c187.drop 640).take 40).all (mj_chk 187) = true := by decide +kernel
theorem mj_lw17 : ((mj_c187.drop 680).take 40).all (mj_chk 187) = true := by decide +kernel
theorem mj_lw18 : ((mj_c187.drop 720).take 40).all (mj_chk 187) = true := by decide +kernel
theorem mj_lw19 : ((mj_c187.drop 760).take 40).all (mj_chk 187) = true := by decide +kernel
theorem mj_lw20 : ((mj_c187.drop 800).take 40).all (mj_chk 187) = true := by decide +kernel
theorem mj_lw21 : ((mj_c187.drop 840).take 40).all (mj_chk 187) = true := by decide +kernel
theorem mj_lw22 : ((mj_c187.drop 880).take 40).all (mj_chk 187) = true := by decide +kernel
theorem mj_all_cut {α : Type} {f : α → Bool} {l : List α} (a b : Nat) (h1 : ((l.drop a).take b).all f = true) (h2 : (l.drop (a + b)).all f = true) : (l.drop a).all f = true := by
  rw [← List.take_append_drop b (l.drop a), List.all_append, h1, List.drop_drop, h2]
  rfl
theorem mj_lwE : (mj_c187.drop 920).all (mj_chk 187) = true := by decide +kernel
theorem mj_lwD22 : (mj_c187.drop 880).all (mj_chk 187) = true := mj_all_cut 880 40 mj_lw22 mj_lwE
theorem mj_lwD21 : (mj_c187.drop 840).all (mj_chk 187) = true := mj_all_cut 840 40 mj_lw21 mj_lwD22
theorem mj_lwD20 : (mj_c187.drop 800).all (mj_chk 187) = true := mj_all_cut 800 40 mj_lw20 mj_lwD21
theorem mj_lwD19 : (mj_c187.drop 760).all (mj_chk 187) = true := mj_all_cut 760 40 mj_lw19 mj_lwD20
theorem mj_lwD18 : (mj_c187.drop 720).all (mj_chk 187) = true := mj_all_cut 720 40 mj_lw18 mj_lwD19
theorem mj_lwD17 : (mj_c187.drop 680).all (mj_chk 187) = true := mj_all_cut 680 40 mj_lw17 mj_lwD18
theorem mj_lwD16 : (mj_c187.drop 640).all (mj_chk 187) = true := mj_all_cut 640 40 mj_lw16 mj_lwD17
theorem mj_lwD15 : (mj_c187.drop 600).all (mj_chk 187) = true := mj_all_cut 600 40 mj_lw15 mj_lwD16
theorem mj_lwD14 : (mj_c187.drop 560).all (mj_chk 187) = true := mj_all_cut 560 40 mj_lw14 mj_lwD15
theorem mj_lwD13 : (mj_c187.drop 520).all (mj_chk 187) = true := mj_all_cut 520 40 mj_lw13 mj_lwD14
theorem mj_lwD12 : (mj_c187.drop 480).all (mj_chk 187) = true := mj_all_cut 480 40 mj_lw12 mj_lwD13
theorem mj_lwD11 : (mj_c187.drop 440).all (mj_chk 187) = true := mj_all_cut 440 40 mj_lw11 mj_lwD12
theorem mj_lwD10 : (mj_c187.drop 400).all (mj_chk 187) = true := mj_all_cut 400 40 mj_lw10 mj_lwD11
theorem mj_lwD9 : (mj_c187.drop 360).all (mj_chk 187) = true := mj_all_cut 360 40 mj_lw9 mj_lwD10
theorem mj_lwD8 : (mj_c187.drop 320).all (mj_chk 187) = true := mj_all_cut 320 40 mj_lw8 mj_lwD9
theorem mj_lwD7 : (mj_c187.drop 280).all (mj_chk 187) = true := mj_all_cut 280 40 mj_lw7 mj_lwD8
theorem mj_lwD6 : (mj_c187.drop 240).all (mj_chk 187) = true := mj_all_cut 240 40 mj_lw6 mj_lwD7
theorem mj_lwD5 : (mj_c187.drop 200).all (mj_chk 187) = true := mj_all_cut 200 40 mj_lw5 mj_lwD6
theorem mj_lwD4 : (mj_c187.drop 160).all (mj_chk 187) = true := mj_all_cut 160 40 mj_lw4 mj_lwD5
theorem mj_lwD3 : (mj_c187.drop 120).all (mj_chk 187) = true := mj_all_cut 120 40 mj_lw3 mj_lwD4
theorem mj_lwD2 : (mj_c187.drop 80).all (mj_chk 187) = true := mj_all_cut 80 40 mj_lw2 mj_lwD3
theorem mj_lwD1 : (mj_c187.drop 40).all (mj_chk 187) = true := mj_all_cut 40 40 mj_lw1 mj_lwD2
theorem mj_lwD0 : (mj_c187.drop 0).all (mj_chk 187) = true := mj_all_cut 0 40 mj_lw0 mj_lwD1
theorem mj_ok187 : mj_ok 187 = true := mj_lwD0
