theorem bm_chkAll : ∀ M, M < 211 → bm_chkM M = true := fun M h =>
  if h0 : M < 10 then List.all_eq_true.mp bm_ok0 M (by simp; omega) else if h1 : M < 20 then List.all_eq_true.mp bm_ok1 M (by simp; omega) else if h2 : M < 30 then List.all_eq_true.mp bm_ok2 M (by simp; omega) else if h3 : M < 40 then List.all_eq_true.mp bm_ok3 M (by simp; omega) else if h4 : M < 50 then List.all_eq_true.mp bm_ok4 M (by simp; omega) else if h5 : M < 60 then List.all_eq_true.mp bm_ok5 M (by simp; omega) else if h6 : M < 70 then List.all_eq_true.mp bm_ok6 M (by simp; omega) else if h7 : M < 80 then List.all_eq_true.mp bm_ok7 M (by simp; omega) else if h8 : M < 90 then List.all_eq_true.mp bm_ok8 M (by simp; omega) else if h9 : M < 100 then List.all_eq_true.mp bm_ok9 M (by simp; omega) else if h10 : M < 110 then List.all_eq_true.mp bm_ok10 M (by simp; omega) else if h11 : M < 120 then List.all_eq_true.mp bm_ok11 M (by simp; omega) else if h12 : M < 130 then List.all_eq_true.mp bm_ok12 M (by simp; omega) else if h13 : M < 140 then List.all_eq_true.mp bm_ok13 M (by simp; omega) else if h14 : M < 150 then List.all_eq_true.mp bm_ok14 M (by simp; omega) else if h15 : M < 160 then List.all_eq_true.mp bm_ok15 M (by simp; omega) else if h16 : M < 170 then List.all_eq_true.mp bm_ok16 M (by simp; omega) else if h17 : M < 180 then List.all_eq_true.mp bm_ok17 M (by simp; omega) else if h18 : M < 190 then List.all_eq_true.mp bm_ok18 M (by simp; omega) else if h19 : M < 200 then List.all_eq_true.mp bm_ok19 M (by simp; omega) else if h20 : M < 210 then List.all_eq_true.mp bm_ok20 M (by simp; omega) else List.all_eq_true.mp bm_ok21 M (by simp; omega)
theorem bm_nthI_len : ∀ (l : List Instr) (j : Nat) (i : Instr), bm_nthI l j = some i → j < l.length
  | [], _, _, h => by cases h
  | a :: l, 0, _, _ => by simp
  | a :: l, j + 1, i, h => by
    have := bm_nthI_len l j i h
    simp
    exact this
theorem bm_lawlen : (bm_code 211).length = 1048 := by decide +kernel
theorem bm_factL (j : Nat) (i : Instr) (hj : bm_nthI (bm_code 211) j = some i) : bm_fact 211 j i :=
  have hl : j < 1048 := by have := bm_nthI_len _ _ _ hj; rw [bm_lawlen] at this; exact this
  if h0 : j < 60 then bm_fact_S bm_okL0 j i (by omega) (by omega) hj else if h1 : j < 120 then bm_fact_S bm_okL1 j i (by omega) (by omega) hj else if h2 : j < 180 then bm_fact_S bm_okL2 j i (by omega) (by omega) hj else if h3 : j < 240 then bm_fact_S bm_okL3 j i (by omega) (by omega) hj else if h4 : j < 300 then bm_fact_S bm_okL4 j i (by omega) (by omega) hj else if h5 : j < 360 then bm_fact_S bm_okL5 j i (by omega) (by omega) hj else if h6 : j < 420 then bm_fact_S bm_okL6 j i (by omega) (by omega) hj else if h7 : j < 480 then bm_fact_S bm_okL7 j i (by omega) (by omega) hj else if h8 : j < 540 then bm_fact_S bm_okL8 j i (by omega) (by omega) hj else if h9 : j < 600 then bm_fact_S bm_okL9 j i (by omega) (by omega) hj else if h10 : j < 660 then bm_fact_S bm_okL10 j i (by omega) (by omega) hj else if h11 : j < 720 then bm_fact_S bm_okL11 j i (by omega) (by omega) hj else if h12 : j < 780 then bm_fact_S bm_okL12 j i (by omega) (by omega) hj else if h13 : j < 840 then bm_fact_S bm_okL13 j i (by omega) (by omega) hj else if h14 : j < 900 then bm_fact_S bm_okL14 j i (by omega) (by omega) hj else if h15 : j < 960 then bm_fact_S bm_okL15 j i (by omega) (by omega) hj else if h16 : j < 1020 then bm_fact_S bm_okL16 j i (by omega) (by omega) hj else bm_fact_S bm_okL17 j i (by omega) (by omega) hj
theorem bm_facts (M j : Nat) (i : Instr) (h : M < 212) (hj : bm_nthI (bm_code M) j = some i) : bm_fact M j i := by
  rcases Nat.lt_or_ge M 211 with q | q
  · exact bm_fact_M (bm_chkAll M q) j i hj
  · have : M = 211 := by omega
    subst this
    exact bm_factL j i hj
