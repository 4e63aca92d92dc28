theorem au_1 {w : ai_W} {c s : Nat} : (aw_up w c s).1 = w.1 + c := rfl
theorem au_2 {w : ai_W} {c s : Nat} : (aw_up w c s).2.1 = w.2.1 + s := rfl
theorem au_3 {w : ai_W} {c s k : Nat} : (aw_up w c s).2.2 k = w.2.2 k := rfl
theorem s_dnew {w : ai_W} {d : Nat} (hd : w.1 + 1 = d) : ai_ev none 22 0 [some (.ref d)] [] (ai_add w 2 (.inr (1, [.null, .int 0]))) = some (none, dw (aw_up w 2 1399) d (fun _ => 0) 0) := by
  subst hd
  rw [s_dinit (d := w.1 + 1) rfl aw_an]
  refine congrArg (fun z => some (none, z)) (aw_ext rfl (by simp [dw, aw_up, ai_add] <;> omega) (fun k => ?_))
  by_cases h0 : k = w.1 + 1
  · simp [dw, h0]
  · simp [dw, ai_add, aw_up, h0]
theorem s_tnew {w : ai_W} {d : Nat} (hd : w.1 + 1 = d) : ai_ev none 59 0 [some (.ref d)] [] (ai_add w 2 (.inr (3, [.null, .int 0]))) = some (none, tw (aw_up w 2 1202) d (fun _ => 0) 0) := by
  subst hd
  rw [s_tinit (d := w.1 + 1) rfl aw_an]
  refine congrArg (fun z => some (none, z)) (aw_ext rfl (by simp [tw, aw_up, ai_add] <;> omega) (fun k => ?_))
  by_cases h0 : k = w.1 + 1
  · simp [tw, h0]
  · simp [tw, ai_add, aw_up, h0]
theorem s_gnew {w : ai_W} {d : Nat} (hd : w.1 + 1 = d) : ai_ev none 70 0 [some (.ref d)] [] (ai_add w 4 (.inr (4, [.null, .null, .null, .null]))) = some (none, gw (aw_up w 5 180) d (ar_f (fun _ => 0) 0 16 (-1)) (fun _ => 0) (fun _ => 0) (fun _ => 0)) := by
  subst hd
  rw [s_ginit (d := w.1 + 1) rfl aw_an]
  refine congrArg (fun z => some (none, z)) (aw_ext rfl (by simp [gw, aw_up, ai_add] <;> omega) (fun k => ?_))
  by_cases h0 : k = w.1 + 1
  · simp [gw, h0]
  · simp [gw, ai_add, aw_up, h0]
theorem s_fnew {w : ai_W} {d : Nat} (hd : w.1 + 1 = d) : ai_ev none 50 0 [some (.ref d)] [] (ai_add w 5 (.inr (2, [.null, .null, .int 0, .int 0, .null]))) = some (none, fw (aw_up w 4 66) d (fun _ => 0) (fun _ => 0) 0 0 (fun _ => 0)) := by
  subst hd
  rw [s_finit (d := w.1 + 1) rfl aw_an]
  refine congrArg (fun z => some (none, z)) (aw_ext rfl (by simp [fw, aw_up, ai_add] <;> omega) (fun k => ?_))
  by_cases h0 : k = w.1 + 1
  · simp [fw, h0]
  · simp [fw, ai_add, aw_up, h0]
theorem s_enew {w : ai_W} {d : Nat} (hd : w.1 + 1 = d) : ai_ev none 92 0 [some (.ref d)] [] (ai_add w 4 (.inr (5, [.null, .null, .null, .int 0]))) = some (none, ew (dw (dw (aw_up w 6 2850) (d + 1) (fun _ => 0) 0) (d + 3) (fun _ => 0) 0) d (fun _ => 0) 0) := by
  subst hd
  have e1 : ai_ev none 22 0 [some (.ref (w.1 + 1 + 1))] [] (ai_add (ai_add w 4 (.inr (5, [.null, .null, .null, .int 0]))) 2 (.inr (1, [.null, .int 0]))) = some (none, dw (aw_up (ai_add w 4 (.inr (5, [.null, .null, .null, .int 0]))) 2 1399) (w.1 + 1 + 1) (fun _ => 0) 0) := s_dnew rfl
  simp (disch := (first | omega | (simp only [aw_a1, aw_p1, au_1, dw_1]; first | done | omega))) only [eMerger_init_0, eMerger_init_1, eMerger_init_4, eMerger_init_5, eMerger_init_8, eMerger_init_9, eMerger_init_12, eMerger_init_15, eMerger_init_16, eMerger_init_19, eMerger_init_20, eMerger_init_23, eMerger_init_26, eMerger_init_27, eMerger_init_29, eMerger_init_31, eMerger_init_34, e1, s_dnew, aw_a1, aw_a2, aw_p1, aw_p2, aw_ao, aw_an, ai_put_eq, au_1, au_2, au_3, dw_1, dw_2, dw_go, ai_ai_at, ai_aj_at, ai_aq_at, ai_si_at, ai_sj_at, ai_sq_at, ai_cy_at, ai_al_at, ai_na_0, ai_na_1, ai_na_2, ai_na_3, ai_rc_at, ai_th_v, ai_th_n, ai_th_z, ai_sw, ai_nl_i, ai_nl_r, ai_nl_l, ai_nl_n, nI_clamp, nI_add, pk_mul, pk_sub, az_e0, az_l0, az_g0, az_p0, az_q0, az_eq, az_lt, az_le, az_m1, az_m2, az_m3, az_m4, az_m5, az_m6, az_m7, az_m8, az_dec, az_bd, az_b0, az_bt, az_bf, dn_leT, dn_leF, dn_ltT, dn_ltF, dn_eqT, dn_eqF, ↓reduceIte, if_true, if_false, not_true_eq_false, not_false_eq_true, true_and, and_true, false_and, and_false, true_or, or_true, false_or, or_false, Nat.reduceAdd, Nat.reduceMul, Nat.reduceSub, Nat.reduceLT, Nat.reduceLeDiff, Nat.reduceEqDiff, Nat.add_zero, Nat.zero_add, ne_eq, reduceCtorEq, decide_true, decide_false, Bool.true_eq_false, Bool.false_eq_true, Classical.not_not, gf_0_0, pf_0_0, gf_0_1, pf_0_1, gf_0_2, pf_0_2, gf_0_3, pf_0_3, gf_0_4, pf_0_4, gf_0_5, pf_0_5, gf_0_6, pf_0_6, gf_0_7, pf_0_7, gf_0_8, pf_0_8, gf_0_9, pf_0_9, gf_1_0, pf_1_0, gf_1_1, pf_1_1, gf_2_0, pf_2_0, gf_2_1, pf_2_1, gf_2_2, pf_2_2, gf_2_3, pf_2_3, gf_2_4, pf_2_4, gf_3_0, pf_3_0, gf_3_1, pf_3_1, gf_4_0, pf_4_0, gf_4_1, pf_4_1, gf_4_2, pf_4_2, gf_4_3, pf_4_3, gf_5_0, pf_5_0, gf_5_1, pf_5_1, gf_5_2, pf_5_2, gf_5_3, pf_5_3, gf_6_0, pf_6_0, gf_6_1, pf_6_1, gf_7_0, pf_7_0, gf_7_1, pf_7_1, gf_7_2, pf_7_2, gf_7_3, pf_7_3, gf_7_4, pf_7_4, gf_7_5, pf_7_5, gf_7_6, pf_7_6, gf_7_7, pf_7_7, gf_7_8, pf_7_8, gf_7_9, pf_7_9, gf_7_10, pf_7_10, gf_7_11, pf_7_11, gf_7_12, pf_7_12, gf_7_13, pf_7_13, gf_7_14, pf_7_14, gf_7_15, pf_7_15, gf_7_16, pf_7_16, gf_7_17, pf_7_17, gf_7_18, pf_7_18, gf_7_19, pf_7_19, gf_7_20, pf_7_20, gf_7_21, pf_7_21, gf_7_22, pf_7_22, gf_7_23, pf_7_23a, pf_7_23b]
  rw [s_dnew (by simp only [aw_a1, aw_p1, au_1, dw_1])]
  simp (disch := (first | omega | (simp only [aw_a1, aw_p1, au_1, dw_1]; omega))) only [eMerger_init_0, eMerger_init_1, eMerger_init_4, eMerger_init_5, eMerger_init_8, eMerger_init_9, eMerger_init_12, eMerger_init_15, eMerger_init_16, eMerger_init_19, eMerger_init_20, eMerger_init_23, eMerger_init_26, eMerger_init_27, eMerger_init_29, eMerger_init_31, eMerger_init_34, aw_a1, aw_a2, aw_p1, aw_p2, aw_ao, aw_an, ai_put_eq, au_1, au_2, au_3, dw_1, dw_2, dw_go, ai_ai_at, ai_aj_at, ai_aq_at, ai_si_at, ai_sj_at, ai_sq_at, ai_cy_at, ai_al_at, ai_na_0, ai_na_1, ai_na_2, ai_na_3, ai_rc_at, ai_th_v, ai_th_n, ai_th_z, ai_sw, ai_nl_i, ai_nl_r, ai_nl_l, ai_nl_n, nI_clamp, nI_add, pk_mul, pk_sub, az_e0, az_l0, az_g0, az_p0, az_q0, az_eq, az_lt, az_le, az_m1, az_m2, az_m3, az_m4, az_m5, az_m6, az_m7, az_m8, az_dec, az_bd, az_b0, az_bt, az_bf, dn_leT, dn_leF, dn_ltT, dn_ltF, dn_eqT, dn_eqF, ↓reduceIte, if_true, if_false, not_true_eq_false, not_false_eq_true, true_and, and_true, false_and, and_false, true_or, or_true, false_or, or_false, Nat.reduceAdd, Nat.reduceMul, Nat.reduceSub, Nat.reduceLT, Nat.reduceLeDiff, Nat.reduceEqDiff, Nat.add_zero, Nat.zero_add, ne_eq, reduceCtorEq, decide_true, decide_false, Bool.true_eq_false, Bool.false_eq_true, Classical.not_not, gf_0_0, pf_0_0, gf_0_1, pf_0_1, gf_0_2, pf_0_2, gf_0_3, pf_0_3, gf_0_4, pf_0_4, gf_0_5, pf_0_5, gf_0_6, pf_0_6, gf_0_7, pf_0_7, gf_0_8, pf_0_8, gf_0_9, pf_0_9, gf_1_0, pf_1_0, gf_1_1, pf_1_1, gf_2_0, pf_2_0, gf_2_1, pf_2_1, gf_2_2, pf_2_2, gf_2_3, pf_2_3, gf_2_4, pf_2_4, gf_3_0, pf_3_0, gf_3_1, pf_3_1, gf_4_0, pf_4_0, gf_4_1, pf_4_1, gf_4_2, pf_4_2, gf_4_3, pf_4_3, gf_5_0, pf_5_0, gf_5_1, pf_5_1, gf_5_2, pf_5_2, gf_5_3, pf_5_3, gf_6_0, pf_6_0, gf_6_1, pf_6_1, gf_7_0, pf_7_0, gf_7_1, pf_7_1, gf_7_2, pf_7_2, gf_7_3, pf_7_3, gf_7_4, pf_7_4, gf_7_5, pf_7_5, gf_7_6, pf_7_6, gf_7_7, pf_7_7, gf_7_8, pf_7_8, gf_7_9, pf_7_9, gf_7_10, pf_7_10, gf_7_11, pf_7_11, gf_7_12, pf_7_12, gf_7_13, pf_7_13, gf_7_14, pf_7_14, gf_7_15, pf_7_15, gf_7_16, pf_7_16, gf_7_17, pf_7_17, gf_7_18, pf_7_18, gf_7_19, pf_7_19, gf_7_20, pf_7_20, gf_7_21, pf_7_21, gf_7_22, pf_7_22, gf_7_23, pf_7_23a, pf_7_23b]
  refine congrArg (fun z => some (none, z)) (aw_ext rfl (by simp [ew, dw, aw_up, ai_add, ai_put] <;> omega) (fun k => ?_))
  by_cases h0 : k = w.1 + 1
  · simp [ai_put, ai_add, ew, dw, aw_up, h0]
  · by_cases h1 : k = w.1 + 2
    · simp [ai_put, ai_add, ew, dw, aw_up, h1]
    · by_cases h2 : k = w.1 + 3
      · simp [ai_put, ai_add, ew, dw, aw_up, h2]
      · by_cases h3 : k = w.1 + 4
        · simp [ai_put, ai_add, ew, dw, aw_up, h3]
        · by_cases h4 : k = w.1 + 5
          · simp [ai_put, ai_add, ew, dw, aw_up, h4]
          · by_cases h5 : k = w.1 + 6
            · simp [ai_put, ai_add, ew, dw, aw_up, h5]
            · simp [ai_put, ai_add, ew, dw, aw_up, h0, h1, h2, h3, h4, h5]
theorem au_u {w : ai_W} {c s c2 s2 : Nat} : aw_up (aw_up w c s) c2 s2 = aw_up w (c + c2) (s + s2) := by
  refine aw_ext ?_ ?_ (fun k => rfl)
  · simp only [aw_up]; omega
  · simp only [aw_up]; omega
