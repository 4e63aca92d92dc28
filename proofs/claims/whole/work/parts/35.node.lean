theorem cl3_in {ce : Nat → Int64} {p k : Nat} (h : k < 3) : cl3 ce p (6 * p + k) = 8589934592 := by
  unfold cl3
  rcases (show k = 0 ∨ k = 1 ∨ k = 2 by omega) with rfl | rfl | rfl
  · rw [uL_n (by omega), uL_n (by omega), Nat.add_zero, pk_uLs]
  · rw [uL_n (by omega), pk_uLs]
  · rw [pk_uLs]
theorem cl3_out {ce : Nat → Int64} {p q : Nat} (h : q < 6 * p ∨ 6 * p + 3 ≤ q) : cl3 ce p q = ce q := by
  unfold cl3
  rw [uL_n (by omega), uL_n (by omega), uL_n (by omega)]
theorem gsl_up {A : Nat → Int32} {j : Nat} {b c d : Int32} (hb : ¬ b = -1) (h : gsl A c d) : gsl (upd A j b) c d := by
  rcases h with h | h | ⟨h1, p, h2, h3, h4⟩
  · exact Or.inl h
  · exact Or.inr (Or.inl h)
  · refine Or.inr (Or.inr ⟨h1, p, h2, h3, ?_⟩)
    rw [ud_at]
    split
    · exact hb
    · exact h4
theorem go_new {n : Nat} {K A B C D : Nat → Int32} {b : Int32} (hn : n < 16) (hn1 : 1 ≤ n) (hb : b = nI 0 ∨ b = nI 1) (h : go n K A B C D) : go (n + 1) (upd K n b) (upd A n b) (upd B n (nI 0)) (ar_f C (n * 3) ((n + 1) * 3) (nI 0)) (ar_f D (n * 6) ((n + 1) * 6) (nI 0)) := by
  have hb1 : ¬ b = -1 := by rcases hb with rfl | rfl <;> decide +kernel
  refine ⟨by rw [ud_n (by omega)]; exact h.1, fun o ho => ?_⟩
  by_cases hon : o = n
  · subst hon
    have c1 : ∀ k, k < 3 → ar_f C (o * 3) ((o + 1) * 3) (nI 0) (o * 3 + k) = nI 0 := fun k hk => ar_f_in (by omega) (by omega)
    have d1 : ∀ k, k < 6 → ar_f D (o * 6) ((o + 1) * 6) (nI 0) (o * 6 + k) = nI 0 := fun k hk => ar_f_in (by omega) (by omega)
    rw [ud_s, ud_s, ud_s]
    rcases hb with rfl | rfl
    · exact Or.inr (Or.inl ⟨rfl, by omega, rfl, rfl, fun k hk => Or.inl ⟨c1 k hk, d1 k (by omega)⟩, fun k _ hk => d1 k hk⟩)
    · exact Or.inr (Or.inr ⟨rfl, by omega, rfl, c1, 0, by omega, rfl, fun k _ hk => d1 k hk⟩)
  · have c1 : ∀ k, k < 3 → ar_f C (n * 3) ((n + 1) * 3) (nI 0) (o * 3 + k) = C (o * 3 + k) := fun k hk => ar_f_out (by omega)
    have d1 : ∀ k, k < 6 → ar_f D (n * 6) ((n + 1) * 6) (nI 0) (o * 6 + k) = D (o * 6 + k) := fun k hk => ar_f_out (by omega)
    rw [ud_n hon, ud_n hon, ud_n hon]
    rcases h.2 o ho with ⟨h1, h2, h3, h4⟩ | ⟨h1, h2, h3, h4, h5, h6⟩ | ⟨h1, h2, h3, h4, m, h5, h6, h7⟩
    · exact Or.inl ⟨h1, h2, fun k hk => (c1 k hk).trans (h3 k hk), fun k hk => (d1 k hk).trans (h4 k hk)⟩
    · exact Or.inr (Or.inl ⟨h1, by omega, h3, h4, fun k hk => by rw [c1 k hk, d1 k (by omega)]; exact gsl_up hb1 (h5 k hk), fun k hk hk2 => (d1 k hk2).trans (h6 k hk hk2)⟩)
    · exact Or.inr (Or.inr ⟨h1, by omega, h3, fun k hk => (c1 k hk).trans (h4 k hk), m, h5, h6, fun k hk hk2 => (d1 k hk2).trans (h7 k hk hk2)⟩)
theorem gm_new {n : Nat} {li ha le : Nat → Int32} {ce : Nat → Int64} {A B C D : Nat → Int32} {b : Int32} (hn : n < 16) (hb : b = nI 0 ∨ b = nI 1) (h : gm li ha le ce 0 A B C D) : gm (upd li n b) (upd ha n (nI 1)) (upd le n (nI 0)) (cl3 ce n) 0 (upd A n b) (upd B n (nI 0)) (ar_f C (n * 3) ((n + 1) * 3) (nI 0)) (ar_f D (n * 6) ((n + 1) * 6) (nI 0)) := by
  intro o ho
  have e : 16 * 0 + o = o := by omega
  by_cases hon : o = n
  · subst hon
    rw [e, ud_s, ud_s, ud_s, ud_s, ud_s]
    rcases hb with rfl | rfl
    · refine Or.inr (Or.inl ⟨rfl, rfl, rfl, fun k hk => ?_⟩)
      rw [show 96 * 0 + 6 * o + k = 6 * o + k by omega, cl3_in hk, ar_f_in (by omega) (by omega), sv_0]
    · refine Or.inr (Or.inr ⟨rfl, rfl, rfl, rfl, fun k hk hk2 => ?_⟩)
      exact absurd hk2 (nI_nlt (by omega) (by omega))
  · rw [e, ud_n hon, ud_n hon, ud_n hon, ud_n hon, ud_n hon]
    have h2 := h o ho
    rw [e] at h2
    rcases h2 with ⟨q1, q2⟩ | ⟨q1, q2, q3, q4⟩ | ⟨q1, q2, q3, q4, q5⟩
    · exact Or.inl ⟨q1, q2⟩
    · refine Or.inr (Or.inl ⟨q1, q2, q3, fun k hk => ?_⟩)
      rw [cl3_out (by omega), ar_f_out (by omega), ar_f_out (by omega)]
      exact q4 k hk
    · refine Or.inr (Or.inr ⟨q1, q2, q3, q4, fun k hk hk2 => ?_⟩)
      rw [cl3_out (by omega), ar_f_out (by omega)]
      exact q5 k hk hk2
theorem go_more {n : Nat} {K A B C D : Nat → Int32} {b : Int32} (h : go n K A B C D) : go (n + 1) (upd K n b) A B C D := by
  refine ⟨h.1, fun o ho => ?_⟩
  rcases h.2 o ho with h1 | ⟨h1, h2, h3, h4⟩ | ⟨h1, h2, h3, h4⟩
  · exact Or.inl h1
  · exact Or.inr (Or.inl ⟨h1, by omega, (ud_n (by omega)).trans h3, h4⟩)
  · exact Or.inr (Or.inr ⟨h1, by omega, (ud_n (by omega)).trans h3, h4⟩)
theorem gm_more {n : Nat} {K li ha le : Nat → Int32} {ce : Nat → Int64} {g : Nat} {A B C D : Nat → Int32} {b : Int32} (hg : go n K A B C D) (h : gm li ha le ce g A B C D) : gm (upd li n b) ha le ce g A B C D := by
  intro o ho
  have lt : ¬ A o = -1 → o < n := by
    intro hA
    rcases hg.2 o ho with h1 | ⟨_, h2, _⟩ | ⟨_, h2, _⟩
    · exact absurd h1.1 hA
    · exact h2
    · exact h2
  rcases h o ho with ⟨q1, q2⟩ | ⟨q1, q2, q3, q4⟩ | ⟨q1, q2, q3, q4⟩
  · exact Or.inl ⟨q1, q2⟩
  · have := lt (by rw [q1]; decide +kernel)
    exact Or.inr (Or.inl ⟨q1, q2, (ud_n (by omega)).trans q3, q4⟩)
  · have := lt (by rw [q1]; decide +kernel)
    exact Or.inr (Or.inr ⟨q1, q2, (ud_n (by omega)).trans q3, q4⟩)
theorem op_node {w : ai_W} (h : rl w) (b : Int32) (hb : b = nI 0 ∨ b = nI 1) : ∃ a w1 w2, ai_ev none 14 0 [some (.ref 1), some (.int b), none] [] w = some (some (.int a), w1) ∧ ai_ev none 155 0 [some (.ref 65), some (.int b)] [] w1 = some (some (.int a), w2) ∧ rl w2 ∧ w2.1 = w.1 ∧ w2.2.1 = w.2.1 := by
  have hr := h
  obtain ⟨K, mc, vc, dl, sp, A, B, C, D, VA, VB, VC, VD, da, dc, ca, cn, ta, tn, mk, li, vs, ha, le, ce, re, co, cd, ob, sn, th, fo, fr, po, is, cs0, cf, dn, dr, wn, ou, pa, gd, n, v, ⟨hcs, hmw, h0, hn⟩, hK, hG, hV, hD, hC, hT⟩ := h
  have hg := hcs.1.2.1
  have e := xw_at hcs.1.1
  have e1 := xw_at1 hcs.1.1
  simp only [Nat.reduceAdd] at e e1
  obtain ⟨k1, k2, rfl, rfl, k5, k6⟩ := hK
  by_cases hf : n = 16
  · subst hf
    refine ⟨-2, w, w, ?_, ?_, hr, rfl, rfl⟩
    · simp (disch := omega) only [eGraphDeltas_node_0, eGraphDeltas_node_1, eGraphDeltas_node_4, eGraphDeltas_node_6, eGraphDeltas_node_9, eGraphDeltas_node_11, eGraphDeltas_node_12, eGraphDeltas_node_13, eGraphDeltas_node_16, eGraphDeltas_node_17, eGraphDeltas_node_18, eGraphDeltas_node_21, eGraphDeltas_node_22, eGraphDeltas_node_23, eGraphDeltas_node_26, eGraphDeltas_node_27, eGraphDeltas_node_30, eGraphDeltas_node_31, eGraphDeltas_node_32, eGraphDeltas_node_33, eGraphDeltas_node_36, eGraphDeltas_node_37, eGraphDeltas_node_38, eGraphDeltas_node_41, eGraphDeltas_node_42, eGraphDeltas_node_43, eGraphDeltas_node_46, eGraphDeltas_node_47, eGraphDeltas_node_48, eGraphDeltas_node_51, eGraphDeltas_node_52, eGraphDeltas_node_53, eGraphDeltas_node_56, eGraphDeltas_node_57, e, ai_ai_at, ai_aj_at, ai_aq_at, ai_si_at, ai_sj_at, ai_sq_at, ai_cy_at, ai_al_at, ai_na_0, ai_na_1, ai_na_2, ai_na_3, ai_rc_at, ai_th_v, ai_th_n, ai_th_z, ai_sw, ai_nl_i, ai_nl_r, ai_nl_l, ai_nl_n, nI_clamp, nI_add, pk_mul, pk_sub, az_e0, az_l0, az_g0, az_p0, az_q0, az_eq, az_lt, az_le, az_m1, az_m2, az_m3, az_m4, az_m5, az_m6, az_m7, az_m8, az_dec, az_bd, az_b0, az_bt, az_bf, dn_leT, dn_leF, dn_ltT, dn_ltF, dn_eqT, dn_eqF, ↓reduceIte, if_true, if_false, not_true_eq_false, not_false_eq_true, true_and, and_true, false_and, and_false, true_or, or_true, false_or, or_false, Nat.reduceAdd, Nat.reduceMul, Nat.reduceSub, Nat.reduceLT, Nat.reduceLeDiff, Nat.reduceEqDiff, Nat.add_zero, Nat.zero_add, ne_eq, reduceCtorEq, decide_true, decide_false, Bool.true_eq_false, Bool.false_eq_true, Classical.not_not, gf_0_0, pf_0_0, gf_0_1, pf_0_1, gf_0_2, pf_0_2, gf_0_3, pf_0_3, gf_0_4, pf_0_4, gf_0_5, pf_0_5, gf_0_6, pf_0_6, gf_0_7, pf_0_7, gf_0_8, pf_0_8, gf_0_9, pf_0_9, gf_1_0, pf_1_0, gf_1_1, pf_1_1, gf_2_0, pf_2_0, gf_2_1, pf_2_1, gf_2_2, pf_2_2, gf_2_3, pf_2_3, gf_2_4, pf_2_4, gf_3_0, pf_3_0, gf_3_1, pf_3_1, gf_4_0, pf_4_0, gf_4_1, pf_4_1, gf_4_2, pf_4_2, gf_4_3, pf_4_3, gf_5_0, pf_5_0, gf_5_1, pf_5_1, gf_5_2, pf_5_2, gf_5_3, pf_5_3, gf_6_0, pf_6_0, gf_6_1, pf_6_1, gf_7_0, pf_7_0, gf_7_1, pf_7_1, gf_7_2, pf_7_2, gf_7_3, pf_7_3, gf_7_4, pf_7_4, gf_7_5, pf_7_5, gf_7_6, pf_7_6, gf_7_7, pf_7_7, gf_7_8, pf_7_8, gf_7_9, pf_7_9, gf_7_10, pf_7_10, gf_7_11, pf_7_11, gf_7_12, pf_7_12, gf_7_13, pf_7_13, gf_7_14, pf_7_14, gf_7_15, pf_7_15, gf_7_16, pf_7_16, gf_7_17, pf_7_17, gf_7_18, pf_7_18, gf_7_19, pf_7_19, gf_7_20, pf_7_20, gf_7_21, pf_7_21, gf_7_22, pf_7_22, gf_7_23, pf_7_23a, pf_7_23b]
    · rw [← hmw]
      simp (disch := omega) only [eGraphDeltasModel_node_0, eGraphDeltasModel_node_1, eGraphDeltasModel_node_4, eGraphDeltasModel_node_6, eGraphDeltasModel_node_9, eGraphDeltasModel_node_11, eGraphDeltasModel_node_12, eGraphDeltasModel_node_13, eGraphDeltasModel_node_16, eGraphDeltasModel_node_17, eGraphDeltasModel_node_20, eGraphDeltasModel_node_21, eGraphDeltasModel_node_22, eGraphDeltasModel_node_23, eGraphDeltasModel_node_26, eGraphDeltasModel_node_27, eGraphDeltasModel_node_30, eGraphDeltasModel_node_31, eGraphDeltasModel_node_32, eGraphDeltasModel_node_33, eGraphDeltasModel_node_34, eGraphDeltasModel_node_37, eGraphDeltasModel_node_40, eGraphDeltasModel_node_41, eGraphDeltasModel_node_42, eGraphDeltasModel_node_45, eGraphDeltasModel_node_46, eGraphDeltasModel_node_47, eGraphDeltasModel_node_50, eGraphDeltasModel_node_51, eGraphDeltasModel_node_54, eGraphDeltasModel_node_55, eGraphDeltasModel_node_56, mw_w, ai_ai_at, ai_aj_at, ai_aq_at, ai_si_at, ai_sj_at, ai_sq_at, ai_cy_at, ai_al_at, ai_na_0, ai_na_1, ai_na_2, ai_na_3, ai_rc_at, ai_th_v, ai_th_n, ai_th_z, ai_sw, ai_nl_i, ai_nl_r, ai_nl_l, ai_nl_n, nI_clamp, nI_add, pk_mul, pk_sub, az_e0, az_l0, az_g0, az_p0, az_q0, az_eq, az_lt, az_le, az_m1, az_m2, az_m3, az_m4, az_m5, az_m6, az_m7, az_m8, az_dec, az_bd, az_b0, az_bt, az_bf, dn_leT, dn_leF, dn_ltT, dn_ltF, dn_eqT, dn_eqF, ↓reduceIte, if_true, if_false, not_true_eq_false, not_false_eq_true, true_and, and_true, false_and, and_false, true_or, or_true, false_or, or_false, Nat.reduceAdd, Nat.reduceMul, Nat.reduceSub, Nat.reduceLT, Nat.reduceLeDiff, Nat.reduceEqDiff, Nat.add_zero, Nat.zero_add, ne_eq, reduceCtorEq, decide_true, decide_false, Bool.true_eq_false, Bool.false_eq_true, Classical.not_not, gf_0_0, pf_0_0, gf_0_1, pf_0_1, gf_0_2, pf_0_2, gf_0_3, pf_0_3, gf_0_4, pf_0_4, gf_0_5, pf_0_5, gf_0_6, pf_0_6, gf_0_7, pf_0_7, gf_0_8, pf_0_8, gf_0_9, pf_0_9, gf_1_0, pf_1_0, gf_1_1, pf_1_1, gf_2_0, pf_2_0, gf_2_1, pf_2_1, gf_2_2, pf_2_2, gf_2_3, pf_2_3, gf_2_4, pf_2_4, gf_3_0, pf_3_0, gf_3_1, pf_3_1, gf_4_0, pf_4_0, gf_4_1, pf_4_1, gf_4_2, pf_4_2, gf_4_3, pf_4_3, gf_5_0, pf_5_0, gf_5_1, pf_5_1, gf_5_2, pf_5_2, gf_5_3, pf_5_3, gf_6_0, pf_6_0, gf_6_1, pf_6_1, gf_7_0, pf_7_0, gf_7_1, pf_7_1, gf_7_2, pf_7_2, gf_7_3, pf_7_3, gf_7_4, pf_7_4, gf_7_5, pf_7_5, gf_7_6, pf_7_6, gf_7_7, pf_7_7, gf_7_8, pf_7_8, gf_7_9, pf_7_9, gf_7_10, pf_7_10, gf_7_11, pf_7_11, gf_7_12, pf_7_12, gf_7_13, pf_7_13, gf_7_14, pf_7_14, gf_7_15, pf_7_15, gf_7_16, pf_7_16, gf_7_17, pf_7_17, gf_7_18, pf_7_18, gf_7_19, pf_7_19, gf_7_20, pf_7_20, gf_7_21, pf_7_21, gf_7_22, pf_7_22, gf_7_23, pf_7_23a, pf_7_23b, mw_1, mw_2, mw_g0, mw_g1, mw_g2, mw_g3, mw_g4, mw_g5, mw_g6, mw_g7, mw_g8, mw_g9, mw_g10, mw_g11, mw_g12, mw_g13, mw_g14, mw_g15, mw_g16, mw_g17, mw_go, mw_p0, mw_p1, mw_p2, mw_p3, mw_p4, mw_p5, mw_p6, mw_p7, mw_p8, mw_p9, mw_p10, mw_p11, mw_p12, mw_p13, mw_p14, mw_p15, mw_p16, mw_p17, mw_w]
  · have hn16 : n < 16 := by omega
    have hg2 : gw (xw w 1 (upd K n b) (nI n) x_V vc dl sp) 3 A B C D = xw w 1 (upd K n b) (nI n) x_V vc dl sp := gw_fr hg (fun k _ _ => xw_go (by omega) (by omega) (by omega))
    have ha1 := s_admit (x := b) hn16 hg2
    have eg : (xw w 1 (upd K n b) (nI n) x_V vc dl sp).2.2 3 = .inr (4, [.ref 4, .ref 5, .ref 6, .ref 7]) := gw_at hg2
    have hm1 : mw (gw (xw w 1 (upd K n b) (nI (n + 1)) x_V vc dl sp) 3 (upd A n b) (upd B n (nI 0)) (ar_f C (n * 3) ((n + 1) * 3) (nI 0)) (ar_f D (n * 6) ((n + 1) * 6) (nI 0))) 65 (nI n) li vs ha le ce re co cd ob sn th fo fr po is (cs0) cf dn dr wn ou pa gd = gw (xw w 1 (upd K n b) (nI (n + 1)) x_V vc dl sp) 3 (upd A n b) (upd B n (nI 0)) (ar_f C (n * 3) ((n + 1) * 3) (nI 0)) (ar_f D (n * 6) ((n + 1) * 6) (nI 0)) := mw_fr hmw (fun k _ _ => (gw_go (by omega)).trans (xw_go (by omega) (by omega) (by omega)))
    refine ⟨nI n, gw (xw w 1 (upd K n b) (nI (n + 1)) x_V vc dl sp) 3 (upd A n b) (upd B n (nI 0)) (ar_f C (n * 3) ((n + 1) * 3) (nI 0)) (ar_f D (n * 6) ((n + 1) * 6) (nI 0)), mw (gw (xw w 1 (upd K n b) (nI (n + 1)) x_V vc dl sp) 3 (upd A n b) (upd B n (nI 0)) (ar_f C (n * 3) ((n + 1) * 3) (nI 0)) (ar_f D (n * 6) ((n + 1) * 6) (nI 0))) 65 (nI (n + 1)) (upd li n b) vs (upd ha n (nI 1)) (upd le n (nI 0)) (cl3 ce n) re co cd ob sn th fo fr po is (cs0) cf dn dr wn ou pa gd, ?_, ?_, ?_, rfl, rfl⟩
    · rw [← hcs.1.1]
      rcases hb with rfl | rfl
      · simp (disch := omega) only [eGraphDeltas_node_0, eGraphDeltas_node_1, eGraphDeltas_node_4, eGraphDeltas_node_6, eGraphDeltas_node_9, eGraphDeltas_node_11, eGraphDeltas_node_12, eGraphDeltas_node_13, eGraphDeltas_node_16, eGraphDeltas_node_17, eGraphDeltas_node_18, eGraphDeltas_node_21, eGraphDeltas_node_22, eGraphDeltas_node_23, eGraphDeltas_node_26, eGraphDeltas_node_27, eGraphDeltas_node_30, eGraphDeltas_node_31, eGraphDeltas_node_32, eGraphDeltas_node_33, eGraphDeltas_node_36, eGraphDeltas_node_37, eGraphDeltas_node_38, eGraphDeltas_node_41, eGraphDeltas_node_42, eGraphDeltas_node_43, eGraphDeltas_node_46, eGraphDeltas_node_47, eGraphDeltas_node_48, eGraphDeltas_node_51, eGraphDeltas_node_52, eGraphDeltas_node_53, eGraphDeltas_node_56, eGraphDeltas_node_57, ha1, eg, ud_s, xw_w, gw_po, ai_ai_at, ai_aj_at, ai_aq_at, ai_si_at, ai_sj_at, ai_sq_at, ai_cy_at, ai_al_at, ai_na_0, ai_na_1, ai_na_2, ai_na_3, ai_rc_at, ai_th_v, ai_th_n, ai_th_z, ai_sw, ai_nl_i, ai_nl_r, ai_nl_l, ai_nl_n, nI_clamp, nI_add, pk_mul, pk_sub, az_e0, az_l0, az_g0, az_p0, az_q0, az_eq, az_lt, az_le, az_m1, az_m2, az_m3, az_m4, az_m5, az_m6, az_m7, az_m8, az_dec, az_bd, az_b0, az_bt, az_bf, dn_leT, dn_leF, dn_ltT, dn_ltF, dn_eqT, dn_eqF, ↓reduceIte, if_true, if_false, not_true_eq_false, not_false_eq_true, true_and, and_true, false_and, and_false, true_or, or_true, false_or, or_false, Nat.reduceAdd, Nat.reduceMul, Nat.reduceSub, Nat.reduceLT, Nat.reduceLeDiff, Nat.reduceEqDiff, Nat.add_zero, Nat.zero_add, ne_eq, reduceCtorEq, decide_true, decide_false, Bool.true_eq_false, Bool.false_eq_true, Classical.not_not, gf_0_0, pf_0_0, gf_0_1, pf_0_1, gf_0_2, pf_0_2, gf_0_3, pf_0_3, gf_0_4, pf_0_4, gf_0_5, pf_0_5, gf_0_6, pf_0_6, gf_0_7, pf_0_7, gf_0_8, pf_0_8, gf_0_9, pf_0_9, gf_1_0, pf_1_0, gf_1_1, pf_1_1, gf_2_0, pf_2_0, gf_2_1, pf_2_1, gf_2_2, pf_2_2, gf_2_3, pf_2_3, gf_2_4, pf_2_4, gf_3_0, pf_3_0, gf_3_1, pf_3_1, gf_4_0, pf_4_0, gf_4_1, pf_4_1, gf_4_2, pf_4_2, gf_4_3, pf_4_3, gf_5_0, pf_5_0, gf_5_1, pf_5_1, gf_5_2, pf_5_2, gf_5_3, pf_5_3, gf_6_0, pf_6_0, gf_6_1, pf_6_1, gf_7_0, pf_7_0, gf_7_1, pf_7_1, gf_7_2, pf_7_2, gf_7_3, pf_7_3, gf_7_4, pf_7_4, gf_7_5, pf_7_5, gf_7_6, pf_7_6, gf_7_7, pf_7_7, gf_7_8, pf_7_8, gf_7_9, pf_7_9, gf_7_10, pf_7_10, gf_7_11, pf_7_11, gf_7_12, pf_7_12, gf_7_13, pf_7_13, gf_7_14, pf_7_14, gf_7_15, pf_7_15, gf_7_16, pf_7_16, gf_7_17, pf_7_17, gf_7_18, pf_7_18, gf_7_19, pf_7_19, gf_7_20, pf_7_20, gf_7_21, pf_7_21, gf_7_22, pf_7_22, gf_7_23, pf_7_23a, pf_7_23b, gw_1, gw_2, gw_g0, gw_g1, gw_g2, gw_g3, gw_g4, gw_go, gw_p1, gw_p2, gw_p3, gw_p4, gw_w, xw_1, xw_2, xw_g0, xw_g1, xw_g7, xw_go, xw_p0, xw_p1, xw_p7, xw_w]
      · simp (disch := omega) only [eGraphDeltas_node_0, eGraphDeltas_node_1, eGraphDeltas_node_4, eGraphDeltas_node_6, eGraphDeltas_node_9, eGraphDeltas_node_11, eGraphDeltas_node_12, eGraphDeltas_node_13, eGraphDeltas_node_16, eGraphDeltas_node_17, eGraphDeltas_node_18, eGraphDeltas_node_21, eGraphDeltas_node_22, eGraphDeltas_node_23, eGraphDeltas_node_26, eGraphDeltas_node_27, eGraphDeltas_node_30, eGraphDeltas_node_31, eGraphDeltas_node_32, eGraphDeltas_node_33, eGraphDeltas_node_36, eGraphDeltas_node_37, eGraphDeltas_node_38, eGraphDeltas_node_41, eGraphDeltas_node_42, eGraphDeltas_node_43, eGraphDeltas_node_46, eGraphDeltas_node_47, eGraphDeltas_node_48, eGraphDeltas_node_51, eGraphDeltas_node_52, eGraphDeltas_node_53, eGraphDeltas_node_56, eGraphDeltas_node_57, ha1, eg, ud_s, xw_w, gw_po, ai_ai_at, ai_aj_at, ai_aq_at, ai_si_at, ai_sj_at, ai_sq_at, ai_cy_at, ai_al_at, ai_na_0, ai_na_1, ai_na_2, ai_na_3, ai_rc_at, ai_th_v, ai_th_n, ai_th_z, ai_sw, ai_nl_i, ai_nl_r, ai_nl_l, ai_nl_n, nI_clamp, nI_add, pk_mul, pk_sub, az_e0, az_l0, az_g0, az_p0, az_q0, az_eq, az_lt, az_le, az_m1, az_m2, az_m3, az_m4, az_m5, az_m6, az_m7, az_m8, az_dec, az_bd, az_b0, az_bt, az_bf, dn_leT, dn_leF, dn_ltT, dn_ltF, dn_eqT, dn_eqF, ↓reduceIte, if_true, if_false, not_true_eq_false, not_false_eq_true, true_and, and_true, false_and, and_false, true_or, or_true, false_or, or_false, Nat.reduceAdd, Nat.reduceMul, Nat.reduceSub, Nat.reduceLT, Nat.reduceLeDiff, Nat.reduceEqDiff, Nat.add_zero, Nat.zero_add, ne_eq, reduceCtorEq, decide_true, decide_false, Bool.true_eq_false, Bool.false_eq_true, Classical.not_not, gf_0_0, pf_0_0, gf_0_1, pf_0_1, gf_0_2, pf_0_2, gf_0_3, pf_0_3, gf_0_4, pf_0_4, gf_0_5, pf_0_5, gf_0_6, pf_0_6, gf_0_7, pf_0_7, gf_0_8, pf_0_8, gf_0_9, pf_0_9, gf_1_0, pf_1_0, gf_1_1, pf_1_1, gf_2_0, pf_2_0, gf_2_1, pf_2_1, gf_2_2, pf_2_2, gf_2_3, pf_2_3, gf_2_4, pf_2_4, gf_3_0, pf_3_0, gf_3_1, pf_3_1, gf_4_0, pf_4_0, gf_4_1, pf_4_1, gf_4_2, pf_4_2, gf_4_3, pf_4_3, gf_5_0, pf_5_0, gf_5_1, pf_5_1, gf_5_2, pf_5_2, gf_5_3, pf_5_3, gf_6_0, pf_6_0, gf_6_1, pf_6_1, gf_7_0, pf_7_0, gf_7_1, pf_7_1, gf_7_2, pf_7_2, gf_7_3, pf_7_3, gf_7_4, pf_7_4, gf_7_5, pf_7_5, gf_7_6, pf_7_6, gf_7_7, pf_7_7, gf_7_8, pf_7_8, gf_7_9, pf_7_9, gf_7_10, pf_7_10, gf_7_11, pf_7_11, gf_7_12, pf_7_12, gf_7_13, pf_7_13, gf_7_14, pf_7_14, gf_7_15, pf_7_15, gf_7_16, pf_7_16, gf_7_17, pf_7_17, gf_7_18, pf_7_18, gf_7_19, pf_7_19, gf_7_20, pf_7_20, gf_7_21, pf_7_21, gf_7_22, pf_7_22, gf_7_23, pf_7_23a, pf_7_23b, gw_1, gw_2, gw_g0, gw_g1, gw_g2, gw_g3, gw_g4, gw_go, gw_p1, gw_p2, gw_p3, gw_p4, gw_w, xw_1, xw_2, xw_g0, xw_g1, xw_g7, xw_go, xw_p0, xw_p1, xw_p7, xw_w]
    · rw [← hm1]
      have hnb : vp_nar .boolean b = b := by rcases hb with rfl | rfl <;> decide +kernel
      have hn1 : vp_nar .boolean (nI 1) = nI 1 := by decide +kernel
      simp (disch := omega) only [eGraphDeltasModel_node_0, eGraphDeltasModel_node_1, eGraphDeltasModel_node_4, eGraphDeltasModel_node_6, eGraphDeltasModel_node_9, eGraphDeltasModel_node_11, eGraphDeltasModel_node_12, eGraphDeltasModel_node_13, eGraphDeltasModel_node_16, eGraphDeltasModel_node_17, eGraphDeltasModel_node_20, eGraphDeltasModel_node_21, eGraphDeltasModel_node_22, eGraphDeltasModel_node_23, eGraphDeltasModel_node_26, eGraphDeltasModel_node_27, eGraphDeltasModel_node_30, eGraphDeltasModel_node_31, eGraphDeltasModel_node_32, eGraphDeltasModel_node_33, eGraphDeltasModel_node_34, eGraphDeltasModel_node_37, eGraphDeltasModel_node_40, eGraphDeltasModel_node_41, eGraphDeltasModel_node_42, eGraphDeltasModel_node_45, eGraphDeltasModel_node_46, eGraphDeltasModel_node_47, eGraphDeltasModel_node_50, eGraphDeltasModel_node_51, eGraphDeltasModel_node_54, eGraphDeltasModel_node_55, eGraphDeltasModel_node_56, m_clear, hnb, hn1, mw_w, Nat.add_sub_cancel, ai_ai_at, ai_aj_at, ai_aq_at, ai_si_at, ai_sj_at, ai_sq_at, ai_cy_at, ai_al_at, ai_na_0, ai_na_1, ai_na_2, ai_na_3, ai_rc_at, ai_th_v, ai_th_n, ai_th_z, ai_sw, ai_nl_i, ai_nl_r, ai_nl_l, ai_nl_n, nI_clamp, nI_add, pk_mul, pk_sub, az_e0, az_l0, az_g0, az_p0, az_q0, az_eq, az_lt, az_le, az_m1, az_m2, az_m3, az_m4, az_m5, az_m6, az_m7, az_m8, az_dec, az_bd, az_b0, az_bt, az_bf, dn_leT, dn_leF, dn_ltT, dn_ltF, dn_eqT, dn_eqF, ↓reduceIte, if_true, if_false, not_true_eq_false, not_false_eq_true, true_and, and_true, false_and, and_false, true_or, or_true, false_or, or_false, Nat.reduceAdd, Nat.reduceMul, Nat.reduceSub, Nat.reduceLT, Nat.reduceLeDiff, Nat.reduceEqDiff, Nat.add_zero, Nat.zero_add, ne_eq, reduceCtorEq, decide_true, decide_false, Bool.true_eq_false, Bool.false_eq_true, Classical.not_not, gf_0_0, pf_0_0, gf_0_1, pf_0_1, gf_0_2, pf_0_2, gf_0_3, pf_0_3, gf_0_4, pf_0_4, gf_0_5, pf_0_5, gf_0_6, pf_0_6, gf_0_7, pf_0_7, gf_0_8, pf_0_8, gf_0_9, pf_0_9, gf_1_0, pf_1_0, gf_1_1, pf_1_1, gf_2_0, pf_2_0, gf_2_1, pf_2_1, gf_2_2, pf_2_2, gf_2_3, pf_2_3, gf_2_4, pf_2_4, gf_3_0, pf_3_0, gf_3_1, pf_3_1, gf_4_0, pf_4_0, gf_4_1, pf_4_1, gf_4_2, pf_4_2, gf_4_3, pf_4_3, gf_5_0, pf_5_0, gf_5_1, pf_5_1, gf_5_2, pf_5_2, gf_5_3, pf_5_3, gf_6_0, pf_6_0, gf_6_1, pf_6_1, gf_7_0, pf_7_0, gf_7_1, pf_7_1, gf_7_2, pf_7_2, gf_7_3, pf_7_3, gf_7_4, pf_7_4, gf_7_5, pf_7_5, gf_7_6, pf_7_6, gf_7_7, pf_7_7, gf_7_8, pf_7_8, gf_7_9, pf_7_9, gf_7_10, pf_7_10, gf_7_11, pf_7_11, gf_7_12, pf_7_12, gf_7_13, pf_7_13, gf_7_14, pf_7_14, gf_7_15, pf_7_15, gf_7_16, pf_7_16, gf_7_17, pf_7_17, gf_7_18, pf_7_18, gf_7_19, pf_7_19, gf_7_20, pf_7_20, gf_7_21, pf_7_21, gf_7_22, pf_7_22, gf_7_23, pf_7_23a, pf_7_23b, mw_1, mw_2, mw_g0, mw_g1, mw_g2, mw_g3, mw_g4, mw_g5, mw_g6, mw_g7, mw_g8, mw_g9, mw_g10, mw_g11, mw_g12, mw_g13, mw_g14, mw_g15, mw_g16, mw_g17, mw_go, mw_p0, mw_p1, mw_p2, mw_p3, mw_p4, mw_p5, mw_p6, mw_p7, mw_p8, mw_p9, mw_p10, mw_p11, mw_p12, mw_p13, mw_p14, mw_p15, mw_p16, mw_p17, mw_w]
    · refine ⟨_, _, _, _, _, _, _, _, _, _, _, _, _, _, _, _, _, _, _, _, _, _, _, _, _, _, _, _, _, _, _, _, _, _, _, _, _, _, _, _, _, _, _, _, _, ⟨cs_fr (cs_live (cs_x hcs)) (fun k h1 h2 => mw_go (by omega)), mw_w, (mw_go (by omega)).trans ((gw_go (by omega)).trans ((xw_go (by omega) (by omega) (by omega)).trans h0)), hn⟩, ⟨by omega, by omega, rfl, rfl, fun o ho => ?_, fun o ho1 ho2 => by rw [ud_n (by omega)]; exact k6 o (by omega) ho2⟩, ⟨go_new hn16 k1 hb hG.1, gm_new hn16 hb hG.2⟩, ⟨hV.1, hV.2.1, hV.2.2.1, fun u hu => ⟨go_more (hV.2.2.2 u hu).1, gm_fr (gm_more (hV.2.2.2 u hu).1 (hV.2.2.2 u hu).2) (fun o ho => ud_n (by omega)) (fun o ho => ud_n (by omega)) (fun q hq _ => cl3_out (by omega))⟩⟩, hD, ⟨hC.1, rZ_le hC.2 (fun o ho z => by
        by_cases hon : o = n
        · rw [hon]
          exact ud_s
        · rw [ud_n hon] at z ⊢
          exact hC.2.1 o ho z) (fun q hq => ud_n (by omega))⟩, hT⟩
      by_cases hon : o = n
      · subst hon
        rw [ud_s, ud_s]
        exact ⟨hb, rfl⟩
      · rw [ud_n hon, ud_n hon]
        exact k5 o (by omega)
