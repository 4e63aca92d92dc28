section MO
variable {w : ai_W} {m : Nat} {mk vs cs dn wn pa gd : Int32} {li ha le re co cd ob sn th fr po is cf dr ou : Nat → Int32} {ce fo : Nat → Int64}
theorem m_empty {d : Nat} (hd : d < 4) : ai_ev none 134 0 [some (.ref m), some (.int (nI d))] [] (mw w m mk li vs ha le ce re co cd ob sn th fo fr po is cs cf dn dr wn ou pa gd) = some (none, mw w m mk li vs ha le ce re (upd co d (nI 0)) cd ob sn th fo fr (upd po d (nI (1300 * d))) is cs cf dn dr wn ou pa gd) := by
  simp (disch := omega) only [eGraphDeltasModel_empty_0, eGraphDeltasModel_empty_1, eGraphDeltasModel_empty_4, eGraphDeltasModel_empty_5, eGraphDeltasModel_empty_6, eGraphDeltasModel_empty_7, eGraphDeltasModel_empty_8, eGraphDeltasModel_empty_11, eGraphDeltasModel_empty_12, eGraphDeltasModel_empty_15, eGraphDeltasModel_empty_16, eGraphDeltasModel_empty_17, eGraphDeltasModel_empty_18, ai_ai_at, ai_aj_at, ai_aq_at, ai_si_at, ai_sj_at, ai_sq_at, ai_cy_at, ai_al_at, ai_na_0, ai_na_1, ai_na_2, ai_na_3, ai_rc_at, ai_th_v, ai_th_n, ai_th_z, ai_sw, ai_nl_i, ai_nl_r, ai_nl_l, ai_nl_n, nI_clamp, nI_add, pk_mul, pk_sub, az_e0, az_l0, az_g0, az_p0, az_q0, az_eq, az_lt, az_le, az_m1, az_m2, az_m3, az_m4, az_m5, az_m6, az_m7, az_m8, az_dec, az_bd, az_b0, az_bt, az_bf, dn_leT, dn_leF, dn_ltT, dn_ltF, dn_eqT, dn_eqF, ↓reduceIte, if_true, if_false, not_true_eq_false, not_false_eq_true, true_and, and_true, false_and, and_false, true_or, or_true, false_or, or_false, Nat.reduceAdd, Nat.reduceMul, Nat.reduceSub, Nat.reduceLT, Nat.reduceLeDiff, Nat.reduceEqDiff, Nat.add_zero, Nat.zero_add, ne_eq, reduceCtorEq, decide_true, decide_false, Bool.true_eq_false, Bool.false_eq_true, Classical.not_not, gf_0_0, pf_0_0, gf_0_1, pf_0_1, gf_0_2, pf_0_2, gf_0_3, pf_0_3, gf_0_4, pf_0_4, gf_0_5, pf_0_5, gf_0_6, pf_0_6, gf_0_7, pf_0_7, gf_0_8, pf_0_8, gf_0_9, pf_0_9, gf_1_0, pf_1_0, gf_1_1, pf_1_1, gf_2_0, pf_2_0, gf_2_1, pf_2_1, gf_2_2, pf_2_2, gf_2_3, pf_2_3, gf_2_4, pf_2_4, gf_3_0, pf_3_0, gf_3_1, pf_3_1, gf_4_0, pf_4_0, gf_4_1, pf_4_1, gf_4_2, pf_4_2, gf_4_3, pf_4_3, gf_5_0, pf_5_0, gf_5_1, pf_5_1, gf_5_2, pf_5_2, gf_5_3, pf_5_3, gf_6_0, pf_6_0, gf_6_1, pf_6_1, gf_7_0, pf_7_0, gf_7_1, pf_7_1, gf_7_2, pf_7_2, gf_7_3, pf_7_3, gf_7_4, pf_7_4, gf_7_5, pf_7_5, gf_7_6, pf_7_6, gf_7_7, pf_7_7, gf_7_8, pf_7_8, gf_7_9, pf_7_9, gf_7_10, pf_7_10, gf_7_11, pf_7_11, gf_7_12, pf_7_12, gf_7_13, pf_7_13, gf_7_14, pf_7_14, gf_7_15, pf_7_15, gf_7_16, pf_7_16, gf_7_17, pf_7_17, gf_7_18, pf_7_18, gf_7_19, pf_7_19, gf_7_20, pf_7_20, gf_7_21, pf_7_21, gf_7_22, pf_7_22, gf_7_23, pf_7_23a, pf_7_23b, mw_1, mw_2, mw_g0, mw_g1, mw_g2, mw_g3, mw_g4, mw_g5, mw_g6, mw_g7, mw_g8, mw_g9, mw_g10, mw_g11, mw_g12, mw_g13, mw_g14, mw_g15, mw_g16, mw_g17, mw_go, mw_p0, mw_p1, mw_p2, mw_p3, mw_p4, mw_p5, mw_p6, mw_p7, mw_p8, mw_p9, mw_p10, mw_p11, mw_p12, mw_p13, mw_p14, mw_p15, mw_p16, mw_p17, mw_w]
theorem m_add {d n P : Nat} {x0 x1 x2 x3 : Int32} {z : Int64} (hd : d < 4) (hn : n < 130) (hc : co d = nI n) (hp : po d = nI P) : ai_ev none 119 0 [some (.ref m), some (.int (nI d)), some (.int x0), some (.int x1), some (.int x2), some (.int x3), some (.long z), none, none] [] (mw w m mk li vs ha le ce re co cd ob sn th fo fr po is cs cf dn dr wn ou pa gd) = some (none, mw w m mk li vs ha le ce re (upd co d (nI (n + 1))) (upd cd (130 * d + n) x0) (upd ob (130 * d + n) x1) (upd sn (130 * d + n) x2) (upd th (130 * d + n) x3) (vp_updL fo (130 * d + n) z) (upd fr (130 * d + n) (nI P)) po is cs cf dn dr wn ou pa gd) := by
  simp (disch := omega) only [eGraphDeltasModel_add_0, eGraphDeltasModel_add_3, eGraphDeltasModel_add_4, eGraphDeltasModel_add_5, eGraphDeltasModel_add_6, eGraphDeltasModel_add_9, eGraphDeltasModel_add_10, eGraphDeltasModel_add_11, eGraphDeltasModel_add_12, eGraphDeltasModel_add_14, eGraphDeltasModel_add_15, eGraphDeltasModel_add_18, eGraphDeltasModel_add_20, eGraphDeltasModel_add_21, eGraphDeltasModel_add_22, eGraphDeltasModel_add_23, eGraphDeltasModel_add_26, eGraphDeltasModel_add_28, eGraphDeltasModel_add_29, eGraphDeltasModel_add_30, eGraphDeltasModel_add_31, eGraphDeltasModel_add_34, eGraphDeltasModel_add_36, eGraphDeltasModel_add_38, eGraphDeltasModel_add_39, eGraphDeltasModel_add_40, eGraphDeltasModel_add_43, eGraphDeltasModel_add_45, eGraphDeltasModel_add_47, eGraphDeltasModel_add_48, eGraphDeltasModel_add_49, eGraphDeltasModel_add_52, eGraphDeltasModel_add_54, eGraphDeltasModel_add_56, eGraphDeltasModel_add_57, eGraphDeltasModel_add_58, eGraphDeltasModel_add_61, eGraphDeltasModel_add_63, eGraphDeltasModel_add_64, eGraphDeltasModel_add_67, eGraphDeltasModel_add_68, eGraphDeltasModel_add_69, eGraphDeltasModel_add_70, eGraphDeltasModel_add_71, eGraphDeltasModel_add_74, eGraphDeltasModel_add_75, eGraphDeltasModel_add_76, eGraphDeltasModel_add_77, eGraphDeltasModel_add_78, eGraphDeltasModel_add_79, eGraphDeltasModel_add_80, hc, hp, ai_ai_at, ai_aj_at, ai_aq_at, ai_si_at, ai_sj_at, ai_sq_at, ai_cy_at, ai_al_at, ai_na_0, ai_na_1, ai_na_2, ai_na_3, ai_rc_at, ai_th_v, ai_th_n, ai_th_z, ai_sw, ai_nl_i, ai_nl_r, ai_nl_l, ai_nl_n, nI_clamp, nI_add, pk_mul, pk_sub, az_e0, az_l0, az_g0, az_p0, az_q0, az_eq, az_lt, az_le, az_m1, az_m2, az_m3, az_m4, az_m5, az_m6, az_m7, az_m8, az_dec, az_bd, az_b0, az_bt, az_bf, dn_leT, dn_leF, dn_ltT, dn_ltF, dn_eqT, dn_eqF, ↓reduceIte, if_true, if_false, not_true_eq_false, not_false_eq_true, true_and, and_true, false_and, and_false, true_or, or_true, false_or, or_false, Nat.reduceAdd, Nat.reduceMul, Nat.reduceSub, Nat.reduceLT, Nat.reduceLeDiff, Nat.reduceEqDiff, Nat.add_zero, Nat.zero_add, ne_eq, reduceCtorEq, decide_true, decide_false, Bool.true_eq_false, Bool.false_eq_true, Classical.not_not, gf_0_0, pf_0_0, gf_0_1, pf_0_1, gf_0_2, pf_0_2, gf_0_3, pf_0_3, gf_0_4, pf_0_4, gf_0_5, pf_0_5, gf_0_6, pf_0_6, gf_0_7, pf_0_7, gf_0_8, pf_0_8, gf_0_9, pf_0_9, gf_1_0, pf_1_0, gf_1_1, pf_1_1, gf_2_0, pf_2_0, gf_2_1, pf_2_1, gf_2_2, pf_2_2, gf_2_3, pf_2_3, gf_2_4, pf_2_4, gf_3_0, pf_3_0, gf_3_1, pf_3_1, gf_4_0, pf_4_0, gf_4_1, pf_4_1, gf_4_2, pf_4_2, gf_4_3, pf_4_3, gf_5_0, pf_5_0, gf_5_1, pf_5_1, gf_5_2, pf_5_2, gf_5_3, pf_5_3, gf_6_0, pf_6_0, gf_6_1, pf_6_1, gf_7_0, pf_7_0, gf_7_1, pf_7_1, gf_7_2, pf_7_2, gf_7_3, pf_7_3, gf_7_4, pf_7_4, gf_7_5, pf_7_5, gf_7_6, pf_7_6, gf_7_7, pf_7_7, gf_7_8, pf_7_8, gf_7_9, pf_7_9, gf_7_10, pf_7_10, gf_7_11, pf_7_11, gf_7_12, pf_7_12, gf_7_13, pf_7_13, gf_7_14, pf_7_14, gf_7_15, pf_7_15, gf_7_16, pf_7_16, gf_7_17, pf_7_17, gf_7_18, pf_7_18, gf_7_19, pf_7_19, gf_7_20, pf_7_20, gf_7_21, pf_7_21, gf_7_22, pf_7_22, gf_7_23, pf_7_23a, pf_7_23b, mw_1, mw_2, mw_g0, mw_g1, mw_g2, mw_g3, mw_g4, mw_g5, mw_g6, mw_g7, mw_g8, mw_g9, mw_g10, mw_g11, mw_g12, mw_g13, mw_g14, mw_g15, mw_g16, mw_g17, mw_go, mw_p0, mw_p1, mw_p2, mw_p3, mw_p4, mw_p5, mw_p6, mw_p7, mw_p8, mw_p9, mw_p10, mw_p11, mw_p12, mw_p13, mw_p14, mw_p15, mw_p16, mw_p17, mw_w]
theorem m_addInt {d P : Nat} {x : Int32} (hd : d < 4) (hP : P < 5200) (hp : po d = nI P) : ai_ev none 120 0 [some (.ref m), some (.int (nI d)), some (.int x)] [] (mw w m mk li vs ha le ce re co cd ob sn th fo fr po is cs cf dn dr wn ou pa gd) = some (none, mw w m mk li vs ha le ce re co cd ob sn th fo fr (upd po d (nI (P + 1))) (upd is P x) cs cf dn dr wn ou pa gd) := by
  simp (disch := omega) only [eGraphDeltasModel_addInt_0, eGraphDeltasModel_addInt_1, eGraphDeltasModel_addInt_4, eGraphDeltasModel_addInt_5, eGraphDeltasModel_addInt_8, eGraphDeltasModel_addInt_9, eGraphDeltasModel_addInt_10, eGraphDeltasModel_addInt_11, eGraphDeltasModel_addInt_12, eGraphDeltasModel_addInt_13, eGraphDeltasModel_addInt_16, eGraphDeltasModel_addInt_17, eGraphDeltasModel_addInt_18, eGraphDeltasModel_addInt_19, eGraphDeltasModel_addInt_20, eGraphDeltasModel_addInt_21, eGraphDeltasModel_addInt_22, hp, ai_ai_at, ai_aj_at, ai_aq_at, ai_si_at, ai_sj_at, ai_sq_at, ai_cy_at, ai_al_at, ai_na_0, ai_na_1, ai_na_2, ai_na_3, ai_rc_at, ai_th_v, ai_th_n, ai_th_z, ai_sw, ai_nl_i, ai_nl_r, ai_nl_l, ai_nl_n, nI_clamp, nI_add, pk_mul, pk_sub, az_e0, az_l0, az_g0, az_p0, az_q0, az_eq, az_lt, az_le, az_m1, az_m2, az_m3, az_m4, az_m5, az_m6, az_m7, az_m8, az_dec, az_bd, az_b0, az_bt, az_bf, dn_leT, dn_leF, dn_ltT, dn_ltF, dn_eqT, dn_eqF, ↓reduceIte, if_true, if_false, not_true_eq_false, not_false_eq_true, true_and, and_true, false_and, and_false, true_or, or_true, false_or, or_false, Nat.reduceAdd, Nat.reduceMul, Nat.reduceSub, Nat.reduceLT, Nat.reduceLeDiff, Nat.reduceEqDiff, Nat.add_zero, Nat.zero_add, ne_eq, reduceCtorEq, decide_true, decide_false, Bool.true_eq_false, Bool.false_eq_true, Classical.not_not, gf_0_0, pf_0_0, gf_0_1, pf_0_1, gf_0_2, pf_0_2, gf_0_3, pf_0_3, gf_0_4, pf_0_4, gf_0_5, pf_0_5, gf_0_6, pf_0_6, gf_0_7, pf_0_7, gf_0_8, pf_0_8, gf_0_9, pf_0_9, gf_1_0, pf_1_0, gf_1_1, pf_1_1, gf_2_0, pf_2_0, gf_2_1, pf_2_1, gf_2_2, pf_2_2, gf_2_3, pf_2_3, gf_2_4, pf_2_4, gf_3_0, pf_3_0, gf_3_1, pf_3_1, gf_4_0, pf_4_0, gf_4_1, pf_4_1, gf_4_2, pf_4_2, gf_4_3, pf_4_3, gf_5_0, pf_5_0, gf_5_1, pf_5_1, gf_5_2, pf_5_2, gf_5_3, pf_5_3, gf_6_0, pf_6_0, gf_6_1, pf_6_1, gf_7_0, pf_7_0, gf_7_1, pf_7_1, gf_7_2, pf_7_2, gf_7_3, pf_7_3, gf_7_4, pf_7_4, gf_7_5, pf_7_5, gf_7_6, pf_7_6, gf_7_7, pf_7_7, gf_7_8, pf_7_8, gf_7_9, pf_7_9, gf_7_10, pf_7_10, gf_7_11, pf_7_11, gf_7_12, pf_7_12, gf_7_13, pf_7_13, gf_7_14, pf_7_14, gf_7_15, pf_7_15, gf_7_16, pf_7_16, gf_7_17, pf_7_17, gf_7_18, pf_7_18, gf_7_19, pf_7_19, gf_7_20, pf_7_20, gf_7_21, pf_7_21, gf_7_22, pf_7_22, gf_7_23, pf_7_23a, pf_7_23b, mw_1, mw_2, mw_g0, mw_g1, mw_g2, mw_g3, mw_g4, mw_g5, mw_g6, mw_g7, mw_g8, mw_g9, mw_g10, mw_g11, mw_g12, mw_g13, mw_g14, mw_g15, mw_g16, mw_g17, mw_go, mw_p0, mw_p1, mw_p2, mw_p3, mw_p4, mw_p5, mw_p6, mw_p7, mw_p8, mw_p9, mw_p10, mw_p11, mw_p12, mw_p13, mw_p14, mw_p15, mw_p16, mw_p17, mw_w]
theorem md_empty {d : Nat} : md (upd co d (nI 0)) cd ob sn th fo fr (upd po d (nI (1300 * d))) is d [] := by
  refine ⟨by rw [ud_s]; rfl, by rw [ud_s]; simp [isum], fun k q hq => by simp at hq⟩
theorem md_empty_o {d d2 : Nat} {l : List op} (hne : ¬ d2 = d) (h : md co cd ob sn th fo fr po is d2 l) : md (upd co d (nI 0)) cd ob sn th fo fr (upd po d (nI (1300 * d))) is d2 l := ⟨(ud_n hne).trans h.1, (ud_n hne).trans h.2.1, h.2.2⟩
theorem md_add {d c o p t : Nat} {z : Int32} {l : List op} (h : md co cd ob sn th fo fr po is d l) : md (upd co d (nI (l.length + 1))) (upd cd (130 * d + l.length) (nI c)) (upd ob (130 * d + l.length) (nI o)) (upd sn (130 * d + l.length) (nI p)) (upd th (130 * d + l.length) (nI t)) (vp_updL fo (130 * d + l.length) z.toInt64) (upd fr (130 * d + l.length) (nI (1300 * d + isum l))) po is d (l ++ [(c, o, p, t, z, [])]) := by
  obtain ⟨h1, h2, h3⟩ := h
  refine ⟨by rw [ud_s]; simp, by rw [h2, isum_app, isum_1]; simp, fun k q hq => ?_⟩
  by_cases hk : k < l.length
  · rw [List.getElem?_append_left hk] at hq
    rw [List.take_append_of_le_length (by omega)]
    obtain ⟨g1, g2, g3, g4, g5, g6, g7⟩ := h3 k q hq
    exact ⟨(ud_n (by omega)).trans g1, (ud_n (by omega)).trans g2, (ud_n (by omega)).trans g3, (ud_n (by omega)).trans g4, (uL_n (by omega)).trans g5, (ud_n (by omega)).trans g6, g7⟩
  · have hk2 : k < (l ++ [(c, o, p, t, z, ([] : List Int32))]).length := (List.getElem?_eq_some_iff.mp hq).1
    have hke : k = l.length := by simp at hk2; omega
    subst hke
    rw [List.getElem?_append_right (Nat.le_refl _)] at hq
    simp at hq
    subst hq
    rw [List.take_append_of_le_length (Nat.le_refl _), List.take_of_length_le (Nat.le_refl _)]
    exact ⟨ud_s, ud_s, ud_s, ud_s, pk_uLs, ud_s, fun i x hx => by simp at hx⟩
theorem md_add_o {d d2 n : Nat} {x0 x1 x2 x3 c : Int32} {z : Int64} {f : Int32} {l : List op} (hn : n < 130) (hl : l.length ≤ 130) (hne : ¬ d2 = d) (h : md co cd ob sn th fo fr po is d2 l) : md (upd co d c) (upd cd (130 * d + n) x0) (upd ob (130 * d + n) x1) (upd sn (130 * d + n) x2) (upd th (130 * d + n) x3) (vp_updL fo (130 * d + n) z) (upd fr (130 * d + n) f) po is d2 l := by
  obtain ⟨h1, h2, h3⟩ := h
  refine ⟨(ud_n hne).trans h1, h2, fun k q hq => ?_⟩
  have hk := (List.getElem?_eq_some_iff.mp hq).1
  obtain ⟨g1, g2, g3, g4, g5, g6, g7⟩ := h3 k q hq
  have hi : ¬ 130 * d2 + k = 130 * d + n := by omega
  exact ⟨(ud_n hi).trans g1, (ud_n hi).trans g2, (ud_n hi).trans g3, (ud_n hi).trans g4, (uL_n hi).trans g5, (ud_n hi).trans g6, g7⟩
theorem md_int {d c o p t : Nat} {z x : Int32} {s : List Int32} {l : List op} (h : md co cd ob sn th fo fr po is d (l ++ [(c, o, p, t, z, s)])) : md co cd ob sn th fo fr (upd po d (nI (1300 * d + isum (l ++ [(c, o, p, t, z, s)]) + 1))) (upd is (1300 * d + isum (l ++ [(c, o, p, t, z, s)])) x) d (l ++ [(c, o, p, t, z, s ++ [x])]) := by
  obtain ⟨h1, h2, h3⟩ := h
  have hs : isum (l ++ [(c, o, p, t, z, s)]) = isum l + s.length := by rw [isum_app, isum_1]
  refine ⟨by rw [h1]; simp, by rw [ud_s, hs, isum_app, isum_1]; first | (simp [Nat.add_assoc]; done) | (simp; congr 1; omega), fun k q hq => ?_⟩
  by_cases hk : k < l.length
  · rw [List.getElem?_append_left hk] at hq
    have hq2 : (l ++ [(c, o, p, t, z, s)])[k]? = some q := by rw [List.getElem?_append_left hk]; exact hq
    have ht := isum_take l k hq
    obtain ⟨g1, g2, g3, g4, g5, g6, g7⟩ := h3 k q hq2
    rw [List.take_append_of_le_length (by omega)] at g6 g7 ⊢
    refine ⟨g1, g2, g3, g4, g5, g6, fun i y hy => ?_⟩
    have hi := (List.getElem?_eq_some_iff.mp hy).1
    rw [ud_n (by omega)]
    exact g7 i y hy
  · have hk2 : k < (l ++ [(c, o, p, t, z, s ++ [x])]).length := (List.getElem?_eq_some_iff.mp hq).1
    have hke : k = l.length := by simp at hk2; omega
    subst hke
    rw [List.getElem?_append_right (Nat.le_refl _)] at hq
    simp at hq
    subst hq
    obtain ⟨g1, g2, g3, g4, g5, g6, g7⟩ := h3 l.length (c, o, p, t, z, s) (by rw [List.getElem?_append_right (Nat.le_refl _)]; simp)
    rw [List.take_append_of_le_length (Nat.le_refl _), List.take_of_length_le (Nat.le_refl _)] at g6 g7 ⊢
    refine ⟨g1, g2, g3, g4, g5, g6, fun i y hy => ?_⟩
    have hy : (s ++ [x])[i]? = some y := hy
    by_cases his : i < s.length
    · rw [List.getElem?_append_left his] at hy
      rw [ud_n (by omega)]
      exact g7 i y hy
    · have hi2 : i < (s ++ [x]).length := (List.getElem?_eq_some_iff.mp hy).1
      have hie : i = s.length := by simp at hi2; omega
      subst hie
      rw [List.getElem?_append_right (Nat.le_refl _)] at hy
      simp at hy
      subst hy
      rw [hs, ← Nat.add_assoc, ud_s]
theorem md_int_o {d d2 P : Nat} {c x : Int32} {l : List op} (hP : 1300 * d ≤ P ∧ P < 1300 * d + 1300) (hl : isum l ≤ 1300) (hne : ¬ d2 = d) (h : md co cd ob sn th fo fr po is d2 l) : md co cd ob sn th fo fr (upd po d c) (upd is P x) d2 l := by
  obtain ⟨h1, h2, h3⟩ := h
  refine ⟨h1, (ud_n hne).trans h2, fun k q hq => ?_⟩
  have ht := isum_take l k hq
  obtain ⟨g1, g2, g3, g4, g5, g6, g7⟩ := h3 k q hq
  refine ⟨g1, g2, g3, g4, g5, g6, fun i y hy => ?_⟩
  have hi := (List.getElem?_eq_some_iff.mp hy).1
  rw [ud_n (by omega)]
  exact g7 i y hy
end MO
