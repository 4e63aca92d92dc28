section FI
variable {w0 : ai_W} {d f g g2 : Nat} {A B C D A2 B2 C2 D2 : Nat → Int32}
theorem s_find {n : Nat} {K X P R M : Nat → Int32} {c p r : Int32} (hdf : d + 1 < f ∨ f + 3 < d) (hfg : f + 3 < g ∨ g + 4 < f) (hfg2 : f + 3 < g2 ∨ g2 + 4 < f) (hdg : d + 1 < g ∨ g + 4 < d) (hdg2 : d + 1 < g2 ∨ g2 + 4 < d) (h1 : gw w0 g A B C D = w0) (h2 : gw w0 g2 A2 B2 C2 D2 = w0) (hd : dw w0 d X c = w0) (hf : fw w0 f P R p r M = w0) (go1 : go n K A B C D) (go2 : go n K A2 B2 C2 D2) : ∃ w', ai_ev none 55 0 [some (.ref f), some (.ref g), some (.ref g2), some (.ref d), none] [] w0 = some (none, w') ∧ fI w0 w' d f (dall A B C D A2 B2 C2 D2 16) := by
  have h00 : ¬ A 0 = -1 := by rw [go1.1]; decide +kernel
  have hB := go_B go1
  have ed := dw_at hd
  have hcl := s_clear hd
  have e0 : ai_ev none 55 0 [some (.ref f), some (.ref g), some (.ref g2), some (.ref d), none] [] w0 = ai_ev none 55 7 [some (.ref f), some (.ref g), some (.ref g2), some (.ref d), some (.int (nI 0))] [] (dw w0 d X (nI 0)) := by
    simp (disch := omega) only [eDifference_find_0, eDifference_find_1, eDifference_find_4, eDifference_find_5, eDifference_find_9, eDifference_find_11, eDifference_find_14, eDifference_find_15, eDifference_find_17, eDifference_find_20, eDifference_find_23, eDifference_find_24, eDifference_find_26, eDifference_find_29, eDifference_find_32, eDifference_find_33, eDifference_find_35, eDifference_find_36, eDifference_find_38, eDifference_find_41, eDifference_find_44, eDifference_find_47, eDifference_find_50, eDifference_find_51, eDifference_find_53, eDifference_find_55, eDifference_find_57, eDifference_find_60, eDifference_find_61, eDifference_find_63, eDifference_find_66, eDifference_find_69, eDifference_find_70, eDifference_find_71, eDifference_find_72, eDifference_find_74, eDifference_find_77, eDifference_find_78, eDifference_find_81, eDifference_find_82, eDifference_find_84, eDifference_find_85, eDifference_find_88, eDifference_find_91, eDifference_find_92, eDifference_find_94, eDifference_find_97, eDifference_find_100, eDifference_find_101, eDifference_find_102, eDifference_find_104, eDifference_find_105, eDifference_find_108, eDifference_find_111, eDifference_find_114, ed, hcl, ai_ai_at, ai_aj_at, ai_aq_at, ai_si_at, ai_sj_at, ai_sq_at, ai_cy_at, ai_al_at, ai_na_0, ai_na_1, ai_na_2, ai_na_3, ai_rc_at, ai_th_v, ai_th_n, ai_th_z, ai_sw, ai_nl_i, ai_nl_r, ai_nl_l, ai_nl_n, nI_clamp, nI_add, pk_mul, pk_sub, az_e0, az_l0, az_g0, az_p0, az_q0, az_eq, az_lt, az_le, az_m1, az_m2, az_m3, az_m4, az_m5, az_m6, az_m7, az_m8, az_dec, az_bd, az_b0, az_bt, az_bf, dn_leT, dn_leF, dn_ltT, dn_ltF, dn_eqT, dn_eqF, ↓reduceIte, if_true, if_false, not_true_eq_false, not_false_eq_true, true_and, and_true, false_and, and_false, true_or, or_true, false_or, or_false, Nat.reduceAdd, Nat.reduceMul, Nat.reduceSub, Nat.reduceLT, Nat.reduceLeDiff, Nat.reduceEqDiff, Nat.add_zero, Nat.zero_add, ne_eq, reduceCtorEq, decide_true, decide_false, Bool.true_eq_false, Bool.false_eq_true, Classical.not_not, gf_0_0, pf_0_0, gf_0_1, pf_0_1, gf_0_2, pf_0_2, gf_0_3, pf_0_3, gf_0_4, pf_0_4, gf_0_5, pf_0_5, gf_0_6, pf_0_6, gf_0_7, pf_0_7, gf_0_8, pf_0_8, gf_0_9, pf_0_9, gf_1_0, pf_1_0, gf_1_1, pf_1_1, gf_2_0, pf_2_0, gf_2_1, pf_2_1, gf_2_2, pf_2_2, gf_2_3, pf_2_3, gf_2_4, pf_2_4, gf_3_0, pf_3_0, gf_3_1, pf_3_1, gf_4_0, pf_4_0, gf_4_1, pf_4_1, gf_4_2, pf_4_2, gf_4_3, pf_4_3, gf_5_0, pf_5_0, gf_5_1, pf_5_1, gf_5_2, pf_5_2, gf_5_3, pf_5_3, gf_6_0, pf_6_0, gf_6_1, pf_6_1, gf_7_0, pf_7_0, gf_7_1, pf_7_1, gf_7_2, pf_7_2, gf_7_3, pf_7_3, gf_7_4, pf_7_4, gf_7_5, pf_7_5, gf_7_6, pf_7_6, gf_7_7, pf_7_7, gf_7_8, pf_7_8, gf_7_9, pf_7_9, gf_7_10, pf_7_10, gf_7_11, pf_7_11, gf_7_12, pf_7_12, gf_7_13, pf_7_13, gf_7_14, pf_7_14, gf_7_15, pf_7_15, gf_7_16, pf_7_16, gf_7_17, pf_7_17, gf_7_18, pf_7_18, gf_7_19, pf_7_19, gf_7_20, pf_7_20, gf_7_21, pf_7_21, gf_7_22, pf_7_22, gf_7_23, pf_7_23a, pf_7_23b]
  have l1 : ∀ i, i ≤ 16 → ∃ w', ai_ev none 55 7 [some (.ref f), some (.ref g), some (.ref g2), some (.ref d), some (.int (nI 0))] [] (dw w0 d X (nI 0)) = ai_ev none 55 7 [some (.ref f), some (.ref g), some (.ref g2), some (.ref d), some (.int (nI i))] [] w' ∧ fI w0 w' d f (dcr A A2 i) := by
    intro i
    induction i with
    | zero => exact fun _ => ⟨_, rfl, ⟨X, dw_w, fun k q hq => by simp [dcr] at hq⟩, ⟨P, R, p, r, M, fw_fr hf (fun k _ _ => dw_go (by omega))⟩, fun k q1 q2 => dw_go (by omega), rfl, rfl⟩
    | succ i ih =>
      intro hi
      obtain ⟨w1, a1, a2⟩ := ih (by omega)
      have hlen := dcr_len h00 (A2 := A2) i
      obtain ⟨w2, b1, b2⟩ := s_find1 (o := i) hdf hfg hfg2 hdg hdg2 (by omega) h1 h2 go2 (by omega) a2
      exact ⟨w2, a1.trans b1, b2⟩
  obtain ⟨w1, a1, a2⟩ := l1 16 (Nat.le_refl _)
  have e1 : ai_ev none 55 7 [some (.ref f), some (.ref g), some (.ref g2), some (.ref d), some (.int (nI 16))] [] w1 = ai_ev none 55 53 [some (.ref f), some (.ref g), some (.ref g2), some (.ref d), some (.int (nI 0))] [] w1 := by
    refine eDifference_find_7.trans ?_
    simp (disch := omega) only [eDifference_find_0, eDifference_find_1, eDifference_find_4, eDifference_find_5, eDifference_find_9, eDifference_find_11, eDifference_find_14, eDifference_find_15, eDifference_find_17, eDifference_find_20, eDifference_find_23, eDifference_find_24, eDifference_find_26, eDifference_find_29, eDifference_find_32, eDifference_find_33, eDifference_find_35, eDifference_find_36, eDifference_find_38, eDifference_find_41, eDifference_find_44, eDifference_find_47, eDifference_find_50, eDifference_find_51, eDifference_find_55, eDifference_find_57, eDifference_find_60, eDifference_find_61, eDifference_find_63, eDifference_find_66, eDifference_find_69, eDifference_find_70, eDifference_find_71, eDifference_find_72, eDifference_find_74, eDifference_find_77, eDifference_find_78, eDifference_find_81, eDifference_find_82, eDifference_find_84, eDifference_find_85, eDifference_find_88, eDifference_find_91, eDifference_find_92, eDifference_find_94, eDifference_find_97, eDifference_find_100, eDifference_find_101, eDifference_find_102, eDifference_find_104, eDifference_find_105, eDifference_find_108, eDifference_find_111, eDifference_find_114, ai_ai_at, ai_aj_at, ai_aq_at, ai_si_at, ai_sj_at, ai_sq_at, ai_cy_at, ai_al_at, ai_na_0, ai_na_1, ai_na_2, ai_na_3, ai_rc_at, ai_th_v, ai_th_n, ai_th_z, ai_sw, ai_nl_i, ai_nl_r, ai_nl_l, ai_nl_n, nI_clamp, nI_add, pk_mul, pk_sub, az_e0, az_l0, az_g0, az_p0, az_q0, az_eq, az_lt, az_le, az_m1, az_m2, az_m3, az_m4, az_m5, az_m6, az_m7, az_m8, az_dec, az_bd, az_b0, az_bt, az_bf, dn_leT, dn_leF, dn_ltT, dn_ltF, dn_eqT, dn_eqF, ↓reduceIte, if_true, if_false, not_true_eq_false, not_false_eq_true, true_and, and_true, false_and, and_false, true_or, or_true, false_or, or_false, Nat.reduceAdd, Nat.reduceMul, Nat.reduceSub, Nat.reduceLT, Nat.reduceLeDiff, Nat.reduceEqDiff, Nat.add_zero, Nat.zero_add, ne_eq, reduceCtorEq, decide_true, decide_false, Bool.true_eq_false, Bool.false_eq_true, Classical.not_not, gf_0_0, pf_0_0, gf_0_1, pf_0_1, gf_0_2, pf_0_2, gf_0_3, pf_0_3, gf_0_4, pf_0_4, gf_0_5, pf_0_5, gf_0_6, pf_0_6, gf_0_7, pf_0_7, gf_0_8, pf_0_8, gf_0_9, pf_0_9, gf_1_0, pf_1_0, gf_1_1, pf_1_1, gf_2_0, pf_2_0, gf_2_1, pf_2_1, gf_2_2, pf_2_2, gf_2_3, pf_2_3, gf_2_4, pf_2_4, gf_3_0, pf_3_0, gf_3_1, pf_3_1, gf_4_0, pf_4_0, gf_4_1, pf_4_1, gf_4_2, pf_4_2, gf_4_3, pf_4_3, gf_5_0, pf_5_0, gf_5_1, pf_5_1, gf_5_2, pf_5_2, gf_5_3, pf_5_3, gf_6_0, pf_6_0, gf_6_1, pf_6_1, gf_7_0, pf_7_0, gf_7_1, pf_7_1, gf_7_2, pf_7_2, gf_7_3, pf_7_3, gf_7_4, pf_7_4, gf_7_5, pf_7_5, gf_7_6, pf_7_6, gf_7_7, pf_7_7, gf_7_8, pf_7_8, gf_7_9, pf_7_9, gf_7_10, pf_7_10, gf_7_11, pf_7_11, gf_7_12, pf_7_12, gf_7_13, pf_7_13, gf_7_14, pf_7_14, gf_7_15, pf_7_15, gf_7_16, pf_7_16, gf_7_17, pf_7_17, gf_7_18, pf_7_18, gf_7_19, pf_7_19, gf_7_20, pf_7_20, gf_7_21, pf_7_21, gf_7_22, pf_7_22, gf_7_23, pf_7_23a, pf_7_23b]
  have l2 : ∀ i, i ≤ 16 → ∃ w', ai_ev none 55 53 [some (.ref f), some (.ref g), some (.ref g2), some (.ref d), some (.int (nI 0))] [] w1 = ai_ev none 55 53 [some (.ref f), some (.ref g), some (.ref g2), some (.ref d), some (.int (nI i))] [] w' ∧ fI w0 w' d f (dall A B C D A2 B2 C2 D2 i) := by
    intro i
    induction i with
    | zero => exact fun _ => ⟨w1, rfl, a2⟩
    | succ i ih =>
      intro hi
      obtain ⟨w2, b1, b2⟩ := ih (by omega)
      have hlen := dall_len h00 hB (C := C) (D := D) (A2 := A2) (B2 := B2) (C2 := C2) (D2 := D2) i (by omega)
      obtain ⟨w3, c1, c2⟩ := s_find2 (o := i) hdf hfg hfg2 hdg hdg2 (by omega) h1 h2 go1 go2 (by omega) b2
      exact ⟨w3, b1.trans c1, c2⟩
  obtain ⟨w2, b1, b2⟩ := l2 16 (Nat.le_refl _)
  refine ⟨w2, ?_, b2⟩
  rw [e0, a1, e1, b1]
  refine eDifference_find_53.trans ?_
  simp (disch := omega) only [eDifference_find_0, eDifference_find_1, eDifference_find_4, eDifference_find_5, eDifference_find_7, eDifference_find_9, eDifference_find_11, eDifference_find_14, eDifference_find_15, eDifference_find_17, eDifference_find_20, eDifference_find_23, eDifference_find_24, eDifference_find_26, eDifference_find_29, eDifference_find_32, eDifference_find_33, eDifference_find_35, eDifference_find_36, eDifference_find_38, eDifference_find_41, eDifference_find_44, eDifference_find_47, eDifference_find_50, eDifference_find_51, eDifference_find_55, eDifference_find_57, eDifference_find_60, eDifference_find_61, eDifference_find_63, eDifference_find_66, eDifference_find_69, eDifference_find_70, eDifference_find_71, eDifference_find_72, eDifference_find_74, eDifference_find_77, eDifference_find_78, eDifference_find_81, eDifference_find_82, eDifference_find_84, eDifference_find_85, eDifference_find_88, eDifference_find_91, eDifference_find_92, eDifference_find_94, eDifference_find_97, eDifference_find_100, eDifference_find_101, eDifference_find_102, eDifference_find_104, eDifference_find_105, eDifference_find_108, eDifference_find_111, eDifference_find_114, ai_ai_at, ai_aj_at, ai_aq_at, ai_si_at, ai_sj_at, ai_sq_at, ai_cy_at, ai_al_at, ai_na_0, ai_na_1, ai_na_2, ai_na_3, ai_rc_at, ai_th_v, ai_th_n, ai_th_z, ai_sw, ai_nl_i, ai_nl_r, ai_nl_l, ai_nl_n, nI_clamp, nI_add, pk_mul, pk_sub, az_e0, az_l0, az_g0, az_p0, az_q0, az_eq, az_lt, az_le, az_m1, az_m2, az_m3, az_m4, az_m5, az_m6, az_m7, az_m8, az_dec, az_bd, az_b0, az_bt, az_bf, dn_leT, dn_leF, dn_ltT, dn_ltF, dn_eqT, dn_eqF, ↓reduceIte, if_true, if_false, not_true_eq_false, not_false_eq_true, true_and, and_true, false_and, and_false, true_or, or_true, false_or, or_false, Nat.reduceAdd, Nat.reduceMul, Nat.reduceSub, Nat.reduceLT, Nat.reduceLeDiff, Nat.reduceEqDiff, Nat.add_zero, Nat.zero_add, ne_eq, reduceCtorEq, decide_true, decide_false, Bool.true_eq_false, Bool.false_eq_true, Classical.not_not, gf_0_0, pf_0_0, gf_0_1, pf_0_1, gf_0_2, pf_0_2, gf_0_3, pf_0_3, gf_0_4, pf_0_4, gf_0_5, pf_0_5, gf_0_6, pf_0_6, gf_0_7, pf_0_7, gf_0_8, pf_0_8, gf_0_9, pf_0_9, gf_1_0, pf_1_0, gf_1_1, pf_1_1, gf_2_0, pf_2_0, gf_2_1, pf_2_1, gf_2_2, pf_2_2, gf_2_3, pf_2_3, gf_2_4, pf_2_4, gf_3_0, pf_3_0, gf_3_1, pf_3_1, gf_4_0, pf_4_0, gf_4_1, pf_4_1, gf_4_2, pf_4_2, gf_4_3, pf_4_3, gf_5_0, pf_5_0, gf_5_1, pf_5_1, gf_5_2, pf_5_2, gf_5_3, pf_5_3, gf_6_0, pf_6_0, gf_6_1, pf_6_1, gf_7_0, pf_7_0, gf_7_1, pf_7_1, gf_7_2, pf_7_2, gf_7_3, pf_7_3, gf_7_4, pf_7_4, gf_7_5, pf_7_5, gf_7_6, pf_7_6, gf_7_7, pf_7_7, gf_7_8, pf_7_8, gf_7_9, pf_7_9, gf_7_10, pf_7_10, gf_7_11, pf_7_11, gf_7_12, pf_7_12, gf_7_13, pf_7_13, gf_7_14, pf_7_14, gf_7_15, pf_7_15, gf_7_16, pf_7_16, gf_7_17, pf_7_17, gf_7_18, pf_7_18, gf_7_19, pf_7_19, gf_7_20, pf_7_20, gf_7_21, pf_7_21, gf_7_22, pf_7_22, gf_7_23, pf_7_23a, pf_7_23b]
end FI
theorem mrw_of {n g o : Nat} {K li ha le A B C D : Nat → Int32} {ce : Nat → Int64} (ho : o < 16) (h : rG n K li ha le ce g A B C D) (hA : A o = -1 ∨ A o = nI 1) : mrw ha le ce g o (rn A B o) (gi A B D o) := by
  have hB := go_B h.1
  obtain ⟨r1, r2⟩ := rn_eq (A := A) hB ho
  rcases hA with hA | hA
  · have hz : rn A B o = 0 := by
      unfold rn gr_len
      rw [if_neg (by rw [gr_f_in ho, hA]; decide +kernel), nI_clamp (by decide)]
    rw [hz]
    refine ⟨by omega, Or.inl ⟨?_, rfl⟩, fun k hk => by omega⟩
    rcases h.2 o ho with ⟨_, q⟩ | ⟨q, _⟩ | ⟨q, _⟩
    · exact q
    · rw [hA] at q; exact absurd q (by decide +kernel)
    · rw [hA] at q; exact absurd q (by decide +kernel)
  · have hlen : gr_len A B (nI o) = B o := by
      unfold gr_len
      rw [if_pos ((gr_f_in ho).trans hA), nI_clamp (by omega)]
    rw [r1] at hlen
    rcases h.2 o ho with ⟨q, _⟩ | ⟨q, _⟩ | ⟨_, q2, _, q4, q5⟩
    · rw [hA] at q; exact absurd q (by decide +kernel)
    · rw [hA] at q; exact absurd q (by decide +kernel)
    · refine ⟨r2, Or.inr ⟨q2, q4.trans hlen.symm⟩, fun k hk => ?_⟩
      have hb : B o = nI (rn A B o) := hlen.symm
      rw [q5 k (by omega) (by rw [hb]; exact nI_lt hk (by omega))]
      have hg : gi A B D o k = D (o * 6 + k) := by
        unfold gi gr_item
        rw [gr_hiD_t ⟨(gr_f_in ho).trans hA, nI_pos (by omega), by rw [nI_clamp (by omega), hb]; exact nI_ge hk (by omega)⟩, nI_clamp (by omega), nI_clamp (by omega)]
        rfl
      rw [hg]
theorem row_is (R : Nat → Int32) (o i e j s : Nat) : isum (gap R o i e j s) ≤ s - j := gap_is
