def adl (l : List op) (q : op) : List op := if l.length < 127 then l ++ [q] else l
section RD
variable {W : ai_W} {R t : Nat} {T : Nat → Int32} {bs : List Nat}
theorem s_rv {a : Nat} (ha : a < 2 ^ 28) (hR : R < t ∨ t + 1 < R) (hl : bs.length ≤ 1200) (hb : ∀ b, b ∈ bs → b < 256) (hp : pre T bs) (hT : tw W t T (nI bs.length) = W) : (∃ v r, bs.drop a = vb 4 (zig v) ++ r ∧ ai_ev none 116 0 [some (.ref R), none, none, none, none, none] [] (zw W R t (nI a)) = some (some (.long v.toInt64), zw W R t (nI (a + (vb 4 (zig v)).length)))) ∨ ((∀ v r, ¬ bs.drop a = vb 4 (zig v) ++ r) ∧ ∃ x, ai_ev none 116 0 [some (.ref R), none, none, none, none, none] [] (zw W R t (nI a)) = some (some (.long 1099511627776), zw W R t x)) := by
  have e0 : ai_ev none 116 0 [some (.ref R), none, none, none, none, none] [] (zw W R t (nI a)) = ai_ev none 116 4 [some (.ref R), some (.long (lN 0)), none, some (.int (nI (7 * 0))), none, none] [] (zw W R t (nI a)) := by
    have k0 : (0 : Int64) = lN 0 := rfl
    simp (disch := omega) only [eReader_readVarint_0, eReader_readVarint_1, eReader_readVarint_2, eReader_readVarint_3, eReader_readVarint_5, eReader_readVarint_7, eReader_readVarint_10, eReader_readVarint_11, eReader_readVarint_14, eReader_readVarint_16, eReader_readVarint_18, eReader_readVarint_21, eReader_readVarint_24, eReader_readVarint_25, eReader_readVarint_26, eReader_readVarint_28, eReader_readVarint_30, eReader_readVarint_31, eReader_readVarint_32, eReader_readVarint_33, eReader_readVarint_34, eReader_readVarint_35, eReader_readVarint_36, eReader_readVarint_38, eReader_readVarint_41, eReader_readVarint_44, eReader_readVarint_46, eReader_readVarint_49, eReader_readVarint_50, eReader_readVarint_53, eReader_readVarint_54, eReader_readVarint_57, eReader_readVarint_58, eReader_readVarint_60, eReader_readVarint_62, eReader_readVarint_65, eReader_readVarint_66, eReader_readVarint_69, eReader_readVarint_70, eReader_readVarint_73, eReader_readVarint_76, eReader_readVarint_79, eReader_readVarint_80, eReader_readVarint_83, eReader_readVarint_84, eReader_readVarint_87, eReader_readVarint_90, eReader_readVarint_93, k0, ai_ai_at, ai_aj_at, ai_aq_at, ai_si_at, ai_sj_at, ai_sq_at, ai_cy_at, ai_al_at, ai_na_0, ai_na_1, ai_na_2, ai_na_3, ai_rc_at, ai_th_v, ai_th_n, ai_th_z, ai_sw, ai_nl_i, ai_nl_r, ai_nl_l, ai_nl_n, nI_clamp, nI_add, pk_mul, pk_sub, az_e0, az_l0, az_g0, az_p0, az_q0, az_eq, az_lt, az_le, az_m1, az_m2, az_m3, az_m4, az_m5, az_m6, az_m7, az_m8, az_dec, az_bd, az_b0, az_bt, az_bf, dn_leT, dn_leF, dn_ltT, dn_ltF, dn_eqT, dn_eqF, ↓reduceIte, if_true, if_false, not_true_eq_false, not_false_eq_true, true_and, and_true, false_and, and_false, true_or, or_true, false_or, or_false, Nat.reduceAdd, Nat.reduceMul, Nat.reduceSub, Nat.reduceLT, Nat.reduceLeDiff, Nat.reduceEqDiff, Nat.add_zero, Nat.zero_add, ne_eq, reduceCtorEq, decide_true, decide_false, Bool.true_eq_false, Bool.false_eq_true, Classical.not_not]
  rw [e0]
  rcases s_rv1 hR hl hb hp hT 4 0 0 a none none (by omega) (by omega) (by omega) with ⟨u, r, h1, _, h3, h4⟩ | ⟨h1, h2⟩
  · have hu : u < 2 ^ 32 := by omega
    refine Or.inl ⟨zag u, r, by rw [zig_zag hu]; exact h1, ?_⟩
    rw [h4, zig_zag hu, show 0 + u * 2 ^ (7 * 0) = u by omega]
  · refine Or.inr ⟨fun v r hd => ?_, h2⟩
    have := zig_lt v
    exact h1 (zig v) r hd (Or.inl rfl) (by omega)
theorem s_rref {a : Nat} (ha : a < 2 ^ 28) (hR : R < t ∨ t + 1 < R) (hl : bs.length ≤ 1200) (hb : ∀ b, b ∈ bs → b < 256) (hp : pre T bs) (hT : tw W t T (nI bs.length) = W) : (∃ p r, p < 16 ∧ bs.drop a = p :: r ∧ ai_ev none 113 0 [some (.ref R), none] [] (zw W R t (nI a)) = some (some (.long (nI p).toInt64), zw W R t (nI (a + 1)))) ∨ ((∀ p r, p < 16 → ¬ bs.drop a = p :: r) ∧ ∃ x, ai_ev none 113 0 [some (.ref R), none] [] (zw W R t (nI a)) = some (some (.long 1099511627776), zw W R t x)) := by
  have nxt := s_next (a := a) (by omega) hR hl hp hT
  have g0 : ∀ x, (zw W R t x).2.2 R = .inr (6, [.ref t, .int x]) := fun x => zw_g0
  cases h : bs[a]? with
  | none =>
    rw [nx_n h] at nxt
    refine Or.inr ⟨fun p r _ hd => ?_, nI (a + 1), ?_⟩
    · rw [dr_n h] at hd
      cases hd
    · simp (disch := omega) only [eReader_readReference_0, eReader_readReference_1, eReader_readReference_4, eReader_readReference_5, eReader_readReference_6, eReader_readReference_9, eReader_readReference_10, eReader_readReference_12, eReader_readReference_15, eReader_readReference_16, eReader_readReference_17, eReader_readReference_20, eReader_readReference_23, g0, nxt, ai_ai_at, ai_aj_at, ai_aq_at, ai_si_at, ai_sj_at, ai_sq_at, ai_cy_at, ai_al_at, ai_na_0, ai_na_1, ai_na_2, ai_na_3, ai_rc_at, ai_th_v, ai_th_n, ai_th_z, ai_sw, ai_nl_i, ai_nl_r, ai_nl_l, ai_nl_n, nI_clamp, nI_add, pk_mul, pk_sub, az_e0, az_l0, az_g0, az_p0, az_q0, az_eq, az_lt, az_le, az_m1, az_m2, az_m3, az_m4, az_m5, az_m6, az_m7, az_m8, az_dec, az_bd, az_b0, az_bt, az_bf, dn_leT, dn_leF, dn_ltT, dn_ltF, dn_eqT, dn_eqF, ↓reduceIte, if_true, if_false, not_true_eq_false, not_false_eq_true, true_and, and_true, false_and, and_false, true_or, or_true, false_or, or_false, Nat.reduceAdd, Nat.reduceMul, Nat.reduceSub, Nat.reduceLT, Nat.reduceLeDiff, Nat.reduceEqDiff, Nat.add_zero, Nat.zero_add, ne_eq, reduceCtorEq, decide_true, decide_false, Bool.true_eq_false, Bool.false_eq_true, Classical.not_not]
  | some b =>
    rw [nx_s h] at nxt
    have hb2 := hb b (List.mem_of_getElem? h)
    by_cases h16 : b < 16
    · refine Or.inl ⟨b, bs.drop (a + 1), h16, dr_s h, ?_⟩
      simp (disch := omega) only [eReader_readReference_0, eReader_readReference_1, eReader_readReference_4, eReader_readReference_5, eReader_readReference_6, eReader_readReference_9, eReader_readReference_10, eReader_readReference_12, eReader_readReference_15, eReader_readReference_16, eReader_readReference_17, eReader_readReference_20, eReader_readReference_23, g0, nxt, ai_ai_at, ai_aj_at, ai_aq_at, ai_si_at, ai_sj_at, ai_sq_at, ai_cy_at, ai_al_at, ai_na_0, ai_na_1, ai_na_2, ai_na_3, ai_rc_at, ai_th_v, ai_th_n, ai_th_z, ai_sw, ai_nl_i, ai_nl_r, ai_nl_l, ai_nl_n, nI_clamp, nI_add, pk_mul, pk_sub, az_e0, az_l0, az_g0, az_p0, az_q0, az_eq, az_lt, az_le, az_m1, az_m2, az_m3, az_m4, az_m5, az_m6, az_m7, az_m8, az_dec, az_bd, az_b0, az_bt, az_bf, dn_leT, dn_leF, dn_ltT, dn_ltF, dn_eqT, dn_eqF, ↓reduceIte, if_true, if_false, not_true_eq_false, not_false_eq_true, true_and, and_true, false_and, and_false, true_or, or_true, false_or, or_false, Nat.reduceAdd, Nat.reduceMul, Nat.reduceSub, Nat.reduceLT, Nat.reduceLeDiff, Nat.reduceEqDiff, Nat.add_zero, Nat.zero_add, ne_eq, reduceCtorEq, decide_true, decide_false, Bool.true_eq_false, Bool.false_eq_true, Classical.not_not]
    · refine Or.inr ⟨fun p r hp hd => ?_, nI (a + 1), ?_⟩
      · rw [dr_s h] at hd
        have := (List.cons.inj hd).1
        omega
      · simp (disch := omega) only [eReader_readReference_0, eReader_readReference_1, eReader_readReference_4, eReader_readReference_5, eReader_readReference_6, eReader_readReference_9, eReader_readReference_10, eReader_readReference_12, eReader_readReference_15, eReader_readReference_16, eReader_readReference_17, eReader_readReference_20, eReader_readReference_23, g0, nxt, ai_ai_at, ai_aj_at, ai_aq_at, ai_si_at, ai_sj_at, ai_sq_at, ai_cy_at, ai_al_at, ai_na_0, ai_na_1, ai_na_2, ai_na_3, ai_rc_at, ai_th_v, ai_th_n, ai_th_z, ai_sw, ai_nl_i, ai_nl_r, ai_nl_l, ai_nl_n, nI_clamp, nI_add, pk_mul, pk_sub, az_e0, az_l0, az_g0, az_p0, az_q0, az_eq, az_lt, az_le, az_m1, az_m2, az_m3, az_m4, az_m5, az_m6, az_m7, az_m8, az_dec, az_bd, az_b0, az_bt, az_bf, dn_leT, dn_leF, dn_ltT, dn_ltF, dn_eqT, dn_eqF, ↓reduceIte, if_true, if_false, not_true_eq_false, not_false_eq_true, true_and, and_true, false_and, and_false, true_or, or_true, false_or, or_false, Nat.reduceAdd, Nat.reduceMul, Nat.reduceSub, Nat.reduceLT, Nat.reduceLeDiff, Nat.reduceEqDiff, Nat.add_zero, Nat.zero_add, ne_eq, reduceCtorEq, decide_true, decide_false, Bool.true_eq_false, Bool.false_eq_true, Classical.not_not]
end RD
section AD
variable {w : ai_W} {d : Nat} {X : Nat → Int32} {l : List op}
theorem s_addF {c : Int32} {x0 x1 x2 x3 x4 : Int32} (h : dw w d X (nI 127) = w) : ai_ev none 23 0 [some (.ref d), some (.int x0), some (.int x1), some (.int x2), some (.int x3), some (.int x4), none] [] w = some (none, w) := by
  have e := dw_at h
  simp (disch := omega) only [eDelta_add_0, eDelta_add_1, eDelta_add_4, eDelta_add_6, eDelta_add_9, eDelta_add_10, eDelta_add_11, eDelta_add_14, eDelta_add_16, eDelta_add_17, eDelta_add_19, eDelta_add_20, eDelta_add_23, eDelta_add_25, eDelta_add_26, eDelta_add_27, eDelta_add_28, eDelta_add_31, eDelta_add_33, eDelta_add_34, eDelta_add_35, eDelta_add_36, eDelta_add_37, eDelta_add_38, eDelta_add_41, eDelta_add_43, eDelta_add_44, eDelta_add_45, eDelta_add_46, eDelta_add_47, eDelta_add_48, eDelta_add_51, eDelta_add_53, eDelta_add_54, eDelta_add_55, eDelta_add_57, eDelta_add_58, eDelta_add_59, eDelta_add_62, eDelta_add_64, eDelta_add_65, eDelta_add_66, eDelta_add_68, eDelta_add_69, eDelta_add_70, eDelta_add_71, eDelta_add_74, eDelta_add_75, eDelta_add_76, eDelta_add_79, e, ai_ai_at, ai_aj_at, ai_aq_at, ai_si_at, ai_sj_at, ai_sq_at, ai_cy_at, ai_al_at, ai_na_0, ai_na_1, ai_na_2, ai_na_3, ai_rc_at, ai_th_v, ai_th_n, ai_th_z, ai_sw, ai_nl_i, ai_nl_r, ai_nl_l, ai_nl_n, nI_clamp, nI_add, pk_mul, pk_sub, az_e0, az_l0, az_g0, az_p0, az_q0, az_eq, az_lt, az_le, az_m1, az_m2, az_m3, az_m4, az_m5, az_m6, az_m7, az_m8, az_dec, az_bd, az_b0, az_bt, az_bf, dn_leT, dn_leF, dn_ltT, dn_ltF, dn_eqT, dn_eqF, ↓reduceIte, if_true, if_false, not_true_eq_false, not_false_eq_true, true_and, and_true, false_and, and_false, true_or, or_true, false_or, or_false, Nat.reduceAdd, Nat.reduceMul, Nat.reduceSub, Nat.reduceLT, Nat.reduceLeDiff, Nat.reduceEqDiff, Nat.add_zero, Nat.zero_add, ne_eq, reduceCtorEq, decide_true, decide_false, Bool.true_eq_false, Bool.false_eq_true, Classical.not_not, gf_0_0, pf_0_0, gf_0_1, pf_0_1, gf_0_2, pf_0_2, gf_0_3, pf_0_3, gf_0_4, pf_0_4, gf_0_5, pf_0_5, gf_0_6, pf_0_6, gf_0_7, pf_0_7, gf_0_8, pf_0_8, gf_0_9, pf_0_9, gf_1_0, pf_1_0, gf_1_1, pf_1_1, gf_2_0, pf_2_0, gf_2_1, pf_2_1, gf_2_2, pf_2_2, gf_2_3, pf_2_3, gf_2_4, pf_2_4, gf_3_0, pf_3_0, gf_3_1, pf_3_1, gf_4_0, pf_4_0, gf_4_1, pf_4_1, gf_4_2, pf_4_2, gf_4_3, pf_4_3, gf_5_0, pf_5_0, gf_5_1, pf_5_1, gf_5_2, pf_5_2, gf_5_3, pf_5_3, gf_6_0, pf_6_0, gf_6_1, pf_6_1, gf_7_0, pf_7_0, gf_7_1, pf_7_1, gf_7_2, pf_7_2, gf_7_3, pf_7_3, gf_7_4, pf_7_4, gf_7_5, pf_7_5, gf_7_6, pf_7_6, gf_7_7, pf_7_7, gf_7_8, pf_7_8, gf_7_9, pf_7_9, gf_7_10, pf_7_10, gf_7_11, pf_7_11, gf_7_12, pf_7_12, gf_7_13, pf_7_13, gf_7_14, pf_7_14, gf_7_15, pf_7_15, gf_7_16, pf_7_16, gf_7_17, pf_7_17, gf_7_18, pf_7_18, gf_7_19, pf_7_19, gf_7_20, pf_7_20, gf_7_21, pf_7_21, gf_7_22, pf_7_22, gf_7_23, pf_7_23a, pf_7_23b]
theorem s_addCG {o p : Nat} (hn : l.length ≤ 127) (hr : reps X l) (h : dw w d X (nI l.length) = w) : ∃ X', ai_ev none 24 0 [some (.ref d), some (.int (nI o)), some (.int (nI p))] [] w = some (none, dw w d X' (nI (adl l (1, o, p, 0, nI 0, [])).length)) ∧ reps X' (adl l (1, o, p, 0, nI 0, [])) := by
  unfold adl
  by_cases hc : l.length < 127
  · rw [if_pos hc]
    obtain ⟨X', a1, a2⟩ := s_addC (o := o) (p := p) hc hr h
    exact ⟨X', by rw [a1]; simp, a2⟩
  · rw [if_neg hc]
    have hl : l.length = 127 := by omega
    rw [hl] at h
    have e := dw_at h
    have ad := s_addF (c := 0) (x0 := nI 1) (x1 := nI o) (x2 := nI p) (x3 := nI 0) (x4 := nI 0) h
    refine ⟨X, ?_, hr⟩
    rw [hl, h]
    simp (disch := omega) only [eDelta_addCreate_0, eDelta_addCreate_1, eDelta_addCreate_2, eDelta_addCreate_3, eDelta_addCreate_4, eDelta_addCreate_5, eDelta_addCreate_6, eDelta_addCreate_9, e, ad, ai_ai_at, ai_aj_at, ai_aq_at, ai_si_at, ai_sj_at, ai_sq_at, ai_cy_at, ai_al_at, ai_na_0, ai_na_1, ai_na_2, ai_na_3, ai_rc_at, ai_th_v, ai_th_n, ai_th_z, ai_sw, ai_nl_i, ai_nl_r, ai_nl_l, ai_nl_n, nI_clamp, nI_add, pk_mul, pk_sub, az_e0, az_l0, az_g0, az_p0, az_q0, az_eq, az_lt, az_le, az_m1, az_m2, az_m3, az_m4, az_m5, az_m6, az_m7, az_m8, az_dec, az_bd, az_b0, az_bt, az_bf, dn_leT, dn_leF, dn_ltT, dn_ltF, dn_eqT, dn_eqF, ↓reduceIte, if_true, if_false, not_true_eq_false, not_false_eq_true, true_and, and_true, false_and, and_false, true_or, or_true, false_or, or_false, Nat.reduceAdd, Nat.reduceMul, Nat.reduceSub, Nat.reduceLT, Nat.reduceLeDiff, Nat.reduceEqDiff, Nat.add_zero, Nat.zero_add, ne_eq, reduceCtorEq, decide_true, decide_false, Bool.true_eq_false, Bool.false_eq_true, Classical.not_not]
theorem s_addSG {o p t : Nat} {z : Int32} (hn : l.length ≤ 127) (hr : reps X l) (h : dw w d X (nI l.length) = w) : ∃ X', ai_ev none 27 0 [some (.ref d), some (.int (nI o)), some (.int (nI p)), some (.int (nI t)), some (.int z)] [] w = some (none, dw w d X' (nI (adl l (2, o, p, t, z, [])).length)) ∧ reps X' (adl l (2, o, p, t, z, [])) := by
  unfold adl
  by_cases hc : l.length < 127
  · rw [if_pos hc]
    obtain ⟨X', a1, a2⟩ := s_addS (o := o) (p := p) (t := t) (z := z) hc hr h
    exact ⟨X', by rw [a1]; simp, a2⟩
  · rw [if_neg hc]
    have hl : l.length = 127 := by omega
    rw [hl] at h
    have e := dw_at h
    have ad := s_addF (c := 0) (x0 := nI 2) (x1 := nI o) (x2 := nI p) (x3 := nI t) (x4 := z) h
    refine ⟨X, ?_, hr⟩
    rw [hl, h]
    simp (disch := omega) only [eDelta_addSet_0, eDelta_addSet_1, eDelta_addSet_2, eDelta_addSet_3, eDelta_addSet_4, eDelta_addSet_5, eDelta_addSet_7, eDelta_addSet_10, e, ad, ai_ai_at, ai_aj_at, ai_aq_at, ai_si_at, ai_sj_at, ai_sq_at, ai_cy_at, ai_al_at, ai_na_0, ai_na_1, ai_na_2, ai_na_3, ai_rc_at, ai_th_v, ai_th_n, ai_th_z, ai_sw, ai_nl_i, ai_nl_r, ai_nl_l, ai_nl_n, nI_clamp, nI_add, pk_mul, pk_sub, az_e0, az_l0, az_g0, az_p0, az_q0, az_eq, az_lt, az_le, az_m1, az_m2, az_m3, az_m4, az_m5, az_m6, az_m7, az_m8, az_dec, az_bd, az_b0, az_bt, az_bf, dn_leT, dn_leF, dn_ltT, dn_ltF, dn_eqT, dn_eqF, ↓reduceIte, if_true, if_false, not_true_eq_false, not_false_eq_true, true_and, and_true, false_and, and_false, true_or, or_true, false_or, or_false, Nat.reduceAdd, Nat.reduceMul, Nat.reduceSub, Nat.reduceLT, Nat.reduceLeDiff, Nat.reduceEqDiff, Nat.add_zero, Nat.zero_add, ne_eq, reduceCtorEq, decide_true, decide_false, Bool.true_eq_false, Bool.false_eq_true, Classical.not_not]
theorem s_addPG {o p t : Nat} (hn : l.length ≤ 127) (hr : reps X l) (h : dw w d X (nI l.length) = w) : ∃ X', ai_ev none 28 0 [some (.ref d), some (.int (nI o)), some (.int (nI p)), some (.int (nI t))] [] w = some (none, dw w d X' (nI (adl l (3, o, p, t, nI 0, [])).length)) ∧ reps X' (adl l (3, o, p, t, nI 0, [])) := by
  unfold adl
  by_cases hc : l.length < 127
  · rw [if_pos hc]
    obtain ⟨X', a1, a2⟩ := s_addP (o := o) (p := p) (t := t) hc hr h
    exact ⟨X', by rw [a1]; simp, a2⟩
  · rw [if_neg hc]
    have hl : l.length = 127 := by omega
    rw [hl] at h
    have e := dw_at h
    have ad := s_addF (c := 0) (x0 := nI 3) (x1 := nI o) (x2 := nI p) (x3 := nI t) (x4 := nI 0) h
    refine ⟨X, ?_, hr⟩
    rw [hl, h]
    simp (disch := omega) only [eDelta_addSplice_0, eDelta_addSplice_1, eDelta_addSplice_2, eDelta_addSplice_3, eDelta_addSplice_4, eDelta_addSplice_5, eDelta_addSplice_6, eDelta_addSplice_9, e, ad, ai_ai_at, ai_aj_at, ai_aq_at, ai_si_at, ai_sj_at, ai_sq_at, ai_cy_at, ai_al_at, ai_na_0, ai_na_1, ai_na_2, ai_na_3, ai_rc_at, ai_th_v, ai_th_n, ai_th_z, ai_sw, ai_nl_i, ai_nl_r, ai_nl_l, ai_nl_n, nI_clamp, nI_add, pk_mul, pk_sub, az_e0, az_l0, az_g0, az_p0, az_q0, az_eq, az_lt, az_le, az_m1, az_m2, az_m3, az_m4, az_m5, az_m6, az_m7, az_m8, az_dec, az_bd, az_b0, az_bt, az_bf, dn_leT, dn_leF, dn_ltT, dn_ltF, dn_eqT, dn_eqF, ↓reduceIte, if_true, if_false, not_true_eq_false, not_false_eq_true, true_and, and_true, false_and, and_false, true_or, or_true, false_or, or_false, Nat.reduceAdd, Nat.reduceMul, Nat.reduceSub, Nat.reduceLT, Nat.reduceLeDiff, Nat.reduceEqDiff, Nat.add_zero, Nat.zero_add, ne_eq, reduceCtorEq, decide_true, decide_false, Bool.true_eq_false, Bool.false_eq_true, Classical.not_not]
def cap1 (s : List Int32) (x : Int32) : List Int32 := if s.length < 6 then s ++ [x] else s
theorem s_addIG {o p t : Nat} {s : List Int32} {x : Int32} (hn : l.length < 127) (hs : s.length ≤ 6) (hr : reps X (l ++ [(3, o, p, t, nI s.length, s)])) (h : dw w d X (nI (l.length + 1)) = w) : ∃ X', ai_ev none 26 0 [some (.ref d), some (.int x), none] [] w = some (none, dw w d X' (nI (l.length + 1))) ∧ reps X' (l ++ [(3, o, p, t, nI (cap1 s x).length, cap1 s x)]) := by
  unfold cap1
  by_cases hc : s.length < 6
  · rw [if_pos hc]
    obtain ⟨X', a1, a2⟩ := s_addI (x := x) hn hc hr h
    refine ⟨X', a1, ?_⟩
    rw [List.length_append, List.length_singleton]
    exact a2
  · rw [if_neg hc]
    have h6 : s.length = 6 := by omega
    have e := dw_at h
    have hx : (l ++ [(3, o, p, t, nI s.length, s)])[l.length]? = some (3, o, p, t, nI s.length, s) := by simp
    have c := (hr _ _ hx).1
    have ins := s_inserts hn h
    rw [c.2.2.2.2.1] at ins
    have ins2 : ai_ev none 40 0 [some (.ref d), some (.int (nI l.length))] [] w = some (some (.int (nI 6)), w) := by
      rw [ins, h6]
    refine ⟨X, ?_, hr⟩
    rw [h]
    simp (disch := omega) only [eDelta_addInserted_0, eDelta_addInserted_1, eDelta_addInserted_4, eDelta_addInserted_5, eDelta_addInserted_6, eDelta_addInserted_7, eDelta_addInserted_8, eDelta_addInserted_11, eDelta_addInserted_12, eDelta_addInserted_13, eDelta_addInserted_16, eDelta_addInserted_18, eDelta_addInserted_21, eDelta_addInserted_22, eDelta_addInserted_25, eDelta_addInserted_26, eDelta_addInserted_28, eDelta_addInserted_29, eDelta_addInserted_30, eDelta_addInserted_31, eDelta_addInserted_32, eDelta_addInserted_33, eDelta_addInserted_36, eDelta_addInserted_37, eDelta_addInserted_38, eDelta_addInserted_39, eDelta_addInserted_40, eDelta_addInserted_43, eDelta_addInserted_44, eDelta_addInserted_46, eDelta_addInserted_47, eDelta_addInserted_48, eDelta_addInserted_49, eDelta_addInserted_50, eDelta_addInserted_51, eDelta_addInserted_52, eDelta_addInserted_53, eDelta_addInserted_54, e, ins2, Nat.add_sub_cancel, ai_ai_at, ai_aj_at, ai_aq_at, ai_si_at, ai_sj_at, ai_sq_at, ai_cy_at, ai_al_at, ai_na_0, ai_na_1, ai_na_2, ai_na_3, ai_rc_at, ai_th_v, ai_th_n, ai_th_z, ai_sw, ai_nl_i, ai_nl_r, ai_nl_l, ai_nl_n, nI_clamp, nI_add, pk_mul, pk_sub, az_e0, az_l0, az_g0, az_p0, az_q0, az_eq, az_lt, az_le, az_m1, az_m2, az_m3, az_m4, az_m5, az_m6, az_m7, az_m8, az_dec, az_bd, az_b0, az_bt, az_bf, dn_leT, dn_leF, dn_ltT, dn_ltF, dn_eqT, dn_eqF, ↓reduceIte, if_true, if_false, not_true_eq_false, not_false_eq_true, true_and, and_true, false_and, and_false, true_or, or_true, false_or, or_false, Nat.reduceAdd, Nat.reduceMul, Nat.reduceSub, Nat.reduceLT, Nat.reduceLeDiff, Nat.reduceEqDiff, Nat.add_zero, Nat.zero_add, ne_eq, reduceCtorEq, decide_true, decide_false, Bool.true_eq_false, Bool.false_eq_true, Classical.not_not, gf_0_0, pf_0_0, gf_0_1, pf_0_1, gf_0_2, pf_0_2, gf_0_3, pf_0_3, gf_0_4, pf_0_4, gf_0_5, pf_0_5, gf_0_6, pf_0_6, gf_0_7, pf_0_7, gf_0_8, pf_0_8, gf_0_9, pf_0_9, gf_1_0, pf_1_0, gf_1_1, pf_1_1, gf_2_0, pf_2_0, gf_2_1, pf_2_1, gf_2_2, pf_2_2, gf_2_3, pf_2_3, gf_2_4, pf_2_4, gf_3_0, pf_3_0, gf_3_1, pf_3_1, gf_4_0, pf_4_0, gf_4_1, pf_4_1, gf_4_2, pf_4_2, gf_4_3, pf_4_3, gf_5_0, pf_5_0, gf_5_1, pf_5_1, gf_5_2, pf_5_2, gf_5_3, pf_5_3, gf_6_0, pf_6_0, gf_6_1, pf_6_1, gf_7_0, pf_7_0, gf_7_1, pf_7_1, gf_7_2, pf_7_2, gf_7_3, pf_7_3, gf_7_4, pf_7_4, gf_7_5, pf_7_5, gf_7_6, pf_7_6, gf_7_7, pf_7_7, gf_7_8, pf_7_8, gf_7_9, pf_7_9, gf_7_10, pf_7_10, gf_7_11, pf_7_11, gf_7_12, pf_7_12, gf_7_13, pf_7_13, gf_7_14, pf_7_14, gf_7_15, pf_7_15, gf_7_16, pf_7_16, gf_7_17, pf_7_17, gf_7_18, pf_7_18, gf_7_19, pf_7_19, gf_7_20, pf_7_20, gf_7_21, pf_7_21, gf_7_22, pf_7_22, gf_7_23, pf_7_23a, pf_7_23b]
end AD
section RO
variable {w : ai_W} {R t d : Nat} {T X : Nat → Int32} {bs : List Nat} {l : List op}
theorem s_rcr {a o : Nat} (ha : a < 2 ^ 28) (hRt : R < t ∨ t + 1 < R) (hRd : R < d ∨ d + 1 < R) (hdt : d + 1 < t ∨ t + 1 < d) (hl : bs.length ≤ 1200) (hb : ∀ b, b ∈ bs → b < 256) (hp : pre T bs) (hT : tw w t T (nI bs.length) = w) (ho : o < 16) (hn : l.length ≤ 127) (hr : reps X l) : (∃ q r X', ov q ∧ q.1 = 1 ∧ q.2.1 = o ∧ q.1 :: o :: bs.drop a = obytes q ++ r ∧ ai_ev none 111 0 [some (.ref R), some (.int (nI o)), some (.ref d), none] [] (zw (dw w d X (nI l.length)) R t (nI a)) = some (some (.int (nI 1)), zw (dw w d X' (nI (adl l q).length)) R t (nI (a + ((obytes q).length - 2)))) ∧ reps X' (adl l q)) ∨ ((∀ q r, ov q → q.1 = 1 → q.2.1 = o → ¬ q.1 :: o :: bs.drop a = obytes q ++ r) ∧ ∃ X' n' y, ai_ev none 111 0 [some (.ref R), some (.int (nI o)), some (.ref d), none] [] (zw (dw w d X (nI l.length)) R t (nI a)) = some (some (.int (nI 0)), zw (dw w d X' n') R t y)) := by
  have hT2 : ∀ (X' : Nat → Int32) (n' : Int32), tw (dw w d X' n') t T (nI bs.length) = dw w d X' n' := fun X' n' => tw_fr hT (fun k _ _ => dw_go (by omega))
  have nxt := s_next (a := a) (by omega) hRt hl hp (hT2 X (nI l.length))
  have g0 : ∀ (V : ai_W) (x : Int32), (zw V R t x).2.2 R = .inr (6, [.ref t, .int x]) := fun V x => zw_g0
  have ob1 : ∀ q : op, q.1 = 1 → obytes q = q.1 :: q.2.1 :: q.2.2.1 :: [] := fun q hq => by
    unfold obytes
    rw [if_neg (by omega), if_neg (by omega)]
  cases h : bs[a]? with
  | none =>
    rw [nx_n h] at nxt
    refine Or.inr ⟨fun q r _ hq1 _ hd => ?_, X, nI l.length, nI (a + 1), ?_⟩
    · rw [dr_n h, ob1 q hq1] at hd
      simp at hd
    · by_cases h0 : o = 0
      · subst h0
        simp (disch := omega) only [eReader_readCreate_0, eReader_readCreate_1, eReader_readCreate_4, eReader_readCreate_5, eReader_readCreate_6, eReader_readCreate_9, eReader_readCreate_10, eReader_readCreate_13, eReader_readCreate_14, eReader_readCreate_15, eReader_readCreate_18, eReader_readCreate_19a, eReader_readCreate_19b, eReader_readCreate_19c, eReader_readCreate_20, eReader_readCreate_21, eReader_readCreate_22, eReader_readCreate_23, eReader_readCreate_26, eReader_readCreate_27a, eReader_readCreate_27b, eReader_readCreate_27c, g0, nxt, ai_ai_at, ai_aj_at, ai_aq_at, ai_si_at, ai_sj_at, ai_sq_at, ai_cy_at, ai_al_at, ai_na_0, ai_na_1, ai_na_2, ai_na_3, ai_rc_at, ai_th_v, ai_th_n, ai_th_z, ai_sw, ai_nl_i, ai_nl_r, ai_nl_l, ai_nl_n, nI_clamp, nI_add, pk_mul, pk_sub, az_e0, az_l0, az_g0, az_p0, az_q0, az_eq, az_lt, az_le, az_m1, az_m2, az_m3, az_m4, az_m5, az_m6, az_m7, az_m8, az_dec, az_bd, az_b0, az_bt, az_bf, dn_leT, dn_leF, dn_ltT, dn_ltF, dn_eqT, dn_eqF, ↓reduceIte, if_true, if_false, not_true_eq_false, not_false_eq_true, true_and, and_true, false_and, and_false, true_or, or_true, false_or, or_false, Nat.reduceAdd, Nat.reduceMul, Nat.reduceSub, Nat.reduceLT, Nat.reduceLeDiff, Nat.reduceEqDiff, Nat.add_zero, Nat.zero_add, ne_eq, reduceCtorEq, decide_true, decide_false, Bool.true_eq_false, Bool.false_eq_true, Classical.not_not]
      · simp (disch := omega) only [eReader_readCreate_0, eReader_readCreate_1, eReader_readCreate_4, eReader_readCreate_5, eReader_readCreate_6, eReader_readCreate_9, eReader_readCreate_10, eReader_readCreate_13, eReader_readCreate_14, eReader_readCreate_15, eReader_readCreate_18, eReader_readCreate_19a, eReader_readCreate_19b, eReader_readCreate_19c, eReader_readCreate_20, eReader_readCreate_21, eReader_readCreate_22, eReader_readCreate_23, eReader_readCreate_26, eReader_readCreate_27a, eReader_readCreate_27b, eReader_readCreate_27c, g0, nxt, h0, ai_ai_at, ai_aj_at, ai_aq_at, ai_si_at, ai_sj_at, ai_sq_at, ai_cy_at, ai_al_at, ai_na_0, ai_na_1, ai_na_2, ai_na_3, ai_rc_at, ai_th_v, ai_th_n, ai_th_z, ai_sw, ai_nl_i, ai_nl_r, ai_nl_l, ai_nl_n, nI_clamp, nI_add, pk_mul, pk_sub, az_e0, az_l0, az_g0, az_p0, az_q0, az_eq, az_lt, az_le, az_m1, az_m2, az_m3, az_m4, az_m5, az_m6, az_m7, az_m8, az_dec, az_bd, az_b0, az_bt, az_bf, dn_leT, dn_leF, dn_ltT, dn_ltF, dn_eqT, dn_eqF, ↓reduceIte, if_true, if_false, not_true_eq_false, not_false_eq_true, true_and, and_true, false_and, and_false, true_or, or_true, false_or, or_false, Nat.reduceAdd, Nat.reduceMul, Nat.reduceSub, Nat.reduceLT, Nat.reduceLeDiff, Nat.reduceEqDiff, Nat.add_zero, Nat.zero_add, ne_eq, reduceCtorEq, decide_true, decide_false, Bool.true_eq_false, Bool.false_eq_true, Classical.not_not]
  | some b =>
    rw [nx_s h] at nxt
    have hb2 := hb b (List.mem_of_getElem? h)
    by_cases hc : 1 ≤ o ∧ b ≤ 1
    · obtain ⟨X', a1, a2⟩ := s_addCG (w := zw (dw w d X (nI l.length)) R t (nI (a + 1))) (o := o) (p := b) hn hr (dw_fr dw_w (fun k _ _ => zw_go (by omega)))
      rw [zw_d (by omega) (by omega), dw_w] at a1
      have ed : (zw (dw w d X (nI l.length)) R t (nI (a + 1))).2.2 d = .inr (1, [.ref (d + 1), .int (nI l.length)]) := (zw_go (by omega)).trans dw_g0
      have h0 : ¬ o = 0 := by omega
      refine Or.inl ⟨(1, o, b, 0, nI 0, []), bs.drop (a + 1), X', ⟨ho, Or.inl ⟨rfl, hc.1, hc.2, rfl, rfl, rfl⟩⟩, rfl, rfl, ?_, ?_, a2⟩
      · rw [dr_s h, ob1 _ rfl]
        rfl
      · have hlen : (obytes (1, o, b, 0, nI 0, [])).length = 3 := rfl
        rw [hlen]
        have hb01 : b = 0 ∨ b = 1 := by omega
        rcases hb01 with rfl | rfl
        · simp (disch := omega) only [eReader_readCreate_0, eReader_readCreate_1, eReader_readCreate_4, eReader_readCreate_5, eReader_readCreate_6, eReader_readCreate_9, eReader_readCreate_10, eReader_readCreate_13, eReader_readCreate_14, eReader_readCreate_15, eReader_readCreate_18, eReader_readCreate_19a, eReader_readCreate_19b, eReader_readCreate_19c, eReader_readCreate_20, eReader_readCreate_21, eReader_readCreate_22, eReader_readCreate_23, eReader_readCreate_26, eReader_readCreate_27a, eReader_readCreate_27b, eReader_readCreate_27c, g0, nxt, h0, ed, a1, ai_ai_at, ai_aj_at, ai_aq_at, ai_si_at, ai_sj_at, ai_sq_at, ai_cy_at, ai_al_at, ai_na_0, ai_na_1, ai_na_2, ai_na_3, ai_rc_at, ai_th_v, ai_th_n, ai_th_z, ai_sw, ai_nl_i, ai_nl_r, ai_nl_l, ai_nl_n, nI_clamp, nI_add, pk_mul, pk_sub, az_e0, az_l0, az_g0, az_p0, az_q0, az_eq, az_lt, az_le, az_m1, az_m2, az_m3, az_m4, az_m5, az_m6, az_m7, az_m8, az_dec, az_bd, az_b0, az_bt, az_bf, dn_leT, dn_leF, dn_ltT, dn_ltF, dn_eqT, dn_eqF, ↓reduceIte, if_true, if_false, not_true_eq_false, not_false_eq_true, true_and, and_true, false_and, and_false, true_or, or_true, false_or, or_false, Nat.reduceAdd, Nat.reduceMul, Nat.reduceSub, Nat.reduceLT, Nat.reduceLeDiff, Nat.reduceEqDiff, Nat.add_zero, Nat.zero_add, ne_eq, reduceCtorEq, decide_true, decide_false, Bool.true_eq_false, Bool.false_eq_true, Classical.not_not]
        · simp (disch := omega) only [eReader_readCreate_0, eReader_readCreate_1, eReader_readCreate_4, eReader_readCreate_5, eReader_readCreate_6, eReader_readCreate_9, eReader_readCreate_10, eReader_readCreate_13, eReader_readCreate_14, eReader_readCreate_15, eReader_readCreate_18, eReader_readCreate_19a, eReader_readCreate_19b, eReader_readCreate_19c, eReader_readCreate_20, eReader_readCreate_21, eReader_readCreate_22, eReader_readCreate_23, eReader_readCreate_26, eReader_readCreate_27a, eReader_readCreate_27b, eReader_readCreate_27c, g0, nxt, h0, ed, a1, ai_ai_at, ai_aj_at, ai_aq_at, ai_si_at, ai_sj_at, ai_sq_at, ai_cy_at, ai_al_at, ai_na_0, ai_na_1, ai_na_2, ai_na_3, ai_rc_at, ai_th_v, ai_th_n, ai_th_z, ai_sw, ai_nl_i, ai_nl_r, ai_nl_l, ai_nl_n, nI_clamp, nI_add, pk_mul, pk_sub, az_e0, az_l0, az_g0, az_p0, az_q0, az_eq, az_lt, az_le, az_m1, az_m2, az_m3, az_m4, az_m5, az_m6, az_m7, az_m8, az_dec, az_bd, az_b0, az_bt, az_bf, dn_leT, dn_leF, dn_ltT, dn_ltF, dn_eqT, dn_eqF, ↓reduceIte, if_true, if_false, not_true_eq_false, not_false_eq_true, true_and, and_true, false_and, and_false, true_or, or_true, false_or, or_false, Nat.reduceAdd, Nat.reduceMul, Nat.reduceSub, Nat.reduceLT, Nat.reduceLeDiff, Nat.reduceEqDiff, Nat.add_zero, Nat.zero_add, ne_eq, reduceCtorEq, decide_true, decide_false, Bool.true_eq_false, Bool.false_eq_true, Classical.not_not]
    · refine Or.inr ⟨fun q r hq hq1 hq2 hd => hc ?_, X, nI l.length, nI (a + 1), ?_⟩
      · rw [dr_s h, ob1 q hq1] at hd
        simp only [List.cons_append, List.cons.injEq] at hd
        rcases hq.2 with ⟨_, z1, z2, _⟩ | ⟨z, _⟩ | ⟨z, _⟩
        · omega
        · omega
        · omega
      · by_cases h0 : o = 0
        · subst h0
          simp (disch := omega) only [eReader_readCreate_0, eReader_readCreate_1, eReader_readCreate_4, eReader_readCreate_5, eReader_readCreate_6, eReader_readCreate_9, eReader_readCreate_10, eReader_readCreate_13, eReader_readCreate_14, eReader_readCreate_15, eReader_readCreate_18, eReader_readCreate_19a, eReader_readCreate_19b, eReader_readCreate_19c, eReader_readCreate_20, eReader_readCreate_21, eReader_readCreate_22, eReader_readCreate_23, eReader_readCreate_26, eReader_readCreate_27a, eReader_readCreate_27b, eReader_readCreate_27c, g0, nxt, ai_ai_at, ai_aj_at, ai_aq_at, ai_si_at, ai_sj_at, ai_sq_at, ai_cy_at, ai_al_at, ai_na_0, ai_na_1, ai_na_2, ai_na_3, ai_rc_at, ai_th_v, ai_th_n, ai_th_z, ai_sw, ai_nl_i, ai_nl_r, ai_nl_l, ai_nl_n, nI_clamp, nI_add, pk_mul, pk_sub, az_e0, az_l0, az_g0, az_p0, az_q0, az_eq, az_lt, az_le, az_m1, az_m2, az_m3, az_m4, az_m5, az_m6, az_m7, az_m8, az_dec, az_bd, az_b0, az_bt, az_bf, dn_leT, dn_leF, dn_ltT, dn_ltF, dn_eqT, dn_eqF, ↓reduceIte, if_true, if_false, not_true_eq_false, not_false_eq_true, true_and, and_true, false_and, and_false, true_or, or_true, false_or, or_false, Nat.reduceAdd, Nat.reduceMul, Nat.reduceSub, Nat.reduceLT, Nat.reduceLeDiff, Nat.reduceEqDiff, Nat.add_zero, Nat.zero_add, ne_eq, reduceCtorEq, decide_true, decide_false, Bool.true_eq_false, Bool.false_eq_true, Classical.not_not]
        · have hb0 : ¬ b = 0 := by omega
          have hb1 : ¬ b = 1 := by omega
          simp (disch := omega) only [eReader_readCreate_0, eReader_readCreate_1, eReader_readCreate_4, eReader_readCreate_5, eReader_readCreate_6, eReader_readCreate_9, eReader_readCreate_10, eReader_readCreate_13, eReader_readCreate_14, eReader_readCreate_15, eReader_readCreate_18, eReader_readCreate_19a, eReader_readCreate_19b, eReader_readCreate_19c, eReader_readCreate_20, eReader_readCreate_21, eReader_readCreate_22, eReader_readCreate_23, eReader_readCreate_26, eReader_readCreate_27a, eReader_readCreate_27b, eReader_readCreate_27c, g0, nxt, h0, hb0, hb1, ai_ai_at, ai_aj_at, ai_aq_at, ai_si_at, ai_sj_at, ai_sq_at, ai_cy_at, ai_al_at, ai_na_0, ai_na_1, ai_na_2, ai_na_3, ai_rc_at, ai_th_v, ai_th_n, ai_th_z, ai_sw, ai_nl_i, ai_nl_r, ai_nl_l, ai_nl_n, nI_clamp, nI_add, pk_mul, pk_sub, az_e0, az_l0, az_g0, az_p0, az_q0, az_eq, az_lt, az_le, az_m1, az_m2, az_m3, az_m4, az_m5, az_m6, az_m7, az_m8, az_dec, az_bd, az_b0, az_bt, az_bf, dn_leT, dn_leF, dn_ltT, dn_ltF, dn_eqT, dn_eqF, ↓reduceIte, if_true, if_false, not_true_eq_false, not_false_eq_true, true_and, and_true, false_and, and_false, true_or, or_true, false_or, or_false, Nat.reduceAdd, Nat.reduceMul, Nat.reduceSub, Nat.reduceLT, Nat.reduceLeDiff, Nat.reduceEqDiff, Nat.add_zero, Nat.zero_add, ne_eq, reduceCtorEq, decide_true, decide_false, Bool.true_eq_false, Bool.false_eq_true, Classical.not_not]
end RO
