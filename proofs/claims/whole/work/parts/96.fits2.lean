def fitC (K A B : Nat → Int32) (l : List op) : Prop := (∀ q, q ∈ l → opfC K A B l q) ∧ ∀ o, o < 16 → (rn A B o : Int) + gz l o ≤ 6
section DC
variable {w : ai_W} {d g a : Nat} {X K A B C D : Nat → Int32} {l : List op}
theorem grow_c {o : Nat} (hov : ∀ q, q ∈ l → ov q) (hn : l.length ≤ 127) (hr : rn A B o ≤ 6) : (nI (rn A B o) + Int32.ofInt (gz l o) ≤ nI 6) = ((rn A B o : Int) + gz l o ≤ 6) := by
  have hb := gz_b (o := o) l hov
  apply propext
  have e : nI (rn A B o) = Int32.ofInt (rn A B o : Int) := Int32.ofInt_eq_ofNat.symm
  rw [e, ← Int32.ofInt_add, Int32.le_iff_toInt_le, Int32.toInt_ofInt_of_le (by omega) (by omega), nI_toInt (by decide)]
  exact Iff.rfl
theorem s_fits2 (hn : l.length ≤ 127) (hov : ∀ q, q ∈ l → ov q) (rX : ∀ k q, l[k]? = some q → crep X k q) (hd : dw w d X (nI l.length) = w) (hg : gw w g A B C D = w) (hB : gr_B B) : ∀ n o, o + n = 16 → ai_ev none 103 30 [some (.ref d), some (.ref g), some (.ref a), some (.int (nI o))] [] w = some (some (.int (ai_bI (cD (∀ p, o ≤ p → p < 16 → (rn A B p : Int) + gz l p ≤ 6)))), w)
  | 0, o, ho => by
    have eg := gw_at hg
    rw [cD_t (show ∀ p, o ≤ p → p < 16 → (rn A B p : Int) + gz l p ≤ 6 from fun p h1 h2 => absurd h2 (by omega))]
    refine ePatch_fits_30.trans ?_
    simp (disch := omega) only [ePatch_fits_0, ePatch_fits_1, ePatch_fits_3, ePatch_fits_4, ePatch_fits_7, ePatch_fits_10, ePatch_fits_11, ePatch_fits_12, ePatch_fits_13, ePatch_fits_14, ePatch_fits_17, ePatch_fits_20, ePatch_fits_21a, ePatch_fits_21b, ePatch_fits_21c, ePatch_fits_22, ePatch_fits_25, ePatch_fits_28, ePatch_fits_29, ePatch_fits_31, ePatch_fits_33, ePatch_fits_36, ePatch_fits_37, ePatch_fits_38, ePatch_fits_41, ePatch_fits_42, ePatch_fits_43, ePatch_fits_46, ePatch_fits_47, ePatch_fits_49, ePatch_fits_52, ePatch_fits_53a, ePatch_fits_53b, ePatch_fits_53c, ePatch_fits_54, ePatch_fits_57, ePatch_fits_60, ePatch_fits_61a, ePatch_fits_61b, ePatch_fits_61c, eg, ai_ai_at, ai_aj_at, ai_aq_at, ai_si_at, ai_sj_at, ai_sq_at, ai_cy_at, ai_al_at, ai_na_0, ai_na_1, ai_na_2, ai_na_3, ai_rc_at, ai_th_v, ai_th_n, ai_th_z, ai_sw, ai_nl_i, ai_nl_r, ai_nl_l, ai_nl_n, nI_clamp, nI_add, pk_mul, pk_sub, az_e0, az_l0, az_g0, az_p0, az_q0, az_eq, az_lt, az_le, az_m1, az_m2, az_m3, az_m4, az_m5, az_m6, az_m7, az_m8, az_dec, az_bd, az_b0, az_bt, az_bf, dn_leT, dn_leF, dn_ltT, dn_ltF, dn_eqT, dn_eqF, ↓reduceIte, if_true, if_false, not_true_eq_false, not_false_eq_true, true_and, and_true, false_and, and_false, true_or, or_true, false_or, or_false, Nat.reduceAdd, Nat.reduceMul, Nat.reduceSub, Nat.reduceLT, Nat.reduceLeDiff, Nat.reduceEqDiff, Nat.add_zero, Nat.zero_add, ne_eq, reduceCtorEq, decide_true, decide_false, Bool.true_eq_false, Bool.false_eq_true, Classical.not_not]
  | n + 1, o, ho => by
    have ih := s_fits2 hn hov rX hd hg hB n (o + 1) (by omega)
    have eg := gw_at hg
    have ed := dw_at hd
    have ho16 : o < 16 := by omega
    obtain ⟨r1, r2⟩ := rn_eq (A := A) hB ho16
    have sl := s_length (o := nI o) hg
    rw [r1] at sl
    have sg := s_growth ho16 hn hov rX hd
    have gc := grow_c (A := A) (B := B) (o := o) hov hn r2
    by_cases h : (rn A B o : Int) + gz l o ≤ 6
    · have hcc : (∀ p, o ≤ p → p < 16 → (rn A B p : Int) + gz l p ≤ 6) ↔ (∀ p, o + 1 ≤ p → p < 16 → (rn A B p : Int) + gz l p ≤ 6) := by
        refine ⟨fun h2 p h3 h4 => h2 p (by omega) h4, fun h2 p h3 h4 => ?_⟩
        by_cases hp : p = o
        · rw [hp]; exact h
        · exact h2 p (by omega) h4
      rw [cD_congr hcc, ← ih]
      have gc2 := gc.trans (eq_true h)
      refine ePatch_fits_30.trans ?_
      simp (disch := omega) only [ePatch_fits_0, ePatch_fits_1, ePatch_fits_3, ePatch_fits_4, ePatch_fits_7, ePatch_fits_10, ePatch_fits_11, ePatch_fits_12, ePatch_fits_13, ePatch_fits_14, ePatch_fits_17, ePatch_fits_20, ePatch_fits_21a, ePatch_fits_21b, ePatch_fits_21c, ePatch_fits_22, ePatch_fits_25, ePatch_fits_28, ePatch_fits_29, ePatch_fits_31, ePatch_fits_33, ePatch_fits_36, ePatch_fits_37, ePatch_fits_38, ePatch_fits_41, ePatch_fits_42, ePatch_fits_43, ePatch_fits_46, ePatch_fits_47, ePatch_fits_49, ePatch_fits_52, ePatch_fits_53a, ePatch_fits_53b, ePatch_fits_53c, ePatch_fits_54, ePatch_fits_57, ePatch_fits_60, ePatch_fits_61a, ePatch_fits_61b, ePatch_fits_61c, eg, ed, sl, sg, gc2, ai_ai_at, ai_aj_at, ai_aq_at, ai_si_at, ai_sj_at, ai_sq_at, ai_cy_at, ai_al_at, ai_na_0, ai_na_1, ai_na_2, ai_na_3, ai_rc_at, ai_th_v, ai_th_n, ai_th_z, ai_sw, ai_nl_i, ai_nl_r, ai_nl_l, ai_nl_n, nI_clamp, nI_add, pk_mul, pk_sub, az_e0, az_l0, az_g0, az_p0, az_q0, az_eq, az_lt, az_le, az_m1, az_m2, az_m3, az_m4, az_m5, az_m6, az_m7, az_m8, az_dec, az_bd, az_b0, az_bt, az_bf, dn_leT, dn_leF, dn_ltT, dn_ltF, dn_eqT, dn_eqF, ↓reduceIte, if_true, if_false, not_true_eq_false, not_false_eq_true, true_and, and_true, false_and, and_false, true_or, or_true, false_or, or_false, Nat.reduceAdd, Nat.reduceMul, Nat.reduceSub, Nat.reduceLT, Nat.reduceLeDiff, Nat.reduceEqDiff, Nat.add_zero, Nat.zero_add, ne_eq, reduceCtorEq, decide_true, decide_false, Bool.true_eq_false, Bool.false_eq_true, Classical.not_not]
    · rw [cD_f (fun h2 => h (h2 o (Nat.le_refl _) ho16))]
      have gc2 := gc.trans (eq_false h)
      refine ePatch_fits_30.trans ?_
      simp (disch := omega) only [ePatch_fits_0, ePatch_fits_1, ePatch_fits_3, ePatch_fits_4, ePatch_fits_7, ePatch_fits_10, ePatch_fits_11, ePatch_fits_12, ePatch_fits_13, ePatch_fits_14, ePatch_fits_17, ePatch_fits_20, ePatch_fits_21a, ePatch_fits_21b, ePatch_fits_21c, ePatch_fits_22, ePatch_fits_25, ePatch_fits_28, ePatch_fits_29, ePatch_fits_31, ePatch_fits_33, ePatch_fits_36, ePatch_fits_37, ePatch_fits_38, ePatch_fits_41, ePatch_fits_42, ePatch_fits_43, ePatch_fits_46, ePatch_fits_47, ePatch_fits_49, ePatch_fits_52, ePatch_fits_53a, ePatch_fits_53b, ePatch_fits_53c, ePatch_fits_54, ePatch_fits_57, ePatch_fits_60, ePatch_fits_61a, ePatch_fits_61b, ePatch_fits_61c, eg, ed, sl, sg, gc2, ai_ai_at, ai_aj_at, ai_aq_at, ai_si_at, ai_sj_at, ai_sq_at, ai_cy_at, ai_al_at, ai_na_0, ai_na_1, ai_na_2, ai_na_3, ai_rc_at, ai_th_v, ai_th_n, ai_th_z, ai_sw, ai_nl_i, ai_nl_r, ai_nl_l, ai_nl_n, nI_clamp, nI_add, pk_mul, pk_sub, az_e0, az_l0, az_g0, az_p0, az_q0, az_eq, az_lt, az_le, az_m1, az_m2, az_m3, az_m4, az_m5, az_m6, az_m7, az_m8, az_dec, az_bd, az_b0, az_bt, az_bf, dn_leT, dn_leF, dn_ltT, dn_ltF, dn_eqT, dn_eqF, ↓reduceIte, if_true, if_false, not_true_eq_false, not_false_eq_true, true_and, and_true, false_and, and_false, true_or, or_true, false_or, or_false, Nat.reduceAdd, Nat.reduceMul, Nat.reduceSub, Nat.reduceLT, Nat.reduceLeDiff, Nat.reduceEqDiff, Nat.add_zero, Nat.zero_add, ne_eq, reduceCtorEq, decide_true, decide_false, Bool.true_eq_false, Bool.false_eq_true, Classical.not_not]
theorem s_fits1 (hn : l.length ≤ 127) (hov : ∀ q, q ∈ l → ov q) (hpw : l.Pairwise ofol) (rX : ∀ k q, l[k]? = some q → crep X k q) (hd : dw w d X (nI l.length) = w) (hg : gw w g A B C D = w) (hB : gr_B B) (ha : w.2.2 a = .inl (0, 16, .inl K)) : ∀ n k, k + n = l.length → ai_ev none 103 2 [some (.ref d), some (.ref g), some (.ref a), some (.int (nI k))] [] w = some (some (.int (ai_bI (cD ((∀ q, q ∈ l.drop k → opfC K A B l q) ∧ ∀ o, o < 16 → (rn A B o : Int) + gz l o ≤ 6)))), w)
  | 0, k, hk => by
    have ed := dw_at hd
    have sz := s_dsize hd
    have h2 := s_fits2 (a := a) hn hov rX hd hg hB 16 0 (by omega)
    rw [List.drop_of_length_le (by omega)]
    have hcc : ((∀ q, q ∈ ([] : List op) → opfC K A B l q) ∧ ∀ o, o < 16 → (rn A B o : Int) + gz l o ≤ 6) ↔ ∀ p, 0 ≤ p → p < 16 → (rn A B p : Int) + gz l p ≤ 6 := ⟨fun h p _ hp => h.2 p hp, fun h => ⟨fun q hq => absurd hq List.not_mem_nil, fun o ho => h o (by omega) ho⟩⟩
    rw [cD_congr hcc, ← h2]
    refine ePatch_fits_2.trans ?_
    simp (disch := omega) only [ePatch_fits_0, ePatch_fits_1, ePatch_fits_3, ePatch_fits_4, ePatch_fits_7, ePatch_fits_10, ePatch_fits_11, ePatch_fits_12, ePatch_fits_13, ePatch_fits_14, ePatch_fits_17, ePatch_fits_20, ePatch_fits_21a, ePatch_fits_21b, ePatch_fits_21c, ePatch_fits_22, ePatch_fits_25, ePatch_fits_28, ePatch_fits_29, ePatch_fits_31, ePatch_fits_33, ePatch_fits_36, ePatch_fits_37, ePatch_fits_38, ePatch_fits_41, ePatch_fits_42, ePatch_fits_43, ePatch_fits_46, ePatch_fits_47, ePatch_fits_49, ePatch_fits_52, ePatch_fits_53a, ePatch_fits_53b, ePatch_fits_53c, ePatch_fits_54, ePatch_fits_57, ePatch_fits_60, ePatch_fits_61a, ePatch_fits_61b, ePatch_fits_61c, ed, sz, ai_ai_at, ai_aj_at, ai_aq_at, ai_si_at, ai_sj_at, ai_sq_at, ai_cy_at, ai_al_at, ai_na_0, ai_na_1, ai_na_2, ai_na_3, ai_rc_at, ai_th_v, ai_th_n, ai_th_z, ai_sw, ai_nl_i, ai_nl_r, ai_nl_l, ai_nl_n, nI_clamp, nI_add, pk_mul, pk_sub, az_e0, az_l0, az_g0, az_p0, az_q0, az_eq, az_lt, az_le, az_m1, az_m2, az_m3, az_m4, az_m5, az_m6, az_m7, az_m8, az_dec, az_bd, az_b0, az_bt, az_bf, dn_leT, dn_leF, dn_ltT, dn_ltF, dn_eqT, dn_eqF, ↓reduceIte, if_true, if_false, not_true_eq_false, not_false_eq_true, true_and, and_true, false_and, and_false, true_or, or_true, false_or, or_false, Nat.reduceAdd, Nat.reduceMul, Nat.reduceSub, Nat.reduceLT, Nat.reduceLeDiff, Nat.reduceEqDiff, Nat.add_zero, Nat.zero_add, ne_eq, reduceCtorEq, decide_true, decide_false, Bool.true_eq_false, Bool.false_eq_true, Classical.not_not]
  | n + 1, k, hk => by
    have ed := dw_at hd
    have sz := s_dsize hd
    have ih := s_fits1 hn hov hpw rX hd hg hB ha n (k + 1) (by omega)
    have hkl : k < l.length := by omega
    have hx : l[k]? = some (l[k]'hkl) := List.getElem?_eq_getElem hkl
    have of := s_opFits hn hov hpw rX hd hg hB ha hx
    rw [List.drop_eq_getElem_cons hkl]
    generalize l[k]'hkl = q at hx of ⊢
    by_cases h : opfC K A B l q
    · rw [cD_t h] at of
      have hcc : ((∀ p, p ∈ q :: l.drop (k + 1) → opfC K A B l p) ∧ ∀ o, o < 16 → (rn A B o : Int) + gz l o ≤ 6) ↔ ((∀ p, p ∈ l.drop (k + 1) → opfC K A B l p) ∧ ∀ o, o < 16 → (rn A B o : Int) + gz l o ≤ 6) := by
        refine ⟨fun z => ⟨fun p hp => z.1 p (List.mem_cons_of_mem _ hp), z.2⟩, fun z => ⟨fun p hp => ?_, z.2⟩⟩
        rcases List.mem_cons.mp hp with rfl | hp
        · exact h
        · exact z.1 p hp
      rw [cD_congr hcc, ← ih]
      refine ePatch_fits_2.trans ?_
      simp (disch := omega) only [ePatch_fits_0, ePatch_fits_1, ePatch_fits_3, ePatch_fits_4, ePatch_fits_7, ePatch_fits_10, ePatch_fits_11, ePatch_fits_12, ePatch_fits_13, ePatch_fits_14, ePatch_fits_17, ePatch_fits_20, ePatch_fits_21a, ePatch_fits_21b, ePatch_fits_21c, ePatch_fits_22, ePatch_fits_25, ePatch_fits_28, ePatch_fits_29, ePatch_fits_31, ePatch_fits_33, ePatch_fits_36, ePatch_fits_37, ePatch_fits_38, ePatch_fits_41, ePatch_fits_42, ePatch_fits_43, ePatch_fits_46, ePatch_fits_47, ePatch_fits_49, ePatch_fits_52, ePatch_fits_53a, ePatch_fits_53b, ePatch_fits_53c, ePatch_fits_54, ePatch_fits_57, ePatch_fits_60, ePatch_fits_61a, ePatch_fits_61b, ePatch_fits_61c, ed, sz, of, ai_ai_at, ai_aj_at, ai_aq_at, ai_si_at, ai_sj_at, ai_sq_at, ai_cy_at, ai_al_at, ai_na_0, ai_na_1, ai_na_2, ai_na_3, ai_rc_at, ai_th_v, ai_th_n, ai_th_z, ai_sw, ai_nl_i, ai_nl_r, ai_nl_l, ai_nl_n, nI_clamp, nI_add, pk_mul, pk_sub, az_e0, az_l0, az_g0, az_p0, az_q0, az_eq, az_lt, az_le, az_m1, az_m2, az_m3, az_m4, az_m5, az_m6, az_m7, az_m8, az_dec, az_bd, az_b0, az_bt, az_bf, dn_leT, dn_leF, dn_ltT, dn_ltF, dn_eqT, dn_eqF, ↓reduceIte, if_true, if_false, not_true_eq_false, not_false_eq_true, true_and, and_true, false_and, and_false, true_or, or_true, false_or, or_false, Nat.reduceAdd, Nat.reduceMul, Nat.reduceSub, Nat.reduceLT, Nat.reduceLeDiff, Nat.reduceEqDiff, Nat.add_zero, Nat.zero_add, ne_eq, reduceCtorEq, decide_true, decide_false, Bool.true_eq_false, Bool.false_eq_true, Classical.not_not]
    · rw [cD_f h] at of
      rw [cD_f (fun z => h (z.1 q List.mem_cons_self))]
      refine ePatch_fits_2.trans ?_
      simp (disch := omega) only [ePatch_fits_0, ePatch_fits_1, ePatch_fits_3, ePatch_fits_4, ePatch_fits_7, ePatch_fits_10, ePatch_fits_11, ePatch_fits_12, ePatch_fits_13, ePatch_fits_14, ePatch_fits_17, ePatch_fits_20, ePatch_fits_21a, ePatch_fits_21b, ePatch_fits_21c, ePatch_fits_22, ePatch_fits_25, ePatch_fits_28, ePatch_fits_29, ePatch_fits_31, ePatch_fits_33, ePatch_fits_36, ePatch_fits_37, ePatch_fits_38, ePatch_fits_41, ePatch_fits_42, ePatch_fits_43, ePatch_fits_46, ePatch_fits_47, ePatch_fits_49, ePatch_fits_52, ePatch_fits_53a, ePatch_fits_53b, ePatch_fits_53c, ePatch_fits_54, ePatch_fits_57, ePatch_fits_60, ePatch_fits_61a, ePatch_fits_61b, ePatch_fits_61c, ed, sz, of, ai_ai_at, ai_aj_at, ai_aq_at, ai_si_at, ai_sj_at, ai_sq_at, ai_cy_at, ai_al_at, ai_na_0, ai_na_1, ai_na_2, ai_na_3, ai_rc_at, ai_th_v, ai_th_n, ai_th_z, ai_sw, ai_nl_i, ai_nl_r, ai_nl_l, ai_nl_n, nI_clamp, nI_add, pk_mul, pk_sub, az_e0, az_l0, az_g0, az_p0, az_q0, az_eq, az_lt, az_le, az_m1, az_m2, az_m3, az_m4, az_m5, az_m6, az_m7, az_m8, az_dec, az_bd, az_b0, az_bt, az_bf, dn_leT, dn_leF, dn_ltT, dn_ltF, dn_eqT, dn_eqF, ↓reduceIte, if_true, if_false, not_true_eq_false, not_false_eq_true, true_and, and_true, false_and, and_false, true_or, or_true, false_or, or_false, Nat.reduceAdd, Nat.reduceMul, Nat.reduceSub, Nat.reduceLT, Nat.reduceLeDiff, Nat.reduceEqDiff, Nat.add_zero, Nat.zero_add, ne_eq, reduceCtorEq, decide_true, decide_false, Bool.true_eq_false, Bool.false_eq_true, Classical.not_not]
theorem s_fits (hn : l.length ≤ 127) (hov : ∀ q, q ∈ l → ov q) (hpw : l.Pairwise ofol) (rX : ∀ k q, l[k]? = some q → crep X k q) (hd : dw w d X (nI l.length) = w) (hg : gw w g A B C D = w) (hB : gr_B B) (ha : w.2.2 a = .inl (0, 16, .inl K)) : ai_ev none 103 0 [some (.ref d), some (.ref g), some (.ref a), none] [] w = some (some (.int (ai_bI (cD (fitC K A B l)))), w) := by
  have h := s_fits1 hn hov hpw rX hd hg hB ha l.length 0 (by omega)
  rw [List.drop_zero] at h
  unfold fitC
  rw [← h]
  simp (disch := omega) only [ePatch_fits_0, ePatch_fits_1, ePatch_fits_3, ePatch_fits_4, ePatch_fits_7, ePatch_fits_10, ePatch_fits_11, ePatch_fits_12, ePatch_fits_13, ePatch_fits_14, ePatch_fits_17, ePatch_fits_20, ePatch_fits_21a, ePatch_fits_21b, ePatch_fits_21c, ePatch_fits_22, ePatch_fits_25, ePatch_fits_28, ePatch_fits_29, ePatch_fits_31, ePatch_fits_33, ePatch_fits_36, ePatch_fits_37, ePatch_fits_38, ePatch_fits_41, ePatch_fits_42, ePatch_fits_43, ePatch_fits_46, ePatch_fits_47, ePatch_fits_49, ePatch_fits_52, ePatch_fits_53a, ePatch_fits_53b, ePatch_fits_53c, ePatch_fits_54, ePatch_fits_57, ePatch_fits_60, ePatch_fits_61a, ePatch_fits_61b, ePatch_fits_61c, ai_ai_at, ai_aj_at, ai_aq_at, ai_si_at, ai_sj_at, ai_sq_at, ai_cy_at, ai_al_at, ai_na_0, ai_na_1, ai_na_2, ai_na_3, ai_rc_at, ai_th_v, ai_th_n, ai_th_z, ai_sw, ai_nl_i, ai_nl_r, ai_nl_l, ai_nl_n, nI_clamp, nI_add, pk_mul, pk_sub, az_e0, az_l0, az_g0, az_p0, az_q0, az_eq, az_lt, az_le, az_m1, az_m2, az_m3, az_m4, az_m5, az_m6, az_m7, az_m8, az_dec, az_bd, az_b0, az_bt, az_bf, dn_leT, dn_leF, dn_ltT, dn_ltF, dn_eqT, dn_eqF, ↓reduceIte, if_true, if_false, not_true_eq_false, not_false_eq_true, true_and, and_true, false_and, and_false, true_or, or_true, false_or, or_false, Nat.reduceAdd, Nat.reduceMul, Nat.reduceSub, Nat.reduceLT, Nat.reduceLeDiff, Nat.reduceEqDiff, Nat.add_zero, Nat.zero_add, ne_eq, reduceCtorEq, decide_true, decide_false, Bool.true_eq_false, Bool.false_eq_true, Classical.not_not]
end DC
def crt (l : List op) (o : Nat) : Prop := ∃ q, q ∈ l ∧ q.1 = 1 ∧ q.2.1 = o
def avl (A : Nat → Int32) (l : List op) (o : Nat) : Prop := ¬ A o = -1 ∨ crt l o
def opfR (K li A B : Nat → Int32) (l : List op) (q : op) : Prop := if q.1 = 1 then A q.2.1 = -1 ∧ K q.2.1 = nI q.2.2.1 else avl A l q.2.1 ∧ li q.2.1 = (if q.1 = 3 then nI 1 else nI 0) ∧ (if q.1 = 2 then (q.2.2.2.1 = 2 → avl A l q.2.2.2.2.1.toNatClampNeg) else q.2.2.1 + q.2.2.2.1 ≤ rn A B q.2.1)
theorem cki_av {A : Nat → Int32} {l : List op} {o : Nat} (hov : ∀ q, q ∈ l → ov q) : ¬ ftC A l o = -1 ↔ avl A l o := by
  unfold ftC avl
  by_cases h : A o = -1
  · rw [if_pos h]
    rcases cki_spec (o := o) l with ⟨q, h1, h2, h3, h4⟩ | ⟨h1, h2⟩
    · rw [h4]
      have := ov_c (hov q h1)
      have hb : q.2.2.1 < 2 ^ 31 := by
        rcases (hov q h1).2 with ⟨_, _, z, _⟩ | ⟨z, _⟩ | ⟨z, _⟩
        · omega
        · omega
        · omega
      refine ⟨fun _ => Or.inr ⟨q, h1, h2, h3⟩, fun _ z => ?_⟩
      rw [az_m1 hb] at z
      exact z
    · rw [h1]
      refine ⟨fun z => absurd rfl z, fun z => ?_⟩
      rcases z with z | ⟨q, q1, q2, q3⟩
      · exact absurd h z
      · exact absurd ⟨q2, q3⟩ (h2 q q1)
  · rw [if_neg h]
    exact ⟨fun _ => Or.inl h, fun _ => h⟩
theorem fit_eq {n : Nat} {K li A B C D : Nat → Int32} {l : List op} {c m : Int32} (hov : ∀ q, q ∈ l → ov q) (hK : rK n K li c m) (hg : go n K A B C D) (hl : gli li A) : (∀ q, q ∈ l → opfC K A B l q) ↔ (∀ q, q ∈ l → opfR K li A B l q) := by
  have z01 : ¬ nI 0 = nI 1 := by decide +kernel
  have kli : ∀ o x, o < 16 → K o = nI x → x ≤ 1 → li o = nI x := by
    intro o x ho h1 h2
    obtain ⟨_, _, _, _, k5, k6⟩ := hK
    rcases Nat.lt_or_ge o n with h | h
    · rw [(k5 o h).2, h1]
    · rw [k6 o h ho] at h1
      exact absurd h1.symm (by rw [az_m1 (by omega)]; exact not_false)
  have kb : ∀ q, q ∈ l → q.1 = 1 → q.2.2.1 ≤ 1 := by
    intro q hq h1
    rcases (hov q hq).2 with ⟨_, _, z, _⟩ | ⟨z, _⟩ | ⟨z, _⟩
    · exact z
    · omega
    · omega
  have key : ∀ (P : op → Prop), (∀ q, q ∈ l → q.1 = 1 → K q.2.1 = nI q.2.2.1) → ∀ o x, o < 16 → x ≤ 1 → (ftC A l o = nI x ↔ (avl A l o ∧ li o = nI x)) := by
    intro P hcr o x ho hx
    rw [← cki_av hov]
    unfold ftC
    by_cases h : A o = -1
    · rw [if_pos h]
      rcases cki_spec (o := o) l with ⟨q, h1, h2, h3, h4⟩ | ⟨h1, h2⟩
      · rw [h4]
        have e1 := hcr q h1 h2
        have e2 := kb q h1 h2
        rw [h3] at e1
        have e3 := kli o _ ho e1 e2
        rw [e3]
        refine ⟨fun z => ⟨?_, z⟩, fun z => z.2⟩
        rw [az_m1 (by omega)]
        exact not_false
      · rw [h1]
        refine ⟨fun z => absurd z.symm (by rw [az_m1 (by omega)]; exact not_false), fun z => absurd rfl z.1⟩
    · rw [if_neg h]
      rcases hl o ho h with ⟨a1, a2⟩ | ⟨a1, a2⟩
      · rw [a1, a2]
        exact ⟨fun z => ⟨by rw [az_m1 (by decide)]; exact not_false, z⟩, fun z => z.2⟩
      · rw [a1, a2]
        exact ⟨fun z => ⟨by rw [az_m1 (by decide)]; exact not_false, z⟩, fun z => z.2⟩
  refine ⟨fun h => ?_, fun h => ?_⟩
  · have hcr : ∀ q, q ∈ l → q.1 = 1 → K q.2.1 = nI q.2.2.1 := fun q hq h1 => by
      have := h q hq
      unfold opfC at this
      rw [if_pos h1] at this
      exact this.2
    have ky := key (fun _ => True) hcr
    intro q hq
    have hz := h q hq
    have vo := (ov_c (hov q hq))
    unfold opfC at hz
    unfold opfR
    by_cases h1 : q.1 = 1
    · rw [if_pos h1] at hz ⊢
      exact hz
    · rw [if_neg h1] at hz ⊢
      by_cases h2 : q.1 = 2
      · rw [if_pos h2] at hz ⊢
        rw [if_neg (by omega)]
        have := (ky q.2.1 0 vo.1 (by omega)).mp hz.1
        exact ⟨this.1, this.2, fun t => (cki_av hov).mp (hz.2 t)⟩
      · rw [if_neg h2] at hz ⊢
        rw [if_pos (by omega)]
        have := (ky q.2.1 1 vo.1 (by omega)).mp hz.1
        exact ⟨this.1, this.2, hz.2⟩
  · have hcr : ∀ q, q ∈ l → q.1 = 1 → K q.2.1 = nI q.2.2.1 := fun q hq h1 => by
      have := h q hq
      unfold opfR at this
      rw [if_pos h1] at this
      exact this.2
    have ky := key (fun _ => True) hcr
    intro q hq
    have hz := h q hq
    have vo := (ov_c (hov q hq))
    unfold opfR at hz
    unfold opfC
    by_cases h1 : q.1 = 1
    · rw [if_pos h1] at hz ⊢
      exact hz
    · rw [if_neg h1] at hz ⊢
      by_cases h2 : q.1 = 2
      · rw [if_pos h2] at hz ⊢
        rw [if_neg (by omega)] at hz
        exact ⟨(ky q.2.1 0 vo.1 (by omega)).mpr ⟨hz.1, hz.2.1⟩, fun t => (cki_av hov).mpr (hz.2.2 t)⟩
      · rw [if_neg h2] at hz ⊢
        rw [if_pos (by omega)] at hz
        exact ⟨(ky q.2.1 1 vo.1 (by omega)).mpr ⟨hz.1, hz.2.1⟩, hz.2.2⟩
