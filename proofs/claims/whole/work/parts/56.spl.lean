def wk (P R : Nat → Int32) (o n m : Nat) : List Bool → Nat → Nat → Nat → List op
  | [], _, i, j => gap R o i n j m
  | false :: ms, p, i, j => wk P R o n m ms (p + 1) i j
  | true :: ms, p, i, j => gap R o i p j (fi R (P p) (m - j) j) ++ wk P R o n m ms (p + 1) (p + 1) (fi R (P p) (m - j) j + 1)
theorem gap_len {R : Nat → Int32} {o i e j s : Nat} : (gap R o i e j s).length ≤ 1 := by
  unfold gap
  split <;> simp
theorem lc_sxm {a : List Int32} {R : Nat → Int32} {m : Nat} : ∀ c s, lc_m a (sx R m (s + c)) ≤ lc_m a (sx R m s)
  | 0, s => Nat.le_refl _
  | c + 1, s => by
    have h1 := lc_sxm (a := a) (R := R) (m := m) c (s + 1)
    rw [show s + 1 + c = s + (c + 1) by omega] at h1
    by_cases hs : s < m
    · rw [sx_c hs]
      exact Nat.le_trans h1 (lc_mono a _ _)
    · rw [sx_n (by omega : m ≤ s + (c + 1)), sx_n (by omega : m ≤ s)]
      exact Nat.le_refl _
section FW
variable {f : Nat} {P R M : Nat → Int32}
theorem s_spl1 {d n m o : Nat} (hdf : d + 1 < f ∨ f + 3 < d) (hn : n ≤ 6) (hm : m ≤ 6) (hM : ∀ i j, i ≤ n → j ≤ m → M (i * 7 + j) = nI (lc_m (sx P n i) (sx R m j))) : ∀ (c p i j : Nat) (w : ai_W) (X : Nat → Int32) (l : List op) (l6 : Option Value), p + c = n → i ≤ p → j ≤ m → lc_m (sx P n i) (sx R m j) = lc_m (sx P n p) (sx R m j) → l.length + c + 1 ≤ 127 → reps X l → fw w f P R (nI n) (nI m) M = w → dw w d X (nI l.length) = w → ∃ X', ai_ev none 53 8 [some (.ref f), some (.int (nI o)), some (.ref d), some (.int (nI i)), some (.int (nI j)), some (.int (nI p)), l6] [] w = some (none, dw w d X' (nI (l ++ wk P R o n m (lc_g (sx P n p) (sx R m j)) p i j).length)) ∧ reps X' (l ++ wk P R o n m (lc_g (sx P n p) (sx R m j)) p i j)
  | 0, p, i, j, w, X, l, l6, hp, hi, hj, hinv, hl, hr, hf, hd => by
    have hpn : p = n := by omega
    subst hpn
    have e := fw_at hf
    obtain ⟨X', a1, a2⟩ := s_gap (o := o) (i := i) (e' := p) (j := j) (s := m) hdf hn hi hj hm (by omega) hr hf hd
    have ew : wk P R o p m (lc_g (sx P p p) (sx R m j)) p i j = gap R o i p j m := by
      rw [sx_n (Nat.le_refl _)]
      rfl
    rw [ew]
    refine ⟨X', ?_, a2⟩
    refine eDifference_addSplices_8.trans ?_
    simp (disch := omega) only [eDifference_addSplices_0, eDifference_addSplices_1, eDifference_addSplices_2, eDifference_addSplices_3, eDifference_addSplices_5, eDifference_addSplices_6, eDifference_addSplices_10, eDifference_addSplices_11, eDifference_addSplices_14, eDifference_addSplices_17, eDifference_addSplices_18, eDifference_addSplices_20, eDifference_addSplices_22, eDifference_addSplices_23, eDifference_addSplices_24, eDifference_addSplices_26, eDifference_addSplices_29, eDifference_addSplices_32, eDifference_addSplices_34, eDifference_addSplices_36, eDifference_addSplices_37, eDifference_addSplices_40, eDifference_addSplices_41, eDifference_addSplices_42, eDifference_addSplices_43, eDifference_addSplices_45, eDifference_addSplices_47, eDifference_addSplices_49, eDifference_addSplices_50, eDifference_addSplices_53, eDifference_addSplices_55, eDifference_addSplices_56, eDifference_addSplices_57, eDifference_addSplices_58, eDifference_addSplices_60, eDifference_addSplices_61, eDifference_addSplices_62, eDifference_addSplices_64, eDifference_addSplices_67, eDifference_addSplices_70, eDifference_addSplices_71, eDifference_addSplices_72, eDifference_addSplices_73, eDifference_addSplices_74, eDifference_addSplices_77, eDifference_addSplices_79, eDifference_addSplices_80, eDifference_addSplices_83, eDifference_addSplices_84, eDifference_addSplices_87, e, a1, ai_ai_at, ai_aj_at, ai_aq_at, ai_si_at, ai_sj_at, ai_sq_at, ai_cy_at, ai_al_at, ai_na_0, ai_na_1, ai_na_2, ai_na_3, ai_rc_at, ai_th_v, ai_th_n, ai_th_z, ai_sw, ai_nl_i, ai_nl_r, ai_nl_l, ai_nl_n, nI_clamp, nI_add, pk_mul, pk_sub, az_e0, az_l0, az_g0, az_p0, az_q0, az_eq, az_lt, az_le, az_m1, az_m2, az_m3, az_m4, az_m5, az_m6, az_m7, az_m8, az_dec, az_bd, az_b0, az_bt, az_bf, dn_leT, dn_leF, dn_ltT, dn_ltF, dn_eqT, dn_eqF, ↓reduceIte, if_true, if_false, not_true_eq_false, not_false_eq_true, true_and, and_true, false_and, and_false, true_or, or_true, false_or, or_false, Nat.reduceAdd, Nat.reduceMul, Nat.reduceSub, Nat.reduceLT, Nat.reduceLeDiff, Nat.reduceEqDiff, Nat.add_zero, Nat.zero_add, ne_eq, reduceCtorEq, decide_true, decide_false, Bool.true_eq_false, Bool.false_eq_true, Classical.not_not, gf_0_0, pf_0_0, gf_0_1, pf_0_1, gf_0_2, pf_0_2, gf_0_3, pf_0_3, gf_0_4, pf_0_4, gf_0_5, pf_0_5, gf_0_6, pf_0_6, gf_0_7, pf_0_7, gf_0_8, pf_0_8, gf_0_9, pf_0_9, gf_1_0, pf_1_0, gf_1_1, pf_1_1, gf_2_0, pf_2_0, gf_2_1, pf_2_1, gf_2_2, pf_2_2, gf_2_3, pf_2_3, gf_2_4, pf_2_4, gf_3_0, pf_3_0, gf_3_1, pf_3_1, gf_4_0, pf_4_0, gf_4_1, pf_4_1, gf_4_2, pf_4_2, gf_4_3, pf_4_3, gf_5_0, pf_5_0, gf_5_1, pf_5_1, gf_5_2, pf_5_2, gf_5_3, pf_5_3, gf_6_0, pf_6_0, gf_6_1, pf_6_1, gf_7_0, pf_7_0, gf_7_1, pf_7_1, gf_7_2, pf_7_2, gf_7_3, pf_7_3, gf_7_4, pf_7_4, gf_7_5, pf_7_5, gf_7_6, pf_7_6, gf_7_7, pf_7_7, gf_7_8, pf_7_8, gf_7_9, pf_7_9, gf_7_10, pf_7_10, gf_7_11, pf_7_11, gf_7_12, pf_7_12, gf_7_13, pf_7_13, gf_7_14, pf_7_14, gf_7_15, pf_7_15, gf_7_16, pf_7_16, gf_7_17, pf_7_17, gf_7_18, pf_7_18, gf_7_19, pf_7_19, gf_7_20, pf_7_20, gf_7_21, pf_7_21, gf_7_22, pf_7_22, gf_7_23, pf_7_23a, pf_7_23b]
  | c + 1, p, i, j, w, X, l, l6, hp, hi, hj, hinv, hl, hr, hf, hd => by
    have e := fw_at hf
    have hpn : p < n := by omega
    have hmo := s_most (i := i) (j := j) (by omega) (by omega) hf
    rw [hM i j (by omega) hj] at hmo
    have hb := lc_sx (a := P) (b := R) (m := m) (i := i) (j := j) hn
    have esx := sx_c (f := P) hpn
    have stay : lc_g (sx P n p) (sx R m j) = false :: lc_g (sx P n (p + 1)) (sx R m j) → lc_m (sx P n p) (sx R m j) = lc_m (sx P n (p + 1)) (sx R m j) → (∀ t, j ≤ t → t < m → ¬ (P p = R t ∧ 1 + lc_m (sx P n (p + 1)) (sx R m (t + 1)) = lc_m (sx P n i) (sx R m j))) → ∃ X', ai_ev none 53 8 [some (.ref f), some (.int (nI o)), some (.ref d), some (.int (nI i)), some (.int (nI j)), some (.int (nI p)), l6] [] w = some (none, dw w d X' (nI (l ++ wk P R o n m (lc_g (sx P n p) (sx R m j)) p i j).length)) ∧ reps X' (l ++ wk P R o n m (lc_g (sx P n p) (sx R m j)) p i j) := by
      intro g1 g2 g3
      have hma := s_mate_n hn hm hpn hj (show lc_m (sx P n i) (sx R m j) ≤ 100 by omega) hf hM g3
      obtain ⟨X', a1, a2⟩ := s_spl1 hdf hn hm hM c (p + 1) i j w X l (some (.int (-1))) (by omega) (by omega) hj (hinv.trans g2) (by omega) hr hf hd
      have ew : wk P R o n m (lc_g (sx P n p) (sx R m j)) p i j = wk P R o n m (lc_g (sx P n (p + 1)) (sx R m j)) (p + 1) i j := by
        rw [g1]; rfl
      rw [ew]
      refine ⟨X', ?_, a2⟩
      rw [← a1]
      refine eDifference_addSplices_8.trans ?_
      simp (disch := omega) only [eDifference_addSplices_0, eDifference_addSplices_1, eDifference_addSplices_2, eDifference_addSplices_3, eDifference_addSplices_5, eDifference_addSplices_6, eDifference_addSplices_10, eDifference_addSplices_11, eDifference_addSplices_14, eDifference_addSplices_17, eDifference_addSplices_18, eDifference_addSplices_20, eDifference_addSplices_22, eDifference_addSplices_23, eDifference_addSplices_24, eDifference_addSplices_26, eDifference_addSplices_29, eDifference_addSplices_32, eDifference_addSplices_34, eDifference_addSplices_36, eDifference_addSplices_37, eDifference_addSplices_40, eDifference_addSplices_41, eDifference_addSplices_42, eDifference_addSplices_43, eDifference_addSplices_45, eDifference_addSplices_47, eDifference_addSplices_49, eDifference_addSplices_50, eDifference_addSplices_53, eDifference_addSplices_55, eDifference_addSplices_56, eDifference_addSplices_57, eDifference_addSplices_58, eDifference_addSplices_60, eDifference_addSplices_61, eDifference_addSplices_62, eDifference_addSplices_64, eDifference_addSplices_67, eDifference_addSplices_70, eDifference_addSplices_71, eDifference_addSplices_72, eDifference_addSplices_73, eDifference_addSplices_74, eDifference_addSplices_77, eDifference_addSplices_79, eDifference_addSplices_80, eDifference_addSplices_83, eDifference_addSplices_84, eDifference_addSplices_87, e, hmo, hma, ai_ai_at, ai_aj_at, ai_aq_at, ai_si_at, ai_sj_at, ai_sq_at, ai_cy_at, ai_al_at, ai_na_0, ai_na_1, ai_na_2, ai_na_3, ai_rc_at, ai_th_v, ai_th_n, ai_th_z, ai_sw, ai_nl_i, ai_nl_r, ai_nl_l, ai_nl_n, nI_clamp, nI_add, pk_mul, pk_sub, az_e0, az_l0, az_g0, az_p0, az_q0, az_eq, az_lt, az_le, az_m1, az_m2, az_m3, az_m4, az_m5, az_m6, az_m7, az_m8, az_dec, az_bd, az_b0, az_bt, az_bf, dn_leT, dn_leF, dn_ltT, dn_ltF, dn_eqT, dn_eqF, ↓reduceIte, if_true, if_false, not_true_eq_false, not_false_eq_true, true_and, and_true, false_and, and_false, true_or, or_true, false_or, or_false, Nat.reduceAdd, Nat.reduceMul, Nat.reduceSub, Nat.reduceLT, Nat.reduceLeDiff, Nat.reduceEqDiff, Nat.add_zero, Nat.zero_add, ne_eq, reduceCtorEq, decide_true, decide_false, Bool.true_eq_false, Bool.false_eq_true, Classical.not_not, gf_0_0, pf_0_0, gf_0_1, pf_0_1, gf_0_2, pf_0_2, gf_0_3, pf_0_3, gf_0_4, pf_0_4, gf_0_5, pf_0_5, gf_0_6, pf_0_6, gf_0_7, pf_0_7, gf_0_8, pf_0_8, gf_0_9, pf_0_9, gf_1_0, pf_1_0, gf_1_1, pf_1_1, gf_2_0, pf_2_0, gf_2_1, pf_2_1, gf_2_2, pf_2_2, gf_2_3, pf_2_3, gf_2_4, pf_2_4, gf_3_0, pf_3_0, gf_3_1, pf_3_1, gf_4_0, pf_4_0, gf_4_1, pf_4_1, gf_4_2, pf_4_2, gf_4_3, pf_4_3, gf_5_0, pf_5_0, gf_5_1, pf_5_1, gf_5_2, pf_5_2, gf_5_3, pf_5_3, gf_6_0, pf_6_0, gf_6_1, pf_6_1, gf_7_0, pf_7_0, gf_7_1, pf_7_1, gf_7_2, pf_7_2, gf_7_3, pf_7_3, gf_7_4, pf_7_4, gf_7_5, pf_7_5, gf_7_6, pf_7_6, gf_7_7, pf_7_7, gf_7_8, pf_7_8, gf_7_9, pf_7_9, gf_7_10, pf_7_10, gf_7_11, pf_7_11, gf_7_12, pf_7_12, gf_7_13, pf_7_13, gf_7_14, pf_7_14, gf_7_15, pf_7_15, gf_7_16, pf_7_16, gf_7_17, pf_7_17, gf_7_18, pf_7_18, gf_7_19, pf_7_19, gf_7_20, pf_7_20, gf_7_21, pf_7_21, gf_7_22, pf_7_22, gf_7_23, pf_7_23a, pf_7_23b]
    rcases fi_sx (R := R) (x := P p) hj with ⟨s1, s2, s3, s4, s5⟩ | ⟨s1, s2⟩
    · have lm : lc_m (sx P n p) (sx R m j) = max (lc_m (sx P n (p + 1)) (sx R m j)) (1 + lc_m (sx P n (p + 1)) (sx R m (fi R (P p) (m - j) j + 1))) := by
        rw [esx]
        simp only [lc_m, s5]
      by_cases hc : 1 + lc_m (sx P n (p + 1)) (sx R m (fi R (P p) (m - j) j + 1)) = lc_m (sx P n p) (sx R m j)
      · have lg : lc_g (sx P n p) (sx R m j) = true :: lc_g (sx P n (p + 1)) (sx R m (fi R (P p) (m - j) j + 1)) := by
          have hc2 := hc
          rw [esx] at hc2 ⊢
          simp only [lc_g, s5, if_pos hc2]
        generalize hs : fi R (P p) (m - j) j = s at *
        have hma := s_mate_y hn hm hpn s2 s1 (show lc_m (sx P n i) (sx R m j) ≤ 100 by omega) hf hM (fun t t1 t2 z => s4 t t1 t2 z.1.symm) ⟨s3.symm, by rw [hc, hinv]⟩
        obtain ⟨X1, a1, a2⟩ := s_gap (o := o) (i := i) (e' := p) (j := j) (s := s) hdf (by omega) hi s2 (by omega) (by omega) hr hf hd
        have hgl := gap_len (R := R) (o := o) (i := i) (e := p) (j := j) (s := s)
        obtain ⟨X', b1, b2⟩ := s_spl1 hdf hn hm hM c (p + 1) (p + 1) (s + 1) (dw w d X1 (nI (l ++ gap R o i p j s).length)) X1 (l ++ gap R o i p j s) (some (.int (nI s))) (by omega) (Nat.le_refl _) (by omega) rfl (by rw [List.length_append]; omega) a2 (fw_fr hf (fun k _ _ => dw_go (by omega))) dw_w
        have ew : wk P R o n m (lc_g (sx P n p) (sx R m j)) p i j = gap R o i p j s ++ wk P R o n m (lc_g (sx P n (p + 1)) (sx R m (s + 1))) (p + 1) (p + 1) (s + 1) := by
          rw [lg]
          show gap R o i p j (fi R (P p) (m - j) j) ++ wk P R o n m _ (p + 1) (p + 1) (fi R (P p) (m - j) j + 1) = _
          rw [hs]
        rw [ew, ← List.append_assoc]
        rw [dw_w] at b1
        refine ⟨X', ?_, b2⟩
        rw [← b1]
        refine eDifference_addSplices_8.trans ?_
        simp (disch := omega) only [eDifference_addSplices_0, eDifference_addSplices_1, eDifference_addSplices_2, eDifference_addSplices_3, eDifference_addSplices_5, eDifference_addSplices_6, eDifference_addSplices_10, eDifference_addSplices_11, eDifference_addSplices_14, eDifference_addSplices_17, eDifference_addSplices_18, eDifference_addSplices_20, eDifference_addSplices_22, eDifference_addSplices_23, eDifference_addSplices_24, eDifference_addSplices_26, eDifference_addSplices_29, eDifference_addSplices_32, eDifference_addSplices_34, eDifference_addSplices_36, eDifference_addSplices_37, eDifference_addSplices_40, eDifference_addSplices_41, eDifference_addSplices_42, eDifference_addSplices_43, eDifference_addSplices_45, eDifference_addSplices_47, eDifference_addSplices_49, eDifference_addSplices_50, eDifference_addSplices_53, eDifference_addSplices_55, eDifference_addSplices_56, eDifference_addSplices_57, eDifference_addSplices_58, eDifference_addSplices_60, eDifference_addSplices_61, eDifference_addSplices_62, eDifference_addSplices_64, eDifference_addSplices_67, eDifference_addSplices_70, eDifference_addSplices_71, eDifference_addSplices_72, eDifference_addSplices_73, eDifference_addSplices_74, eDifference_addSplices_77, eDifference_addSplices_79, eDifference_addSplices_80, eDifference_addSplices_83, eDifference_addSplices_84, eDifference_addSplices_87, e, hmo, hma, a1, ai_ai_at, ai_aj_at, ai_aq_at, ai_si_at, ai_sj_at, ai_sq_at, ai_cy_at, ai_al_at, ai_na_0, ai_na_1, ai_na_2, ai_na_3, ai_rc_at, ai_th_v, ai_th_n, ai_th_z, ai_sw, ai_nl_i, ai_nl_r, ai_nl_l, ai_nl_n, nI_clamp, nI_add, pk_mul, pk_sub, az_e0, az_l0, az_g0, az_p0, az_q0, az_eq, az_lt, az_le, az_m1, az_m2, az_m3, az_m4, az_m5, az_m6, az_m7, az_m8, az_dec, az_bd, az_b0, az_bt, az_bf, dn_leT, dn_leF, dn_ltT, dn_ltF, dn_eqT, dn_eqF, ↓reduceIte, if_true, if_false, not_true_eq_false, not_false_eq_true, true_and, and_true, false_and, and_false, true_or, or_true, false_or, or_false, Nat.reduceAdd, Nat.reduceMul, Nat.reduceSub, Nat.reduceLT, Nat.reduceLeDiff, Nat.reduceEqDiff, Nat.add_zero, Nat.zero_add, ne_eq, reduceCtorEq, decide_true, decide_false, Bool.true_eq_false, Bool.false_eq_true, Classical.not_not, gf_0_0, pf_0_0, gf_0_1, pf_0_1, gf_0_2, pf_0_2, gf_0_3, pf_0_3, gf_0_4, pf_0_4, gf_0_5, pf_0_5, gf_0_6, pf_0_6, gf_0_7, pf_0_7, gf_0_8, pf_0_8, gf_0_9, pf_0_9, gf_1_0, pf_1_0, gf_1_1, pf_1_1, gf_2_0, pf_2_0, gf_2_1, pf_2_1, gf_2_2, pf_2_2, gf_2_3, pf_2_3, gf_2_4, pf_2_4, gf_3_0, pf_3_0, gf_3_1, pf_3_1, gf_4_0, pf_4_0, gf_4_1, pf_4_1, gf_4_2, pf_4_2, gf_4_3, pf_4_3, gf_5_0, pf_5_0, gf_5_1, pf_5_1, gf_5_2, pf_5_2, gf_5_3, pf_5_3, gf_6_0, pf_6_0, gf_6_1, pf_6_1, gf_7_0, pf_7_0, gf_7_1, pf_7_1, gf_7_2, pf_7_2, gf_7_3, pf_7_3, gf_7_4, pf_7_4, gf_7_5, pf_7_5, gf_7_6, pf_7_6, gf_7_7, pf_7_7, gf_7_8, pf_7_8, gf_7_9, pf_7_9, gf_7_10, pf_7_10, gf_7_11, pf_7_11, gf_7_12, pf_7_12, gf_7_13, pf_7_13, gf_7_14, pf_7_14, gf_7_15, pf_7_15, gf_7_16, pf_7_16, gf_7_17, pf_7_17, gf_7_18, pf_7_18, gf_7_19, pf_7_19, gf_7_20, pf_7_20, gf_7_21, pf_7_21, gf_7_22, pf_7_22, gf_7_23, pf_7_23a, pf_7_23b]
      · refine stay ?_ (by omega) ?_
        · have hc2 := hc
          rw [esx] at hc2 ⊢
          simp only [lc_g, s5, if_neg hc2]
        · intro t t1 t2 z
          by_cases ht : t < fi R (P p) (m - j) j
          · exact s4 t t1 ht z.1.symm
          · have hmn := lc_sxm (a := sx P n (p + 1)) (R := R) (m := m) (t - fi R (P p) (m - j) j) (fi R (P p) (m - j) j + 1)
            rw [show fi R (P p) (m - j) j + 1 + (t - fi R (P p) (m - j) j) = t + 1 by omega] at hmn
            have z2 := z.2
            omega
    · refine stay ?_ ?_ (fun t t1 t2 z => s1 t t1 t2 z.1.symm)
      · rw [esx]
        simp only [lc_g, s2]
      · rw [esx]
        simp only [lc_m, s2]
theorem s_spl {w : ai_W} {d n m o : Nat} {X : Nat → Int32} {l : List op} (hdf : d + 1 < f ∨ f + 3 < d) (hn : n ≤ 6) (hm : m ≤ 6) (hM : ∀ i j, i ≤ n → j ≤ m → M (i * 7 + j) = nI (lc_m (sx P n i) (sx R m j))) (hl : l.length + 7 ≤ 127) (hr : reps X l) (hf : fw w f P R (nI n) (nI m) M = w) (hd : dw w d X (nI l.length) = w) : ∃ X', ai_ev none 53 0 [some (.ref f), some (.int (nI o)), some (.ref d), none, none, none, none] [] w = some (none, dw w d X' (nI (l ++ wk P R o n m (lc_g (sx P n 0) (sx R m 0)) 0 0 0).length)) ∧ reps X' (l ++ wk P R o n m (lc_g (sx P n 0) (sx R m 0)) 0 0 0) := by
  obtain ⟨X', a1, a2⟩ := s_spl1 (o := o) hdf hn hm hM n 0 0 0 w X l none (by omega) (Nat.le_refl _) (by omega) rfl (by omega) hr hf hd
  refine ⟨X', ?_, a2⟩
  rw [← a1]
  simp (disch := omega) only [eDifference_addSplices_0, eDifference_addSplices_1, eDifference_addSplices_2, eDifference_addSplices_3, eDifference_addSplices_5, eDifference_addSplices_6, eDifference_addSplices_10, eDifference_addSplices_11, eDifference_addSplices_14, eDifference_addSplices_17, eDifference_addSplices_18, eDifference_addSplices_20, eDifference_addSplices_22, eDifference_addSplices_23, eDifference_addSplices_24, eDifference_addSplices_26, eDifference_addSplices_29, eDifference_addSplices_32, eDifference_addSplices_34, eDifference_addSplices_36, eDifference_addSplices_37, eDifference_addSplices_40, eDifference_addSplices_41, eDifference_addSplices_42, eDifference_addSplices_43, eDifference_addSplices_45, eDifference_addSplices_47, eDifference_addSplices_49, eDifference_addSplices_50, eDifference_addSplices_53, eDifference_addSplices_55, eDifference_addSplices_56, eDifference_addSplices_57, eDifference_addSplices_58, eDifference_addSplices_60, eDifference_addSplices_61, eDifference_addSplices_62, eDifference_addSplices_64, eDifference_addSplices_67, eDifference_addSplices_70, eDifference_addSplices_71, eDifference_addSplices_72, eDifference_addSplices_73, eDifference_addSplices_74, eDifference_addSplices_77, eDifference_addSplices_79, eDifference_addSplices_80, eDifference_addSplices_83, eDifference_addSplices_84, eDifference_addSplices_87, ai_ai_at, ai_aj_at, ai_aq_at, ai_si_at, ai_sj_at, ai_sq_at, ai_cy_at, ai_al_at, ai_na_0, ai_na_1, ai_na_2, ai_na_3, ai_rc_at, ai_th_v, ai_th_n, ai_th_z, ai_sw, ai_nl_i, ai_nl_r, ai_nl_l, ai_nl_n, nI_clamp, nI_add, pk_mul, pk_sub, az_e0, az_l0, az_g0, az_p0, az_q0, az_eq, az_lt, az_le, az_m1, az_m2, az_m3, az_m4, az_m5, az_m6, az_m7, az_m8, az_dec, az_bd, az_b0, az_bt, az_bf, dn_leT, dn_leF, dn_ltT, dn_ltF, dn_eqT, dn_eqF, ↓reduceIte, if_true, if_false, not_true_eq_false, not_false_eq_true, true_and, and_true, false_and, and_false, true_or, or_true, false_or, or_false, Nat.reduceAdd, Nat.reduceMul, Nat.reduceSub, Nat.reduceLT, Nat.reduceLeDiff, Nat.reduceEqDiff, Nat.add_zero, Nat.zero_add, ne_eq, reduceCtorEq, decide_true, decide_false, Bool.true_eq_false, Bool.false_eq_true, Classical.not_not]
end FW
