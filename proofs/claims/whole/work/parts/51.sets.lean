def tg (A C : Nat → Int32) (o k : Nat) : Int32 := if A o = nI 0 then C (o * 3 + k) else nI 0
def tn (A D : Nat → Int32) (o k : Nat) : Int32 := if A o = nI 0 then D (o * 6 + k) else nI 0
theorem gr_tag_n {A C : Nat → Int32} {o k : Nat} (ho : o < 16) (hk : k < 3) : gr_tag A C (nI o) (nI k) = tg A C o k := by
  unfold gr_tag tg
  by_cases h : A o = nI 0
  · rw [gr_hsD_t ⟨(gr_f_in ho).trans h, nI_pos (by omega), nI_ge hk (by decide)⟩, if_pos h, nI_clamp (by omega), nI_clamp (by omega)]
    rfl
  · rw [gr_hsD_f (fun z => h ((gr_f_in ho).symm.trans z.1)), if_neg h]
    rfl
theorem gr_con_n {A D : Nat → Int32} {o k : Nat} (ho : o < 16) (hk : k < 3) : gr_con A D (nI o) (nI k) = tn A D o k := by
  unfold gr_con tn
  by_cases h : A o = nI 0
  · rw [gr_hsD_t ⟨(gr_f_in ho).trans h, nI_pos (by omega), nI_ge hk (by decide)⟩, if_pos h, nI_clamp (by omega), nI_clamp (by omega)]
    rfl
  · rw [gr_hsD_f (fun z => h ((gr_f_in ho).symm.trans z.1)), if_neg h]
    rfl
def dset (A C D A2 C2 D2 : Nat → Int32) (o : Nat) : Nat → List op
  | 0 => []
  | k + 1 => dset A C D A2 C2 D2 o k ++ (if tg A C o k = tg A2 C2 o k ∧ tn A D o k = tn A2 D2 o k then [] else [(2, o, k, (tg A2 C2 o k).toNatClampNeg, tn A2 D2 o k, [])])
theorem dset_len {A C D A2 C2 D2 : Nat → Int32} {o : Nat} : ∀ k, (dset A C D A2 C2 D2 o k).length ≤ k
  | 0 => Nat.le_refl _
  | k + 1 => by
    have ih := dset_len (A := A) (C := C) (D := D) (A2 := A2) (C2 := C2) (D2 := D2) (o := o) k
    unfold dset
    rw [List.length_append]
    split <;> simp <;> omega
theorem dset_is {A C D A2 C2 D2 : Nat → Int32} {o : Nat} : ∀ k, isum (dset A C D A2 C2 D2 o k) = 0
  | 0 => rfl
  | k + 1 => by
    have ih := dset_is (A := A) (C := C) (D := D) (A2 := A2) (C2 := C2) (D2 := D2) (o := o) k
    unfold dset
    rw [isum_app, ih]
    split <;> simp [isum]
theorem go_tg {n : Nat} {K A B C D : Nat → Int32} (h : go n K A B C D) {o k : Nat} (ho : o < 16) (hk : k < 3) : gsl A (tg A C o k) (tn A D o k) := by
  unfold tg tn
  rcases h.2 o ho with ⟨h1, _⟩ | ⟨h1, _, _, _, h5, _⟩ | ⟨h1, _⟩
  · rw [if_neg (by rw [h1]; decide +kernel), if_neg (by rw [h1]; decide +kernel)]; exact Or.inl ⟨rfl, rfl⟩
  · rw [if_pos h1, if_pos h1]; exact h5 k hk
  · rw [if_neg (by rw [h1]; decide +kernel), if_neg (by rw [h1]; decide +kernel)]; exact Or.inl ⟨rfl, rfl⟩
theorem gsl_t {A : Nat → Int32} {c d : Int32} (h : gsl A c d) : ∃ t, t ≤ 2 ∧ c = nI t := by
  rcases h with ⟨h, _⟩ | h | ⟨h, _⟩
  · exact ⟨0, by omega, h⟩
  · exact ⟨1, by omega, h⟩
  · exact ⟨2, by omega, h⟩
section DS
variable {w : ai_W} {g g2 d : Nat} {X A B C D A2 B2 C2 D2 : Nat → Int32}
theorem s_sets1 {n : Nat} {K : Nat → Int32} {l : List op} {o k : Nat} (hd1 : d + 1 < g ∨ g + 4 < d) (hd2 : d + 1 < g2 ∨ g2 + 4 < d) (ho : o < 16) (hk : k < 3) (hgo : go n K A2 B2 C2 D2) (hl : l.length < 127) (hr : reps X l) (h1 : gw w g A B C D = w) (h2 : gw w g2 A2 B2 C2 D2 = w) (hd : dw w d X (nI l.length) = w) : ∃ X', ai_ev none 52 3 [some (.ref g), some (.ref g2), some (.int (nI o)), some (.ref d), some (.int (nI k))] [] w = ai_ev none 52 3 [some (.ref g), some (.ref g2), some (.int (nI o)), some (.ref d), some (.int (nI (k + 1)))] [] (dw w d X' (nI (l ++ (if tg A C o k = tg A2 C2 o k ∧ tn A D o k = tn A2 D2 o k then [] else [(2, o, k, (tg A2 C2 o k).toNatClampNeg, tn A2 D2 o k, [])])).length)) ∧ reps X' (l ++ (if tg A C o k = tg A2 C2 o k ∧ tn A D o k = tn A2 D2 o k then [] else [(2, o, k, (tg A2 C2 o k).toNatClampNeg, tn A2 D2 o k, [])])) := by
  have e1 := gw_at h1
  have e2 := gw_at h2
  have ed := dw_at hd
  have t1 := gr_tag_n (A := A) (C := C) ho hk
  have t2 := gr_tag_n (A := A2) (C := C2) ho hk
  have u1 := gr_con_n (A := A) (D := D) ho hk
  have u2 := gr_con_n (A := A2) (D := D2) ho hk
  obtain ⟨t, ht, hte⟩ := gsl_t (go_tg hgo ho hk)
  by_cases c : tg A C o k = tg A2 C2 o k ∧ tn A D o k = tn A2 D2 o k
  · rw [if_pos c, List.append_nil]
    refine ⟨X, ?_, hr⟩
    rw [hd]
    refine eDifference_addSets_3.trans ?_
    simp (disch := omega) only [eDifference_addSets_0, eDifference_addSets_1, eDifference_addSets_5, eDifference_addSets_6, eDifference_addSets_9, eDifference_addSets_10, eDifference_addSets_11, eDifference_addSets_13, eDifference_addSets_16, eDifference_addSets_17, eDifference_addSets_18, eDifference_addSets_20, eDifference_addSets_23, eDifference_addSets_26, eDifference_addSets_27, eDifference_addSets_28, eDifference_addSets_30, eDifference_addSets_33, eDifference_addSets_34, eDifference_addSets_35, eDifference_addSets_37, eDifference_addSets_40, eDifference_addSets_43, eDifference_addSets_44, eDifference_addSets_45, eDifference_addSets_47, eDifference_addSets_48, eDifference_addSets_49, eDifference_addSets_51, eDifference_addSets_54, eDifference_addSets_55, eDifference_addSets_56, eDifference_addSets_58, eDifference_addSets_61, eDifference_addSets_64, eDifference_addSets_67, eDifference_addSets_70, e1, e2, s_tag h1, s_tag h2, s_content h1, s_content h2, t1, t2, u1, u2, c.1, c.2, ai_ai_at, ai_aj_at, ai_aq_at, ai_si_at, ai_sj_at, ai_sq_at, ai_cy_at, ai_al_at, ai_na_0, ai_na_1, ai_na_2, ai_na_3, ai_rc_at, ai_th_v, ai_th_n, ai_th_z, ai_sw, ai_nl_i, ai_nl_r, ai_nl_l, ai_nl_n, nI_clamp, nI_add, pk_mul, pk_sub, az_e0, az_l0, az_g0, az_p0, az_q0, az_eq, az_lt, az_le, az_m1, az_m2, az_m3, az_m4, az_m5, az_m6, az_m7, az_m8, az_dec, az_bd, az_b0, az_bt, az_bf, dn_leT, dn_leF, dn_ltT, dn_ltF, dn_eqT, dn_eqF, ↓reduceIte, if_true, if_false, not_true_eq_false, not_false_eq_true, true_and, and_true, false_and, and_false, true_or, or_true, false_or, or_false, Nat.reduceAdd, Nat.reduceMul, Nat.reduceSub, Nat.reduceLT, Nat.reduceLeDiff, Nat.reduceEqDiff, Nat.add_zero, Nat.zero_add, ne_eq, reduceCtorEq, decide_true, decide_false, Bool.true_eq_false, Bool.false_eq_true, Classical.not_not, gf_0_0, pf_0_0, gf_0_1, pf_0_1, gf_0_2, pf_0_2, gf_0_3, pf_0_3, gf_0_4, pf_0_4, gf_0_5, pf_0_5, gf_0_6, pf_0_6, gf_0_7, pf_0_7, gf_0_8, pf_0_8, gf_0_9, pf_0_9, gf_1_0, pf_1_0, gf_1_1, pf_1_1, gf_2_0, pf_2_0, gf_2_1, pf_2_1, gf_2_2, pf_2_2, gf_2_3, pf_2_3, gf_2_4, pf_2_4, gf_3_0, pf_3_0, gf_3_1, pf_3_1, gf_4_0, pf_4_0, gf_4_1, pf_4_1, gf_4_2, pf_4_2, gf_4_3, pf_4_3, gf_5_0, pf_5_0, gf_5_1, pf_5_1, gf_5_2, pf_5_2, gf_5_3, pf_5_3, gf_6_0, pf_6_0, gf_6_1, pf_6_1, gf_7_0, pf_7_0, gf_7_1, pf_7_1, gf_7_2, pf_7_2, gf_7_3, pf_7_3, gf_7_4, pf_7_4, gf_7_5, pf_7_5, gf_7_6, pf_7_6, gf_7_7, pf_7_7, gf_7_8, pf_7_8, gf_7_9, pf_7_9, gf_7_10, pf_7_10, gf_7_11, pf_7_11, gf_7_12, pf_7_12, gf_7_13, pf_7_13, gf_7_14, pf_7_14, gf_7_15, pf_7_15, gf_7_16, pf_7_16, gf_7_17, pf_7_17, gf_7_18, pf_7_18, gf_7_19, pf_7_19, gf_7_20, pf_7_20, gf_7_21, pf_7_21, gf_7_22, pf_7_22, gf_7_23, pf_7_23a, pf_7_23b]
  · rw [if_neg c]
    obtain ⟨X', q1, q2⟩ := s_addS (o := o) (p := k) (t := t) (z := tn A2 D2 o k) hl hr hd
    have q3 : (tg A2 C2 o k).toNatClampNeg = t := by rw [hte]; exact nI_clamp (by omega)
    rw [q3]
    refine ⟨X', ?_, q2⟩
    have q4 : (l ++ [(2, o, k, t, tn A2 D2 o k, ([] : List Int32))]).length = l.length + 1 := by simp
    rw [q4]
    rw [← hte] at q1
    refine eDifference_addSets_3.trans ?_
    by_cases c1 : tg A C o k = tg A2 C2 o k
    · have c2 : ¬ tn A D o k = tn A2 D2 o k := fun z => c ⟨c1, z⟩
      simp (disch := omega) only [eDifference_addSets_0, eDifference_addSets_1, eDifference_addSets_5, eDifference_addSets_6, eDifference_addSets_9, eDifference_addSets_10, eDifference_addSets_11, eDifference_addSets_13, eDifference_addSets_16, eDifference_addSets_17, eDifference_addSets_18, eDifference_addSets_20, eDifference_addSets_23, eDifference_addSets_26, eDifference_addSets_27, eDifference_addSets_28, eDifference_addSets_30, eDifference_addSets_33, eDifference_addSets_34, eDifference_addSets_35, eDifference_addSets_37, eDifference_addSets_40, eDifference_addSets_43, eDifference_addSets_44, eDifference_addSets_45, eDifference_addSets_47, eDifference_addSets_48, eDifference_addSets_49, eDifference_addSets_51, eDifference_addSets_54, eDifference_addSets_55, eDifference_addSets_56, eDifference_addSets_58, eDifference_addSets_61, eDifference_addSets_64, eDifference_addSets_67, eDifference_addSets_70, e1, e2, ed, s_tag h1, s_tag h2, s_content h1, s_content h2, t1, t2, u1, u2, c1, c2, q1, ai_ai_at, ai_aj_at, ai_aq_at, ai_si_at, ai_sj_at, ai_sq_at, ai_cy_at, ai_al_at, ai_na_0, ai_na_1, ai_na_2, ai_na_3, ai_rc_at, ai_th_v, ai_th_n, ai_th_z, ai_sw, ai_nl_i, ai_nl_r, ai_nl_l, ai_nl_n, nI_clamp, nI_add, pk_mul, pk_sub, az_e0, az_l0, az_g0, az_p0, az_q0, az_eq, az_lt, az_le, az_m1, az_m2, az_m3, az_m4, az_m5, az_m6, az_m7, az_m8, az_dec, az_bd, az_b0, az_bt, az_bf, dn_leT, dn_leF, dn_ltT, dn_ltF, dn_eqT, dn_eqF, ↓reduceIte, if_true, if_false, not_true_eq_false, not_false_eq_true, true_and, and_true, false_and, and_false, true_or, or_true, false_or, or_false, Nat.reduceAdd, Nat.reduceMul, Nat.reduceSub, Nat.reduceLT, Nat.reduceLeDiff, Nat.reduceEqDiff, Nat.add_zero, Nat.zero_add, ne_eq, reduceCtorEq, decide_true, decide_false, Bool.true_eq_false, Bool.false_eq_true, Classical.not_not, gf_0_0, pf_0_0, gf_0_1, pf_0_1, gf_0_2, pf_0_2, gf_0_3, pf_0_3, gf_0_4, pf_0_4, gf_0_5, pf_0_5, gf_0_6, pf_0_6, gf_0_7, pf_0_7, gf_0_8, pf_0_8, gf_0_9, pf_0_9, gf_1_0, pf_1_0, gf_1_1, pf_1_1, gf_2_0, pf_2_0, gf_2_1, pf_2_1, gf_2_2, pf_2_2, gf_2_3, pf_2_3, gf_2_4, pf_2_4, gf_3_0, pf_3_0, gf_3_1, pf_3_1, gf_4_0, pf_4_0, gf_4_1, pf_4_1, gf_4_2, pf_4_2, gf_4_3, pf_4_3, gf_5_0, pf_5_0, gf_5_1, pf_5_1, gf_5_2, pf_5_2, gf_5_3, pf_5_3, gf_6_0, pf_6_0, gf_6_1, pf_6_1, gf_7_0, pf_7_0, gf_7_1, pf_7_1, gf_7_2, pf_7_2, gf_7_3, pf_7_3, gf_7_4, pf_7_4, gf_7_5, pf_7_5, gf_7_6, pf_7_6, gf_7_7, pf_7_7, gf_7_8, pf_7_8, gf_7_9, pf_7_9, gf_7_10, pf_7_10, gf_7_11, pf_7_11, gf_7_12, pf_7_12, gf_7_13, pf_7_13, gf_7_14, pf_7_14, gf_7_15, pf_7_15, gf_7_16, pf_7_16, gf_7_17, pf_7_17, gf_7_18, pf_7_18, gf_7_19, pf_7_19, gf_7_20, pf_7_20, gf_7_21, pf_7_21, gf_7_22, pf_7_22, gf_7_23, pf_7_23a, pf_7_23b]
    · simp (disch := omega) only [eDifference_addSets_0, eDifference_addSets_1, eDifference_addSets_5, eDifference_addSets_6, eDifference_addSets_9, eDifference_addSets_10, eDifference_addSets_11, eDifference_addSets_13, eDifference_addSets_16, eDifference_addSets_17, eDifference_addSets_18, eDifference_addSets_20, eDifference_addSets_23, eDifference_addSets_26, eDifference_addSets_27, eDifference_addSets_28, eDifference_addSets_30, eDifference_addSets_33, eDifference_addSets_34, eDifference_addSets_35, eDifference_addSets_37, eDifference_addSets_40, eDifference_addSets_43, eDifference_addSets_44, eDifference_addSets_45, eDifference_addSets_47, eDifference_addSets_48, eDifference_addSets_49, eDifference_addSets_51, eDifference_addSets_54, eDifference_addSets_55, eDifference_addSets_56, eDifference_addSets_58, eDifference_addSets_61, eDifference_addSets_64, eDifference_addSets_67, eDifference_addSets_70, e1, e2, ed, s_tag h1, s_tag h2, s_content h1, s_content h2, t1, t2, u1, u2, c1, q1, ai_ai_at, ai_aj_at, ai_aq_at, ai_si_at, ai_sj_at, ai_sq_at, ai_cy_at, ai_al_at, ai_na_0, ai_na_1, ai_na_2, ai_na_3, ai_rc_at, ai_th_v, ai_th_n, ai_th_z, ai_sw, ai_nl_i, ai_nl_r, ai_nl_l, ai_nl_n, nI_clamp, nI_add, pk_mul, pk_sub, az_e0, az_l0, az_g0, az_p0, az_q0, az_eq, az_lt, az_le, az_m1, az_m2, az_m3, az_m4, az_m5, az_m6, az_m7, az_m8, az_dec, az_bd, az_b0, az_bt, az_bf, dn_leT, dn_leF, dn_ltT, dn_ltF, dn_eqT, dn_eqF, ↓reduceIte, if_true, if_false, not_true_eq_false, not_false_eq_true, true_and, and_true, false_and, and_false, true_or, or_true, false_or, or_false, Nat.reduceAdd, Nat.reduceMul, Nat.reduceSub, Nat.reduceLT, Nat.reduceLeDiff, Nat.reduceEqDiff, Nat.add_zero, Nat.zero_add, ne_eq, reduceCtorEq, decide_true, decide_false, Bool.true_eq_false, Bool.false_eq_true, Classical.not_not, gf_0_0, pf_0_0, gf_0_1, pf_0_1, gf_0_2, pf_0_2, gf_0_3, pf_0_3, gf_0_4, pf_0_4, gf_0_5, pf_0_5, gf_0_6, pf_0_6, gf_0_7, pf_0_7, gf_0_8, pf_0_8, gf_0_9, pf_0_9, gf_1_0, pf_1_0, gf_1_1, pf_1_1, gf_2_0, pf_2_0, gf_2_1, pf_2_1, gf_2_2, pf_2_2, gf_2_3, pf_2_3, gf_2_4, pf_2_4, gf_3_0, pf_3_0, gf_3_1, pf_3_1, gf_4_0, pf_4_0, gf_4_1, pf_4_1, gf_4_2, pf_4_2, gf_4_3, pf_4_3, gf_5_0, pf_5_0, gf_5_1, pf_5_1, gf_5_2, pf_5_2, gf_5_3, pf_5_3, gf_6_0, pf_6_0, gf_6_1, pf_6_1, gf_7_0, pf_7_0, gf_7_1, pf_7_1, gf_7_2, pf_7_2, gf_7_3, pf_7_3, gf_7_4, pf_7_4, gf_7_5, pf_7_5, gf_7_6, pf_7_6, gf_7_7, pf_7_7, gf_7_8, pf_7_8, gf_7_9, pf_7_9, gf_7_10, pf_7_10, gf_7_11, pf_7_11, gf_7_12, pf_7_12, gf_7_13, pf_7_13, gf_7_14, pf_7_14, gf_7_15, pf_7_15, gf_7_16, pf_7_16, gf_7_17, pf_7_17, gf_7_18, pf_7_18, gf_7_19, pf_7_19, gf_7_20, pf_7_20, gf_7_21, pf_7_21, gf_7_22, pf_7_22, gf_7_23, pf_7_23a, pf_7_23b]
theorem s_sets {n : Nat} {K : Nat → Int32} {l : List op} {o : Nat} (hd1 : d + 1 < g ∨ g + 4 < d) (hd2 : d + 1 < g2 ∨ g2 + 4 < d) (ho : o < 16) (hgo : go n K A2 B2 C2 D2) (hl : l.length + 3 ≤ 127) (hr : reps X l) (h1 : gw w g A B C D = w) (h2 : gw w g2 A2 B2 C2 D2 = w) (hd : dw w d X (nI l.length) = w) : ∃ X', ai_ev none 52 0 [some (.ref g), some (.ref g2), some (.int (nI o)), some (.ref d), none] [] w = some (none, dw w d X' (nI (l ++ dset A C D A2 C2 D2 o 3).length)) ∧ reps X' (l ++ dset A C D A2 C2 D2 o 3) := by
  have st : ∀ k, k ≤ 3 → ∃ X', ai_ev none 52 3 [some (.ref g), some (.ref g2), some (.int (nI o)), some (.ref d), some (.int (nI 0))] [] w = ai_ev none 52 3 [some (.ref g), some (.ref g2), some (.int (nI o)), some (.ref d), some (.int (nI k))] [] (dw w d X' (nI (l ++ dset A C D A2 C2 D2 o k).length)) ∧ reps X' (l ++ dset A C D A2 C2 D2 o k) := by
    intro k
    induction k with
    | zero =>
      intro _
      refine ⟨X, ?_, ?_⟩
      · show _ = ai_ev none _ 3 _ [] (dw w d X (nI (l ++ []).length))
        rw [List.append_nil, hd]
      · show reps X (l ++ [])
        rw [List.append_nil]; exact hr
    | succ k ih =>
      intro hk
      obtain ⟨X1, a1, a2⟩ := ih (by omega)
      have hlen := dset_len (A := A) (C := C) (D := D) (A2 := A2) (C2 := C2) (D2 := D2) (o := o) k
      obtain ⟨X2, b1, b2⟩ := s_sets1 (w := dw w d X1 (nI (l ++ dset A C D A2 C2 D2 o k).length)) (X := X1) (l := l ++ dset A C D A2 C2 D2 o k) (o := o) (k := k) hd1 hd2 ho (by omega) hgo (by rw [List.length_append]; omega) a2 (gw_fr h1 (fun i _ _ => dw_go (by omega))) (gw_fr h2 (fun i _ _ => dw_go (by omega))) dw_w
      rw [dw_w, List.append_assoc] at b1
      rw [List.append_assoc] at b2
      exact ⟨X2, a1.trans b1, b2⟩
  obtain ⟨X', a1, a2⟩ := st 3 (Nat.le_refl _)
  refine ⟨X', ?_, a2⟩
  have e0 : ai_ev none 52 0 [some (.ref g), some (.ref g2), some (.int (nI o)), some (.ref d), none] [] w = ai_ev none 52 3 [some (.ref g), some (.ref g2), some (.int (nI o)), some (.ref d), some (.int (nI 0))] [] w := by
    simp (disch := omega) only [eDifference_addSets_0, eDifference_addSets_1, eDifference_addSets_5, eDifference_addSets_6, eDifference_addSets_9, eDifference_addSets_10, eDifference_addSets_11, eDifference_addSets_13, eDifference_addSets_16, eDifference_addSets_17, eDifference_addSets_18, eDifference_addSets_20, eDifference_addSets_23, eDifference_addSets_26, eDifference_addSets_27, eDifference_addSets_28, eDifference_addSets_30, eDifference_addSets_33, eDifference_addSets_34, eDifference_addSets_35, eDifference_addSets_37, eDifference_addSets_40, eDifference_addSets_43, eDifference_addSets_44, eDifference_addSets_45, eDifference_addSets_47, eDifference_addSets_48, eDifference_addSets_49, eDifference_addSets_51, eDifference_addSets_54, eDifference_addSets_55, eDifference_addSets_56, eDifference_addSets_58, eDifference_addSets_61, eDifference_addSets_64, eDifference_addSets_67, eDifference_addSets_70, ai_ai_at, ai_aj_at, ai_aq_at, ai_si_at, ai_sj_at, ai_sq_at, ai_cy_at, ai_al_at, ai_na_0, ai_na_1, ai_na_2, ai_na_3, ai_rc_at, ai_th_v, ai_th_n, ai_th_z, ai_sw, ai_nl_i, ai_nl_r, ai_nl_l, ai_nl_n, nI_clamp, nI_add, pk_mul, pk_sub, az_e0, az_l0, az_g0, az_p0, az_q0, az_eq, az_lt, az_le, az_m1, az_m2, az_m3, az_m4, az_m5, az_m6, az_m7, az_m8, az_dec, az_bd, az_b0, az_bt, az_bf, dn_leT, dn_leF, dn_ltT, dn_ltF, dn_eqT, dn_eqF, ↓reduceIte, if_true, if_false, not_true_eq_false, not_false_eq_true, true_and, and_true, false_and, and_false, true_or, or_true, false_or, or_false, Nat.reduceAdd, Nat.reduceMul, Nat.reduceSub, Nat.reduceLT, Nat.reduceLeDiff, Nat.reduceEqDiff, Nat.add_zero, Nat.zero_add, ne_eq, reduceCtorEq, decide_true, decide_false, Bool.true_eq_false, Bool.false_eq_true, Classical.not_not]
  rw [e0, a1]
  simp (disch := omega) only [eDifference_addSets_0, eDifference_addSets_1, eDifference_addSets_3, eDifference_addSets_5, eDifference_addSets_6, eDifference_addSets_9, eDifference_addSets_10, eDifference_addSets_11, eDifference_addSets_13, eDifference_addSets_16, eDifference_addSets_17, eDifference_addSets_18, eDifference_addSets_20, eDifference_addSets_23, eDifference_addSets_26, eDifference_addSets_27, eDifference_addSets_28, eDifference_addSets_30, eDifference_addSets_33, eDifference_addSets_34, eDifference_addSets_35, eDifference_addSets_37, eDifference_addSets_40, eDifference_addSets_43, eDifference_addSets_44, eDifference_addSets_45, eDifference_addSets_47, eDifference_addSets_48, eDifference_addSets_49, eDifference_addSets_51, eDifference_addSets_54, eDifference_addSets_55, eDifference_addSets_56, eDifference_addSets_58, eDifference_addSets_61, eDifference_addSets_64, eDifference_addSets_67, eDifference_addSets_70, ai_ai_at, ai_aj_at, ai_aq_at, ai_si_at, ai_sj_at, ai_sq_at, ai_cy_at, ai_al_at, ai_na_0, ai_na_1, ai_na_2, ai_na_3, ai_rc_at, ai_th_v, ai_th_n, ai_th_z, ai_sw, ai_nl_i, ai_nl_r, ai_nl_l, ai_nl_n, nI_clamp, nI_add, pk_mul, pk_sub, az_e0, az_l0, az_g0, az_p0, az_q0, az_eq, az_lt, az_le, az_m1, az_m2, az_m3, az_m4, az_m5, az_m6, az_m7, az_m8, az_dec, az_bd, az_b0, az_bt, az_bf, dn_leT, dn_leF, dn_ltT, dn_ltF, dn_eqT, dn_eqF, ↓reduceIte, if_true, if_false, not_true_eq_false, not_false_eq_true, true_and, and_true, false_and, and_false, true_or, or_true, false_or, or_false, Nat.reduceAdd, Nat.reduceMul, Nat.reduceSub, Nat.reduceLT, Nat.reduceLeDiff, Nat.reduceEqDiff, Nat.add_zero, Nat.zero_add, ne_eq, reduceCtorEq, decide_true, decide_false, Bool.true_eq_false, Bool.false_eq_true, Classical.not_not]
end DS
