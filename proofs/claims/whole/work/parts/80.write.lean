theorem vb4 {u : Nat} : (vb 4 u).length = if u < 128 then 1 else if u < 16384 then 2 else if u < 2097152 then 3 else if u < 268435456 then 4 else 5 := by
  by_cases h1 : u < 128
  · simp only [vb, if_pos h1, List.length_cons, List.length_nil]
  · by_cases h2 : u < 16384
    · have g2 : u / 128 < 128 := by omega
      simp only [vb, if_neg h1, if_pos h2, if_pos g2, List.length_cons, List.length_nil]
    · have g2 : ¬ u / 128 < 128 := by omega
      by_cases h3 : u < 2097152
      · have g3 : u / 128 / 128 < 128 := by omega
        simp only [vb, if_neg h1, if_neg h2, if_neg g2, if_pos h3, if_pos g3, List.length_cons, List.length_nil]
      · have g3 : ¬ u / 128 / 128 < 128 := by omega
        by_cases h4 : u < 268435456
        · have g4 : u / 128 / 128 / 128 < 128 := by omega
          simp only [vb, if_neg h1, if_neg h2, if_neg g2, if_neg h3, if_neg g3, if_pos h4, if_pos g4, List.length_cons, List.length_nil]
        · have g4 : ¬ u / 128 / 128 / 128 < 128 := by omega
          simp only [vb, if_neg h1, if_neg h2, if_neg g2, if_neg h3, if_neg g3, if_neg h4, if_neg g4, List.length_cons, List.length_nil]
theorem vlen_eq (v : Int32) : (vb 4 (zig v)).length = vlen v := vb4
theorem vbs_sum : ∀ l : List Int32, (vbs l).length = (l.map vlen).sum
  | [] => rfl
  | x :: l => by
    have e : vbs (x :: l) = vb 4 (zig x) ++ vbs l := rfl
    rw [e, List.length_append, vlen_eq, vbs_sum l, List.map_cons, List.sum_cons]
def obytes (q : op) : List Nat := q.1 :: q.2.1 :: q.2.2.1 :: (if q.1 = 2 then cont q else if q.1 = 3 then q.2.2.2.1 :: q.2.2.2.2.2.length :: vbs q.2.2.2.2.2 else [])
theorem obytes_len {q : op} (h : ov q) : (obytes q).length = olen q := by
  obtain ⟨o1, o2, o3, o4, o5, o6⟩ := q
  unfold obytes olen cont
  rcases h.2 with ⟨z, _⟩ | ⟨z, _, _, z2⟩ | ⟨z, _⟩
  · have z : o1 = 1 := z
    subst z
    simp
  · have z : o1 = 2 := z
    subst z
    rcases z2 with ⟨z2, _⟩ | z2 | ⟨z2, _⟩
    · have z2 : o4 = 0 := z2
      subst z2
      simp
    · have z2 : o4 = 1 := z2
      subst z2
      have := vlen_eq o5
      simp
      omega
    · have z2 : o4 = 2 := z2
      subst z2
      simp
  · have z : o1 = 3 := z
    subst z
    have := vbs_sum o6
    simp
    omega
def eb (l : List op) : List Nat := 68 :: (l.map obytes).flatten
theorem eb_snoc {l : List op} {i : Nat} {q : op} (h : l[i]? = some q) : eb (l.take (i + 1)) = eb (l.take i) ++ obytes q := by
  have e : l.take (i + 1) = l.take i ++ [q] := by
    rw [List.take_succ, h]
    rfl
  rw [e, eb, eb]
  simp
theorem eb_len : ∀ l : List op, (∀ q, q ∈ l → ov q) → (eb l).length = 1 + (l.map olen).sum
  | [], _ => rfl
  | q :: l, h => by
    have h1 := eb_len l (fun p hp => h p (List.mem_cons_of_mem _ hp))
    have h2 := obytes_len (h q List.mem_cons_self)
    unfold eb at h1 ⊢
    rw [List.length_cons] at h1 ⊢
    rw [List.map_cons, List.flatten_cons, List.length_append, List.map_cons, List.sum_cons]
    omega
theorem eb_le {l : List op} {i : Nat} {q : op} (hl : owf l) (h : l[i]? = some q) : (eb (l.take i)).length + (obytes q).length ≤ 1198 := by
  have h1 := eb_len l hl.2.1
  have h2 := hl.2.2.2.2
  have e2 : eb l = eb (l.take (i + 1)) ++ ((l.drop (i + 1)).map obytes).flatten := by
    rw [eb, eb, List.cons_append, ← List.flatten_append, ← List.map_append, List.take_append_drop]
  have h3 := congrArg List.length e2
  rw [eb_snoc h, List.length_append, List.length_append] at h3
  omega
theorem s_wop {w : ai_W} {t d k n : Nat} {X T : Nat → Int32} {bs : List Nat} {q : op} (hdt : d + 1 < t ∨ t + 1 < d) (hn : n ≤ 127) (hk : k < n) (hq : ov q) (hc : crep X k q) (hl : bs.length + (obytes q).length ≤ 1200) (hp : pre T bs) (hd : dw w d X (nI n) = w) (h : tw w t T (nI bs.length) = w) : ∃ T', ai_ev none 66 13 [some (.ref t), some (.ref d), some (.int (nI k))] [] w = ai_ev none 66 13 [some (.ref t), some (.ref d), some (.int (nI (k + 1)))] [] (tw w t T' (nI (bs ++ obytes q).length)) ∧ pre T' (bs ++ obytes q) := by
  have hk2 : k < 127 := by omega
  have dd : ∀ (T' : Nat → Int32) (x : Int32), dw (tw w t T' x) d X (nI n) = tw w t T' x := fun T' x => dw_fr hd (fun k _ _ => tw_go (by omega))
  have d0 : ∀ (T' : Nat → Int32) (x : Int32), (tw w t T' x).2.2 d = .inr (1, [.ref (d + 1), .int (nI n)]) := fun T' x => dw_at (dd T' x)
  have t0 : ∀ (T' : Nat → Int32) (x : Int32), (tw w t T' x).2.2 t = .inr (3, [.ref (t + 1), .int x]) := fun T' x => tw_g0
  obtain ⟨o1, o2, o3, o4, o5, o6⟩ := q
  have c1 : X (k * 11) = nI o1 := hc.1
  have c2 : X (k * 11 + 1) = nI o2 := hc.2.1
  have c3 : X (k * 11 + 2) = nI o3 := hc.2.2.1
  have S0 : ∀ (T' : Nat → Int32) (x : Int32), ai_ev none 46 0 [some (.ref d)] [] (tw w t T' x) = some (some (.int (nI n)), tw w t T' x) := fun T' x => s_dsize (dd T' x)
  have C0 : ∀ (T' : Nat → Int32) (x : Int32), ai_ev none 31 0 [some (.ref d), some (.int (nI k))] [] (tw w t T' x) = some (some (.int (nI o1)), tw w t T' x) := fun T' x => by
    have := s_code hk2 (dd T' x)
    rw [c1] at this
    exact this
  have O0 : ∀ (T' : Nat → Int32) (x : Int32), ai_ev none 43 0 [some (.ref d), some (.int (nI k))] [] (tw w t T' x) = some (some (.int (nI o2)), tw w t T' x) := fun T' x => by
    have := s_object hk2 (dd T' x)
    rw [c2] at this
    exact this
  have P0 : ∀ (T' : Nat → Int32) (x : Int32), ai_ev none 44 0 [some (.ref d), some (.int (nI k))] [] (tw w t T' x) = some (some (.int (nI o3)), tw w t T' x) := fun T' x => by
    have := s_place hk2 (dd T' x)
    rw [c3] at this
    exact this
  have hol : (obytes (o1, o2, o3, o4, o5, o6)).length = 3 + (if o1 = 2 then cont (o1, o2, o3, o4, o5, o6) else if o1 = 3 then o4 :: o6.length :: vbs o6 else []).length := by
    unfold obytes
    simp only [List.length_cons]
    omega
  have eapp : bs ++ obytes (o1, o2, o3, o4, o5, o6) = bs ++ [o1] ++ [o2] ++ [o3] ++ (if o1 = 2 then cont (o1, o2, o3, o4, o5, o6) else if o1 = 3 then o4 :: o6.length :: vbs o6 else []) := by
    unfold obytes
    simp
  have l1 : (bs ++ [o1]).length = bs.length + 1 := by simp
  have l2 : (bs ++ [o1] ++ [o2]).length = bs.length + 2 := by simp
  have l3 : (bs ++ [o1] ++ [o2] ++ [o3]).length = bs.length + 3 := by simp
  obtain ⟨T1, a1, a2⟩ := s_tput (b := o1) (by omega) hp (tw_w (w := w) (a := t) (A := T) (n := nI bs.length) (A' := T) (n' := nI bs.length))
  obtain ⟨T2, b1, b2⟩ := s_tput (b := o2) (by omega) a2 (tw_w (w := w) (a := t) (A := T1) (n := nI (bs ++ [o1]).length) (A' := T1) (n' := nI (bs ++ [o1]).length))
  obtain ⟨T3, f1, f2⟩ := s_tput (b := o3) (by omega) b2 (tw_w (w := w) (a := t) (A := T2) (n := nI (bs ++ [o1] ++ [o2]).length) (A' := T2) (n' := nI (bs ++ [o1] ++ [o2]).length))
  rw [tw_w] at a1 b1 f1
  rw [eapp]
  rcases hq.2 with ⟨z, _⟩ | ⟨z, _⟩ | ⟨z, _⟩
  · have z : o1 = 1 := z
    subst z
    rw [if_neg (by omega), if_neg (by omega), List.append_nil]
    refine ⟨T3, ?_, f2⟩
    conv => lhs; rw [← h]
    refine eDraft_write_13.trans ?_
    simp (disch := omega) only [eDraft_write_0, eDraft_write_1, eDraft_write_2, eDraft_write_5, eDraft_write_6, eDraft_write_8, eDraft_write_11, eDraft_write_12, eDraft_write_14, eDraft_write_15, eDraft_write_18, eDraft_write_21, eDraft_write_22, eDraft_write_23, eDraft_write_24, eDraft_write_27, eDraft_write_30, eDraft_write_31, eDraft_write_32, eDraft_write_33, eDraft_write_36, eDraft_write_39, eDraft_write_40, eDraft_write_41, eDraft_write_42, eDraft_write_45, eDraft_write_48, eDraft_write_49, eDraft_write_50, eDraft_write_53, eDraft_write_54, eDraft_write_57, eDraft_write_58, eDraft_write_59, eDraft_write_60, eDraft_write_63, eDraft_write_66, eDraft_write_67, eDraft_write_68, eDraft_write_71, eDraft_write_72, eDraft_write_75, eDraft_write_76, eDraft_write_77, eDraft_write_78, eDraft_write_81, eDraft_write_84, eDraft_write_87, eDraft_write_88, eDraft_write_89, eDraft_write_92, eDraft_write_93, eDraft_write_94, eDraft_write_95, eDraft_write_98, eDraft_write_101, eDraft_write_104, d0, t0, S0, C0, O0, P0, a1, b1, f1, ai_ai_at, ai_aj_at, ai_aq_at, ai_si_at, ai_sj_at, ai_sq_at, ai_cy_at, ai_al_at, ai_na_0, ai_na_1, ai_na_2, ai_na_3, ai_rc_at, ai_th_v, ai_th_n, ai_th_z, ai_sw, ai_nl_i, ai_nl_r, ai_nl_l, ai_nl_n, nI_clamp, nI_add, pk_mul, pk_sub, az_e0, az_l0, az_g0, az_p0, az_q0, az_eq, az_lt, az_le, az_m1, az_m2, az_m3, az_m4, az_m5, az_m6, az_m7, az_m8, az_dec, az_bd, az_b0, az_bt, az_bf, dn_leT, dn_leF, dn_ltT, dn_ltF, dn_eqT, dn_eqF, ↓reduceIte, if_true, if_false, not_true_eq_false, not_false_eq_true, true_and, and_true, false_and, and_false, true_or, or_true, false_or, or_false, Nat.reduceAdd, Nat.reduceMul, Nat.reduceSub, Nat.reduceLT, Nat.reduceLeDiff, Nat.reduceEqDiff, Nat.add_zero, Nat.zero_add, ne_eq, reduceCtorEq, decide_true, decide_false, Bool.true_eq_false, Bool.false_eq_true, Classical.not_not]
  · have z : o1 = 2 := z
    subst z
    rw [if_pos rfl] at hol ⊢
    obtain ⟨T4, g1, g2⟩ := s_wcont (q := (2, o2, o3, o4, o5, o6)) hdt hk2 hq rfl hc (by omega) f2 (dd T3 _) (tw_w (w := w) (a := t) (A := T3) (n := nI (bs ++ [2] ++ [o2] ++ [o3]).length) (A' := T3) (n' := nI (bs ++ [2] ++ [o2] ++ [o3]).length))
    rw [tw_w] at g1
    refine ⟨T4, ?_, g2⟩
    conv => lhs; rw [← h]
    refine eDraft_write_13.trans ?_
    simp (disch := omega) only [eDraft_write_0, eDraft_write_1, eDraft_write_2, eDraft_write_5, eDraft_write_6, eDraft_write_8, eDraft_write_11, eDraft_write_12, eDraft_write_14, eDraft_write_15, eDraft_write_18, eDraft_write_21, eDraft_write_22, eDraft_write_23, eDraft_write_24, eDraft_write_27, eDraft_write_30, eDraft_write_31, eDraft_write_32, eDraft_write_33, eDraft_write_36, eDraft_write_39, eDraft_write_40, eDraft_write_41, eDraft_write_42, eDraft_write_45, eDraft_write_48, eDraft_write_49, eDraft_write_50, eDraft_write_53, eDraft_write_54, eDraft_write_57, eDraft_write_58, eDraft_write_59, eDraft_write_60, eDraft_write_63, eDraft_write_66, eDraft_write_67, eDraft_write_68, eDraft_write_71, eDraft_write_72, eDraft_write_75, eDraft_write_76, eDraft_write_77, eDraft_write_78, eDraft_write_81, eDraft_write_84, eDraft_write_87, eDraft_write_88, eDraft_write_89, eDraft_write_92, eDraft_write_93, eDraft_write_94, eDraft_write_95, eDraft_write_98, eDraft_write_101, eDraft_write_104, d0, t0, S0, C0, O0, P0, a1, b1, f1, g1, ai_ai_at, ai_aj_at, ai_aq_at, ai_si_at, ai_sj_at, ai_sq_at, ai_cy_at, ai_al_at, ai_na_0, ai_na_1, ai_na_2, ai_na_3, ai_rc_at, ai_th_v, ai_th_n, ai_th_z, ai_sw, ai_nl_i, ai_nl_r, ai_nl_l, ai_nl_n, nI_clamp, nI_add, pk_mul, pk_sub, az_e0, az_l0, az_g0, az_p0, az_q0, az_eq, az_lt, az_le, az_m1, az_m2, az_m3, az_m4, az_m5, az_m6, az_m7, az_m8, az_dec, az_bd, az_b0, az_bt, az_bf, dn_leT, dn_leF, dn_ltT, dn_ltF, dn_eqT, dn_eqF, ↓reduceIte, if_true, if_false, not_true_eq_false, not_false_eq_true, true_and, and_true, false_and, and_false, true_or, or_true, false_or, or_false, Nat.reduceAdd, Nat.reduceMul, Nat.reduceSub, Nat.reduceLT, Nat.reduceLeDiff, Nat.reduceEqDiff, Nat.add_zero, Nat.zero_add, ne_eq, reduceCtorEq, decide_true, decide_false, Bool.true_eq_false, Bool.false_eq_true, Classical.not_not]
  · have z : o1 = 3 := z
    subst z
    rw [if_neg (by omega), if_pos rfl] at hol ⊢
    rw [List.length_cons, List.length_cons] at hol
    obtain ⟨T4, g1, g2⟩ := s_wspl (q := (3, o2, o3, o4, o5, o6)) hdt hk2 hq rfl hc (show _ + 2 + (vbs o6).length ≤ 1200 by omega) f2 (dd T3 _) (tw_w (w := w) (a := t) (A := T3) (n := nI (bs ++ [3] ++ [o2] ++ [o3]).length) (A' := T3) (n' := nI (bs ++ [3] ++ [o2] ++ [o3]).length))
    rw [tw_w] at g1
    refine ⟨T4, ?_, g2⟩
    conv => lhs; rw [← h]
    refine eDraft_write_13.trans ?_
    simp (disch := omega) only [eDraft_write_0, eDraft_write_1, eDraft_write_2, eDraft_write_5, eDraft_write_6, eDraft_write_8, eDraft_write_11, eDraft_write_12, eDraft_write_14, eDraft_write_15, eDraft_write_18, eDraft_write_21, eDraft_write_22, eDraft_write_23, eDraft_write_24, eDraft_write_27, eDraft_write_30, eDraft_write_31, eDraft_write_32, eDraft_write_33, eDraft_write_36, eDraft_write_39, eDraft_write_40, eDraft_write_41, eDraft_write_42, eDraft_write_45, eDraft_write_48, eDraft_write_49, eDraft_write_50, eDraft_write_53, eDraft_write_54, eDraft_write_57, eDraft_write_58, eDraft_write_59, eDraft_write_60, eDraft_write_63, eDraft_write_66, eDraft_write_67, eDraft_write_68, eDraft_write_71, eDraft_write_72, eDraft_write_75, eDraft_write_76, eDraft_write_77, eDraft_write_78, eDraft_write_81, eDraft_write_84, eDraft_write_87, eDraft_write_88, eDraft_write_89, eDraft_write_92, eDraft_write_93, eDraft_write_94, eDraft_write_95, eDraft_write_98, eDraft_write_101, eDraft_write_104, d0, t0, S0, C0, O0, P0, a1, b1, f1, g1, ai_ai_at, ai_aj_at, ai_aq_at, ai_si_at, ai_sj_at, ai_sq_at, ai_cy_at, ai_al_at, ai_na_0, ai_na_1, ai_na_2, ai_na_3, ai_rc_at, ai_th_v, ai_th_n, ai_th_z, ai_sw, ai_nl_i, ai_nl_r, ai_nl_l, ai_nl_n, nI_clamp, nI_add, pk_mul, pk_sub, az_e0, az_l0, az_g0, az_p0, az_q0, az_eq, az_lt, az_le, az_m1, az_m2, az_m3, az_m4, az_m5, az_m6, az_m7, az_m8, az_dec, az_bd, az_b0, az_bt, az_bf, dn_leT, dn_leF, dn_ltT, dn_ltF, dn_eqT, dn_eqF, ↓reduceIte, if_true, if_false, not_true_eq_false, not_false_eq_true, true_and, and_true, false_and, and_false, true_or, or_true, false_or, or_false, Nat.reduceAdd, Nat.reduceMul, Nat.reduceSub, Nat.reduceLT, Nat.reduceLeDiff, Nat.reduceEqDiff, Nat.add_zero, Nat.zero_add, ne_eq, reduceCtorEq, decide_true, decide_false, Bool.true_eq_false, Bool.false_eq_true, Classical.not_not]
