def cont (q : op) : List Nat := q.2.2.2.1 :: (if q.2.2.2.1 = 1 then vb 4 (zig q.2.2.2.2.1) else if q.2.2.2.1 = 2 then [q.2.2.2.2.1.toNatClampNeg] else [])
theorem s_wcont {w : ai_W} {t d k : Nat} {X T : Nat → Int32} {c : Int32} {bs : List Nat} {q : op} (hdt : d + 1 < t ∨ t + 1 < d) (hk : k < 127) (hq : ov q) (h2 : q.1 = 2) (hc : crep X k q) (hl : bs.length + (cont q).length ≤ 1200) (hp : pre T bs) (hd : dw w d X c = w) (h : tw w t T (nI bs.length) = w) : ∃ T', ai_ev none 67 0 [some (.ref t), some (.ref d), some (.int (nI k))] [] w = some (none, tw w t T' (nI (bs ++ cont q).length)) ∧ pre T' (bs ++ cont q) := by
  have e := tw_at h
  have ed := dw_at hd
  obtain ⟨c1, c2, c3, c4, c5, c6⟩ := hc
  have hcl : (cont q).length = 1 + (if q.2.2.2.1 = 1 then vb 4 (zig q.2.2.2.2.1) else if q.2.2.2.1 = 2 then [q.2.2.2.2.1.toNatClampNeg] else []).length := by
    unfold cont
    rw [List.length_cons]
    omega
  have t1 := s_dtag hk hd
  rw [c4] at t1
  obtain ⟨T1, a1, a2⟩ := s_tput (b := q.2.2.2.1) (by omega) hp h
  have hlen : (bs ++ [q.2.2.2.1]).length = bs.length + 1 := by simp
  have hd1 : dw (tw w t T1 (nI (bs ++ [q.2.2.2.1]).length)) d X c = tw w t T1 (nI (bs ++ [q.2.2.2.1]).length) := dw_fr hd (fun k _ _ => tw_go (by omega))
  have ed1 := dw_at hd1
  have t2 := s_dtag hk hd1
  rw [c4] at t2
  have t3 := s_dcon hk hd1
  rw [c5] at t3
  have g0 : (tw w t T1 (nI (bs ++ [q.2.2.2.1]).length)).2.2 t = .inr (3, [.ref (t + 1), .int (nI (bs ++ [q.2.2.2.1]).length)]) := tw_g0
  have eapp : bs ++ cont q = (bs ++ [q.2.2.2.1]) ++ (if q.2.2.2.1 = 1 then vb 4 (zig q.2.2.2.2.1) else if q.2.2.2.1 = 2 then [q.2.2.2.2.1.toNatClampNeg] else []) := by
    unfold cont
    rw [List.append_assoc, List.singleton_append]
  rw [eapp]
  rcases hq.2 with ⟨z, _⟩ | ⟨_, _, _, z⟩ | ⟨z, _⟩
  · omega
  · rcases z with ⟨z, _⟩ | z | ⟨z, p, hp2, z2⟩
    · rw [if_neg (by omega), if_neg (by omega), List.append_nil]
      refine ⟨T1, ?_, a2⟩
      rw [z] at t1 t2 a1 ed1 g0 ⊢
      simp (disch := omega) only [eDraft_writeContent_0, eDraft_writeContent_1, eDraft_writeContent_2, eDraft_writeContent_3, eDraft_writeContent_6, eDraft_writeContent_9, eDraft_writeContent_10, eDraft_writeContent_11, eDraft_writeContent_14, eDraft_writeContent_15, eDraft_writeContent_18, eDraft_writeContent_19, eDraft_writeContent_20, eDraft_writeContent_21, eDraft_writeContent_24, eDraft_writeContent_27, eDraft_writeContent_30, eDraft_writeContent_31, eDraft_writeContent_32, eDraft_writeContent_35, eDraft_writeContent_36, eDraft_writeContent_39, eDraft_writeContent_40, eDraft_writeContent_41, eDraft_writeContent_42, eDraft_writeContent_45, eDraft_writeContent_48, e, ed, ed1, t1, t2, a1, ai_ai_at, ai_aj_at, ai_aq_at, ai_si_at, ai_sj_at, ai_sq_at, ai_cy_at, ai_al_at, ai_na_0, ai_na_1, ai_na_2, ai_na_3, ai_rc_at, ai_th_v, ai_th_n, ai_th_z, ai_sw, ai_nl_i, ai_nl_r, ai_nl_l, ai_nl_n, nI_clamp, nI_add, pk_mul, pk_sub, az_e0, az_l0, az_g0, az_p0, az_q0, az_eq, az_lt, az_le, az_m1, az_m2, az_m3, az_m4, az_m5, az_m6, az_m7, az_m8, az_dec, az_bd, az_b0, az_bt, az_bf, dn_leT, dn_leF, dn_ltT, dn_ltF, dn_eqT, dn_eqF, ↓reduceIte, if_true, if_false, not_true_eq_false, not_false_eq_true, true_and, and_true, false_and, and_false, true_or, or_true, false_or, or_false, Nat.reduceAdd, Nat.reduceMul, Nat.reduceSub, Nat.reduceLT, Nat.reduceLeDiff, Nat.reduceEqDiff, Nat.add_zero, Nat.zero_add, ne_eq, reduceCtorEq, decide_true, decide_false, Bool.true_eq_false, Bool.false_eq_true, Classical.not_not]
    · rw [if_pos z] at hcl ⊢
      obtain ⟨T2, b1, b2⟩ := s_varint (v := q.2.2.2.2.1) (by omega) a2 (tw_w (w := w) (a := t) (A := T1) (n := nI (bs ++ [q.2.2.2.1]).length) (A' := T1) (n' := nI (bs ++ [q.2.2.2.1]).length))
      rw [tw_w] at b1
      refine ⟨T2, ?_, b2⟩
      rw [z] at t1 t2 t3 a1 b1 ed1 g0 ⊢
      simp (disch := omega) only [eDraft_writeContent_0, eDraft_writeContent_1, eDraft_writeContent_2, eDraft_writeContent_3, eDraft_writeContent_6, eDraft_writeContent_9, eDraft_writeContent_10, eDraft_writeContent_11, eDraft_writeContent_14, eDraft_writeContent_15, eDraft_writeContent_18, eDraft_writeContent_19, eDraft_writeContent_20, eDraft_writeContent_21, eDraft_writeContent_24, eDraft_writeContent_27, eDraft_writeContent_30, eDraft_writeContent_31, eDraft_writeContent_32, eDraft_writeContent_35, eDraft_writeContent_36, eDraft_writeContent_39, eDraft_writeContent_40, eDraft_writeContent_41, eDraft_writeContent_42, eDraft_writeContent_45, eDraft_writeContent_48, e, ed, ed1, g0, t1, t2, t3, a1, b1, ai_ai_at, ai_aj_at, ai_aq_at, ai_si_at, ai_sj_at, ai_sq_at, ai_cy_at, ai_al_at, ai_na_0, ai_na_1, ai_na_2, ai_na_3, ai_rc_at, ai_th_v, ai_th_n, ai_th_z, ai_sw, ai_nl_i, ai_nl_r, ai_nl_l, ai_nl_n, nI_clamp, nI_add, pk_mul, pk_sub, az_e0, az_l0, az_g0, az_p0, az_q0, az_eq, az_lt, az_le, az_m1, az_m2, az_m3, az_m4, az_m5, az_m6, az_m7, az_m8, az_dec, az_bd, az_b0, az_bt, az_bf, dn_leT, dn_leF, dn_ltT, dn_ltF, dn_eqT, dn_eqF, ↓reduceIte, if_true, if_false, not_true_eq_false, not_false_eq_true, true_and, and_true, false_and, and_false, true_or, or_true, false_or, or_false, Nat.reduceAdd, Nat.reduceMul, Nat.reduceSub, Nat.reduceLT, Nat.reduceLeDiff, Nat.reduceEqDiff, Nat.add_zero, Nat.zero_add, ne_eq, reduceCtorEq, decide_true, decide_false, Bool.true_eq_false, Bool.false_eq_true, Classical.not_not]
    · rw [if_neg (by omega), if_pos z]
      have hq2 : q.2.2.2.2.1.toNatClampNeg = p := by rw [z2]; exact nI_clamp (by omega)
      rw [hq2]
      rw [if_neg (by omega), if_pos z, List.length_singleton] at hcl
      obtain ⟨T2, b1, b2⟩ := s_tput (b := p) (by omega) a2 (tw_w (w := w) (a := t) (A := T1) (n := nI (bs ++ [q.2.2.2.1]).length) (A' := T1) (n' := nI (bs ++ [q.2.2.2.1]).length))
      rw [tw_w] at b1
      refine ⟨T2, ?_, b2⟩
      rw [z2] at t3
      rw [z] at t1 t2 t3 a1 b1 ed1 g0 ⊢
      simp (disch := omega) only [eDraft_writeContent_0, eDraft_writeContent_1, eDraft_writeContent_2, eDraft_writeContent_3, eDraft_writeContent_6, eDraft_writeContent_9, eDraft_writeContent_10, eDraft_writeContent_11, eDraft_writeContent_14, eDraft_writeContent_15, eDraft_writeContent_18, eDraft_writeContent_19, eDraft_writeContent_20, eDraft_writeContent_21, eDraft_writeContent_24, eDraft_writeContent_27, eDraft_writeContent_30, eDraft_writeContent_31, eDraft_writeContent_32, eDraft_writeContent_35, eDraft_writeContent_36, eDraft_writeContent_39, eDraft_writeContent_40, eDraft_writeContent_41, eDraft_writeContent_42, eDraft_writeContent_45, eDraft_writeContent_48, e, ed, ed1, g0, t1, t2, t3, a1, b1, ai_ai_at, ai_aj_at, ai_aq_at, ai_si_at, ai_sj_at, ai_sq_at, ai_cy_at, ai_al_at, ai_na_0, ai_na_1, ai_na_2, ai_na_3, ai_rc_at, ai_th_v, ai_th_n, ai_th_z, ai_sw, ai_nl_i, ai_nl_r, ai_nl_l, ai_nl_n, nI_clamp, nI_add, pk_mul, pk_sub, az_e0, az_l0, az_g0, az_p0, az_q0, az_eq, az_lt, az_le, az_m1, az_m2, az_m3, az_m4, az_m5, az_m6, az_m7, az_m8, az_dec, az_bd, az_b0, az_bt, az_bf, dn_leT, dn_leF, dn_ltT, dn_ltF, dn_eqT, dn_eqF, ↓reduceIte, if_true, if_false, not_true_eq_false, not_false_eq_true, true_and, and_true, false_and, and_false, true_or, or_true, false_or, or_false, Nat.reduceAdd, Nat.reduceMul, Nat.reduceSub, Nat.reduceLT, Nat.reduceLeDiff, Nat.reduceEqDiff, Nat.add_zero, Nat.zero_add, ne_eq, reduceCtorEq, decide_true, decide_false, Bool.true_eq_false, Bool.false_eq_true, Classical.not_not]
  · omega
