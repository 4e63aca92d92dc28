def vbs (l : List Int32) : List Nat := (l.map (fun x => vb 4 (zig x))).flatten
theorem vb_len : ∀ c u, (vb c u).length ≤ c + 1
  | 0, _ => Nat.le_refl _
  | c + 1, u => by
    unfold vb
    split
    · simp
    · have := vb_len c (u / 128)
      simp
      omega
theorem vbs_len : ∀ l : List Int32, (vbs l).length ≤ 5 * l.length
  | [] => Nat.le_refl _
  | x :: l => by
    have h1 := vb_len 4 (zig x)
    have h2 := vbs_len l
    have e : vbs (x :: l) = vb 4 (zig x) ++ vbs l := rfl
    rw [e, List.length_append]
    simp
    omega
theorem vbs_snoc (l : List Int32) (x : Int32) : vbs (l ++ [x]) = vbs l ++ vb 4 (zig x) := by
  simp [vbs]
theorem vbs_pre {l : List Int32} {i : Nat} {x : Int32} (h : l[i]? = some x) : (vbs (l.take i)).length + (vb 4 (zig x)).length ≤ (vbs l).length := by
  have e : l.take (i + 1) = l.take i ++ [x] := by
    rw [List.take_succ, h]
    rfl
  have e2 : vbs l = vbs (l.take (i + 1)) ++ vbs (l.drop (i + 1)) := by
    rw [vbs, vbs, vbs, ← List.flatten_append, ← List.map_append, List.take_append_drop]
  rw [e2, e, vbs_snoc, List.length_append, List.length_append]
  omega
theorem s_wspl {w : ai_W} {t d k : Nat} {X T : Nat → Int32} {c : Int32} {bs : List Nat} {q : op} (hdt : d + 1 < t ∨ t + 1 < d) (hk : k < 127) (hq : ov q) (h3 : q.1 = 3) (hc : crep X k q) (hl : bs.length + 2 + (vbs q.2.2.2.2.2).length ≤ 1200) (hp : pre T bs) (hd : dw w d X c = w) (h : tw w t T (nI bs.length) = w) : ∃ T', ai_ev none 68 0 [some (.ref t), some (.ref d), some (.int (nI k)), none] [] w = some (none, tw w t T' (nI (bs ++ q.2.2.2.1 :: q.2.2.2.2.2.length :: vbs q.2.2.2.2.2).length)) ∧ pre T' (bs ++ q.2.2.2.1 :: q.2.2.2.2.2.length :: vbs q.2.2.2.2.2) := by
  have ed := dw_at hd
  have e := tw_at h
  obtain ⟨c1, c2, c3, c4, c5, c6⟩ := hc
  rcases hq.2 with ⟨z, _⟩ | ⟨z, _⟩ | ⟨_, z1, z2, z3, _⟩
  · omega
  · omega
  · rw [z3] at c5
    obtain ⟨T1, a1, a2⟩ := s_tput (b := q.2.2.2.1) (by omega) hp h
    have hl1 : (bs ++ [q.2.2.2.1]).length = bs.length + 1 := by simp
    obtain ⟨T2, b1, b2⟩ := s_tput (b := q.2.2.2.2.2.length) (by omega) a2 (tw_w (w := w) (a := t) (A := T1) (n := nI (bs ++ [q.2.2.2.1]).length) (A' := T1) (n' := nI (bs ++ [q.2.2.2.1]).length))
    rw [tw_w] at b1
    have dd : ∀ (T' : Nat → Int32) (x : Int32), dw (tw w t T' x) d X c = tw w t T' x := fun T' x => dw_fr hd (fun k _ _ => tw_go (by omega))
    have d0 : ∀ (T' : Nat → Int32) (x : Int32), (tw w t T' x).2.2 d = .inr (1, [.ref (d + 1), .int c]) := fun T' x => dw_at (dd T' x)
    have t0 : ∀ (T' : Nat → Int32) (x : Int32), (tw w t T' x).2.2 t = .inr (3, [.ref (t + 1), .int x]) := fun T' x => tw_g0
    have i0 : ∀ (T' : Nat → Int32) (x : Int32), ai_ev none 40 0 [some (.ref d), some (.int (nI k))] [] (tw w t T' x) = some (some (.int (nI q.2.2.2.2.2.length)), tw w t T' x) := fun T' x => by
      have := s_inserts hk (dd T' x)
      rw [c5] at this
      exact this
    have del := s_deletes hk hd
    rw [c4] at del
    have e0 : ai_ev none 68 0 [some (.ref t), some (.ref d), some (.int (nI k)), none] [] w = ai_ev none 68 20 [some (.ref t), some (.ref d), some (.int (nI k)), some (.int (nI 0))] [] (tw w t T2 (nI (bs ++ [q.2.2.2.1] ++ [q.2.2.2.2.2.length]).length)) := by
      simp (disch := omega) only [eDraft_writeSplice_0, eDraft_writeSplice_1, eDraft_writeSplice_2, eDraft_writeSplice_3, eDraft_writeSplice_6, eDraft_writeSplice_9, eDraft_writeSplice_10, eDraft_writeSplice_11, eDraft_writeSplice_12, eDraft_writeSplice_15, eDraft_writeSplice_18, eDraft_writeSplice_19, eDraft_writeSplice_21, eDraft_writeSplice_22, eDraft_writeSplice_23, eDraft_writeSplice_26, eDraft_writeSplice_29, eDraft_writeSplice_30, eDraft_writeSplice_31, eDraft_writeSplice_32, eDraft_writeSplice_33, eDraft_writeSplice_36, eDraft_writeSplice_39, eDraft_writeSplice_42, eDraft_writeSplice_45, e, ed, del, a1, d0, t0, i0, b1, ai_ai_at, ai_aj_at, ai_aq_at, ai_si_at, ai_sj_at, ai_sq_at, ai_cy_at, ai_al_at, ai_na_0, ai_na_1, ai_na_2, ai_na_3, ai_rc_at, ai_th_v, ai_th_n, ai_th_z, ai_sw, ai_nl_i, ai_nl_r, ai_nl_l, ai_nl_n, nI_clamp, nI_add, pk_mul, pk_sub, az_e0, az_l0, az_g0, az_p0, az_q0, az_eq, az_lt, az_le, az_m1, az_m2, az_m3, az_m4, az_m5, az_m6, az_m7, az_m8, az_dec, az_bd, az_b0, az_bt, az_bf, dn_leT, dn_leF, dn_ltT, dn_ltF, dn_eqT, dn_eqF, ↓reduceIte, if_true, if_false, not_true_eq_false, not_false_eq_true, true_and, and_true, false_and, and_false, true_or, or_true, false_or, or_false, Nat.reduceAdd, Nat.reduceMul, Nat.reduceSub, Nat.reduceLT, Nat.reduceLeDiff, Nat.reduceEqDiff, Nat.add_zero, Nat.zero_add, ne_eq, reduceCtorEq, decide_true, decide_false, Bool.true_eq_false, Bool.false_eq_true, Classical.not_not]
    have st : ∀ i, i ≤ q.2.2.2.2.2.length → ∃ T', ai_ev none 68 0 [some (.ref t), some (.ref d), some (.int (nI k)), none] [] w = ai_ev none 68 20 [some (.ref t), some (.ref d), some (.int (nI k)), some (.int (nI i))] [] (tw w t T' (nI (bs ++ [q.2.2.2.1] ++ [q.2.2.2.2.2.length] ++ vbs (q.2.2.2.2.2.take i)).length)) ∧ pre T' (bs ++ [q.2.2.2.1] ++ [q.2.2.2.2.2.length] ++ vbs (q.2.2.2.2.2.take i)) := by
      intro i
      induction i with
      | zero =>
        intro _
        have ez : bs ++ [q.2.2.2.1] ++ [q.2.2.2.2.2.length] ++ vbs (q.2.2.2.2.2.take 0) = bs ++ [q.2.2.2.1] ++ [q.2.2.2.2.2.length] := by simp [vbs]
        rw [ez]
        exact ⟨T2, e0, b2⟩
      | succ i ih =>
        intro hi
        obtain ⟨T3, f1, f2⟩ := ih (by omega)
        have hx : q.2.2.2.2.2[i]? = some (q.2.2.2.2.2[i]'(by omega)) := List.getElem?_eq_getElem (by omega)
        have hins := s_inserted hk (show i < 6 by omega) (dd T3 (nI (bs ++ [q.2.2.2.1] ++ [q.2.2.2.2.2.length] ++ vbs (q.2.2.2.2.2.take i)).length))
        rw [c6 i _ hx] at hins
        have hlv := vbs_pre hx
        have hl4 : (bs ++ [q.2.2.2.1] ++ [q.2.2.2.2.2.length] ++ vbs (q.2.2.2.2.2.take i)).length = bs.length + 2 + (vbs (q.2.2.2.2.2.take i)).length := by simp; omega
        obtain ⟨T4, g1, g2⟩ := s_varint (v := q.2.2.2.2.2[i]'(by omega)) (by omega) f2 (tw_w (w := w) (a := t) (A := T3) (n := nI (bs ++ [q.2.2.2.1] ++ [q.2.2.2.2.2.length] ++ vbs (q.2.2.2.2.2.take i)).length) (A' := T3) (n' := nI (bs ++ [q.2.2.2.1] ++ [q.2.2.2.2.2.length] ++ vbs (q.2.2.2.2.2.take i)).length))
        rw [tw_w] at g1
        have et : q.2.2.2.2.2.take (i + 1) = q.2.2.2.2.2.take i ++ [q.2.2.2.2.2[i]'(by omega)] := by
          rw [List.take_succ, hx]
          rfl
        rw [et, vbs_snoc, ← List.append_assoc]
        refine ⟨T4, f1.trans ?_, g2⟩
        refine eDraft_writeSplice_20.trans ?_
        simp (disch := omega) only [eDraft_writeSplice_0, eDraft_writeSplice_1, eDraft_writeSplice_2, eDraft_writeSplice_3, eDraft_writeSplice_6, eDraft_writeSplice_9, eDraft_writeSplice_10, eDraft_writeSplice_11, eDraft_writeSplice_12, eDraft_writeSplice_15, eDraft_writeSplice_18, eDraft_writeSplice_19, eDraft_writeSplice_21, eDraft_writeSplice_22, eDraft_writeSplice_23, eDraft_writeSplice_26, eDraft_writeSplice_29, eDraft_writeSplice_30, eDraft_writeSplice_31, eDraft_writeSplice_32, eDraft_writeSplice_33, eDraft_writeSplice_36, eDraft_writeSplice_39, eDraft_writeSplice_42, eDraft_writeSplice_45, d0, t0, i0, hins, g1, ai_ai_at, ai_aj_at, ai_aq_at, ai_si_at, ai_sj_at, ai_sq_at, ai_cy_at, ai_al_at, ai_na_0, ai_na_1, ai_na_2, ai_na_3, ai_rc_at, ai_th_v, ai_th_n, ai_th_z, ai_sw, ai_nl_i, ai_nl_r, ai_nl_l, ai_nl_n, nI_clamp, nI_add, pk_mul, pk_sub, az_e0, az_l0, az_g0, az_p0, az_q0, az_eq, az_lt, az_le, az_m1, az_m2, az_m3, az_m4, az_m5, az_m6, az_m7, az_m8, az_dec, az_bd, az_b0, az_bt, az_bf, dn_leT, dn_leF, dn_ltT, dn_ltF, dn_eqT, dn_eqF, ↓reduceIte, if_true, if_false, not_true_eq_false, not_false_eq_true, true_and, and_true, false_and, and_false, true_or, or_true, false_or, or_false, Nat.reduceAdd, Nat.reduceMul, Nat.reduceSub, Nat.reduceLT, Nat.reduceLeDiff, Nat.reduceEqDiff, Nat.add_zero, Nat.zero_add, ne_eq, reduceCtorEq, decide_true, decide_false, Bool.true_eq_false, Bool.false_eq_true, Classical.not_not]
    obtain ⟨T', f1, f2⟩ := st q.2.2.2.2.2.length (Nat.le_refl _)
    rw [List.take_of_length_le (Nat.le_refl _)] at f1 f2
    have ez : bs ++ [q.2.2.2.1] ++ [q.2.2.2.2.2.length] ++ vbs q.2.2.2.2.2 = bs ++ q.2.2.2.1 :: q.2.2.2.2.2.length :: vbs q.2.2.2.2.2 := by simp
    rw [ez] at f1 f2
    refine ⟨T', ?_, f2⟩
    rw [f1]
    refine eDraft_writeSplice_20.trans ?_
    simp (disch := omega) only [eDraft_writeSplice_0, eDraft_writeSplice_1, eDraft_writeSplice_2, eDraft_writeSplice_3, eDraft_writeSplice_6, eDraft_writeSplice_9, eDraft_writeSplice_10, eDraft_writeSplice_11, eDraft_writeSplice_12, eDraft_writeSplice_15, eDraft_writeSplice_18, eDraft_writeSplice_19, eDraft_writeSplice_21, eDraft_writeSplice_22, eDraft_writeSplice_23, eDraft_writeSplice_26, eDraft_writeSplice_29, eDraft_writeSplice_30, eDraft_writeSplice_31, eDraft_writeSplice_32, eDraft_writeSplice_33, eDraft_writeSplice_36, eDraft_writeSplice_39, eDraft_writeSplice_42, eDraft_writeSplice_45, d0, i0, ai_ai_at, ai_aj_at, ai_aq_at, ai_si_at, ai_sj_at, ai_sq_at, ai_cy_at, ai_al_at, ai_na_0, ai_na_1, ai_na_2, ai_na_3, ai_rc_at, ai_th_v, ai_th_n, ai_th_z, ai_sw, ai_nl_i, ai_nl_r, ai_nl_l, ai_nl_n, nI_clamp, nI_add, pk_mul, pk_sub, az_e0, az_l0, az_g0, az_p0, az_q0, az_eq, az_lt, az_le, az_m1, az_m2, az_m3, az_m4, az_m5, az_m6, az_m7, az_m8, az_dec, az_bd, az_b0, az_bt, az_bf, dn_leT, dn_leF, dn_ltT, dn_ltF, dn_eqT, dn_eqF, ↓reduceIte, if_true, if_false, not_true_eq_false, not_false_eq_true, true_and, and_true, false_and, and_false, true_or, or_true, false_or, or_false, Nat.reduceAdd, Nat.reduceMul, Nat.reduceSub, Nat.reduceLT, Nat.reduceLeDiff, Nat.reduceEqDiff, Nat.add_zero, Nat.zero_add, ne_eq, reduceCtorEq, decide_true, decide_false, Bool.true_eq_false, Bool.false_eq_true, Classical.not_not]
