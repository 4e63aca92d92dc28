def cap (s : List Int32) : List Int32 → List Int32
  | [] => s
  | x :: vs => cap (cap1 s x) vs
theorem cap1_b {s : List Int32} {x : Int32} (h : s.length ≤ 6) : (cap1 s x).length ≤ 6 ∧ s.length ≤ (cap1 s x).length := by
  unfold cap1
  by_cases hc : s.length < 6
  · rw [if_pos hc, List.length_append, List.length_singleton]
    omega
  · rw [if_neg hc]
    omega
theorem cap_b : ∀ (vs s : List Int32), s.length ≤ 6 → (cap s vs).length ≤ 6 ∧ s.length ≤ (cap s vs).length
  | [], s, h => ⟨h, Nat.le_refl _⟩
  | x :: vs, s, h => by
    have h1 := cap1_b (x := x) h
    have h2 := cap_b vs (cap1 s x) h1.1
    exact ⟨h2.1, by show _ ≤ (cap (cap1 s x) vs).length; omega⟩
theorem cap_e : ∀ (vs s : List Int32), s.length + vs.length ≤ 6 → cap s vs = s ++ vs
  | [], s, _ => (List.append_nil s).symm
  | x :: vs, s, h => by
    rw [List.length_cons] at h
    show cap (cap1 s x) vs = _
    have e : cap1 s x = s ++ [x] := if_pos (by omega)
    rw [e, cap_e vs (s ++ [x]) (by rw [List.length_append, List.length_singleton]; omega), List.append_assoc]
    rfl
section RO
variable {w : ai_W} {R t d : Nat} {T X : Nat → Int32} {bs : List Nat} {l : List op}
theorem s_rst {a o : Nat} (ha : a < 2 ^ 27) (hRt : R < t ∨ t + 1 < R) (hRd : R < d ∨ d + 1 < R) (hdt : d + 1 < t ∨ t + 1 < d) (hl : bs.length ≤ 1200) (hb : ∀ b, b ∈ bs → b < 256) (hp : pre T bs) (hT : tw w t T (nI bs.length) = w) (ho : o < 16) (hn : l.length ≤ 127) (hr : reps X l) : (∃ q r X', ov q ∧ q.1 = 2 ∧ q.2.1 = o ∧ q.1 :: o :: bs.drop a = obytes q ++ r ∧ ai_ev none 114 0 [some (.ref R), some (.int (nI o)), some (.ref d), none, none, none, none] [] (zw (dw w d X (nI l.length)) R t (nI a)) = some (some (.int (nI 1)), zw (dw w d X' (nI (adl l q).length)) R t (nI (a + ((obytes q).length - 2)))) ∧ reps X' (adl l q)) ∨ ((∀ q r, ov q → q.1 = 2 → q.2.1 = o → ¬ q.1 :: o :: bs.drop a = obytes q ++ r) ∧ ∃ X' n' y, ai_ev none 114 0 [some (.ref R), some (.int (nI o)), some (.ref d), none, none, none, none] [] (zw (dw w d X (nI l.length)) R t (nI a)) = some (some (.int (nI 0)), zw (dw w d X' n') R t y)) := by
  have hT2 : ∀ (X' : Nat → Int32) (n' : Int32), tw (dw w d X' n') t T (nI bs.length) = dw w d X' n' := fun X' n' => tw_fr hT (fun k _ _ => dw_go (by omega))
  have n1 := s_next (a := a) (by omega) hRt hl hp (hT2 X (nI l.length))
  have n2 := s_next (a := a + 1) (by omega) hRt hl hp (hT2 X (nI l.length))
  have g0 : ∀ (V : ai_W) (x : Int32), (zw V R t x).2.2 R = .inr (6, [.ref t, .int x]) := fun V x => zw_g0
  have ob2 : ∀ q : op, q.1 = 2 → obytes q = q.1 :: q.2.1 :: q.2.2.1 :: q.2.2.2.1 :: (if q.2.2.2.1 = 1 then vb 4 (zig q.2.2.2.2.1) else if q.2.2.2.1 = 2 then [q.2.2.2.2.1.toNatClampNeg] else []) := fun q hq => by
    unfold obytes cont
    rw [if_pos hq]
  have kN : ((0 : Int64) = 1099511627776) = False := eq_false (by decide)
  have k0 : (0 : Int64).toInt32 = nI 0 := rfl
  have ovb : ∀ q : op, ov q → q.1 = 2 → q.2.2.1 ≤ 2 ∧ q.2.2.2.1 ≤ 2 := fun q hq h2 => by
    rcases hq.2 with ⟨z, _⟩ | ⟨_, z1, _, z2⟩ | ⟨z, _⟩
    · omega
    · omega
    · omega
  have ad : ∀ (s g k : Nat) (z : Int32), ∃ X', ai_ev none 27 0 [some (.ref d), some (.int (nI o)), some (.int (nI s)), some (.int (nI g)), some (.int z)] [] (zw (dw w d X (nI l.length)) R t (nI k)) = some (none, zw (dw w d X' (nI (adl l (2, o, s, g, z, [])).length)) R t (nI k)) ∧ reps X' (adl l (2, o, s, g, z, [])) := by
    intro s g k z
    obtain ⟨X', a1, a2⟩ := s_addSG (w := zw (dw w d X (nI l.length)) R t (nI k)) (o := o) (p := s) (t := g) (z := z) hn hr (dw_fr dw_w (fun k _ _ => zw_go (by omega)))
    rw [zw_d (by omega) (by omega), dw_w] at a1
    exact ⟨X', a1, a2⟩
  have ed : ∀ x : Int32, (zw (dw w d X (nI l.length)) R t x).2.2 d = .inr (1, [.ref (d + 1), .int (nI l.length)]) := fun x => (zw_go (by omega)).trans dw_g0
  cases h1 : bs[a]? with
  | none =>
    rw [nx_n h1] at n1
    refine Or.inr ⟨fun q r _ hq1 _ hd => ?_, X, nI l.length, nI (a + 1 + 1), ?_⟩
    · rw [dr_n h1, ob2 q hq1] at hd
      simp at hd
    · generalize nx bs (a + 1) = y at n2
      simp (disch := omega) only [eReader_readSet_0, eReader_readSet_1, eReader_readSet_4, eReader_readSet_5, eReader_readSet_6, eReader_readSet_9, eReader_readSet_11, eReader_readSet_12, eReader_readSet_15, eReader_readSet_16, eReader_readSet_17, eReader_readSet_20, eReader_readSet_22, eReader_readSet_25, eReader_readSet_27, eReader_readSet_28, eReader_readSet_31, eReader_readSet_32a, eReader_readSet_32b, eReader_readSet_32c, eReader_readSet_33, eReader_readSet_35, eReader_readSet_38, eReader_readSet_39, eReader_readSet_42, eReader_readSet_44, eReader_readSet_45, eReader_readSet_48, eReader_readSet_49, eReader_readSet_52, eReader_readSet_55, eReader_readSet_56, eReader_readSet_59, eReader_readSet_61, eReader_readSet_63, eReader_readSet_66, eReader_readSet_67, eReader_readSet_70, eReader_readSet_71a, eReader_readSet_71b, eReader_readSet_71c, eReader_readSet_72, eReader_readSet_73, eReader_readSet_74, eReader_readSet_75, eReader_readSet_77, eReader_readSet_79, eReader_readSet_80, eReader_readSet_83, eReader_readSet_84a, eReader_readSet_84b, eReader_readSet_84c, g0, n1, n2, ai_ai_at, ai_aj_at, ai_aq_at, ai_si_at, ai_sj_at, ai_sq_at, ai_cy_at, ai_al_at, ai_na_0, ai_na_1, ai_na_2, ai_na_3, ai_rc_at, ai_th_v, ai_th_n, ai_th_z, ai_sw, ai_nl_i, ai_nl_r, ai_nl_l, ai_nl_n, nI_clamp, nI_add, pk_mul, pk_sub, az_e0, az_l0, az_g0, az_p0, az_q0, az_eq, az_lt, az_le, az_m1, az_m2, az_m3, az_m4, az_m5, az_m6, az_m7, az_m8, az_dec, az_bd, az_b0, az_bt, az_bf, dn_leT, dn_leF, dn_ltT, dn_ltF, dn_eqT, dn_eqF, ↓reduceIte, if_true, if_false, not_true_eq_false, not_false_eq_true, true_and, and_true, false_and, and_false, true_or, or_true, false_or, or_false, Nat.reduceAdd, Nat.reduceMul, Nat.reduceSub, Nat.reduceLT, Nat.reduceLeDiff, Nat.reduceEqDiff, Nat.add_zero, Nat.zero_add, ne_eq, reduceCtorEq, decide_true, decide_false, Bool.true_eq_false, Bool.false_eq_true, Classical.not_not]
  | some s =>
    rw [nx_s h1] at n1
    have hs2 := hb s (List.mem_of_getElem? h1)
    have hd1 := dr_s h1
    by_cases hs : s < 3
    · cases h2 : bs[a + 1]? with
      | none =>
        rw [nx_n h2] at n2
        refine Or.inr ⟨fun q r _ hq1 _ hd => ?_, X, nI l.length, nI (a + 1 + 1), ?_⟩
        · rw [hd1, dr_n h2, ob2 q hq1] at hd
          simp at hd
        · simp (disch := omega) only [eReader_readSet_0, eReader_readSet_1, eReader_readSet_4, eReader_readSet_5, eReader_readSet_6, eReader_readSet_9, eReader_readSet_11, eReader_readSet_12, eReader_readSet_15, eReader_readSet_16, eReader_readSet_17, eReader_readSet_20, eReader_readSet_22, eReader_readSet_25, eReader_readSet_27, eReader_readSet_28, eReader_readSet_31, eReader_readSet_32a, eReader_readSet_32b, eReader_readSet_32c, eReader_readSet_33, eReader_readSet_35, eReader_readSet_38, eReader_readSet_39, eReader_readSet_42, eReader_readSet_44, eReader_readSet_45, eReader_readSet_48, eReader_readSet_49, eReader_readSet_52, eReader_readSet_55, eReader_readSet_56, eReader_readSet_59, eReader_readSet_61, eReader_readSet_63, eReader_readSet_66, eReader_readSet_67, eReader_readSet_70, eReader_readSet_71a, eReader_readSet_71b, eReader_readSet_71c, eReader_readSet_72, eReader_readSet_73, eReader_readSet_74, eReader_readSet_75, eReader_readSet_77, eReader_readSet_79, eReader_readSet_80, eReader_readSet_83, eReader_readSet_84a, eReader_readSet_84b, eReader_readSet_84c, g0, n1, n2, ai_ai_at, ai_aj_at, ai_aq_at, ai_si_at, ai_sj_at, ai_sq_at, ai_cy_at, ai_al_at, ai_na_0, ai_na_1, ai_na_2, ai_na_3, ai_rc_at, ai_th_v, ai_th_n, ai_th_z, ai_sw, ai_nl_i, ai_nl_r, ai_nl_l, ai_nl_n, nI_clamp, nI_add, pk_mul, pk_sub, az_e0, az_l0, az_g0, az_p0, az_q0, az_eq, az_lt, az_le, az_m1, az_m2, az_m3, az_m4, az_m5, az_m6, az_m7, az_m8, az_dec, az_bd, az_b0, az_bt, az_bf, dn_leT, dn_leF, dn_ltT, dn_ltF, dn_eqT, dn_eqF, ↓reduceIte, if_true, if_false, not_true_eq_false, not_false_eq_true, true_and, and_true, false_and, and_false, true_or, or_true, false_or, or_false, Nat.reduceAdd, Nat.reduceMul, Nat.reduceSub, Nat.reduceLT, Nat.reduceLeDiff, Nat.reduceEqDiff, Nat.add_zero, Nat.zero_add, ne_eq, reduceCtorEq, decide_true, decide_false, Bool.true_eq_false, Bool.false_eq_true, Classical.not_not]
      | some g =>
        rw [nx_s h2] at n2
        have hg2 := hb g (List.mem_of_getElem? h2)
        have hd2 := dr_s h2
        rw [hd2] at hd1
        have key : ∀ q r, ov q → q.1 = 2 → q.2.1 = o → q.1 :: o :: bs.drop a = obytes q ++ r → q.2.2.1 = s ∧ q.2.2.2.1 = g ∧ bs.drop (a + 1 + 1) = (if q.2.2.2.1 = 1 then vb 4 (zig q.2.2.2.2.1) else if q.2.2.2.1 = 2 then [q.2.2.2.2.1.toNatClampNeg] else []) ++ r := by
          intro q r _ hq1 _ hd
          rw [hd1, ob2 q hq1] at hd
          simp only [List.cons_append, List.cons.injEq] at hd
          exact ⟨hd.2.2.1.symm, hd.2.2.2.1.symm, hd.2.2.2.2⟩
        by_cases hg0 : g = 0
        · subst hg0
          obtain ⟨X', a1, a2⟩ := ad s 0 (a + 1 + 1) (nI 0)
          refine Or.inl ⟨(2, o, s, 0, nI 0, []), bs.drop (a + 1 + 1), X', ⟨ho, Or.inr (Or.inl ⟨rfl, show s ≤ 2 by omega, rfl, Or.inl ⟨rfl, rfl⟩⟩)⟩, rfl, rfl, ?_, ?_, a2⟩
          · rw [hd1]
            rfl
          · have hlen : (obytes (2, o, s, 0, nI 0, [])).length = 4 := rfl
            rw [hlen]
            simp (disch := omega) only [eReader_readSet_0, eReader_readSet_1, eReader_readSet_4, eReader_readSet_5, eReader_readSet_6, eReader_readSet_9, eReader_readSet_11, eReader_readSet_12, eReader_readSet_15, eReader_readSet_16, eReader_readSet_17, eReader_readSet_20, eReader_readSet_22, eReader_readSet_25, eReader_readSet_27, eReader_readSet_28, eReader_readSet_31, eReader_readSet_32a, eReader_readSet_32b, eReader_readSet_32c, eReader_readSet_33, eReader_readSet_35, eReader_readSet_38, eReader_readSet_39, eReader_readSet_42, eReader_readSet_44, eReader_readSet_45, eReader_readSet_48, eReader_readSet_49, eReader_readSet_52, eReader_readSet_55, eReader_readSet_56, eReader_readSet_59, eReader_readSet_61, eReader_readSet_63, eReader_readSet_66, eReader_readSet_67, eReader_readSet_70, eReader_readSet_71a, eReader_readSet_71b, eReader_readSet_71c, eReader_readSet_72, eReader_readSet_73, eReader_readSet_74, eReader_readSet_75, eReader_readSet_77, eReader_readSet_79, eReader_readSet_80, eReader_readSet_83, eReader_readSet_84a, eReader_readSet_84b, eReader_readSet_84c, g0, n1, n2, lg_eq, kN, k0, ed, a1, ai_ai_at, ai_aj_at, ai_aq_at, ai_si_at, ai_sj_at, ai_sq_at, ai_cy_at, ai_al_at, ai_na_0, ai_na_1, ai_na_2, ai_na_3, ai_rc_at, ai_th_v, ai_th_n, ai_th_z, ai_sw, ai_nl_i, ai_nl_r, ai_nl_l, ai_nl_n, nI_clamp, nI_add, pk_mul, pk_sub, az_e0, az_l0, az_g0, az_p0, az_q0, az_eq, az_lt, az_le, az_m1, az_m2, az_m3, az_m4, az_m5, az_m6, az_m7, az_m8, az_dec, az_bd, az_b0, az_bt, az_bf, dn_leT, dn_leF, dn_ltT, dn_ltF, dn_eqT, dn_eqF, ↓reduceIte, if_true, if_false, not_true_eq_false, not_false_eq_true, true_and, and_true, false_and, and_false, true_or, or_true, false_or, or_false, Nat.reduceAdd, Nat.reduceMul, Nat.reduceSub, Nat.reduceLT, Nat.reduceLeDiff, Nat.reduceEqDiff, Nat.add_zero, Nat.zero_add, ne_eq, reduceCtorEq, decide_true, decide_false, Bool.true_eq_false, Bool.false_eq_true, Classical.not_not]
        · by_cases hg1 : g = 1
          · subst hg1
            rcases s_rv (a := a + 1 + 1) (by omega) hRt hl hb hp (hT2 X (nI l.length)) with ⟨v, r, r1, r2⟩ | ⟨r1, x, r2⟩
            · obtain ⟨X', a1, a2⟩ := ad s 1 (a + 1 + 1 + (vb 4 (zig v)).length) v
              refine Or.inl ⟨(2, o, s, 1, v, []), r, X', ⟨ho, Or.inr (Or.inl ⟨rfl, show s ≤ 2 by omega, rfl, Or.inr (Or.inl rfl)⟩)⟩, rfl, rfl, ?_, ?_, a2⟩
              · rw [hd1, r1]
                rfl
              · have hlen : (obytes (2, o, s, 1, v, [])).length = 4 + (vb 4 (zig v)).length := by
                  rw [ob2 _ rfl]
                  simp only [if_true, List.length_cons]
                  omega
                rw [hlen, show a + (4 + (vb 4 (zig v)).length - 2) = a + 1 + 1 + (vb 4 (zig v)).length by omega]
                simp (disch := omega) only [eReader_readSet_0, eReader_readSet_1, eReader_readSet_4, eReader_readSet_5, eReader_readSet_6, eReader_readSet_9, eReader_readSet_11, eReader_readSet_12, eReader_readSet_15, eReader_readSet_16, eReader_readSet_17, eReader_readSet_20, eReader_readSet_22, eReader_readSet_25, eReader_readSet_27, eReader_readSet_28, eReader_readSet_31, eReader_readSet_32a, eReader_readSet_32b, eReader_readSet_32c, eReader_readSet_33, eReader_readSet_35, eReader_readSet_38, eReader_readSet_39, eReader_readSet_42, eReader_readSet_44, eReader_readSet_45, eReader_readSet_48, eReader_readSet_49, eReader_readSet_52, eReader_readSet_55, eReader_readSet_56, eReader_readSet_59, eReader_readSet_61, eReader_readSet_63, eReader_readSet_66, eReader_readSet_67, eReader_readSet_70, eReader_readSet_71a, eReader_readSet_71b, eReader_readSet_71c, eReader_readSet_72, eReader_readSet_73, eReader_readSet_74, eReader_readSet_75, eReader_readSet_77, eReader_readSet_79, eReader_readSet_80, eReader_readSet_83, eReader_readSet_84a, eReader_readSet_84b, eReader_readSet_84c, g0, n1, n2, r2, lg_eq, i64_none, i64_i, ed, a1, ai_ai_at, ai_aj_at, ai_aq_at, ai_si_at, ai_sj_at, ai_sq_at, ai_cy_at, ai_al_at, ai_na_0, ai_na_1, ai_na_2, ai_na_3, ai_rc_at, ai_th_v, ai_th_n, ai_th_z, ai_sw, ai_nl_i, ai_nl_r, ai_nl_l, ai_nl_n, nI_clamp, nI_add, pk_mul, pk_sub, az_e0, az_l0, az_g0, az_p0, az_q0, az_eq, az_lt, az_le, az_m1, az_m2, az_m3, az_m4, az_m5, az_m6, az_m7, az_m8, az_dec, az_bd, az_b0, az_bt, az_bf, dn_leT, dn_leF, dn_ltT, dn_ltF, dn_eqT, dn_eqF, ↓reduceIte, if_true, if_false, not_true_eq_false, not_false_eq_true, true_and, and_true, false_and, and_false, true_or, or_true, false_or, or_false, Nat.reduceAdd, Nat.reduceMul, Nat.reduceSub, Nat.reduceLT, Nat.reduceLeDiff, Nat.reduceEqDiff, Nat.add_zero, Nat.zero_add, ne_eq, reduceCtorEq, decide_true, decide_false, Bool.true_eq_false, Bool.false_eq_true, Classical.not_not]
            · refine Or.inr ⟨fun q r hq hq1 hq2 hd => ?_, X, nI l.length, x, ?_⟩
              · obtain ⟨_, c2, c3⟩ := key q r hq hq1 hq2 hd
                rw [if_pos c2] at c3
                exact r1 _ _ c3
              · simp (disch := omega) only [eReader_readSet_0, eReader_readSet_1, eReader_readSet_4, eReader_readSet_5, eReader_readSet_6, eReader_readSet_9, eReader_readSet_11, eReader_readSet_12, eReader_readSet_15, eReader_readSet_16, eReader_readSet_17, eReader_readSet_20, eReader_readSet_22, eReader_readSet_25, eReader_readSet_27, eReader_readSet_28, eReader_readSet_31, eReader_readSet_32a, eReader_readSet_32b, eReader_readSet_32c, eReader_readSet_33, eReader_readSet_35, eReader_readSet_38, eReader_readSet_39, eReader_readSet_42, eReader_readSet_44, eReader_readSet_45, eReader_readSet_48, eReader_readSet_49, eReader_readSet_52, eReader_readSet_55, eReader_readSet_56, eReader_readSet_59, eReader_readSet_61, eReader_readSet_63, eReader_readSet_66, eReader_readSet_67, eReader_readSet_70, eReader_readSet_71a, eReader_readSet_71b, eReader_readSet_71c, eReader_readSet_72, eReader_readSet_73, eReader_readSet_74, eReader_readSet_75, eReader_readSet_77, eReader_readSet_79, eReader_readSet_80, eReader_readSet_83, eReader_readSet_84a, eReader_readSet_84b, eReader_readSet_84c, g0, n1, n2, r2, lg_eq, ai_ai_at, ai_aj_at, ai_aq_at, ai_si_at, ai_sj_at, ai_sq_at, ai_cy_at, ai_al_at, ai_na_0, ai_na_1, ai_na_2, ai_na_3, ai_rc_at, ai_th_v, ai_th_n, ai_th_z, ai_sw, ai_nl_i, ai_nl_r, ai_nl_l, ai_nl_n, nI_clamp, nI_add, pk_mul, pk_sub, az_e0, az_l0, az_g0, az_p0, az_q0, az_eq, az_lt, az_le, az_m1, az_m2, az_m3, az_m4, az_m5, az_m6, az_m7, az_m8, az_dec, az_bd, az_b0, az_bt, az_bf, dn_leT, dn_leF, dn_ltT, dn_ltF, dn_eqT, dn_eqF, ↓reduceIte, if_true, if_false, not_true_eq_false, not_false_eq_true, true_and, and_true, false_and, and_false, true_or, or_true, false_or, or_false, Nat.reduceAdd, Nat.reduceMul, Nat.reduceSub, Nat.reduceLT, Nat.reduceLeDiff, Nat.reduceEqDiff, Nat.add_zero, Nat.zero_add, ne_eq, reduceCtorEq, decide_true, decide_false, Bool.true_eq_false, Bool.false_eq_true, Classical.not_not]
          · by_cases hg2' : g = 2
            · subst hg2'
              rcases s_rref (a := a + 1 + 1) (by omega) hRt hl hb hp (hT2 X (nI l.length)) with ⟨p, r, p1, r1, r2⟩ | ⟨r1, x, r2⟩
              · obtain ⟨X', a1, a2⟩ := ad s 2 (a + 1 + 1 + 1) (nI p)
                refine Or.inl ⟨(2, o, s, 2, nI p, []), r, X', ⟨ho, Or.inr (Or.inl ⟨rfl, show s ≤ 2 by omega, rfl, Or.inr (Or.inr ⟨rfl, p, p1, rfl⟩)⟩)⟩, rfl, rfl, ?_, ?_, a2⟩
                · rw [hd1, r1, ob2 _ rfl]
                  simp only [if_true]
                  rw [if_neg (by decide), nI_clamp (by omega)]
                  rfl
                · have hlen : (obytes (2, o, s, 2, nI p, [])).length = 5 := rfl
                  rw [hlen]
                  simp (disch := omega) only [eReader_readSet_0, eReader_readSet_1, eReader_readSet_4, eReader_readSet_5, eReader_readSet_6, eReader_readSet_9, eReader_readSet_11, eReader_readSet_12, eReader_readSet_15, eReader_readSet_16, eReader_readSet_17, eReader_readSet_20, eReader_readSet_22, eReader_readSet_25, eReader_readSet_27, eReader_readSet_28, eReader_readSet_31, eReader_readSet_32a, eReader_readSet_32b, eReader_readSet_32c, eReader_readSet_33, eReader_readSet_35, eReader_readSet_38, eReader_readSet_39, eReader_readSet_42, eReader_readSet_44, eReader_readSet_45, eReader_readSet_48, eReader_readSet_49, eReader_readSet_52, eReader_readSet_55, eReader_readSet_56, eReader_readSet_59, eReader_readSet_61, eReader_readSet_63, eReader_readSet_66, eReader_readSet_67, eReader_readSet_70, eReader_readSet_71a, eReader_readSet_71b, eReader_readSet_71c, eReader_readSet_72, eReader_readSet_73, eReader_readSet_74, eReader_readSet_75, eReader_readSet_77, eReader_readSet_79, eReader_readSet_80, eReader_readSet_83, eReader_readSet_84a, eReader_readSet_84b, eReader_readSet_84c, g0, n1, n2, r2, lg_eq, i64_none, i64_i, ed, a1, ai_ai_at, ai_aj_at, ai_aq_at, ai_si_at, ai_sj_at, ai_sq_at, ai_cy_at, ai_al_at, ai_na_0, ai_na_1, ai_na_2, ai_na_3, ai_rc_at, ai_th_v, ai_th_n, ai_th_z, ai_sw, ai_nl_i, ai_nl_r, ai_nl_l, ai_nl_n, nI_clamp, nI_add, pk_mul, pk_sub, az_e0, az_l0, az_g0, az_p0, az_q0, az_eq, az_lt, az_le, az_m1, az_m2, az_m3, az_m4, az_m5, az_m6, az_m7, az_m8, az_dec, az_bd, az_b0, az_bt, az_bf, dn_leT, dn_leF, dn_ltT, dn_ltF, dn_eqT, dn_eqF, ↓reduceIte, if_true, if_false, not_true_eq_false, not_false_eq_true, true_and, and_true, false_and, and_false, true_or, or_true, false_or, or_false, Nat.reduceAdd, Nat.reduceMul, Nat.reduceSub, Nat.reduceLT, Nat.reduceLeDiff, Nat.reduceEqDiff, Nat.add_zero, Nat.zero_add, ne_eq, reduceCtorEq, decide_true, decide_false, Bool.true_eq_false, Bool.false_eq_true, Classical.not_not]
              · refine Or.inr ⟨fun q r hq hq1 hq2 hd => ?_, X, nI l.length, x, ?_⟩
                · obtain ⟨_, c2, c3⟩ := key q r hq hq1 hq2 hd
                  rw [if_neg (by omega), if_pos c2] at c3
                  rcases hq.2 with ⟨z, _⟩ | ⟨_, _, _, z⟩ | ⟨z, _⟩
                  · omega
                  · rcases z with ⟨z, _⟩ | z | ⟨_, p, hp2, z⟩
                    · omega
                    · omega
                    · rw [z, nI_clamp (by omega)] at c3
                      exact r1 p _ hp2 c3
                  · omega
                · simp (disch := omega) only [eReader_readSet_0, eReader_readSet_1, eReader_readSet_4, eReader_readSet_5, eReader_readSet_6, eReader_readSet_9, eReader_readSet_11, eReader_readSet_12, eReader_readSet_15, eReader_readSet_16, eReader_readSet_17, eReader_readSet_20, eReader_readSet_22, eReader_readSet_25, eReader_readSet_27, eReader_readSet_28, eReader_readSet_31, eReader_readSet_32a, eReader_readSet_32b, eReader_readSet_32c, eReader_readSet_33, eReader_readSet_35, eReader_readSet_38, eReader_readSet_39, eReader_readSet_42, eReader_readSet_44, eReader_readSet_45, eReader_readSet_48, eReader_readSet_49, eReader_readSet_52, eReader_readSet_55, eReader_readSet_56, eReader_readSet_59, eReader_readSet_61, eReader_readSet_63, eReader_readSet_66, eReader_readSet_67, eReader_readSet_70, eReader_readSet_71a, eReader_readSet_71b, eReader_readSet_71c, eReader_readSet_72, eReader_readSet_73, eReader_readSet_74, eReader_readSet_75, eReader_readSet_77, eReader_readSet_79, eReader_readSet_80, eReader_readSet_83, eReader_readSet_84a, eReader_readSet_84b, eReader_readSet_84c, g0, n1, n2, r2, lg_eq, ai_ai_at, ai_aj_at, ai_aq_at, ai_si_at, ai_sj_at, ai_sq_at, ai_cy_at, ai_al_at, ai_na_0, ai_na_1, ai_na_2, ai_na_3, ai_rc_at, ai_th_v, ai_th_n, ai_th_z, ai_sw, ai_nl_i, ai_nl_r, ai_nl_l, ai_nl_n, nI_clamp, nI_add, pk_mul, pk_sub, az_e0, az_l0, az_g0, az_p0, az_q0, az_eq, az_lt, az_le, az_m1, az_m2, az_m3, az_m4, az_m5, az_m6, az_m7, az_m8, az_dec, az_bd, az_b0, az_bt, az_bf, dn_leT, dn_leF, dn_ltT, dn_ltF, dn_eqT, dn_eqF, ↓reduceIte, if_true, if_false, not_true_eq_false, not_false_eq_true, true_and, and_true, false_and, and_false, true_or, or_true, false_or, or_false, Nat.reduceAdd, Nat.reduceMul, Nat.reduceSub, Nat.reduceLT, Nat.reduceLeDiff, Nat.reduceEqDiff, Nat.add_zero, Nat.zero_add, ne_eq, reduceCtorEq, decide_true, decide_false, Bool.true_eq_false, Bool.false_eq_true, Classical.not_not]
            · refine Or.inr ⟨fun q r hq hq1 hq2 hd => ?_, X, nI l.length, nI (a + 1 + 1), ?_⟩
              · obtain ⟨_, c2, _⟩ := key q r hq hq1 hq2 hd
                have := ovb q hq hq1
                omega
              · simp (disch := omega) only [eReader_readSet_0, eReader_readSet_1, eReader_readSet_4, eReader_readSet_5, eReader_readSet_6, eReader_readSet_9, eReader_readSet_11, eReader_readSet_12, eReader_readSet_15, eReader_readSet_16, eReader_readSet_17, eReader_readSet_20, eReader_readSet_22, eReader_readSet_25, eReader_readSet_27, eReader_readSet_28, eReader_readSet_31, eReader_readSet_32a, eReader_readSet_32b, eReader_readSet_32c, eReader_readSet_33, eReader_readSet_35, eReader_readSet_38, eReader_readSet_39, eReader_readSet_42, eReader_readSet_44, eReader_readSet_45, eReader_readSet_48, eReader_readSet_49, eReader_readSet_52, eReader_readSet_55, eReader_readSet_56, eReader_readSet_59, eReader_readSet_61, eReader_readSet_63, eReader_readSet_66, eReader_readSet_67, eReader_readSet_70, eReader_readSet_71a, eReader_readSet_71b, eReader_readSet_71c, eReader_readSet_72, eReader_readSet_73, eReader_readSet_74, eReader_readSet_75, eReader_readSet_77, eReader_readSet_79, eReader_readSet_80, eReader_readSet_83, eReader_readSet_84a, eReader_readSet_84b, eReader_readSet_84c, g0, n1, n2, ai_ai_at, ai_aj_at, ai_aq_at, ai_si_at, ai_sj_at, ai_sq_at, ai_cy_at, ai_al_at, ai_na_0, ai_na_1, ai_na_2, ai_na_3, ai_rc_at, ai_th_v, ai_th_n, ai_th_z, ai_sw, ai_nl_i, ai_nl_r, ai_nl_l, ai_nl_n, nI_clamp, nI_add, pk_mul, pk_sub, az_e0, az_l0, az_g0, az_p0, az_q0, az_eq, az_lt, az_le, az_m1, az_m2, az_m3, az_m4, az_m5, az_m6, az_m7, az_m8, az_dec, az_bd, az_b0, az_bt, az_bf, dn_leT, dn_leF, dn_ltT, dn_ltF, dn_eqT, dn_eqF, ↓reduceIte, if_true, if_false, not_true_eq_false, not_false_eq_true, true_and, and_true, false_and, and_false, true_or, or_true, false_or, or_false, Nat.reduceAdd, Nat.reduceMul, Nat.reduceSub, Nat.reduceLT, Nat.reduceLeDiff, Nat.reduceEqDiff, Nat.add_zero, Nat.zero_add, ne_eq, reduceCtorEq, decide_true, decide_false, Bool.true_eq_false, Bool.false_eq_true, Classical.not_not]
    · refine Or.inr ⟨fun q r hq hq1 hq2 hd => ?_, X, nI l.length, nI (a + 1 + 1), ?_⟩
      · rw [hd1, ob2 q hq1] at hd
        simp only [List.cons_append, List.cons.injEq] at hd
        have := ovb q hq hq1
        omega
      · generalize nx bs (a + 1) = y at n2
        simp (disch := omega) only [eReader_readSet_0, eReader_readSet_1, eReader_readSet_4, eReader_readSet_5, eReader_readSet_6, eReader_readSet_9, eReader_readSet_11, eReader_readSet_12, eReader_readSet_15, eReader_readSet_16, eReader_readSet_17, eReader_readSet_20, eReader_readSet_22, eReader_readSet_25, eReader_readSet_27, eReader_readSet_28, eReader_readSet_31, eReader_readSet_32a, eReader_readSet_32b, eReader_readSet_32c, eReader_readSet_33, eReader_readSet_35, eReader_readSet_38, eReader_readSet_39, eReader_readSet_42, eReader_readSet_44, eReader_readSet_45, eReader_readSet_48, eReader_readSet_49, eReader_readSet_52, eReader_readSet_55, eReader_readSet_56, eReader_readSet_59, eReader_readSet_61, eReader_readSet_63, eReader_readSet_66, eReader_readSet_67, eReader_readSet_70, eReader_readSet_71a, eReader_readSet_71b, eReader_readSet_71c, eReader_readSet_72, eReader_readSet_73, eReader_readSet_74, eReader_readSet_75, eReader_readSet_77, eReader_readSet_79, eReader_readSet_80, eReader_readSet_83, eReader_readSet_84a, eReader_readSet_84b, eReader_readSet_84c, g0, n1, n2, ai_ai_at, ai_aj_at, ai_aq_at, ai_si_at, ai_sj_at, ai_sq_at, ai_cy_at, ai_al_at, ai_na_0, ai_na_1, ai_na_2, ai_na_3, ai_rc_at, ai_th_v, ai_th_n, ai_th_z, ai_sw, ai_nl_i, ai_nl_r, ai_nl_l, ai_nl_n, nI_clamp, nI_add, pk_mul, pk_sub, az_e0, az_l0, az_g0, az_p0, az_q0, az_eq, az_lt, az_le, az_m1, az_m2, az_m3, az_m4, az_m5, az_m6, az_m7, az_m8, az_dec, az_bd, az_b0, az_bt, az_bf, dn_leT, dn_leF, dn_ltT, dn_ltF, dn_eqT, dn_eqF, ↓reduceIte, if_true, if_false, not_true_eq_false, not_false_eq_true, true_and, and_true, false_and, and_false, true_or, or_true, false_or, or_false, Nat.reduceAdd, Nat.reduceMul, Nat.reduceSub, Nat.reduceLT, Nat.reduceLeDiff, Nat.reduceEqDiff, Nat.add_zero, Nat.zero_add, ne_eq, reduceCtorEq, decide_true, decide_false, Bool.true_eq_false, Bool.false_eq_true, Classical.not_not]
theorem s_rspL {o' p' t' i0 : Nat} {x1 x3 x4 : Option Value} {y6 : Int32} (hRt : R < t ∨ t + 1 < R) (hRd : R < d ∨ d + 1 < R) (hdt : d + 1 < t ∨ t + 1 < d) (hl : bs.length ≤ 1200) (hb : ∀ b, b ∈ bs → b < 256) (hp : pre T bs) (hT : tw w t T (nI bs.length) = w) (hn : l.length < 127) : ∀ (n i a : Nat) (X : Nat → Int32) (s : List Int32) (x8 : Option Value), i + n ≤ 6 → a + 5 * n < 2 ^ 27 → s.length ≤ 6 → reps X (l ++ [(3, o', p', t', nI s.length, s)]) → (∃ vs r X', vs.length = n ∧ bs.drop a = vbs vs ++ r ∧ ai_ev none 115 82 [some (.ref R), x1, some (.ref d), x3, x4, some (.int (nI (i + n))), some (.int y6), some (.int (nI i)), x8, none] [] (zw (dw w d X (nI (l.length + 1))) R t (nI a)) = some (some (.int (nI 1)), zw (dw w d X' (nI (l.length + 1))) R t (nI (a + (vbs vs).length))) ∧ reps X' (l ++ [(3, o', p', t', nI (cap s vs).length, cap s vs)])) ∨ ((∀ vs r, vs.length = n → ¬ bs.drop a = vbs vs ++ r) ∧ ∃ X' n' y, ai_ev none 115 82 [some (.ref R), x1, some (.ref d), x3, x4, some (.int (nI (i + n))), some (.int y6), some (.int (nI i)), x8, none] [] (zw (dw w d X (nI (l.length + 1))) R t (nI a)) = some (some (.int (nI 0)), zw (dw w d X' n') R t y)) := by
  have hT2 : ∀ (X' : Nat → Int32) (n' : Int32), tw (dw w d X' n') t T (nI bs.length) = dw w d X' n' := fun X' n' => tw_fr hT (fun k _ _ => dw_go (by omega))
  have g0 : ∀ (V : ai_W) (x : Int32), (zw V R t x).2.2 R = .inr (6, [.ref t, .int x]) := fun V x => zw_g0
  intro n
  induction n with
  | zero =>
    intro i a X s x8 hi ha hs hr
    refine Or.inl ⟨[], bs.drop a, X, rfl, rfl, ?_, hr⟩
    have z1 : (vbs []).length = 0 := rfl
    rw [z1]
    refine eReader_readSplice_82.trans ?_
    simp (disch := omega) only [eReader_readSplice_0, eReader_readSplice_1, eReader_readSplice_4, eReader_readSplice_5, eReader_readSplice_6, eReader_readSplice_9, eReader_readSplice_11, eReader_readSplice_12, eReader_readSplice_15, eReader_readSplice_17, eReader_readSplice_18, eReader_readSplice_21, eReader_readSplice_23, eReader_readSplice_26, eReader_readSplice_27, eReader_readSplice_29, eReader_readSplice_30, eReader_readSplice_32, eReader_readSplice_35, eReader_readSplice_37, eReader_readSplice_40, eReader_readSplice_42, eReader_readSplice_44, eReader_readSplice_47, eReader_readSplice_48, eReader_readSplice_51, eReader_readSplice_52, eReader_readSplice_54, eReader_readSplice_56, eReader_readSplice_59, eReader_readSplice_61, eReader_readSplice_64, eReader_readSplice_66, eReader_readSplice_69, eReader_readSplice_70a, eReader_readSplice_70b, eReader_readSplice_70c, eReader_readSplice_71, eReader_readSplice_72, eReader_readSplice_73, eReader_readSplice_74, eReader_readSplice_76, eReader_readSplice_79, eReader_readSplice_80, eReader_readSplice_84, eReader_readSplice_86, eReader_readSplice_89, eReader_readSplice_90, eReader_readSplice_93, eReader_readSplice_95, eReader_readSplice_97, eReader_readSplice_100, eReader_readSplice_101, eReader_readSplice_104, eReader_readSplice_105a, eReader_readSplice_105b, eReader_readSplice_105c, eReader_readSplice_106, eReader_readSplice_107, eReader_readSplice_109, eReader_readSplice_110, eReader_readSplice_113, eReader_readSplice_116, eReader_readSplice_119, eReader_readSplice_120a, eReader_readSplice_120b, eReader_readSplice_120c, ai_ai_at, ai_aj_at, ai_aq_at, ai_si_at, ai_sj_at, ai_sq_at, ai_cy_at, ai_al_at, ai_na_0, ai_na_1, ai_na_2, ai_na_3, ai_rc_at, ai_th_v, ai_th_n, ai_th_z, ai_sw, ai_nl_i, ai_nl_r, ai_nl_l, ai_nl_n, nI_clamp, nI_add, pk_mul, pk_sub, az_e0, az_l0, az_g0, az_p0, az_q0, az_eq, az_lt, az_le, az_m1, az_m2, az_m3, az_m4, az_m5, az_m6, az_m7, az_m8, az_dec, az_bd, az_b0, az_bt, az_bf, dn_leT, dn_leF, dn_ltT, dn_ltF, dn_eqT, dn_eqF, ↓reduceIte, if_true, if_false, not_true_eq_false, not_false_eq_true, true_and, and_true, false_and, and_false, true_or, or_true, false_or, or_false, Nat.reduceAdd, Nat.reduceMul, Nat.reduceSub, Nat.reduceLT, Nat.reduceLeDiff, Nat.reduceEqDiff, Nat.add_zero, Nat.zero_add, ne_eq, reduceCtorEq, decide_true, decide_false, Bool.true_eq_false, Bool.false_eq_true, Classical.not_not]
  | succ n ih =>
    intro i a X s x8 hi ha hs hr
    have ed : ∀ x : Int32, (zw (dw w d X (nI (l.length + 1))) R t x).2.2 d = .inr (1, [.ref (d + 1), .int (nI (l.length + 1))]) := fun x => (zw_go (by omega)).trans dw_g0
    rcases s_rv (a := a) (by omega) hRt hl hb hp (hT2 X (nI (l.length + 1))) with ⟨v, r, r1, r2⟩ | ⟨r1, x, r2⟩
    · have hvl := vb_len 4 (zig v)
      obtain ⟨X1, a1, a2⟩ := s_addIG (w := zw (dw w d X (nI (l.length + 1))) R t (nI (a + (vb 4 (zig v)).length))) (x := v) hn hs hr (dw_fr dw_w (fun k _ _ => zw_go (by omega)))
      rw [zw_d (by omega) (by omega), dw_w] at a1
      have e0 : ai_ev none 115 82 [some (.ref R), x1, some (.ref d), x3, x4, some (.int (nI (i + (n + 1)))), some (.int y6), some (.int (nI i)), x8, none] [] (zw (dw w d X (nI (l.length + 1))) R t (nI a)) = ai_ev none 115 82 [some (.ref R), x1, some (.ref d), x3, x4, some (.int (nI (i + 1 + n))), some (.int y6), some (.int (nI (i + 1))), some (.long v.toInt64), none] [] (zw (dw w d X1 (nI (l.length + 1))) R t (nI (a + (vb 4 (zig v)).length))) := by
        rw [show i + (n + 1) = i + 1 + n by omega]
        refine eReader_readSplice_82.trans ?_
        simp (disch := omega) only [eReader_readSplice_0, eReader_readSplice_1, eReader_readSplice_4, eReader_readSplice_5, eReader_readSplice_6, eReader_readSplice_9, eReader_readSplice_11, eReader_readSplice_12, eReader_readSplice_15, eReader_readSplice_17, eReader_readSplice_18, eReader_readSplice_21, eReader_readSplice_23, eReader_readSplice_26, eReader_readSplice_27, eReader_readSplice_29, eReader_readSplice_30, eReader_readSplice_32, eReader_readSplice_35, eReader_readSplice_37, eReader_readSplice_40, eReader_readSplice_42, eReader_readSplice_44, eReader_readSplice_47, eReader_readSplice_48, eReader_readSplice_51, eReader_readSplice_52, eReader_readSplice_54, eReader_readSplice_56, eReader_readSplice_59, eReader_readSplice_61, eReader_readSplice_64, eReader_readSplice_66, eReader_readSplice_69, eReader_readSplice_70a, eReader_readSplice_70b, eReader_readSplice_70c, eReader_readSplice_71, eReader_readSplice_72, eReader_readSplice_73, eReader_readSplice_74, eReader_readSplice_76, eReader_readSplice_79, eReader_readSplice_80, eReader_readSplice_84, eReader_readSplice_86, eReader_readSplice_89, eReader_readSplice_90, eReader_readSplice_93, eReader_readSplice_95, eReader_readSplice_97, eReader_readSplice_100, eReader_readSplice_101, eReader_readSplice_104, eReader_readSplice_105a, eReader_readSplice_105b, eReader_readSplice_105c, eReader_readSplice_106, eReader_readSplice_107, eReader_readSplice_109, eReader_readSplice_110, eReader_readSplice_113, eReader_readSplice_116, eReader_readSplice_119, eReader_readSplice_120a, eReader_readSplice_120b, eReader_readSplice_120c, g0, r2, lg_eq, i64_none, i64_i, ed, a1, ai_ai_at, ai_aj_at, ai_aq_at, ai_si_at, ai_sj_at, ai_sq_at, ai_cy_at, ai_al_at, ai_na_0, ai_na_1, ai_na_2, ai_na_3, ai_rc_at, ai_th_v, ai_th_n, ai_th_z, ai_sw, ai_nl_i, ai_nl_r, ai_nl_l, ai_nl_n, nI_clamp, nI_add, pk_mul, pk_sub, az_e0, az_l0, az_g0, az_p0, az_q0, az_eq, az_lt, az_le, az_m1, az_m2, az_m3, az_m4, az_m5, az_m6, az_m7, az_m8, az_dec, az_bd, az_b0, az_bt, az_bf, dn_leT, dn_leF, dn_ltT, dn_ltF, dn_eqT, dn_eqF, ↓reduceIte, if_true, if_false, not_true_eq_false, not_false_eq_true, true_and, and_true, false_and, and_false, true_or, or_true, false_or, or_false, Nat.reduceAdd, Nat.reduceMul, Nat.reduceSub, Nat.reduceLT, Nat.reduceLeDiff, Nat.reduceEqDiff, Nat.add_zero, Nat.zero_add, ne_eq, reduceCtorEq, decide_true, decide_false, Bool.true_eq_false, Bool.false_eq_true, Classical.not_not]
      rw [e0]
      have hdrop : bs.drop (a + (vb 4 (zig v)).length) = r := by
        rw [← List.drop_drop, r1, List.drop_left]
      rcases ih (i + 1) (a + (vb 4 (zig v)).length) X1 (cap1 s v) (some (.long v.toInt64)) (by omega) (by omega) (cap1_b hs).1 a2 with ⟨vs, r', X', b1, b2, b3, b4⟩ | ⟨b1, b2⟩
      · rw [hdrop] at b2
        have hvv : vbs (v :: vs) = vb 4 (zig v) ++ vbs vs := rfl
        refine Or.inl ⟨v :: vs, r', X', by rw [List.length_cons, b1], by rw [r1, b2, hvv, List.append_assoc], ?_, b4⟩
        rw [b3, hvv, List.length_append, Nat.add_assoc]
      · refine Or.inr ⟨fun vs r' hv hd => ?_, b2⟩
        cases vs with
        | nil => simp at hv
        | cons x vs =>
          have hvv : vbs (x :: vs) = vb 4 (zig x) ++ vbs vs := rfl
          rw [r1, hvv, List.append_assoc] at hd
          obtain ⟨rfl, h2⟩ := zvb_pf hd
          rw [hdrop] at b1
          exact b1 vs r' (by simpa using hv) h2
    · refine Or.inr ⟨fun vs r' hv hd => ?_, X, nI (l.length + 1), x, ?_⟩
      · cases vs with
        | nil => simp at hv
        | cons y vs =>
          have hvv : vbs (y :: vs) = vb 4 (zig y) ++ vbs vs := rfl
          rw [hvv, List.append_assoc] at hd
          exact r1 _ _ hd
      · refine eReader_readSplice_82.trans ?_
        simp (disch := omega) only [eReader_readSplice_0, eReader_readSplice_1, eReader_readSplice_4, eReader_readSplice_5, eReader_readSplice_6, eReader_readSplice_9, eReader_readSplice_11, eReader_readSplice_12, eReader_readSplice_15, eReader_readSplice_17, eReader_readSplice_18, eReader_readSplice_21, eReader_readSplice_23, eReader_readSplice_26, eReader_readSplice_27, eReader_readSplice_29, eReader_readSplice_30, eReader_readSplice_32, eReader_readSplice_35, eReader_readSplice_37, eReader_readSplice_40, eReader_readSplice_42, eReader_readSplice_44, eReader_readSplice_47, eReader_readSplice_48, eReader_readSplice_51, eReader_readSplice_52, eReader_readSplice_54, eReader_readSplice_56, eReader_readSplice_59, eReader_readSplice_61, eReader_readSplice_64, eReader_readSplice_66, eReader_readSplice_69, eReader_readSplice_70a, eReader_readSplice_70b, eReader_readSplice_70c, eReader_readSplice_71, eReader_readSplice_72, eReader_readSplice_73, eReader_readSplice_74, eReader_readSplice_76, eReader_readSplice_79, eReader_readSplice_80, eReader_readSplice_84, eReader_readSplice_86, eReader_readSplice_89, eReader_readSplice_90, eReader_readSplice_93, eReader_readSplice_95, eReader_readSplice_97, eReader_readSplice_100, eReader_readSplice_101, eReader_readSplice_104, eReader_readSplice_105a, eReader_readSplice_105b, eReader_readSplice_105c, eReader_readSplice_106, eReader_readSplice_107, eReader_readSplice_109, eReader_readSplice_110, eReader_readSplice_113, eReader_readSplice_116, eReader_readSplice_119, eReader_readSplice_120a, eReader_readSplice_120b, eReader_readSplice_120c, g0, r2, lg_eq, ai_ai_at, ai_aj_at, ai_aq_at, ai_si_at, ai_sj_at, ai_sq_at, ai_cy_at, ai_al_at, ai_na_0, ai_na_1, ai_na_2, ai_na_3, ai_rc_at, ai_th_v, ai_th_n, ai_th_z, ai_sw, ai_nl_i, ai_nl_r, ai_nl_l, ai_nl_n, nI_clamp, nI_add, pk_mul, pk_sub, az_e0, az_l0, az_g0, az_p0, az_q0, az_eq, az_lt, az_le, az_m1, az_m2, az_m3, az_m4, az_m5, az_m6, az_m7, az_m8, az_dec, az_bd, az_b0, az_bt, az_bf, dn_leT, dn_leF, dn_ltT, dn_ltF, dn_eqT, dn_eqF, ↓reduceIte, if_true, if_false, not_true_eq_false, not_false_eq_true, true_and, and_true, false_and, and_false, true_or, or_true, false_or, or_false, Nat.reduceAdd, Nat.reduceMul, Nat.reduceSub, Nat.reduceLT, Nat.reduceLeDiff, Nat.reduceEqDiff, Nat.add_zero, Nat.zero_add, ne_eq, reduceCtorEq, decide_true, decide_false, Bool.true_eq_false, Bool.false_eq_true, Classical.not_not]
end RO
