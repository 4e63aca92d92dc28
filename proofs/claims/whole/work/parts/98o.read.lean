def wf0 (l : List op) : Prop := l.length ≤ 127 ∧ (∀ q, q ∈ l → ov q) ∧ l.Pairwise ofol ∧ (∀ p q, p ∈ l → q ∈ l → p.1 = 1 → ¬ q.1 = 1 → p.2.1 = q.2.1 → p.2.2.1 = (if q.1 = 2 then 0 else 1))
theorem wf0_owf {l : List op} (h : wf0 l) (hb : (ef l).length ≤ 1200) : owf l := by
  obtain ⟨h1, h2, h3, h4⟩ := h
  have e1 := eb_len l h2
  have e2 : (ef l).length = (eb l).length + 2 := by simp [ef]
  exact ⟨h1, h2, pw_adj h3, h4, by omega⟩
theorem owf_wf0 {l : List op} (h : owf l) : wf0 l := ⟨h.1, h.2.1, owf_pw h, h.2.2.2.1⟩
theorem cki_u {l : List op} (hpw : l.Pairwise ofol) {p : op} (hp : p ∈ l) (h1 : p.1 = 1) : cki l p.2.1 = nI p.2.2.1 := by
  induction l with
  | nil => exact absurd hp List.not_mem_nil
  | cons a l ih =>
    obtain ⟨h2, h3⟩ := List.pairwise_cons.mp hpw
    rcases List.mem_cons.mp hp with rfl | hp
    · exact if_pos ⟨h1, rfl⟩
    · have hf := ofol_1 h1 (h2 p hp)
      have e : cki (a :: l) p.2.1 = cki l p.2.1 := if_neg (fun z => by omega)
      rw [e]
      exact ih h3 hp
theorem wf0_snoc {l : List op} {p q : op} (h : wf0 (l ++ [p])) (hq : ov q) (hl : (l ++ [p]).length < 127) (ho : ordP p q (l ++ [p] ++ [q])) : wf0 (l ++ [p] ++ [q]) := by
  obtain ⟨h1, h2, h3, h4⟩ := h
  have hpw : (l ++ [p] ++ [q]).Pairwise ofol := by
    refine pw_snoc h3 (fun r hr => ?_)
    rcases List.mem_append.mp hr with hr | hr
    · have := (List.pairwise_append.mp h3).2.2 r hr p (by simp)
      exact ofol_tr this ho.1
    · rw [List.mem_singleton.mp hr]
      exact ho.1
  refine ⟨by rw [List.length_append, List.length_singleton]; omega, fun r hr => ?_, hpw, fun r s hr hs r1 s1 rs => ?_⟩
  · rcases mem_snoc hr with hr | hr
    · exact h2 r hr
    · rw [hr]; exact hq
  · rcases mem_snoc hr with hr' | hr'
    · rcases mem_snoc hs with hs' | hs'
      · exact h4 r s hr' hs' r1 s1 rs
      · subst hs'
        have hc := cki_u hpw hr r1
        have hw := ho.2 s1
        rw [← rs, hc] at hw
        have hk : r.2.2.1 ≤ 1 := by
          rcases (h2 r hr').2 with ⟨_, _, z, _⟩ | ⟨z, _⟩ | ⟨z, _⟩
          · exact z
          · omega
          · omega
        unfold wkd at hw
        by_cases h2' : s.1 = 2
        · rw [if_pos h2'] at hw ⊢
          have : ¬ r.2.2.1 = 1 := fun z => hw (by rw [z])
          omega
        · rw [if_neg h2'] at hw ⊢
          have : ¬ r.2.2.1 = 0 := fun z => hw (by rw [z])
          omega
    · subst hr'
      rcases mem_snoc hs with hs' | hs'
      · have := (List.pairwise_append.mp hpw).2.2 s hs' r (by simp)
        exact absurd (ofol_1 r1 this).1 s1
      · rw [hs'] at s1
        exact absurd r1 s1
theorem wf0_one {q : op} (hq : ov q) : wf0 [q] := by
  refine ⟨by simp, fun r hr => ?_, List.pairwise_singleton _ _, fun r s hr hs r1 s1 _ => ?_⟩
  · rw [List.mem_singleton.mp hr]; exact hq
  · rw [List.mem_singleton.mp hr] at r1
    rw [List.mem_singleton.mp hs] at s1
    exact absurd r1 s1
theorem wf0_ord {l l2 : List op} {p q : op} (h : wf0 (l ++ [p] ++ q :: l2)) : ordP p q (l ++ [p] ++ [q]) := by
  obtain ⟨h1, h2, h3, h4⟩ := h
  have hsub : ∀ r, r ∈ l ++ [p] ++ [q] → r ∈ l ++ [p] ++ q :: l2 := fun r hr => by
    rcases mem_snoc hr with hr | hr
    · exact List.mem_append.mpr (Or.inl hr)
    · rw [hr]; simp
  refine ⟨(List.pairwise_append.mp h3).2.2 p (by simp) q (by simp), fun hq1 hz => ?_⟩
  unfold wkd at hz
  rcases cki_spec (o := q.2.1) (l ++ [p] ++ [q]) with ⟨c, c1, c2, c3, c4⟩ | ⟨c1, _⟩
  · have := h4 c q (hsub c c1) (by simp) c2 hq1 c3
    rw [c4, this] at hz
    by_cases h2' : q.1 = 2
    · rw [if_pos h2', if_pos h2'] at hz
      exact absurd hz (by decide +kernel)
    · rw [if_neg h2', if_neg h2'] at hz
      exact absurd hz (by decide +kernel)
  · rw [c1] at hz
    by_cases h2' : q.1 = 2
    · rw [if_pos h2'] at hz
      exact absurd hz (by decide +kernel)
    · rw [if_neg h2'] at hz
      exact absurd hz (by decide +kernel)
theorem rk_ge {l : List op} (hov : ∀ q, q ∈ l → ov q) (hpw : l.Pairwise ofol) : ∀ (i : Nat) (q : op), l[i]? = some q → i + 1 ≤ rk q
  | 0, q, h => (rk_b (hov q (List.mem_of_getElem? h))).1
  | i + 1, q, h => by
    have hi := (List.getElem?_eq_some_iff.mp h).1
    have hx : l[i]? = some (l[i]'(by omega)) := List.getElem?_eq_getElem (by omega)
    have := rk_ge hov hpw i _ hx
    have := rk_inc hov hpw (Nat.lt_succ_self i) hx h
    omega
theorem wf0_last {l : List op} (h : wf0 l) (hl : l.length = 127) : ∃ l0 P, l = l0 ++ [P] ∧ P.1 = 3 := by
  have hx : l[126]? = some (l[126]'(by omega)) := List.getElem?_eq_getElem (by omega)
  have hr := rk_ge h.2.1 h.2.2.1 126 _ hx
  have hv := ov_c (h.2.1 _ (List.mem_of_getElem? hx))
  refine ⟨l.take 126, l[126]'(by omega), ?_, ?_⟩
  · have e : l.take (126 + 1) = l.take 126 ++ [l[126]'(by omega)] := by
      rw [List.take_succ, hx]
      rfl
    rw [← e, List.take_of_length_le (by omega)]
  · generalize l[126]'(by omega) = q at hr hv
    by_cases h1 : q.1 = 1
    · rw [rk_1 h1] at hr
      omega
    · rw [rk_n h1] at hr
      omega
section RD
variable {w : ai_W} {R t d : Nat} {T : Nat → Int32} {bs : List Nat}
theorem s_ends {W : ai_W} {a : Nat} (ha : a ≤ bs.length) (hR : R < t ∨ t + 1 < R) (hl : bs.length ≤ 1200) (hb : ∀ b, b ∈ bs → b < 256) (hp : pre T bs) (hT : tw W t T (nI bs.length) = W) : ai_ev none 108 0 [some (.ref R), none] [] (zw W R t (nI a)) = some (some (.int (ai_bI (cD (bs[a]? = some (sm (bs.take a)) ∧ a + 1 = bs.length)))), zw W R t (nI (a + 1))) := by
  have hT2 : ∀ x : Int32, tw (zw W R t x) t T (nI bs.length) = zw W R t x := fun x => tw_fr hT (fun k _ _ => zw_go (by omega))
  have et : ∀ x : Int32, (zw W R t x).2.2 t = .inr (3, [.ref (t + 1), .int (nI bs.length)]) := fun x => tw_at (hT2 x)
  have g0 : ∀ x : Int32, (zw W R t x).2.2 R = .inr (6, [.ref t, .int x]) := fun x => zw_g0
  have nxt := s_next (a := a) (by omega) hR hl hp hT
  have su := s_sum a hb hl ha hp (hT2 (nI a))
  have hs := sm_lt (bs.take a)
  cases h : bs[a]? with
  | none =>
    rw [nx_n h] at nxt
    rw [cD_f (fun z => by cases z.1)]
    simp (disch := omega) only [eReader_endsRightly_0, eReader_endsRightly_1, eReader_endsRightly_4, eReader_endsRightly_5, eReader_endsRightly_8, eReader_endsRightly_11, eReader_endsRightly_12, eReader_endsRightly_13, eReader_endsRightly_16, eReader_endsRightly_17, eReader_endsRightly_20, eReader_endsRightly_21, eReader_endsRightly_24, eReader_endsRightly_25, eReader_endsRightly_28, eReader_endsRightly_31, eReader_endsRightly_34, eReader_endsRightly_35, eReader_endsRightly_38, eReader_endsRightly_39a, eReader_endsRightly_39b, eReader_endsRightly_39c, eDraft_size_0, eDraft_size_1, eDraft_size_4, g0, et, su, nxt, ai_ai_at, ai_aj_at, ai_aq_at, ai_si_at, ai_sj_at, ai_sq_at, ai_cy_at, ai_al_at, ai_na_0, ai_na_1, ai_na_2, ai_na_3, ai_rc_at, ai_th_v, ai_th_n, ai_th_z, ai_sw, ai_nl_i, ai_nl_r, ai_nl_l, ai_nl_n, nI_clamp, nI_add, pk_mul, pk_sub, az_e0, az_l0, az_g0, az_p0, az_q0, az_eq, az_lt, az_le, az_m1, az_m2, az_m3, az_m4, az_m5, az_m6, az_m7, az_m8, az_dec, az_bd, az_b0, az_bt, az_bf, dn_leT, dn_leF, dn_ltT, dn_ltF, dn_eqT, dn_eqF, ↓reduceIte, if_true, if_false, not_true_eq_false, not_false_eq_true, true_and, and_true, false_and, and_false, true_or, or_true, false_or, or_false, Nat.reduceAdd, Nat.reduceMul, Nat.reduceSub, Nat.reduceLT, Nat.reduceLeDiff, Nat.reduceEqDiff, Nat.add_zero, Nat.zero_add, ne_eq, reduceCtorEq, decide_true, decide_false, Bool.true_eq_false, Bool.false_eq_true, Classical.not_not, gf_0_0, pf_0_0, gf_0_1, pf_0_1, gf_0_2, pf_0_2, gf_0_3, pf_0_3, gf_0_4, pf_0_4, gf_0_5, pf_0_5, gf_0_6, pf_0_6, gf_0_7, pf_0_7, gf_0_8, pf_0_8, gf_0_9, pf_0_9, gf_1_0, pf_1_0, gf_1_1, pf_1_1, gf_2_0, pf_2_0, gf_2_1, pf_2_1, gf_2_2, pf_2_2, gf_2_3, pf_2_3, gf_2_4, pf_2_4, gf_3_0, pf_3_0, gf_3_1, pf_3_1, gf_4_0, pf_4_0, gf_4_1, pf_4_1, gf_4_2, pf_4_2, gf_4_3, pf_4_3, gf_5_0, pf_5_0, gf_5_1, pf_5_1, gf_5_2, pf_5_2, gf_5_3, pf_5_3, gf_6_0, pf_6_0, gf_6_1, pf_6_1, gf_7_0, pf_7_0, gf_7_1, pf_7_1, gf_7_2, pf_7_2, gf_7_3, pf_7_3, gf_7_4, pf_7_4, gf_7_5, pf_7_5, gf_7_6, pf_7_6, gf_7_7, pf_7_7, gf_7_8, pf_7_8, gf_7_9, pf_7_9, gf_7_10, pf_7_10, gf_7_11, pf_7_11, gf_7_12, pf_7_12, gf_7_13, pf_7_13, gf_7_14, pf_7_14, gf_7_15, pf_7_15, gf_7_16, pf_7_16, gf_7_17, pf_7_17, gf_7_18, pf_7_18, gf_7_19, pf_7_19, gf_7_20, pf_7_20, gf_7_21, pf_7_21, gf_7_22, pf_7_22, gf_7_23, pf_7_23a, pf_7_23b]
  | some b =>
    rw [nx_s h] at nxt
    have hb2 := hb b (List.mem_of_getElem? h)
    by_cases h1 : b = sm (bs.take a)
    · by_cases h2 : a + 1 = bs.length
      · rw [cD_t ⟨by rw [h1], h2⟩]
        simp (disch := omega) only [eReader_endsRightly_0, eReader_endsRightly_1, eReader_endsRightly_4, eReader_endsRightly_5, eReader_endsRightly_8, eReader_endsRightly_11, eReader_endsRightly_12, eReader_endsRightly_13, eReader_endsRightly_16, eReader_endsRightly_17, eReader_endsRightly_20, eReader_endsRightly_21, eReader_endsRightly_24, eReader_endsRightly_25, eReader_endsRightly_28, eReader_endsRightly_31, eReader_endsRightly_34, eReader_endsRightly_35, eReader_endsRightly_38, eReader_endsRightly_39a, eReader_endsRightly_39b, eReader_endsRightly_39c, eDraft_size_0, eDraft_size_1, eDraft_size_4, g0, et, su, nxt, ai_ai_at, ai_aj_at, ai_aq_at, ai_si_at, ai_sj_at, ai_sq_at, ai_cy_at, ai_al_at, ai_na_0, ai_na_1, ai_na_2, ai_na_3, ai_rc_at, ai_th_v, ai_th_n, ai_th_z, ai_sw, ai_nl_i, ai_nl_r, ai_nl_l, ai_nl_n, nI_clamp, nI_add, pk_mul, pk_sub, az_e0, az_l0, az_g0, az_p0, az_q0, az_eq, az_lt, az_le, az_m1, az_m2, az_m3, az_m4, az_m5, az_m6, az_m7, az_m8, az_dec, az_bd, az_b0, az_bt, az_bf, dn_leT, dn_leF, dn_ltT, dn_ltF, dn_eqT, dn_eqF, ↓reduceIte, if_true, if_false, not_true_eq_false, not_false_eq_true, true_and, and_true, false_and, and_false, true_or, or_true, false_or, or_false, Nat.reduceAdd, Nat.reduceMul, Nat.reduceSub, Nat.reduceLT, Nat.reduceLeDiff, Nat.reduceEqDiff, Nat.add_zero, Nat.zero_add, ne_eq, reduceCtorEq, decide_true, decide_false, Bool.true_eq_false, Bool.false_eq_true, Classical.not_not, gf_0_0, pf_0_0, gf_0_1, pf_0_1, gf_0_2, pf_0_2, gf_0_3, pf_0_3, gf_0_4, pf_0_4, gf_0_5, pf_0_5, gf_0_6, pf_0_6, gf_0_7, pf_0_7, gf_0_8, pf_0_8, gf_0_9, pf_0_9, gf_1_0, pf_1_0, gf_1_1, pf_1_1, gf_2_0, pf_2_0, gf_2_1, pf_2_1, gf_2_2, pf_2_2, gf_2_3, pf_2_3, gf_2_4, pf_2_4, gf_3_0, pf_3_0, gf_3_1, pf_3_1, gf_4_0, pf_4_0, gf_4_1, pf_4_1, gf_4_2, pf_4_2, gf_4_3, pf_4_3, gf_5_0, pf_5_0, gf_5_1, pf_5_1, gf_5_2, pf_5_2, gf_5_3, pf_5_3, gf_6_0, pf_6_0, gf_6_1, pf_6_1, gf_7_0, pf_7_0, gf_7_1, pf_7_1, gf_7_2, pf_7_2, gf_7_3, pf_7_3, gf_7_4, pf_7_4, gf_7_5, pf_7_5, gf_7_6, pf_7_6, gf_7_7, pf_7_7, gf_7_8, pf_7_8, gf_7_9, pf_7_9, gf_7_10, pf_7_10, gf_7_11, pf_7_11, gf_7_12, pf_7_12, gf_7_13, pf_7_13, gf_7_14, pf_7_14, gf_7_15, pf_7_15, gf_7_16, pf_7_16, gf_7_17, pf_7_17, gf_7_18, pf_7_18, gf_7_19, pf_7_19, gf_7_20, pf_7_20, gf_7_21, pf_7_21, gf_7_22, pf_7_22, gf_7_23, pf_7_23a, pf_7_23b]
      · rw [cD_f (fun z => h2 z.2)]
        simp (disch := omega) only [eReader_endsRightly_0, eReader_endsRightly_1, eReader_endsRightly_4, eReader_endsRightly_5, eReader_endsRightly_8, eReader_endsRightly_11, eReader_endsRightly_12, eReader_endsRightly_13, eReader_endsRightly_16, eReader_endsRightly_17, eReader_endsRightly_20, eReader_endsRightly_21, eReader_endsRightly_24, eReader_endsRightly_25, eReader_endsRightly_28, eReader_endsRightly_31, eReader_endsRightly_34, eReader_endsRightly_35, eReader_endsRightly_38, eReader_endsRightly_39a, eReader_endsRightly_39b, eReader_endsRightly_39c, eDraft_size_0, eDraft_size_1, eDraft_size_4, g0, et, su, nxt, ai_ai_at, ai_aj_at, ai_aq_at, ai_si_at, ai_sj_at, ai_sq_at, ai_cy_at, ai_al_at, ai_na_0, ai_na_1, ai_na_2, ai_na_3, ai_rc_at, ai_th_v, ai_th_n, ai_th_z, ai_sw, ai_nl_i, ai_nl_r, ai_nl_l, ai_nl_n, nI_clamp, nI_add, pk_mul, pk_sub, az_e0, az_l0, az_g0, az_p0, az_q0, az_eq, az_lt, az_le, az_m1, az_m2, az_m3, az_m4, az_m5, az_m6, az_m7, az_m8, az_dec, az_bd, az_b0, az_bt, az_bf, dn_leT, dn_leF, dn_ltT, dn_ltF, dn_eqT, dn_eqF, ↓reduceIte, if_true, if_false, not_true_eq_false, not_false_eq_true, true_and, and_true, false_and, and_false, true_or, or_true, false_or, or_false, Nat.reduceAdd, Nat.reduceMul, Nat.reduceSub, Nat.reduceLT, Nat.reduceLeDiff, Nat.reduceEqDiff, Nat.add_zero, Nat.zero_add, ne_eq, reduceCtorEq, decide_true, decide_false, Bool.true_eq_false, Bool.false_eq_true, Classical.not_not, gf_0_0, pf_0_0, gf_0_1, pf_0_1, gf_0_2, pf_0_2, gf_0_3, pf_0_3, gf_0_4, pf_0_4, gf_0_5, pf_0_5, gf_0_6, pf_0_6, gf_0_7, pf_0_7, gf_0_8, pf_0_8, gf_0_9, pf_0_9, gf_1_0, pf_1_0, gf_1_1, pf_1_1, gf_2_0, pf_2_0, gf_2_1, pf_2_1, gf_2_2, pf_2_2, gf_2_3, pf_2_3, gf_2_4, pf_2_4, gf_3_0, pf_3_0, gf_3_1, pf_3_1, gf_4_0, pf_4_0, gf_4_1, pf_4_1, gf_4_2, pf_4_2, gf_4_3, pf_4_3, gf_5_0, pf_5_0, gf_5_1, pf_5_1, gf_5_2, pf_5_2, gf_5_3, pf_5_3, gf_6_0, pf_6_0, gf_6_1, pf_6_1, gf_7_0, pf_7_0, gf_7_1, pf_7_1, gf_7_2, pf_7_2, gf_7_3, pf_7_3, gf_7_4, pf_7_4, gf_7_5, pf_7_5, gf_7_6, pf_7_6, gf_7_7, pf_7_7, gf_7_8, pf_7_8, gf_7_9, pf_7_9, gf_7_10, pf_7_10, gf_7_11, pf_7_11, gf_7_12, pf_7_12, gf_7_13, pf_7_13, gf_7_14, pf_7_14, gf_7_15, pf_7_15, gf_7_16, pf_7_16, gf_7_17, pf_7_17, gf_7_18, pf_7_18, gf_7_19, pf_7_19, gf_7_20, pf_7_20, gf_7_21, pf_7_21, gf_7_22, pf_7_22, gf_7_23, pf_7_23a, pf_7_23b]
    · rw [cD_f (fun z => h1 (Option.some.inj z.1))]
      simp (disch := omega) only [eReader_endsRightly_0, eReader_endsRightly_1, eReader_endsRightly_4, eReader_endsRightly_5, eReader_endsRightly_8, eReader_endsRightly_11, eReader_endsRightly_12, eReader_endsRightly_13, eReader_endsRightly_16, eReader_endsRightly_17, eReader_endsRightly_20, eReader_endsRightly_21, eReader_endsRightly_24, eReader_endsRightly_25, eReader_endsRightly_28, eReader_endsRightly_31, eReader_endsRightly_34, eReader_endsRightly_35, eReader_endsRightly_38, eReader_endsRightly_39a, eReader_endsRightly_39b, eReader_endsRightly_39c, eDraft_size_0, eDraft_size_1, eDraft_size_4, g0, et, su, nxt, h1, ai_ai_at, ai_aj_at, ai_aq_at, ai_si_at, ai_sj_at, ai_sq_at, ai_cy_at, ai_al_at, ai_na_0, ai_na_1, ai_na_2, ai_na_3, ai_rc_at, ai_th_v, ai_th_n, ai_th_z, ai_sw, ai_nl_i, ai_nl_r, ai_nl_l, ai_nl_n, nI_clamp, nI_add, pk_mul, pk_sub, az_e0, az_l0, az_g0, az_p0, az_q0, az_eq, az_lt, az_le, az_m1, az_m2, az_m3, az_m4, az_m5, az_m6, az_m7, az_m8, az_dec, az_bd, az_b0, az_bt, az_bf, dn_leT, dn_leF, dn_ltT, dn_ltF, dn_eqT, dn_eqF, ↓reduceIte, if_true, if_false, not_true_eq_false, not_false_eq_true, true_and, and_true, false_and, and_false, true_or, or_true, false_or, or_false, Nat.reduceAdd, Nat.reduceMul, Nat.reduceSub, Nat.reduceLT, Nat.reduceLeDiff, Nat.reduceEqDiff, Nat.add_zero, Nat.zero_add, ne_eq, reduceCtorEq, decide_true, decide_false, Bool.true_eq_false, Bool.false_eq_true, Classical.not_not, gf_0_0, pf_0_0, gf_0_1, pf_0_1, gf_0_2, pf_0_2, gf_0_3, pf_0_3, gf_0_4, pf_0_4, gf_0_5, pf_0_5, gf_0_6, pf_0_6, gf_0_7, pf_0_7, gf_0_8, pf_0_8, gf_0_9, pf_0_9, gf_1_0, pf_1_0, gf_1_1, pf_1_1, gf_2_0, pf_2_0, gf_2_1, pf_2_1, gf_2_2, pf_2_2, gf_2_3, pf_2_3, gf_2_4, pf_2_4, gf_3_0, pf_3_0, gf_3_1, pf_3_1, gf_4_0, pf_4_0, gf_4_1, pf_4_1, gf_4_2, pf_4_2, gf_4_3, pf_4_3, gf_5_0, pf_5_0, gf_5_1, pf_5_1, gf_5_2, pf_5_2, gf_5_3, pf_5_3, gf_6_0, pf_6_0, gf_6_1, pf_6_1, gf_7_0, pf_7_0, gf_7_1, pf_7_1, gf_7_2, pf_7_2, gf_7_3, pf_7_3, gf_7_4, pf_7_4, gf_7_5, pf_7_5, gf_7_6, pf_7_6, gf_7_7, pf_7_7, gf_7_8, pf_7_8, gf_7_9, pf_7_9, gf_7_10, pf_7_10, gf_7_11, pf_7_11, gf_7_12, pf_7_12, gf_7_13, pf_7_13, gf_7_14, pf_7_14, gf_7_15, pf_7_15, gf_7_16, pf_7_16, gf_7_17, pf_7_17, gf_7_18, pf_7_18, gf_7_19, pf_7_19, gf_7_20, pf_7_20, gf_7_21, pf_7_21, gf_7_22, pf_7_22, gf_7_23, pf_7_23a, pf_7_23b]
theorem s_readL (hRt : R < t ∨ t + 1 < R) (hRd : R < d ∨ d + 1 < R) (hdt : d + 1 < t ∨ t + 1 < d) (hl : bs.length ≤ 1200) (hb : ∀ b, b ∈ bs → b < 256) (hp : pre T bs) (hT : tw w t T (nI bs.length) = w) : ∀ (n : Nat) (l : List op) (X : Nat → Int32) (l3 : Option Value), l.length + n = 127 → wf0 l → reps X l → bs = eb l ++ bs.drop (eb l).length → (∃ L X' y, owf L ∧ ef L = bs ∧ ai_ev none 110 17 [some (.ref R), some (.ref d), some (.int (nI l.length)), l3] [] (zw (dw w d X (nI l.length)) R t (nI (eb l).length)) = some (some (.int (nI 1)), zw (dw w d X' (nI L.length)) R t y) ∧ reps X' L) ∨ ((∀ L, owf L → ¬ ef L = bs) ∧ ∃ X' n' y, ai_ev none 110 17 [some (.ref R), some (.ref d), some (.int (nI l.length)), l3] [] (zw (dw w d X (nI l.length)) R t (nI (eb l).length)) = some (some (.int (nI 0)), zw (dw w d X' n') R t y)) := by
  have hT2 : ∀ (X' : Nat → Int32) (n' : Int32), tw (dw w d X' n') t T (nI bs.length) = dw w d X' n' := fun X' n' => tw_fr hT (fun k _ _ => dw_go (by omega))
  have g0 : ∀ (V : ai_W) (x : Int32), (zw V R t x).2.2 R = .inr (6, [.ref t, .int x]) := fun V x => zw_g0
  have ed : ∀ (X' : Nat → Int32) (n' x : Int32), (zw (dw w d X' n') R t x).2.2 d = .inr (1, [.ref (d + 1), .int n']) := fun X' n' x => (zw_go (by omega)).trans dw_g0
  intro n
  induction n with
  | zero =>
    intro l X l3 hn hw hr hbs
    have hl7 : l.length = 127 := by omega
    have haL : (eb l).length ≤ bs.length := by
      have := congrArg List.length hbs
      rw [List.length_append] at this
      omega
    have n1 := s_next (a := (eb l).length) (by omega) hRt hl hp (hT2 X (nI l.length))
    have pref : ∀ L, owf L → ef L = bs → ∃ l2, L = l ++ l2 ∧ bs.drop (eb l).length = obs l2 ++ 0 :: [sm (eb L ++ [0])] := fun L hL hE => ef_pf hw.2.1 hL.2.1 (hE.trans hbs)
    cases h1 : bs[(eb l).length]? with
    | none =>
      rw [nx_n h1] at n1
      have h2 : bs[(eb l).length + 1]? = none := by
        rw [List.getElem?_eq_none_iff] at h1 ⊢
        omega
      rcases s_readOp (x := -1) (a := (eb l).length + 1) (Or.inl rfl) (fun _ => h2) (by omega) hRt hRd hdt hl hb hp hT hw.1 hw.2.1 (fun h => wf0_last hw h) hr with ⟨q, r, X', l', b1, b2, _⟩ | ⟨b1, X', n', y, b2⟩
      · have vc := ov_c b1
        exact absurd b2.symm (by rw [az_m1 (by omega)]; exact not_false)
      · refine Or.inr ⟨fun L hL hE => ?_, X', n', y, ?_⟩
        · obtain ⟨l2, _, e2⟩ := pref L hL hE
          rw [dr_n h1] at e2
          simp at e2
        · rw [hl7] at n1 b2 ⊢
          refine eReader_read_17.trans ?_
          simp (disch := omega) only [eReader_read_0, eReader_read_1, eReader_read_4, eReader_read_5, eReader_read_8, eReader_read_10, eReader_read_13, eReader_read_14a, eReader_read_14b, eReader_read_14c, eReader_read_15, eReader_read_16, eReader_read_18, eReader_read_20, eReader_read_23, eReader_read_24, eReader_read_27, eReader_read_28, eReader_read_29, eReader_read_32, eReader_read_33, eReader_read_36a, eReader_read_36b, eReader_read_36c, eReader_read_37, eReader_read_38, eReader_read_39, eReader_read_40, eReader_read_43, eReader_read_46, eReader_read_47, eReader_read_50, eReader_read_53, eReader_read_54a, eReader_read_54b, eReader_read_54c, eReader_read_55, eReader_read_58, eReader_read_61, eReader_read_62a, eReader_read_62b, eReader_read_62c, g0, ed, n1, b2, ai_ai_at, ai_aj_at, ai_aq_at, ai_si_at, ai_sj_at, ai_sq_at, ai_cy_at, ai_al_at, ai_na_0, ai_na_1, ai_na_2, ai_na_3, ai_rc_at, ai_th_v, ai_th_n, ai_th_z, ai_sw, ai_nl_i, ai_nl_r, ai_nl_l, ai_nl_n, nI_clamp, nI_add, pk_mul, pk_sub, az_e0, az_l0, az_g0, az_p0, az_q0, az_eq, az_lt, az_le, az_m1, az_m2, az_m3, az_m4, az_m5, az_m6, az_m7, az_m8, az_dec, az_bd, az_b0, az_bt, az_bf, dn_leT, dn_leF, dn_ltT, dn_ltF, dn_eqT, dn_eqF, ↓reduceIte, if_true, if_false, not_true_eq_false, not_false_eq_true, true_and, and_true, false_and, and_false, true_or, or_true, false_or, or_false, Nat.reduceAdd, Nat.reduceMul, Nat.reduceSub, Nat.reduceLT, Nat.reduceLeDiff, Nat.reduceEqDiff, Nat.add_zero, Nat.zero_add, ne_eq, reduceCtorEq, decide_true, decide_false, Bool.true_eq_false, Bool.false_eq_true, Classical.not_not]
    | some c =>
      rw [nx_s h1] at n1
      have hc2 := hb c (List.mem_of_getElem? h1)
      have hd1 := dr_s h1
      have haL2 := (List.getElem?_eq_some_iff.mp h1).1
      by_cases hc0 : c = 0
      · subst hc0
        have en := s_ends (a := (eb l).length + 1) (by omega) hRt hl hb hp (hT2 X (nI l.length))
        have htk : bs.take ((eb l).length + 1) = eb l ++ [0] := by
          rw [List.take_succ, h1]
          congr 1
          rw [hbs]
          exact List.take_left
        by_cases hok : bs[(eb l).length + 1]? = some (sm (bs.take ((eb l).length + 1))) ∧ (eb l).length + 1 + 1 = bs.length
        · rw [cD_t hok] at en
          have hE : ef l = bs := by
            unfold ef
            rw [hbs, hd1, dr_s hok.1, List.drop_of_length_le (by omega), htk]
            simp
          refine Or.inl ⟨l, X, nI ((eb l).length + 1 + 1), wf0_owf hw (by rw [hE]; exact hl), hE, ?_, hr⟩
          rw [hl7] at n1 en ⊢
          refine eReader_read_17.trans ?_
          simp (disch := omega) only [eReader_read_0, eReader_read_1, eReader_read_4, eReader_read_5, eReader_read_8, eReader_read_10, eReader_read_13, eReader_read_14a, eReader_read_14b, eReader_read_14c, eReader_read_15, eReader_read_16, eReader_read_18, eReader_read_20, eReader_read_23, eReader_read_24, eReader_read_27, eReader_read_28, eReader_read_29, eReader_read_32, eReader_read_33, eReader_read_36a, eReader_read_36b, eReader_read_36c, eReader_read_37, eReader_read_38, eReader_read_39, eReader_read_40, eReader_read_43, eReader_read_46, eReader_read_47, eReader_read_50, eReader_read_53, eReader_read_54a, eReader_read_54b, eReader_read_54c, eReader_read_55, eReader_read_58, eReader_read_61, eReader_read_62a, eReader_read_62b, eReader_read_62c, g0, n1, en, ai_ai_at, ai_aj_at, ai_aq_at, ai_si_at, ai_sj_at, ai_sq_at, ai_cy_at, ai_al_at, ai_na_0, ai_na_1, ai_na_2, ai_na_3, ai_rc_at, ai_th_v, ai_th_n, ai_th_z, ai_sw, ai_nl_i, ai_nl_r, ai_nl_l, ai_nl_n, nI_clamp, nI_add, pk_mul, pk_sub, az_e0, az_l0, az_g0, az_p0, az_q0, az_eq, az_lt, az_le, az_m1, az_m2, az_m3, az_m4, az_m5, az_m6, az_m7, az_m8, az_dec, az_bd, az_b0, az_bt, az_bf, dn_leT, dn_leF, dn_ltT, dn_ltF, dn_eqT, dn_eqF, ↓reduceIte, if_true, if_false, not_true_eq_false, not_false_eq_true, true_and, and_true, false_and, and_false, true_or, or_true, false_or, or_false, Nat.reduceAdd, Nat.reduceMul, Nat.reduceSub, Nat.reduceLT, Nat.reduceLeDiff, Nat.reduceEqDiff, Nat.add_zero, Nat.zero_add, ne_eq, reduceCtorEq, decide_true, decide_false, Bool.true_eq_false, Bool.false_eq_true, Classical.not_not]
        · rw [cD_f hok] at en
          refine Or.inr ⟨fun L hL hE => hok ?_, X, nI l.length, nI ((eb l).length + 1 + 1), ?_⟩
          · obtain ⟨l2, e1, e2⟩ := pref L hL hE
            cases l2 with
            | nil =>
              rw [List.append_nil] at e1
              subst e1
              have hE2 := hE
              unfold ef at hE2
              have hlen := congrArg List.length hE2
              simp only [List.length_append, List.length_singleton] at hlen
              refine ⟨?_, by omega⟩
              rw [htk, ← hE2]
              have e5 : (eb L ++ [0]).length = (eb L).length + 1 := by simp
              rw [← e5]
              simp
            | cons q l2 =>
              rw [hd1, obs_c] at e2
              have h0 : (0 : Nat) = q.1 := (List.cons.inj e2).1
              have := (ov_c (hL.2.1 q (by rw [e1]; simp))).2
              omega
          · rw [hl7] at n1 en ⊢
            refine eReader_read_17.trans ?_
            simp (disch := omega) only [eReader_read_0, eReader_read_1, eReader_read_4, eReader_read_5, eReader_read_8, eReader_read_10, eReader_read_13, eReader_read_14a, eReader_read_14b, eReader_read_14c, eReader_read_15, eReader_read_16, eReader_read_18, eReader_read_20, eReader_read_23, eReader_read_24, eReader_read_27, eReader_read_28, eReader_read_29, eReader_read_32, eReader_read_33, eReader_read_36a, eReader_read_36b, eReader_read_36c, eReader_read_37, eReader_read_38, eReader_read_39, eReader_read_40, eReader_read_43, eReader_read_46, eReader_read_47, eReader_read_50, eReader_read_53, eReader_read_54a, eReader_read_54b, eReader_read_54c, eReader_read_55, eReader_read_58, eReader_read_61, eReader_read_62a, eReader_read_62b, eReader_read_62c, g0, n1, en, ai_ai_at, ai_aj_at, ai_aq_at, ai_si_at, ai_sj_at, ai_sq_at, ai_cy_at, ai_al_at, ai_na_0, ai_na_1, ai_na_2, ai_na_3, ai_rc_at, ai_th_v, ai_th_n, ai_th_z, ai_sw, ai_nl_i, ai_nl_r, ai_nl_l, ai_nl_n, nI_clamp, nI_add, pk_mul, pk_sub, az_e0, az_l0, az_g0, az_p0, az_q0, az_eq, az_lt, az_le, az_m1, az_m2, az_m3, az_m4, az_m5, az_m6, az_m7, az_m8, az_dec, az_bd, az_b0, az_bt, az_bf, dn_leT, dn_leF, dn_ltT, dn_ltF, dn_eqT, dn_eqF, ↓reduceIte, if_true, if_false, not_true_eq_false, not_false_eq_true, true_and, and_true, false_and, and_false, true_or, or_true, false_or, or_false, Nat.reduceAdd, Nat.reduceMul, Nat.reduceSub, Nat.reduceLT, Nat.reduceLeDiff, Nat.reduceEqDiff, Nat.add_zero, Nat.zero_add, ne_eq, reduceCtorEq, decide_true, decide_false, Bool.true_eq_false, Bool.false_eq_true, Classical.not_not]
      · have neg : ∀ L, owf L → ¬ ef L = bs := by
          intro L hL hE
          obtain ⟨l2, e1, e2⟩ := pref L hL hE
          cases l2 with
          | nil =>
            rw [hd1] at e2
            exact hc0 (List.cons.inj e2).1
          | cons q l2 =>
            have := hL.1
            rw [e1, List.length_append, List.length_cons] at this
            omega
        rcases s_readOp (x := nI c) (a := (eb l).length + 1) (Or.inr ⟨c, hc2, rfl⟩) (fun z => by rw [az_m1 (by omega)] at z; exact z.elim) (by omega) hRt hRd hdt hl hb hp hT hw.1 hw.2.1 (fun h => wf0_last hw h) hr with ⟨q, r, X', l', b1, b2, b3, b4, b5, b6⟩ | ⟨b1, X', n', y, b2⟩
        · obtain ⟨l0, P, Q, f1, f2, f3, f4⟩ := b6.2 hl7
          have hl0 : l0.length = 126 := by
            have := congrArg List.length f1
            rw [List.length_append, List.length_singleton] at this
            omega
          obtain ⟨l00, p, hl00⟩ : ∃ l00 p, l0 = l00 ++ [p] := by
            have hx : l0[125]? = some (l0[125]'(by omega)) := List.getElem?_eq_getElem (by omega)
            refine ⟨l0.take 125, l0[125]'(by omega), ?_⟩
            have e : l0.take (125 + 1) = l0.take 125 ++ [l0[125]'(by omega)] := by
              rw [List.take_succ, hx]
              rfl
            rw [← e, List.take_of_length_le (by omega)]
          rw [hl00] at f1 f2
          have hpw0 : (l00 ++ [p]).Pairwise ofol := by
            have := hw.2.2.1
            rw [f1] at this
            exact (List.pairwise_append.mp this).1
          have hll' : l'.length = 127 := by
            rw [f2, List.length_append, List.length_singleton, ← hl00]
            omega
          have hor := s_order (w := zw (dw w d X' (nI l'.length)) R t (nI ((eb l).length + 1 + ((obytes q).length - 1)))) (d := d) (X := X') (l := l00) (p := p) (q := Q) (by rw [← f2]; omega) (fun r hr => by
            rcases mem_snoc hr with hr | hr
            · exact hw.2.1 r (by rw [f1]; exact List.mem_append.mpr (Or.inl hr))
            · rw [hr]; exact f3) hpw0 (fun k r hk => (b5 k r (by rw [f2]; exact hk)).1) (by rw [← f2]; exact dw_fr dw_w (fun k _ _ => zw_go (by omega)))
          refine Or.inr ⟨neg, X', nI l'.length, nI ((eb l).length + 1 + ((obytes q).length - 1)), ?_⟩
          rw [hl7] at n1 b4 ⊢
          rw [hll'] at b4 hor ⊢
          by_cases ho : ordP p Q (l00 ++ [p] ++ [Q])
          · rw [cD_t ho] at hor
            refine eReader_read_17.trans ?_
            simp (disch := omega) only [eReader_read_0, eReader_read_1, eReader_read_4, eReader_read_5, eReader_read_8, eReader_read_10, eReader_read_13, eReader_read_14a, eReader_read_14b, eReader_read_14c, eReader_read_15, eReader_read_16, eReader_read_18, eReader_read_20, eReader_read_23, eReader_read_24, eReader_read_27, eReader_read_28, eReader_read_29, eReader_read_32, eReader_read_33, eReader_read_36a, eReader_read_36b, eReader_read_36c, eReader_read_37, eReader_read_38, eReader_read_39, eReader_read_40, eReader_read_43, eReader_read_46, eReader_read_47, eReader_read_50, eReader_read_53, eReader_read_54a, eReader_read_54b, eReader_read_54c, eReader_read_55, eReader_read_58, eReader_read_61, eReader_read_62a, eReader_read_62b, eReader_read_62c, eReader_read_17, g0, ed, n1, hc0, b4, hor, ai_ai_at, ai_aj_at, ai_aq_at, ai_si_at, ai_sj_at, ai_sq_at, ai_cy_at, ai_al_at, ai_na_0, ai_na_1, ai_na_2, ai_na_3, ai_rc_at, ai_th_v, ai_th_n, ai_th_z, ai_sw, ai_nl_i, ai_nl_r, ai_nl_l, ai_nl_n, nI_clamp, nI_add, pk_mul, pk_sub, az_e0, az_l0, az_g0, az_p0, az_q0, az_eq, az_lt, az_le, az_m1, az_m2, az_m3, az_m4, az_m5, az_m6, az_m7, az_m8, az_dec, az_bd, az_b0, az_bt, az_bf, dn_leT, dn_leF, dn_ltT, dn_ltF, dn_eqT, dn_eqF, ↓reduceIte, if_true, if_false, not_true_eq_false, not_false_eq_true, true_and, and_true, false_and, and_false, true_or, or_true, false_or, or_false, Nat.reduceAdd, Nat.reduceMul, Nat.reduceSub, Nat.reduceLT, Nat.reduceLeDiff, Nat.reduceEqDiff, Nat.add_zero, Nat.zero_add, ne_eq, reduceCtorEq, decide_true, decide_false, Bool.true_eq_false, Bool.false_eq_true, Classical.not_not]
          · rw [cD_f ho] at hor
            refine eReader_read_17.trans ?_
            simp (disch := omega) only [eReader_read_0, eReader_read_1, eReader_read_4, eReader_read_5, eReader_read_8, eReader_read_10, eReader_read_13, eReader_read_14a, eReader_read_14b, eReader_read_14c, eReader_read_15, eReader_read_16, eReader_read_18, eReader_read_20, eReader_read_23, eReader_read_24, eReader_read_27, eReader_read_28, eReader_read_29, eReader_read_32, eReader_read_33, eReader_read_36a, eReader_read_36b, eReader_read_36c, eReader_read_37, eReader_read_38, eReader_read_39, eReader_read_40, eReader_read_43, eReader_read_46, eReader_read_47, eReader_read_50, eReader_read_53, eReader_read_54a, eReader_read_54b, eReader_read_54c, eReader_read_55, eReader_read_58, eReader_read_61, eReader_read_62a, eReader_read_62b, eReader_read_62c, g0, ed, n1, hc0, b4, hor, ai_ai_at, ai_aj_at, ai_aq_at, ai_si_at, ai_sj_at, ai_sq_at, ai_cy_at, ai_al_at, ai_na_0, ai_na_1, ai_na_2, ai_na_3, ai_rc_at, ai_th_v, ai_th_n, ai_th_z, ai_sw, ai_nl_i, ai_nl_r, ai_nl_l, ai_nl_n, nI_clamp, nI_add, pk_mul, pk_sub, az_e0, az_l0, az_g0, az_p0, az_q0, az_eq, az_lt, az_le, az_m1, az_m2, az_m3, az_m4, az_m5, az_m6, az_m7, az_m8, az_dec, az_bd, az_b0, az_bt, az_bf, dn_leT, dn_leF, dn_ltT, dn_ltF, dn_eqT, dn_eqF, ↓reduceIte, if_true, if_false, not_true_eq_false, not_false_eq_true, true_and, and_true, false_and, and_false, true_or, or_true, false_or, or_false, Nat.reduceAdd, Nat.reduceMul, Nat.reduceSub, Nat.reduceLT, Nat.reduceLeDiff, Nat.reduceEqDiff, Nat.add_zero, Nat.zero_add, ne_eq, reduceCtorEq, decide_true, decide_false, Bool.true_eq_false, Bool.false_eq_true, Classical.not_not]
        · refine Or.inr ⟨neg, X', n', y, ?_⟩
          rw [hl7] at n1 b2 ⊢
          refine eReader_read_17.trans ?_
          simp (disch := omega) only [eReader_read_0, eReader_read_1, eReader_read_4, eReader_read_5, eReader_read_8, eReader_read_10, eReader_read_13, eReader_read_14a, eReader_read_14b, eReader_read_14c, eReader_read_15, eReader_read_16, eReader_read_18, eReader_read_20, eReader_read_23, eReader_read_24, eReader_read_27, eReader_read_28, eReader_read_29, eReader_read_32, eReader_read_33, eReader_read_36a, eReader_read_36b, eReader_read_36c, eReader_read_37, eReader_read_38, eReader_read_39, eReader_read_40, eReader_read_43, eReader_read_46, eReader_read_47, eReader_read_50, eReader_read_53, eReader_read_54a, eReader_read_54b, eReader_read_54c, eReader_read_55, eReader_read_58, eReader_read_61, eReader_read_62a, eReader_read_62b, eReader_read_62c, g0, n1, hc0, b2, ai_ai_at, ai_aj_at, ai_aq_at, ai_si_at, ai_sj_at, ai_sq_at, ai_cy_at, ai_al_at, ai_na_0, ai_na_1, ai_na_2, ai_na_3, ai_rc_at, ai_th_v, ai_th_n, ai_th_z, ai_sw, ai_nl_i, ai_nl_r, ai_nl_l, ai_nl_n, nI_clamp, nI_add, pk_mul, pk_sub, az_e0, az_l0, az_g0, az_p0, az_q0, az_eq, az_lt, az_le, az_m1, az_m2, az_m3, az_m4, az_m5, az_m6, az_m7, az_m8, az_dec, az_bd, az_b0, az_bt, az_bf, dn_leT, dn_leF, dn_ltT, dn_ltF, dn_eqT, dn_eqF, ↓reduceIte, if_true, if_false, not_true_eq_false, not_false_eq_true, true_and, and_true, false_and, and_false, true_or, or_true, false_or, or_false, Nat.reduceAdd, Nat.reduceMul, Nat.reduceSub, Nat.reduceLT, Nat.reduceLeDiff, Nat.reduceEqDiff, Nat.add_zero, Nat.zero_add, ne_eq, reduceCtorEq, decide_true, decide_false, Bool.true_eq_false, Bool.false_eq_true, Classical.not_not]
  | succ n ih =>
    intro l X l3 hn hw hr hbs
    have hl7 : l.length < 127 := by omega
    have haL : (eb l).length ≤ bs.length := by
      have := congrArg List.length hbs
      rw [List.length_append] at this
      omega
    have n1 := s_next (a := (eb l).length) (by omega) hRt hl hp (hT2 X (nI l.length))
    have pref : ∀ L, owf L → ef L = bs → ∃ l2, L = l ++ l2 ∧ bs.drop (eb l).length = obs l2 ++ 0 :: [sm (eb L ++ [0])] := fun L hL hE => ef_pf hw.2.1 hL.2.1 (hE.trans hbs)
    cases h1 : bs[(eb l).length]? with
    | none =>
      rw [nx_n h1] at n1
      have h2 : bs[(eb l).length + 1]? = none := by
        rw [List.getElem?_eq_none_iff] at h1 ⊢
        omega
      rcases s_readOp (x := -1) (a := (eb l).length + 1) (Or.inl rfl) (fun _ => h2) (by omega) hRt hRd hdt hl hb hp hT hw.1 hw.2.1 (fun h => wf0_last hw h) hr with ⟨q, r, X', l', b1, b2, _⟩ | ⟨b1, X', n', y, b2⟩
      · have vc := ov_c b1
        exact absurd b2.symm (by rw [az_m1 (by omega)]; exact not_false)
      · refine Or.inr ⟨fun L hL hE => ?_, X', n', y, ?_⟩
        · obtain ⟨l2, _, e2⟩ := pref L hL hE
          rw [dr_n h1] at e2
          simp at e2
        · refine eReader_read_17.trans ?_
          simp (disch := omega) only [eReader_read_0, eReader_read_1, eReader_read_4, eReader_read_5, eReader_read_8, eReader_read_10, eReader_read_13, eReader_read_14a, eReader_read_14b, eReader_read_14c, eReader_read_15, eReader_read_16, eReader_read_18, eReader_read_20, eReader_read_23, eReader_read_24, eReader_read_27, eReader_read_28, eReader_read_29, eReader_read_32, eReader_read_33, eReader_read_36a, eReader_read_36b, eReader_read_36c, eReader_read_37, eReader_read_38, eReader_read_39, eReader_read_40, eReader_read_43, eReader_read_46, eReader_read_47, eReader_read_50, eReader_read_53, eReader_read_54a, eReader_read_54b, eReader_read_54c, eReader_read_55, eReader_read_58, eReader_read_61, eReader_read_62a, eReader_read_62b, eReader_read_62c, g0, ed, n1, b2, ai_ai_at, ai_aj_at, ai_aq_at, ai_si_at, ai_sj_at, ai_sq_at, ai_cy_at, ai_al_at, ai_na_0, ai_na_1, ai_na_2, ai_na_3, ai_rc_at, ai_th_v, ai_th_n, ai_th_z, ai_sw, ai_nl_i, ai_nl_r, ai_nl_l, ai_nl_n, nI_clamp, nI_add, pk_mul, pk_sub, az_e0, az_l0, az_g0, az_p0, az_q0, az_eq, az_lt, az_le, az_m1, az_m2, az_m3, az_m4, az_m5, az_m6, az_m7, az_m8, az_dec, az_bd, az_b0, az_bt, az_bf, dn_leT, dn_leF, dn_ltT, dn_ltF, dn_eqT, dn_eqF, ↓reduceIte, if_true, if_false, not_true_eq_false, not_false_eq_true, true_and, and_true, false_and, and_false, true_or, or_true, false_or, or_false, Nat.reduceAdd, Nat.reduceMul, Nat.reduceSub, Nat.reduceLT, Nat.reduceLeDiff, Nat.reduceEqDiff, Nat.add_zero, Nat.zero_add, ne_eq, reduceCtorEq, decide_true, decide_false, Bool.true_eq_false, Bool.false_eq_true, Classical.not_not]
    | some c =>
      rw [nx_s h1] at n1
      have hc2 := hb c (List.mem_of_getElem? h1)
      have hd1 := dr_s h1
      have haL2 := (List.getElem?_eq_some_iff.mp h1).1
      by_cases hc0 : c = 0
      · subst hc0
        have en := s_ends (a := (eb l).length + 1) (by omega) hRt hl hb hp (hT2 X (nI l.length))
        have htk : bs.take ((eb l).length + 1) = eb l ++ [0] := by
          rw [List.take_succ, h1]
          congr 1
          rw [hbs]
          exact List.take_left
        by_cases hok : bs[(eb l).length + 1]? = some (sm (bs.take ((eb l).length + 1))) ∧ (eb l).length + 1 + 1 = bs.length
        · rw [cD_t hok] at en
          have hE : ef l = bs := by
            unfold ef
            rw [hbs, hd1, dr_s hok.1, List.drop_of_length_le (by omega), htk]
            simp
          refine Or.inl ⟨l, X, nI ((eb l).length + 1 + 1), wf0_owf hw (by rw [hE]; exact hl), hE, ?_, hr⟩
          refine eReader_read_17.trans ?_
          simp (disch := omega) only [eReader_read_0, eReader_read_1, eReader_read_4, eReader_read_5, eReader_read_8, eReader_read_10, eReader_read_13, eReader_read_14a, eReader_read_14b, eReader_read_14c, eReader_read_15, eReader_read_16, eReader_read_18, eReader_read_20, eReader_read_23, eReader_read_24, eReader_read_27, eReader_read_28, eReader_read_29, eReader_read_32, eReader_read_33, eReader_read_36a, eReader_read_36b, eReader_read_36c, eReader_read_37, eReader_read_38, eReader_read_39, eReader_read_40, eReader_read_43, eReader_read_46, eReader_read_47, eReader_read_50, eReader_read_53, eReader_read_54a, eReader_read_54b, eReader_read_54c, eReader_read_55, eReader_read_58, eReader_read_61, eReader_read_62a, eReader_read_62b, eReader_read_62c, g0, n1, en, ai_ai_at, ai_aj_at, ai_aq_at, ai_si_at, ai_sj_at, ai_sq_at, ai_cy_at, ai_al_at, ai_na_0, ai_na_1, ai_na_2, ai_na_3, ai_rc_at, ai_th_v, ai_th_n, ai_th_z, ai_sw, ai_nl_i, ai_nl_r, ai_nl_l, ai_nl_n, nI_clamp, nI_add, pk_mul, pk_sub, az_e0, az_l0, az_g0, az_p0, az_q0, az_eq, az_lt, az_le, az_m1, az_m2, az_m3, az_m4, az_m5, az_m6, az_m7, az_m8, az_dec, az_bd, az_b0, az_bt, az_bf, dn_leT, dn_leF, dn_ltT, dn_ltF, dn_eqT, dn_eqF, ↓reduceIte, if_true, if_false, not_true_eq_false, not_false_eq_true, true_and, and_true, false_and, and_false, true_or, or_true, false_or, or_false, Nat.reduceAdd, Nat.reduceMul, Nat.reduceSub, Nat.reduceLT, Nat.reduceLeDiff, Nat.reduceEqDiff, Nat.add_zero, Nat.zero_add, ne_eq, reduceCtorEq, decide_true, decide_false, Bool.true_eq_false, Bool.false_eq_true, Classical.not_not]
        · rw [cD_f hok] at en
          refine Or.inr ⟨fun L hL hE => hok ?_, X, nI l.length, nI ((eb l).length + 1 + 1), ?_⟩
          · obtain ⟨l2, e1, e2⟩ := pref L hL hE
            cases l2 with
            | nil =>
              rw [List.append_nil] at e1
              subst e1
              have hE2 := hE
              unfold ef at hE2
              have hlen := congrArg List.length hE2
              simp only [List.length_append, List.length_singleton] at hlen
              refine ⟨?_, by omega⟩
              rw [htk, ← hE2]
              have e5 : (eb L ++ [0]).length = (eb L).length + 1 := by simp
              rw [← e5]
              simp
            | cons q l2 =>
              rw [hd1, obs_c] at e2
              have h0 : (0 : Nat) = q.1 := (List.cons.inj e2).1
              have := (ov_c (hL.2.1 q (by rw [e1]; simp))).2
              omega
          · refine eReader_read_17.trans ?_
            simp (disch := omega) only [eReader_read_0, eReader_read_1, eReader_read_4, eReader_read_5, eReader_read_8, eReader_read_10, eReader_read_13, eReader_read_14a, eReader_read_14b, eReader_read_14c, eReader_read_15, eReader_read_16, eReader_read_18, eReader_read_20, eReader_read_23, eReader_read_24, eReader_read_27, eReader_read_28, eReader_read_29, eReader_read_32, eReader_read_33, eReader_read_36a, eReader_read_36b, eReader_read_36c, eReader_read_37, eReader_read_38, eReader_read_39, eReader_read_40, eReader_read_43, eReader_read_46, eReader_read_47, eReader_read_50, eReader_read_53, eReader_read_54a, eReader_read_54b, eReader_read_54c, eReader_read_55, eReader_read_58, eReader_read_61, eReader_read_62a, eReader_read_62b, eReader_read_62c, g0, n1, en, ai_ai_at, ai_aj_at, ai_aq_at, ai_si_at, ai_sj_at, ai_sq_at, ai_cy_at, ai_al_at, ai_na_0, ai_na_1, ai_na_2, ai_na_3, ai_rc_at, ai_th_v, ai_th_n, ai_th_z, ai_sw, ai_nl_i, ai_nl_r, ai_nl_l, ai_nl_n, nI_clamp, nI_add, pk_mul, pk_sub, az_e0, az_l0, az_g0, az_p0, az_q0, az_eq, az_lt, az_le, az_m1, az_m2, az_m3, az_m4, az_m5, az_m6, az_m7, az_m8, az_dec, az_bd, az_b0, az_bt, az_bf, dn_leT, dn_leF, dn_ltT, dn_ltF, dn_eqT, dn_eqF, ↓reduceIte, if_true, if_false, not_true_eq_false, not_false_eq_true, true_and, and_true, false_and, and_false, true_or, or_true, false_or, or_false, Nat.reduceAdd, Nat.reduceMul, Nat.reduceSub, Nat.reduceLT, Nat.reduceLeDiff, Nat.reduceEqDiff, Nat.add_zero, Nat.zero_add, ne_eq, reduceCtorEq, decide_true, decide_false, Bool.true_eq_false, Bool.false_eq_true, Classical.not_not]
      · rcases s_readOp (x := nI c) (a := (eb l).length + 1) (Or.inr ⟨c, hc2, rfl⟩) (fun z => by rw [az_m1 (by omega)] at z; exact z.elim) (by omega) hRt hRd hdt hl hb hp hT hw.1 hw.2.1 (fun h => wf0_last hw h) hr with ⟨q, r, X', l', b1, b2, b3, b4, b5, b6⟩ | ⟨b1, X', n', y, b2⟩
        · have hl' := b6.1 hl7
          have vc := ov_c b1
          have hcq : c = q.1 := (nI_eq (by omega) (by omega)).mp b2
          subst hcq
          rw [← hd1] at b3
          have hqlen : 3 ≤ (obytes q).length := by
            unfold obytes
            simp only [List.length_cons]
            omega
          have hdr : bs.drop ((eb l).length + (obytes q).length) = r := by
            rw [← List.drop_drop, b3, List.drop_left]
          have heb : eb (l ++ [q]) = eb l ++ obytes q := eb_snoc2
          have helen : (eb (l ++ [q])).length = (eb l).length + (obytes q).length := by rw [heb, List.length_append]
          have hbs2 : bs = eb (l ++ [q]) ++ bs.drop (eb (l ++ [q])).length := by
            rw [helen, hdr, heb, List.append_assoc, ← b3]
            exact hbs
          rw [show (eb l).length + 1 + ((obytes q).length - 1) = (eb (l ++ [q])).length by omega] at b4
          rw [hl'] at b4 b5
          have hln : (l ++ [q]).length = l.length + 1 := by simp
          have goon : ∀ (hwq : wf0 (l ++ [q])) (hor : ai_ev none 36 0 [some (.ref d), none, none] [] (zw (dw w d X' (nI (l ++ [q]).length)) R t (nI (eb (l ++ [q])).length)) = some (some (.int (nI 1)), zw (dw w d X' (nI (l ++ [q]).length)) R t (nI (eb (l ++ [q])).length))), ai_ev none 110 17 [some (.ref R), some (.ref d), some (.int (nI l.length)), l3] [] (zw (dw w d X (nI l.length)) R t (nI (eb l).length)) = ai_ev none 110 17 [some (.ref R), some (.ref d), some (.int (nI (l ++ [q]).length)), some (.int (nI q.1))] [] (zw (dw w d X' (nI (l ++ [q]).length)) R t (nI (eb (l ++ [q])).length)) := by
            intro hwq hor
            rw [hln] at b4 hor ⊢
            refine eReader_read_17.trans ?_
            simp (disch := omega) only [eReader_read_0, eReader_read_1, eReader_read_4, eReader_read_5, eReader_read_8, eReader_read_10, eReader_read_13, eReader_read_14a, eReader_read_14b, eReader_read_14c, eReader_read_15, eReader_read_16, eReader_read_18, eReader_read_20, eReader_read_23, eReader_read_24, eReader_read_27, eReader_read_28, eReader_read_29, eReader_read_32, eReader_read_33, eReader_read_36a, eReader_read_36b, eReader_read_36c, eReader_read_37, eReader_read_38, eReader_read_39, eReader_read_40, eReader_read_43, eReader_read_46, eReader_read_47, eReader_read_50, eReader_read_53, eReader_read_54a, eReader_read_54b, eReader_read_54c, eReader_read_55, eReader_read_58, eReader_read_61, eReader_read_62a, eReader_read_62b, eReader_read_62c, g0, ed, n1, hc0, b4, hor, ai_ai_at, ai_aj_at, ai_aq_at, ai_si_at, ai_sj_at, ai_sq_at, ai_cy_at, ai_al_at, ai_na_0, ai_na_1, ai_na_2, ai_na_3, ai_rc_at, ai_th_v, ai_th_n, ai_th_z, ai_sw, ai_nl_i, ai_nl_r, ai_nl_l, ai_nl_n, nI_clamp, nI_add, pk_mul, pk_sub, az_e0, az_l0, az_g0, az_p0, az_q0, az_eq, az_lt, az_le, az_m1, az_m2, az_m3, az_m4, az_m5, az_m6, az_m7, az_m8, az_dec, az_bd, az_b0, az_bt, az_bf, dn_leT, dn_leF, dn_ltT, dn_ltF, dn_eqT, dn_eqF, ↓reduceIte, if_true, if_false, not_true_eq_false, not_false_eq_true, true_and, and_true, false_and, and_false, true_or, or_true, false_or, or_false, Nat.reduceAdd, Nat.reduceMul, Nat.reduceSub, Nat.reduceLT, Nat.reduceLeDiff, Nat.reduceEqDiff, Nat.add_zero, Nat.zero_add, ne_eq, reduceCtorEq, decide_true, decide_false, Bool.true_eq_false, Bool.false_eq_true, Classical.not_not]
          rcases List.eq_nil_or_concat l with hnil | ⟨l0, p, hcon⟩
          · subst hnil
            have hor := s_order1 (w := zw (dw w d X' (nI ([q] : List op).length)) R t (nI (eb ([] ++ [q])).length)) (d := d) (X := X') (q := q) (dw_fr dw_w (fun k _ _ => zw_go (by omega)))
            have hwq : wf0 ([] ++ [q]) := wf0_one b1
            rw [goon hwq hor]
            exact ih ([] ++ [q]) X' (some (.int (nI q.1))) (by omega) hwq b5 hbs2
          · rw [List.concat_eq_append] at hcon
            subst hcon
            have hor := s_order (w := zw (dw w d X' (nI (l0 ++ [p] ++ [q]).length)) R t (nI (eb (l0 ++ [p] ++ [q])).length)) (d := d) (X := X') (l := l0) (p := p) (q := q) (by omega) (fun r hr => by
              rcases mem_snoc hr with hr | hr
              · exact hw.2.1 r hr
              · rw [hr]; exact b1) hw.2.2.1 (fun k r hk => (b5 k r hk).1) (dw_fr dw_w (fun k _ _ => zw_go (by omega)))
            by_cases ho : ordP p q (l0 ++ [p] ++ [q])
            · rw [cD_t ho] at hor
              have hwq := wf0_snoc hw b1 hl7 ho
              rw [goon hwq hor]
              exact ih (l0 ++ [p] ++ [q]) X' (some (.int (nI q.1))) (by omega) hwq b5 hbs2
            · rw [cD_f ho] at hor
              refine Or.inr ⟨fun L hL hE => ?_, X', nI (l0 ++ [p] ++ [q]).length, nI (eb (l0 ++ [p] ++ [q])).length, ?_⟩
              · obtain ⟨l2, e1, e2⟩ := pref L hL hE
                cases l2 with
                | nil =>
                  rw [hd1] at e2
                  exact hc0 (List.cons.inj e2).1
                | cons q' l2 =>
                  rw [b3, obs_c, List.append_assoc] at e2
                  have hq' := hL.2.1 q' (by rw [e1]; simp)
                  obtain ⟨rfl, _⟩ := obytes_pf b1 hq' e2
                  have hwL := owf_wf0 hL
                  rw [e1] at hwL
                  exact ho (wf0_ord hwL)
              · rw [hln] at b4 hor ⊢
                refine eReader_read_17.trans ?_
                simp (disch := omega) only [eReader_read_0, eReader_read_1, eReader_read_4, eReader_read_5, eReader_read_8, eReader_read_10, eReader_read_13, eReader_read_14a, eReader_read_14b, eReader_read_14c, eReader_read_15, eReader_read_16, eReader_read_18, eReader_read_20, eReader_read_23, eReader_read_24, eReader_read_27, eReader_read_28, eReader_read_29, eReader_read_32, eReader_read_33, eReader_read_36a, eReader_read_36b, eReader_read_36c, eReader_read_37, eReader_read_38, eReader_read_39, eReader_read_40, eReader_read_43, eReader_read_46, eReader_read_47, eReader_read_50, eReader_read_53, eReader_read_54a, eReader_read_54b, eReader_read_54c, eReader_read_55, eReader_read_58, eReader_read_61, eReader_read_62a, eReader_read_62b, eReader_read_62c, g0, ed, n1, hc0, b4, hor, ai_ai_at, ai_aj_at, ai_aq_at, ai_si_at, ai_sj_at, ai_sq_at, ai_cy_at, ai_al_at, ai_na_0, ai_na_1, ai_na_2, ai_na_3, ai_rc_at, ai_th_v, ai_th_n, ai_th_z, ai_sw, ai_nl_i, ai_nl_r, ai_nl_l, ai_nl_n, nI_clamp, nI_add, pk_mul, pk_sub, az_e0, az_l0, az_g0, az_p0, az_q0, az_eq, az_lt, az_le, az_m1, az_m2, az_m3, az_m4, az_m5, az_m6, az_m7, az_m8, az_dec, az_bd, az_b0, az_bt, az_bf, dn_leT, dn_leF, dn_ltT, dn_ltF, dn_eqT, dn_eqF, ↓reduceIte, if_true, if_false, not_true_eq_false, not_false_eq_true, true_and, and_true, false_and, and_false, true_or, or_true, false_or, or_false, Nat.reduceAdd, Nat.reduceMul, Nat.reduceSub, Nat.reduceLT, Nat.reduceLeDiff, Nat.reduceEqDiff, Nat.add_zero, Nat.zero_add, ne_eq, reduceCtorEq, decide_true, decide_false, Bool.true_eq_false, Bool.false_eq_true, Classical.not_not]
        · refine Or.inr ⟨fun L hL hE => ?_, X', n', y, ?_⟩
          · obtain ⟨l2, e1, e2⟩ := pref L hL hE
            cases l2 with
            | nil =>
              rw [hd1] at e2
              exact hc0 (List.cons.inj e2).1
            | cons q' l2 =>
              rw [hd1, obs_c, List.append_assoc] at e2
              have hq' := hL.2.1 q' (by rw [e1]; simp)
              have hcq : c = q'.1 := (List.cons.inj e2).1
              subst hcq
              exact b1 q' _ hq' rfl e2
          · refine eReader_read_17.trans ?_
            simp (disch := omega) only [eReader_read_0, eReader_read_1, eReader_read_4, eReader_read_5, eReader_read_8, eReader_read_10, eReader_read_13, eReader_read_14a, eReader_read_14b, eReader_read_14c, eReader_read_15, eReader_read_16, eReader_read_18, eReader_read_20, eReader_read_23, eReader_read_24, eReader_read_27, eReader_read_28, eReader_read_29, eReader_read_32, eReader_read_33, eReader_read_36a, eReader_read_36b, eReader_read_36c, eReader_read_37, eReader_read_38, eReader_read_39, eReader_read_40, eReader_read_43, eReader_read_46, eReader_read_47, eReader_read_50, eReader_read_53, eReader_read_54a, eReader_read_54b, eReader_read_54c, eReader_read_55, eReader_read_58, eReader_read_61, eReader_read_62a, eReader_read_62b, eReader_read_62c, g0, n1, hc0, b2, ai_ai_at, ai_aj_at, ai_aq_at, ai_si_at, ai_sj_at, ai_sq_at, ai_cy_at, ai_al_at, ai_na_0, ai_na_1, ai_na_2, ai_na_3, ai_rc_at, ai_th_v, ai_th_n, ai_th_z, ai_sw, ai_nl_i, ai_nl_r, ai_nl_l, ai_nl_n, nI_clamp, nI_add, pk_mul, pk_sub, az_e0, az_l0, az_g0, az_p0, az_q0, az_eq, az_lt, az_le, az_m1, az_m2, az_m3, az_m4, az_m5, az_m6, az_m7, az_m8, az_dec, az_bd, az_b0, az_bt, az_bf, dn_leT, dn_leF, dn_ltT, dn_ltF, dn_eqT, dn_eqF, ↓reduceIte, if_true, if_false, not_true_eq_false, not_false_eq_true, true_and, and_true, false_and, and_false, true_or, or_true, false_or, or_false, Nat.reduceAdd, Nat.reduceMul, Nat.reduceSub, Nat.reduceLT, Nat.reduceLeDiff, Nat.reduceEqDiff, Nat.add_zero, Nat.zero_add, ne_eq, reduceCtorEq, decide_true, decide_false, Bool.true_eq_false, Bool.false_eq_true, Classical.not_not]
theorem s_read {X : Nat → Int32} {c : Int32} (hRt : R < t ∨ t + 1 < R) (hRd : R < d ∨ d + 1 < R) (hdt : d + 1 < t ∨ t + 1 < d) (hl : bs.length ≤ 1200) (hb : ∀ b, b ∈ bs → b < 256) (hp : pre T bs) (hT : tw w t T (nI bs.length) = w) : (∃ L X' y, owf L ∧ ef L = bs ∧ ai_ev none 110 0 [some (.ref R), some (.ref d), none, none] [] (zw (dw w d X c) R t (nI 0)) = some (some (.int (nI 1)), zw (dw w d X' (nI L.length)) R t y) ∧ reps X' L) ∨ ((∀ L, owf L → ¬ ef L = bs) ∧ ∃ X' n' y, ai_ev none 110 0 [some (.ref R), some (.ref d), none, none] [] (zw (dw w d X c) R t (nI 0)) = some (some (.int (nI 0)), zw (dw w d X' n') R t y)) := by
  have hT2 : ∀ (X' : Nat → Int32) (n' : Int32), tw (dw w d X' n') t T (nI bs.length) = dw w d X' n' := fun X' n' => tw_fr hT (fun k _ _ => dw_go (by omega))
  have g0 : ∀ (V : ai_W) (x : Int32), (zw V R t x).2.2 R = .inr (6, [.ref t, .int x]) := fun V x => zw_g0
  have ed : ∀ (X' : Nat → Int32) (n' x : Int32), (zw (dw w d X' n') R t x).2.2 d = .inr (1, [.ref (d + 1), .int n']) := fun X' n' x => (zw_go (by omega)).trans dw_g0
  have cl := s_clear (w := zw (dw w d X c) R t (nI 0)) (d := d) (X := X) (c := c) (dw_fr dw_w (fun k _ _ => zw_go (by omega)))
  rw [zw_d (by omega) (by omega), dw_w] at cl
  have n1 := s_next (a := 0) (by omega) hRt hl hp (hT2 X (nI 0))
  have neg0 : ¬ bs[0]? = some 68 → ∀ L, owf L → ¬ ef L = bs := by
    intro h L _ hE
    rw [← hE] at h
    exact h rfl
  cases h1 : bs[0]? with
  | none =>
    rw [nx_n h1] at n1
    refine Or.inr ⟨neg0 (by rw [h1]; exact fun z => by cases z), X, nI 0, nI (0 + 1), ?_⟩
    simp (disch := omega) only [eReader_read_0, eReader_read_1, eReader_read_4, eReader_read_5, eReader_read_8, eReader_read_10, eReader_read_13, eReader_read_14a, eReader_read_14b, eReader_read_14c, eReader_read_15, eReader_read_16, eReader_read_18, eReader_read_20, eReader_read_23, eReader_read_24, eReader_read_27, eReader_read_28, eReader_read_29, eReader_read_32, eReader_read_33, eReader_read_36a, eReader_read_36b, eReader_read_36c, eReader_read_37, eReader_read_38, eReader_read_39, eReader_read_40, eReader_read_43, eReader_read_46, eReader_read_47, eReader_read_50, eReader_read_53, eReader_read_54a, eReader_read_54b, eReader_read_54c, eReader_read_55, eReader_read_58, eReader_read_61, eReader_read_62a, eReader_read_62b, eReader_read_62c, g0, ed, cl, n1, ai_ai_at, ai_aj_at, ai_aq_at, ai_si_at, ai_sj_at, ai_sq_at, ai_cy_at, ai_al_at, ai_na_0, ai_na_1, ai_na_2, ai_na_3, ai_rc_at, ai_th_v, ai_th_n, ai_th_z, ai_sw, ai_nl_i, ai_nl_r, ai_nl_l, ai_nl_n, nI_clamp, nI_add, pk_mul, pk_sub, az_e0, az_l0, az_g0, az_p0, az_q0, az_eq, az_lt, az_le, az_m1, az_m2, az_m3, az_m4, az_m5, az_m6, az_m7, az_m8, az_dec, az_bd, az_b0, az_bt, az_bf, dn_leT, dn_leF, dn_ltT, dn_ltF, dn_eqT, dn_eqF, ↓reduceIte, if_true, if_false, not_true_eq_false, not_false_eq_true, true_and, and_true, false_and, and_false, true_or, or_true, false_or, or_false, Nat.reduceAdd, Nat.reduceMul, Nat.reduceSub, Nat.reduceLT, Nat.reduceLeDiff, Nat.reduceEqDiff, Nat.add_zero, Nat.zero_add, ne_eq, reduceCtorEq, decide_true, decide_false, Bool.true_eq_false, Bool.false_eq_true, Classical.not_not]
  | some m =>
    rw [nx_s h1] at n1
    have hm := hb m (List.mem_of_getElem? h1)
    by_cases h68 : m = 68
    · subst h68
      have e0 : ai_ev none 110 0 [some (.ref R), some (.ref d), none, none] [] (zw (dw w d X c) R t (nI 0)) = ai_ev none 110 17 [some (.ref R), some (.ref d), some (.int (nI ([] : List op).length)), none] [] (zw (dw w d X (nI ([] : List op).length)) R t (nI (eb []).length)) := by
        have z1 : ([] : List op).length = 0 := rfl
        have z2 : (eb []).length = 1 := rfl
        rw [z1, z2]
        simp (disch := omega) only [eReader_read_0, eReader_read_1, eReader_read_4, eReader_read_5, eReader_read_8, eReader_read_10, eReader_read_13, eReader_read_14a, eReader_read_14b, eReader_read_14c, eReader_read_15, eReader_read_16, eReader_read_18, eReader_read_20, eReader_read_23, eReader_read_24, eReader_read_27, eReader_read_28, eReader_read_29, eReader_read_32, eReader_read_33, eReader_read_36a, eReader_read_36b, eReader_read_36c, eReader_read_37, eReader_read_38, eReader_read_39, eReader_read_40, eReader_read_43, eReader_read_46, eReader_read_47, eReader_read_50, eReader_read_53, eReader_read_54a, eReader_read_54b, eReader_read_54c, eReader_read_55, eReader_read_58, eReader_read_61, eReader_read_62a, eReader_read_62b, eReader_read_62c, g0, ed, cl, n1, ai_ai_at, ai_aj_at, ai_aq_at, ai_si_at, ai_sj_at, ai_sq_at, ai_cy_at, ai_al_at, ai_na_0, ai_na_1, ai_na_2, ai_na_3, ai_rc_at, ai_th_v, ai_th_n, ai_th_z, ai_sw, ai_nl_i, ai_nl_r, ai_nl_l, ai_nl_n, nI_clamp, nI_add, pk_mul, pk_sub, az_e0, az_l0, az_g0, az_p0, az_q0, az_eq, az_lt, az_le, az_m1, az_m2, az_m3, az_m4, az_m5, az_m6, az_m7, az_m8, az_dec, az_bd, az_b0, az_bt, az_bf, dn_leT, dn_leF, dn_ltT, dn_ltF, dn_eqT, dn_eqF, ↓reduceIte, if_true, if_false, not_true_eq_false, not_false_eq_true, true_and, and_true, false_and, and_false, true_or, or_true, false_or, or_false, Nat.reduceAdd, Nat.reduceMul, Nat.reduceSub, Nat.reduceLT, Nat.reduceLeDiff, Nat.reduceEqDiff, Nat.add_zero, Nat.zero_add, ne_eq, reduceCtorEq, decide_true, decide_false, Bool.true_eq_false, Bool.false_eq_true, Classical.not_not]
      rw [e0]
      refine s_readL hRt hRd hdt hl hb hp hT 127 [] X none (by simp) ⟨by simp, fun q hq => absurd hq List.not_mem_nil, List.Pairwise.nil, fun p q hp => absurd hp List.not_mem_nil⟩ (fun k q hq => by simp at hq) ?_
      have := dr_s h1
      rw [List.drop_zero] at this
      exact this
    · refine Or.inr ⟨neg0 (by rw [h1]; exact fun z => h68 (Option.some.inj z)), X, nI 0, nI (0 + 1), ?_⟩
      simp (disch := omega) only [eReader_read_0, eReader_read_1, eReader_read_4, eReader_read_5, eReader_read_8, eReader_read_10, eReader_read_13, eReader_read_14a, eReader_read_14b, eReader_read_14c, eReader_read_15, eReader_read_16, eReader_read_18, eReader_read_20, eReader_read_23, eReader_read_24, eReader_read_27, eReader_read_28, eReader_read_29, eReader_read_32, eReader_read_33, eReader_read_36a, eReader_read_36b, eReader_read_36c, eReader_read_37, eReader_read_38, eReader_read_39, eReader_read_40, eReader_read_43, eReader_read_46, eReader_read_47, eReader_read_50, eReader_read_53, eReader_read_54a, eReader_read_54b, eReader_read_54c, eReader_read_55, eReader_read_58, eReader_read_61, eReader_read_62a, eReader_read_62b, eReader_read_62c, g0, ed, cl, n1, h68, ai_ai_at, ai_aj_at, ai_aq_at, ai_si_at, ai_sj_at, ai_sq_at, ai_cy_at, ai_al_at, ai_na_0, ai_na_1, ai_na_2, ai_na_3, ai_rc_at, ai_th_v, ai_th_n, ai_th_z, ai_sw, ai_nl_i, ai_nl_r, ai_nl_l, ai_nl_n, nI_clamp, nI_add, pk_mul, pk_sub, az_e0, az_l0, az_g0, az_p0, az_q0, az_eq, az_lt, az_le, az_m1, az_m2, az_m3, az_m4, az_m5, az_m6, az_m7, az_m8, az_dec, az_bd, az_b0, az_bt, az_bf, dn_leT, dn_leF, dn_ltT, dn_ltF, dn_eqT, dn_eqF, ↓reduceIte, if_true, if_false, not_true_eq_false, not_false_eq_true, true_and, and_true, false_and, and_false, true_or, or_true, false_or, or_false, Nat.reduceAdd, Nat.reduceMul, Nat.reduceSub, Nat.reduceLT, Nat.reduceLeDiff, Nat.reduceEqDiff, Nat.add_zero, Nat.zero_add, ne_eq, reduceCtorEq, decide_true, decide_false, Bool.true_eq_false, Bool.false_eq_true, Classical.not_not]
end RD
