theorem vb_lt : ∀ (c u : Nat), u < 128 ^ (c + 1) → ∀ b, b ∈ vb c u → b < 256
  | 0, u, h, b, hb => by
    have : b = u := by simpa [vb] using hb
    omega
  | c + 1, u, h, b, hb => by
    unfold vb at hb
    by_cases h1 : u < 128
    · rw [if_pos h1] at hb
      have : b = u := by simpa using hb
      omega
    · rw [if_neg h1] at hb
      rcases List.mem_cons.mp hb with h2 | h2
      · omega
      · refine vb_lt c (u / 128) ?_ b h2
        rw [Nat.pow_succ] at h
        exact Nat.div_lt_of_lt_mul (by rw [Nat.mul_comm]; exact h)
theorem vbs_lt {l : List Int32} {b : Nat} (h : b ∈ vbs l) : b < 256 := by
  unfold vbs at h
  obtain ⟨x, h1, h2⟩ := List.mem_flatten.mp h
  obtain ⟨v, _, rfl⟩ := List.mem_map.mp h1
  have hz := zig_lt v
  exact vb_lt 4 (zig v) (by omega) b h2
theorem obytes_lt {q : op} (hq : ov q) {b : Nat} (h : b ∈ obytes q) : b < 256 := by
  obtain ⟨o1, o2, o3, o4, o5, o6⟩ := q
  have ho : o2 < 16 := hq.1
  unfold obytes cont at h
  dsimp only at h
  rcases hq.2 with ⟨z, _, z1, _⟩ | ⟨z, z1, _, z2⟩ | ⟨z, z1, z2, _⟩
  · have z : o1 = 1 := z
    have z1 : o3 ≤ 1 := z1
    subst z
    rw [if_neg (by decide), if_neg (by decide)] at h
    simp only [List.mem_cons, List.not_mem_nil, or_false] at h
    omega
  · have z : o1 = 2 := z
    have z1 : o3 ≤ 2 := z1
    subst z
    rw [if_pos rfl] at h
    simp only [List.mem_cons] at h
    rcases h with h | h | h | h | h
    · omega
    · omega
    · omega
    · rcases z2 with ⟨z2, _⟩ | z2 | ⟨z2, _⟩
      · have z2 : o4 = 0 := z2
        omega
      · have z2 : o4 = 1 := z2
        omega
      · have z2 : o4 = 2 := z2
        omega
    · rcases z2 with ⟨z2, _⟩ | z2 | ⟨z2, p, hp, z3⟩
      · have z2 : o4 = 0 := z2
        subst z2
        rw [if_neg (by decide), if_neg (by decide)] at h
        exact absurd h List.not_mem_nil
      · have z2 : o4 = 1 := z2
        subst z2
        rw [if_pos rfl] at h
        have hz := zig_lt o5
        exact vb_lt 4 (zig o5) (by omega) b h
      · have z2 : o4 = 2 := z2
        have z3 : o5 = nI p := z3
        subst z2
        subst z3
        rw [if_neg (by decide), if_pos rfl, nI_clamp (by omega)] at h
        have : b = p := by simpa using h
        omega
  · have z : o1 = 3 := z
    have z1 : o3 + o4 ≤ 6 := z1
    have z2 : o6.length ≤ 6 := z2
    subst z
    rw [if_neg (by decide), if_pos rfl] at h
    simp only [List.mem_cons] at h
    rcases h with h | h | h | h | h | h
    · omega
    · omega
    · omega
    · omega
    · omega
    · exact vbs_lt h
theorem eb_lt {l : List op} (hl : ∀ q, q ∈ l → ov q) {b : Nat} (h : b ∈ eb l) : b < 256 := by
  unfold eb at h
  rcases List.mem_cons.mp h with h | h
  · omega
  · obtain ⟨x, h1, h2⟩ := List.mem_flatten.mp h
    obtain ⟨q, h3, rfl⟩ := List.mem_map.mp h1
    exact obytes_lt (hl q h3) h2
def sm (bs : List Nat) : Nat := bs.sum % 256
theorem sm_lt (bs : List Nat) : sm bs < 256 := Nat.mod_lt _ (by decide)
theorem sm_step {bs : List Nat} {i x : Nat} (h : bs[i]? = some x) : (sm (bs.take i) + x) % 256 = sm (bs.take (i + 1)) := by
  have e : bs.take (i + 1) = bs.take i ++ [x] := by
    rw [List.take_succ, h]
    rfl
  rw [e, sm, sm, List.sum_append, List.sum_singleton]
  omega
theorem and255 {a : Nat} (h : a < 2 ^ 32) : nI a &&& nI 255 = nI (a % 256) := pk_andN h 8 (by decide +kernel)
theorem s_sum {w : ai_W} {t : Nat} {T : Nat → Int32} {bs : List Nat} (n : Nat) (hb : ∀ b, b ∈ bs → b < 256) (hl : bs.length ≤ 1200) (hn : n ≤ bs.length) (hp : pre T bs) (h : tw w t T (nI bs.length) = w) : ai_ev none 65 0 [some (.ref t), some (.int (nI n)), none, none] [] w = some (some (.int (nI (sm (bs.take n)))), w) := by
  have e := tw_at h
  have e1 := tw_at1 h
  have e0 : ai_ev none 65 0 [some (.ref t), some (.int (nI n)), none, none] [] w = ai_ev none 65 4 [some (.ref t), some (.int (nI n)), some (.int (nI (sm (bs.take 0)))), some (.int (nI 0))] [] w := by
    rw [show sm (bs.take 0) = 0 by rw [List.take_zero]; rfl]
    simp (disch := omega) only [eDraft_sum_0, eDraft_sum_1, eDraft_sum_2, eDraft_sum_3, eDraft_sum_5, eDraft_sum_6, eDraft_sum_9, eDraft_sum_10, eDraft_sum_11, eDraft_sum_14, eDraft_sum_17, eDraft_sum_18, eDraft_sum_19, eDraft_sum_22, eDraft_sum_23, eDraft_sum_24, eDraft_sum_25, eDraft_sum_28, eDraft_sum_29, eDraft_sum_30, eDraft_sum_33, eDraft_sum_36, eDraft_sum_37, ai_ai_at, ai_aj_at, ai_aq_at, ai_si_at, ai_sj_at, ai_sq_at, ai_cy_at, ai_al_at, ai_na_0, ai_na_1, ai_na_2, ai_na_3, ai_rc_at, ai_th_v, ai_th_n, ai_th_z, ai_sw, ai_nl_i, ai_nl_r, ai_nl_l, ai_nl_n, nI_clamp, nI_add, pk_mul, pk_sub, az_e0, az_l0, az_g0, az_p0, az_q0, az_eq, az_lt, az_le, az_m1, az_m2, az_m3, az_m4, az_m5, az_m6, az_m7, az_m8, az_dec, az_bd, az_b0, az_bt, az_bf, dn_leT, dn_leF, dn_ltT, dn_ltF, dn_eqT, dn_eqF, ↓reduceIte, if_true, if_false, not_true_eq_false, not_false_eq_true, true_and, and_true, false_and, and_false, true_or, or_true, false_or, or_false, Nat.reduceAdd, Nat.reduceMul, Nat.reduceSub, Nat.reduceLT, Nat.reduceLeDiff, Nat.reduceEqDiff, Nat.add_zero, Nat.zero_add, ne_eq, reduceCtorEq, decide_true, decide_false, Bool.true_eq_false, Bool.false_eq_true, Classical.not_not]
  have hlp := ai_loop (fun i => ai_ev none 65 4 [some (.ref t), some (.int (nI n)), some (.int (nI (sm (bs.take i)))), some (.int (nI i))] [] w) n (fun i hi => by
    have hx : bs[i]? = some (bs[i]'(by omega)) := List.getElem?_eq_getElem (by omega)
    have hs := sm_step hx
    have hv := hp i _ hx
    have hlt := hb _ (List.mem_of_getElem? hx)
    have hsl := sm_lt (bs.take i)
    generalize (bs[i]'(by omega)) = x at hx hs hv hlt
    refine eDraft_sum_4.trans ?_
    simp (disch := omega) only [eDraft_sum_0, eDraft_sum_1, eDraft_sum_2, eDraft_sum_3, eDraft_sum_5, eDraft_sum_6, eDraft_sum_9, eDraft_sum_10, eDraft_sum_11, eDraft_sum_14, eDraft_sum_17, eDraft_sum_18, eDraft_sum_19, eDraft_sum_22, eDraft_sum_23, eDraft_sum_24, eDraft_sum_25, eDraft_sum_28, eDraft_sum_29, eDraft_sum_30, eDraft_sum_33, eDraft_sum_36, eDraft_sum_37, e, e1, hv, and255, hs, ai_ai_at, ai_aj_at, ai_aq_at, ai_si_at, ai_sj_at, ai_sq_at, ai_cy_at, ai_al_at, ai_na_0, ai_na_1, ai_na_2, ai_na_3, ai_rc_at, ai_th_v, ai_th_n, ai_th_z, ai_sw, ai_nl_i, ai_nl_r, ai_nl_l, ai_nl_n, nI_clamp, nI_add, pk_mul, pk_sub, az_e0, az_l0, az_g0, az_p0, az_q0, az_eq, az_lt, az_le, az_m1, az_m2, az_m3, az_m4, az_m5, az_m6, az_m7, az_m8, az_dec, az_bd, az_b0, az_bt, az_bf, dn_leT, dn_leF, dn_ltT, dn_ltF, dn_eqT, dn_eqF, ↓reduceIte, if_true, if_false, not_true_eq_false, not_false_eq_true, true_and, and_true, false_and, and_false, true_or, or_true, false_or, or_false, Nat.reduceAdd, Nat.reduceMul, Nat.reduceSub, Nat.reduceLT, Nat.reduceLeDiff, Nat.reduceEqDiff, Nat.add_zero, Nat.zero_add, ne_eq, reduceCtorEq, decide_true, decide_false, Bool.true_eq_false, Bool.false_eq_true, Classical.not_not, gf_0_0, pf_0_0, gf_0_1, pf_0_1, gf_0_2, pf_0_2, gf_0_3, pf_0_3, gf_0_4, pf_0_4, gf_0_5, pf_0_5, gf_0_6, pf_0_6, gf_0_7, pf_0_7, gf_0_8, pf_0_8, gf_0_9, pf_0_9, gf_1_0, pf_1_0, gf_1_1, pf_1_1, gf_2_0, pf_2_0, gf_2_1, pf_2_1, gf_2_2, pf_2_2, gf_2_3, pf_2_3, gf_2_4, pf_2_4, gf_3_0, pf_3_0, gf_3_1, pf_3_1, gf_4_0, pf_4_0, gf_4_1, pf_4_1, gf_4_2, pf_4_2, gf_4_3, pf_4_3, gf_5_0, pf_5_0, gf_5_1, pf_5_1, gf_5_2, pf_5_2, gf_5_3, pf_5_3, gf_6_0, pf_6_0, gf_6_1, pf_6_1, gf_7_0, pf_7_0, gf_7_1, pf_7_1, gf_7_2, pf_7_2, gf_7_3, pf_7_3, gf_7_4, pf_7_4, gf_7_5, pf_7_5, gf_7_6, pf_7_6, gf_7_7, pf_7_7, gf_7_8, pf_7_8, gf_7_9, pf_7_9, gf_7_10, pf_7_10, gf_7_11, pf_7_11, gf_7_12, pf_7_12, gf_7_13, pf_7_13, gf_7_14, pf_7_14, gf_7_15, pf_7_15, gf_7_16, pf_7_16, gf_7_17, pf_7_17, gf_7_18, pf_7_18, gf_7_19, pf_7_19, gf_7_20, pf_7_20, gf_7_21, pf_7_21, gf_7_22, pf_7_22, gf_7_23, pf_7_23a, pf_7_23b])
  rw [e0]
  refine hlp.trans (eDraft_sum_4.trans ?_)
  simp (disch := omega) only [eDraft_sum_0, eDraft_sum_1, eDraft_sum_2, eDraft_sum_3, eDraft_sum_5, eDraft_sum_6, eDraft_sum_9, eDraft_sum_10, eDraft_sum_11, eDraft_sum_14, eDraft_sum_17, eDraft_sum_18, eDraft_sum_19, eDraft_sum_22, eDraft_sum_23, eDraft_sum_24, eDraft_sum_25, eDraft_sum_28, eDraft_sum_29, eDraft_sum_30, eDraft_sum_33, eDraft_sum_36, eDraft_sum_37, ai_ai_at, ai_aj_at, ai_aq_at, ai_si_at, ai_sj_at, ai_sq_at, ai_cy_at, ai_al_at, ai_na_0, ai_na_1, ai_na_2, ai_na_3, ai_rc_at, ai_th_v, ai_th_n, ai_th_z, ai_sw, ai_nl_i, ai_nl_r, ai_nl_l, ai_nl_n, nI_clamp, nI_add, pk_mul, pk_sub, az_e0, az_l0, az_g0, az_p0, az_q0, az_eq, az_lt, az_le, az_m1, az_m2, az_m3, az_m4, az_m5, az_m6, az_m7, az_m8, az_dec, az_bd, az_b0, az_bt, az_bf, dn_leT, dn_leF, dn_ltT, dn_ltF, dn_eqT, dn_eqF, ↓reduceIte, if_true, if_false, not_true_eq_false, not_false_eq_true, true_and, and_true, false_and, and_false, true_or, or_true, false_or, or_false, Nat.reduceAdd, Nat.reduceMul, Nat.reduceSub, Nat.reduceLT, Nat.reduceLeDiff, Nat.reduceEqDiff, Nat.add_zero, Nat.zero_add, ne_eq, reduceCtorEq, decide_true, decide_false, Bool.true_eq_false, Bool.false_eq_true, Classical.not_not]
def ef (l : List op) : List Nat := eb l ++ [0] ++ [sm (eb l ++ [0])]
theorem ef_len {l : List op} (hl : owf l) : (ef l).length ≤ 1200 := by
  have h1 := eb_len l hl.2.1
  have h2 := hl.2.2.2.2
  have h3 : (ef l).length = (eb l).length + 2 := by simp [ef]
  omega
theorem ef_lt {l : List op} (hl : owf l) {b : Nat} (h : b ∈ ef l) : b < 256 := by
  unfold ef at h
  rcases List.mem_append.mp h with h | h
  · rcases List.mem_append.mp h with h | h
    · exact eb_lt hl.2.1 h
    · have : b = 0 := by simpa using h
      omega
  · have : b = sm (eb l ++ [0]) := by simpa using h
    have := sm_lt (eb l ++ [0])
    omega
theorem s_write {w : ai_W} {t d : Nat} {X T : Nat → Int32} {c : Int32} {l : List op} (hdt : d + 1 < t ∨ t + 1 < d) (hl : owf l) (hr : ∀ k q, l[k]? = some q → crep X k q) (hd : dw w d X (nI l.length) = w) (h : tw w t T c = w) : ∃ T', ai_ev none 66 0 [some (.ref t), some (.ref d), none] [] w = some (none, tw w t T' (nI (ef l).length)) ∧ pre T' (ef l) := by
  have hl1 := hl.1
  have hlen := eb_len l hl.2.1
  have hbd := hl.2.2.2.2
  have dd : ∀ (T' : Nat → Int32) (x : Int32), dw (tw w t T' x) d X (nI l.length) = tw w t T' x := fun T' x => dw_fr hd (fun k _ _ => tw_go (by omega))
  have d0 : ∀ (T' : Nat → Int32) (x : Int32), (tw w t T' x).2.2 d = .inr (1, [.ref (d + 1), .int (nI l.length)]) := fun T' x => dw_at (dd T' x)
  have t0 : ∀ (T' : Nat → Int32) (x : Int32), (tw w t T' x).2.2 t = .inr (3, [.ref (t + 1), .int x]) := fun T' x => tw_g0
  have S0 : ∀ (T' : Nat → Int32) (x : Int32), ai_ev none 46 0 [some (.ref d)] [] (tw w t T' x) = some (some (.int (nI l.length)), tw w t T' x) := fun T' x => s_dsize (dd T' x)
  have st : ∀ i, i ≤ l.length → ∃ T', ai_ev none 66 0 [some (.ref t), some (.ref d), none] [] w = ai_ev none 66 13 [some (.ref t), some (.ref d), some (.int (nI i))] [] (tw w t T' (nI (eb (l.take i)).length)) ∧ pre T' (eb (l.take i)) := by
    intro i
    induction i with
    | zero =>
      intro _
      obtain ⟨T1, a1, a2⟩ := s_tput (w := tw w t T (nI ([] : List Nat).length)) (b := 68) (by decide) (pre_nil (T := T)) tw_w
      rw [tw_w] at a1
      refine ⟨T1, ?_, a2⟩
      rw [show eb (l.take 0) = [] ++ [68] by rw [List.take_zero]; rfl]
      rw [show nI ([] : List Nat).length = nI 0 from rfl] at a1
      conv => lhs; rw [← h]
      simp (disch := omega) only [eDraft_write_0, eDraft_write_1, eDraft_write_2, eDraft_write_5, eDraft_write_6, eDraft_write_8, eDraft_write_11, eDraft_write_12, eDraft_write_14, eDraft_write_15, eDraft_write_18, eDraft_write_21, eDraft_write_22, eDraft_write_23, eDraft_write_24, eDraft_write_27, eDraft_write_30, eDraft_write_31, eDraft_write_32, eDraft_write_33, eDraft_write_36, eDraft_write_39, eDraft_write_40, eDraft_write_41, eDraft_write_42, eDraft_write_45, eDraft_write_48, eDraft_write_49, eDraft_write_50, eDraft_write_53, eDraft_write_54, eDraft_write_57, eDraft_write_58, eDraft_write_59, eDraft_write_60, eDraft_write_63, eDraft_write_66, eDraft_write_67, eDraft_write_68, eDraft_write_71, eDraft_write_72, eDraft_write_75, eDraft_write_76, eDraft_write_77, eDraft_write_78, eDraft_write_81, eDraft_write_84, eDraft_write_87, eDraft_write_88, eDraft_write_89, eDraft_write_92, eDraft_write_93, eDraft_write_94, eDraft_write_95, eDraft_write_98, eDraft_write_101, eDraft_write_104, t0, a1, tw_w, ai_ai_at, ai_aj_at, ai_aq_at, ai_si_at, ai_sj_at, ai_sq_at, ai_cy_at, ai_al_at, ai_na_0, ai_na_1, ai_na_2, ai_na_3, ai_rc_at, ai_th_v, ai_th_n, ai_th_z, ai_sw, ai_nl_i, ai_nl_r, ai_nl_l, ai_nl_n, nI_clamp, nI_add, pk_mul, pk_sub, az_e0, az_l0, az_g0, az_p0, az_q0, az_eq, az_lt, az_le, az_m1, az_m2, az_m3, az_m4, az_m5, az_m6, az_m7, az_m8, az_dec, az_bd, az_b0, az_bt, az_bf, dn_leT, dn_leF, dn_ltT, dn_ltF, dn_eqT, dn_eqF, ↓reduceIte, if_true, if_false, not_true_eq_false, not_false_eq_true, true_and, and_true, false_and, and_false, true_or, or_true, false_or, or_false, Nat.reduceAdd, Nat.reduceMul, Nat.reduceSub, Nat.reduceLT, Nat.reduceLeDiff, Nat.reduceEqDiff, Nat.add_zero, Nat.zero_add, ne_eq, reduceCtorEq, decide_true, decide_false, Bool.true_eq_false, Bool.false_eq_true, Classical.not_not, gf_0_0, pf_0_0, gf_0_1, pf_0_1, gf_0_2, pf_0_2, gf_0_3, pf_0_3, gf_0_4, pf_0_4, gf_0_5, pf_0_5, gf_0_6, pf_0_6, gf_0_7, pf_0_7, gf_0_8, pf_0_8, gf_0_9, pf_0_9, gf_1_0, pf_1_0, gf_1_1, pf_1_1, gf_2_0, pf_2_0, gf_2_1, pf_2_1, gf_2_2, pf_2_2, gf_2_3, pf_2_3, gf_2_4, pf_2_4, gf_3_0, pf_3_0, gf_3_1, pf_3_1, gf_4_0, pf_4_0, gf_4_1, pf_4_1, gf_4_2, pf_4_2, gf_4_3, pf_4_3, gf_5_0, pf_5_0, gf_5_1, pf_5_1, gf_5_2, pf_5_2, gf_5_3, pf_5_3, gf_6_0, pf_6_0, gf_6_1, pf_6_1, gf_7_0, pf_7_0, gf_7_1, pf_7_1, gf_7_2, pf_7_2, gf_7_3, pf_7_3, gf_7_4, pf_7_4, gf_7_5, pf_7_5, gf_7_6, pf_7_6, gf_7_7, pf_7_7, gf_7_8, pf_7_8, gf_7_9, pf_7_9, gf_7_10, pf_7_10, gf_7_11, pf_7_11, gf_7_12, pf_7_12, gf_7_13, pf_7_13, gf_7_14, pf_7_14, gf_7_15, pf_7_15, gf_7_16, pf_7_16, gf_7_17, pf_7_17, gf_7_18, pf_7_18, gf_7_19, pf_7_19, gf_7_20, pf_7_20, gf_7_21, pf_7_21, gf_7_22, pf_7_22, gf_7_23, pf_7_23a, pf_7_23b, tw_1, tw_2, tw_g0, tw_g1, tw_go, tw_p0, tw_p1, tw_w]
    | succ i ih =>
      intro hi
      obtain ⟨T1, a1, a2⟩ := ih (by omega)
      have hx : l[i]? = some (l[i]'(by omega)) := List.getElem?_eq_getElem (by omega)
      have hle := eb_le hl hx
      obtain ⟨T2, b1, b2⟩ := s_wop (w := tw w t T1 (nI (eb (l.take i)).length)) hdt hl1 hi (hl.2.1 _ (List.mem_of_getElem? hx)) (hr i _ hx) (by omega) a2 (dd T1 _) tw_w
      rw [tw_w] at b1
      rw [eb_snoc hx]
      exact ⟨T2, a1.trans b1, b2⟩
  obtain ⟨T1, a1, a2⟩ := st l.length (Nat.le_refl _)
  rw [List.take_of_length_le (Nat.le_refl _)] at a1 a2
  obtain ⟨T2, b1, b2⟩ := s_tput (w := tw w t T1 (nI (eb l).length)) (b := 0) (by omega) a2 tw_w
  rw [tw_w] at b1
  have hl2 : (eb l ++ [0]).length = (eb l).length + 1 := by simp
  have hsum := s_sum (w := tw w t T2 (nI (eb l ++ [0]).length)) (eb l ++ [0]).length (fun b hb => by
    rcases List.mem_append.mp hb with hb | hb
    · exact eb_lt hl.2.1 hb
    · have : b = 0 := by simpa using hb
      omega) (by omega) (Nat.le_refl _) b2 tw_w
  rw [List.take_of_length_le (Nat.le_refl _)] at hsum
  obtain ⟨T3, f1, f2⟩ := s_tput (w := tw w t T2 (nI (eb l ++ [0]).length)) (b := sm (eb l ++ [0])) (by omega) b2 tw_w
  rw [tw_w] at f1
  refine ⟨T3, ?_, f2⟩
  rw [a1]
  refine eDraft_write_13.trans ?_
  have hfin : (ef l).length = (eb l ++ [0] ++ [sm (eb l ++ [0])]).length := rfl
  rw [hfin]
  simp (disch := omega) only [eDraft_write_0, eDraft_write_1, eDraft_write_2, eDraft_write_5, eDraft_write_6, eDraft_write_8, eDraft_write_11, eDraft_write_12, eDraft_write_14, eDraft_write_15, eDraft_write_18, eDraft_write_21, eDraft_write_22, eDraft_write_23, eDraft_write_24, eDraft_write_27, eDraft_write_30, eDraft_write_31, eDraft_write_32, eDraft_write_33, eDraft_write_36, eDraft_write_39, eDraft_write_40, eDraft_write_41, eDraft_write_42, eDraft_write_45, eDraft_write_48, eDraft_write_49, eDraft_write_50, eDraft_write_53, eDraft_write_54, eDraft_write_57, eDraft_write_58, eDraft_write_59, eDraft_write_60, eDraft_write_63, eDraft_write_66, eDraft_write_67, eDraft_write_68, eDraft_write_71, eDraft_write_72, eDraft_write_75, eDraft_write_76, eDraft_write_77, eDraft_write_78, eDraft_write_81, eDraft_write_84, eDraft_write_87, eDraft_write_88, eDraft_write_89, eDraft_write_92, eDraft_write_93, eDraft_write_94, eDraft_write_95, eDraft_write_98, eDraft_write_101, eDraft_write_104, d0, t0, S0, b1, hsum, f1, ai_ai_at, ai_aj_at, ai_aq_at, ai_si_at, ai_sj_at, ai_sq_at, ai_cy_at, ai_al_at, ai_na_0, ai_na_1, ai_na_2, ai_na_3, ai_rc_at, ai_th_v, ai_th_n, ai_th_z, ai_sw, ai_nl_i, ai_nl_r, ai_nl_l, ai_nl_n, nI_clamp, nI_add, pk_mul, pk_sub, az_e0, az_l0, az_g0, az_p0, az_q0, az_eq, az_lt, az_le, az_m1, az_m2, az_m3, az_m4, az_m5, az_m6, az_m7, az_m8, az_dec, az_bd, az_b0, az_bt, az_bf, dn_leT, dn_leF, dn_ltT, dn_ltF, dn_eqT, dn_eqF, ↓reduceIte, if_true, if_false, not_true_eq_false, not_false_eq_true, true_and, and_true, false_and, and_false, true_or, or_true, false_or, or_false, Nat.reduceAdd, Nat.reduceMul, Nat.reduceSub, Nat.reduceLT, Nat.reduceLeDiff, Nat.reduceEqDiff, Nat.add_zero, Nat.zero_add, ne_eq, reduceCtorEq, decide_true, decide_false, Bool.true_eq_false, Bool.false_eq_true, Classical.not_not, gf_0_0, pf_0_0, gf_0_1, pf_0_1, gf_0_2, pf_0_2, gf_0_3, pf_0_3, gf_0_4, pf_0_4, gf_0_5, pf_0_5, gf_0_6, pf_0_6, gf_0_7, pf_0_7, gf_0_8, pf_0_8, gf_0_9, pf_0_9, gf_1_0, pf_1_0, gf_1_1, pf_1_1, gf_2_0, pf_2_0, gf_2_1, pf_2_1, gf_2_2, pf_2_2, gf_2_3, pf_2_3, gf_2_4, pf_2_4, gf_3_0, pf_3_0, gf_3_1, pf_3_1, gf_4_0, pf_4_0, gf_4_1, pf_4_1, gf_4_2, pf_4_2, gf_4_3, pf_4_3, gf_5_0, pf_5_0, gf_5_1, pf_5_1, gf_5_2, pf_5_2, gf_5_3, pf_5_3, gf_6_0, pf_6_0, gf_6_1, pf_6_1, gf_7_0, pf_7_0, gf_7_1, pf_7_1, gf_7_2, pf_7_2, gf_7_3, pf_7_3, gf_7_4, pf_7_4, gf_7_5, pf_7_5, gf_7_6, pf_7_6, gf_7_7, pf_7_7, gf_7_8, pf_7_8, gf_7_9, pf_7_9, gf_7_10, pf_7_10, gf_7_11, pf_7_11, gf_7_12, pf_7_12, gf_7_13, pf_7_13, gf_7_14, pf_7_14, gf_7_15, pf_7_15, gf_7_16, pf_7_16, gf_7_17, pf_7_17, gf_7_18, pf_7_18, gf_7_19, pf_7_19, gf_7_20, pf_7_20, gf_7_21, pf_7_21, gf_7_22, pf_7_22, gf_7_23, pf_7_23a, pf_7_23b, tw_1, tw_2, tw_g0, tw_g1, tw_go, tw_p0, tw_p1, tw_w]
