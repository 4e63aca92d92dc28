def zw (w : ai_W) (R t : Nat) (x : Int32) : ai_W := ai_put w R (.inr (6, [.ref t, .int x]))
theorem zw_g0 {w : ai_W} {R t : Nat} {x : Int32} : (zw w R t x).2.2 R = .inr (6, [.ref t, .int x]) := if_pos rfl
theorem zw_go {w : ai_W} {R t k : Nat} {x : Int32} (h : ¬ k = R) : (zw w R t x).2.2 k = w.2.2 k := if_neg h
theorem zw_p0 {w : ai_W} {R t : Nat} {x y : Int32} : ai_put (zw w R t x) R (.inr (6, [.ref t, .int y])) = zw w R t y := aw_pp
theorem zw_d {w : ai_W} {R t d : Nat} {x n : Int32} {X : Nat → Int32} (h1 : ¬ R = d) (h2 : ¬ R = d + 1) : dw (zw w R t x) d X n = zw (dw w d X n) R t x := by
  refine aw_ext rfl rfl (fun k => ?_)
  by_cases hk : k = R
  · subst hk
    rw [dw_go (by omega), zw_g0, zw_g0]
  · rw [zw_go hk]
    by_cases h3 : k = d
    · subst h3
      rw [dw_g0, dw_g0]
    · by_cases h4 : k = d + 1
      · subst h4
        rw [dw_g1, dw_g1]
      · rw [dw_go (by omega), dw_go (by omega), zw_go hk]
def nx (bs : List Nat) (a : Nat) : Int32 :=
  match bs[a]? with
  | some b => nI b
  | none => -1
theorem nx_s {bs : List Nat} {a b : Nat} (h : bs[a]? = some b) : nx bs a = nI b := by
  unfold nx
  rw [h]
theorem nx_n {bs : List Nat} {a : Nat} (h : bs[a]? = none) : nx bs a = -1 := by
  unfold nx
  rw [h]
theorem dr_s {bs : List Nat} {a b : Nat} (h : bs[a]? = some b) : bs.drop a = b :: bs.drop (a + 1) := by
  obtain ⟨h1, h2⟩ := List.getElem?_eq_some_iff.mp h
  rw [List.drop_eq_getElem_cons h1, h2]
theorem dr_n {bs : List Nat} {a : Nat} (h : bs[a]? = none) : bs.drop a = [] := List.drop_of_length_le (List.getElem?_eq_none_iff.mp h)
theorem and127 {a : Nat} (h : a < 2 ^ 32) : nI a &&& nI 127 = nI (a % 128) := pk_andN h 7 (by decide +kernel)
theorem sh7 : ∀ i, i < 5 → (((lN (7 * i) &&& 63).toBitVec.smod 64).toNat) = 7 * i := by decide +kernel
theorem lN_tn {n : Nat} (h : n < 2 ^ 64) : (lN n).toBitVec.toNat = n := Nat.mod_eq_of_lt h
theorem lN_shl {y i : Nat} (hi : i < 5) (hy : y < 128) : lN y <<< (lN (7 * i) &&& 63) = lN (y * 2 ^ (7 * i)) := by
  have h28 : 2 ^ (7 * i) ≤ 2 ^ 28 := Nat.pow_le_pow_right (by decide) (by omega)
  have hm : y * 2 ^ (7 * i) ≤ 127 * 2 ^ 28 := Nat.mul_le_mul (by omega) h28
  apply Int64.toBitVec_inj.mp
  apply BitVec.eq_of_toNat_eq
  show ((lN y).toBitVec <<< (((lN (7 * i) &&& 63).toBitVec.smod 64).toNat)).toNat = _
  rw [sh7 i hi, BitVec.toNat_shiftLeft, lN_tn (by omega), lN_tn (by omega), Nat.shiftLeft_eq, Nat.mod_eq_of_lt (by omega)]
theorem lN_or {U y i : Nat} (hi : i < 5) (hy : y < 128) (hU : U < 2 ^ (7 * i)) : lN U ||| lN (y * 2 ^ (7 * i)) = lN (U + y * 2 ^ (7 * i)) := by
  have h28 : 2 ^ (7 * i) ≤ 2 ^ 28 := Nat.pow_le_pow_right (by decide) (by omega)
  have hm : y * 2 ^ (7 * i) ≤ 127 * 2 ^ 28 := Nat.mul_le_mul (by omega) h28
  apply Int64.toBitVec_inj.mp
  apply BitVec.eq_of_toNat_eq
  rw [Int64.toBitVec_or, BitVec.toNat_or, lN_tn (by omega), lN_tn (by omega), lN_tn (by omega)]
  have := Nat.two_pow_add_eq_or_of_lt hU y
  rw [Nat.or_comm, Nat.mul_comm y, ← this]
  omega
theorem lN_and1 {u : Nat} (h : u < 2 ^ 63) : lN u &&& 1 = lN (u % 2) := by
  apply Int64.toBitVec_inj.mp
  apply BitVec.eq_of_toNat_eq
  have e3 : (1 : Int64).toBitVec.toNat = 2 ^ 1 - 1 := by decide
  rw [Int64.toBitVec_and, BitVec.toNat_and, lN_tn (by omega), lN_tn (by omega), e3, Nat.and_two_pow_sub_one_eq_mod]
theorem lN_shr1 {u : Nat} (h : u < 2 ^ 63) : lN u >>> ((nI 1).toInt64 &&& 63) = lN (u / 2) := by
  apply Int64.toInt_inj.mp
  show ((lN u).toBitVec.sshiftRight ((((nI 1).toInt64 &&& 63).toBitVec.smod 64).toNat)).toInt = _
  rw [show ((((nI 1).toInt64 &&& 63).toBitVec.smod 64).toNat) = 1 by decide +kernel, BitVec.toInt_sshiftRight]
  show (lN u).toInt >>> 1 = _
  rw [pk_lT h, pk_lT (by omega), Int.shiftRight_eq_div_pow]
  rfl
theorem zag_l {u : Nat} (h : u < 2 ^ 32) : (zag u).toInt64 = if u % 2 = 0 then lN (u / 2) else -lN ((u + 1) / 2) := by
  apply Int64.toInt_inj.mp
  rw [Int32.toInt_toInt64, zag_i h]
  by_cases h2 : u % 2 = 0
  · rw [if_pos h2, if_pos h2, pk_lT (by omega)]
  · rw [if_neg h2, if_neg h2, Int64.toInt_neg, pk_lT (by omega), Int.bmod_eq_of_le (by omega) (by omega)]
theorem s_signed {w : ai_W} {u : Nat} (h : u < 2 ^ 32) : ai_ev none 117 0 [some (.long (lN u)), none] [] w = some (some (.long (zag u).toInt64), w) := by
  have k1 : (1 : Int64) = lN 1 := rfl
  have k0 : (0 : Int64) = lN 0 := rfl
  rw [zag_l h]
  by_cases h2 : u % 2 = 0
  · rw [if_pos h2]
    have c1 : (lN u &&& 1 = 0) = True := by rw [lN_and1 (by omega), h2]; exact eq_true rfl
    have c2 := lN_shr1 (u := u) (by omega)
    simp (disch := omega) only [eReader_signed_0, eReader_signed_1, eReader_signed_2, eReader_signed_3, eReader_signed_4, eReader_signed_5, eReader_signed_8, eReader_signed_9, eReader_signed_10, eReader_signed_11, eReader_signed_14, eReader_signed_15, eReader_signed_16, eReader_signed_17, eReader_signed_18, eReader_signed_19, eReader_signed_20, lg_eq, c1, c2, ai_ai_at, ai_aj_at, ai_aq_at, ai_si_at, ai_sj_at, ai_sq_at, ai_cy_at, ai_al_at, ai_na_0, ai_na_1, ai_na_2, ai_na_3, ai_rc_at, ai_th_v, ai_th_n, ai_th_z, ai_sw, ai_nl_i, ai_nl_r, ai_nl_l, ai_nl_n, nI_clamp, nI_add, pk_mul, pk_sub, az_e0, az_l0, az_g0, az_p0, az_q0, az_eq, az_lt, az_le, az_m1, az_m2, az_m3, az_m4, az_m5, az_m6, az_m7, az_m8, az_dec, az_bd, az_b0, az_bt, az_bf, dn_leT, dn_leF, dn_ltT, dn_ltF, dn_eqT, dn_eqF, ↓reduceIte, if_true, if_false, not_true_eq_false, not_false_eq_true, true_and, and_true, false_and, and_false, true_or, or_true, false_or, or_false, Nat.reduceAdd, Nat.reduceMul, Nat.reduceSub, Nat.reduceLT, Nat.reduceLeDiff, Nat.reduceEqDiff, Nat.add_zero, Nat.zero_add, ne_eq, reduceCtorEq, decide_true, decide_false, Bool.true_eq_false, Bool.false_eq_true, Classical.not_not]
  · rw [if_neg h2]
    have c1 : (lN u &&& 1 = 0) = False := by
      rw [lN_and1 (by omega), show u % 2 = 1 by omega]
      exact eq_false (by decide)
    have c2 : (lN u + 1) >>> ((nI 1).toInt64 &&& 63) = lN ((u + 1) / 2) := by
      rw [k1, lN_add]
      exact lN_shr1 (by omega)
    simp (disch := omega) only [eReader_signed_0, eReader_signed_1, eReader_signed_2, eReader_signed_3, eReader_signed_4, eReader_signed_5, eReader_signed_8, eReader_signed_9, eReader_signed_10, eReader_signed_11, eReader_signed_14, eReader_signed_15, eReader_signed_16, eReader_signed_17, eReader_signed_18, eReader_signed_19, eReader_signed_20, lg_eq, c1, c2, ai_ai_at, ai_aj_at, ai_aq_at, ai_si_at, ai_sj_at, ai_sq_at, ai_cy_at, ai_al_at, ai_na_0, ai_na_1, ai_na_2, ai_na_3, ai_rc_at, ai_th_v, ai_th_n, ai_th_z, ai_sw, ai_nl_i, ai_nl_r, ai_nl_l, ai_nl_n, nI_clamp, nI_add, pk_mul, pk_sub, az_e0, az_l0, az_g0, az_p0, az_q0, az_eq, az_lt, az_le, az_m1, az_m2, az_m3, az_m4, az_m5, az_m6, az_m7, az_m8, az_dec, az_bd, az_b0, az_bt, az_bf, dn_leT, dn_leF, dn_ltT, dn_ltF, dn_eqT, dn_eqF, ↓reduceIte, if_true, if_false, not_true_eq_false, not_false_eq_true, true_and, and_true, false_and, and_false, true_or, or_true, false_or, or_false, Nat.reduceAdd, Nat.reduceMul, Nat.reduceSub, Nat.reduceLT, Nat.reduceLeDiff, Nat.reduceEqDiff, Nat.add_zero, Nat.zero_add, ne_eq, reduceCtorEq, decide_true, decide_false, Bool.true_eq_false, Bool.false_eq_true, Classical.not_not]
theorem i64_none {v : Int32} : (v.toInt64 = 1099511627776) = False := eq_false (fun h => by
  have h1 := Int32.toInt_lt v
  have h2 := congrArg Int64.toInt h
  rw [Int32.toInt_toInt64, show (1099511627776 : Int64).toInt = 1099511627776 by decide] at h2
  omega)
section RD
variable {W : ai_W} {R t : Nat} {T : Nat → Int32} {bs : List Nat}
theorem s_next {a : Nat} (ha : a < 2 ^ 30) (hR : R < t ∨ t + 1 < R) (hl : bs.length ≤ 1200) (hp : pre T bs) (hT : tw W t T (nI bs.length) = W) : ai_ev none 109 0 [some (.ref R), none] [] (zw W R t (nI a)) = some (some (.int (nx bs a)), zw W R t (nI (a + 1))) := by
  have hT2 : tw (zw W R t (nI a)) t T (nI bs.length) = zw W R t (nI a) := tw_fr hT (fun k _ _ => zw_go (by omega))
  have et := tw_at hT2
  have at' := s_tat (x := nI a) hl hT2
  have g0 : (zw W R t (nI a)).2.2 R = .inr (6, [.ref t, .int (nI a)]) := zw_g0
  have g1 : ai_put (zw W R t (nI a)) R (.inr (6, [.ref t, .int (nI (a + 1))])) = zw W R t (nI (a + 1)) := zw_p0
  rw [nI_clamp (by omega)] at at'
  cases h : bs[a]? with
  | none =>
    have hla := List.getElem?_eq_none_iff.mp h
    rw [nx_n h]
    rw [if_pos (Or.inr (nI_le hla (by omega)))] at at'
    simp (disch := omega) only [eReader_next_0, eReader_next_1, eReader_next_4, eReader_next_5, eReader_next_8, eReader_next_11, eReader_next_12, eReader_next_13, eReader_next_14, eReader_next_17, eReader_next_18, eReader_next_19, eReader_next_22, eReader_next_23, g0, et, at', g1, ai_ai_at, ai_aj_at, ai_aq_at, ai_si_at, ai_sj_at, ai_sq_at, ai_cy_at, ai_al_at, ai_na_0, ai_na_1, ai_na_2, ai_na_3, ai_rc_at, ai_th_v, ai_th_n, ai_th_z, ai_sw, ai_nl_i, ai_nl_r, ai_nl_l, ai_nl_n, nI_clamp, nI_add, pk_mul, pk_sub, az_e0, az_l0, az_g0, az_p0, az_q0, az_eq, az_lt, az_le, az_m1, az_m2, az_m3, az_m4, az_m5, az_m6, az_m7, az_m8, az_dec, az_bd, az_b0, az_bt, az_bf, dn_leT, dn_leF, dn_ltT, dn_ltF, dn_eqT, dn_eqF, ↓reduceIte, if_true, if_false, not_true_eq_false, not_false_eq_true, true_and, and_true, false_and, and_false, true_or, or_true, false_or, or_false, Nat.reduceAdd, Nat.reduceMul, Nat.reduceSub, Nat.reduceLT, Nat.reduceLeDiff, Nat.reduceEqDiff, Nat.add_zero, Nat.zero_add, ne_eq, reduceCtorEq, decide_true, decide_false, Bool.true_eq_false, Bool.false_eq_true, Classical.not_not, gf_0_0, pf_0_0, gf_0_1, pf_0_1, gf_0_2, pf_0_2, gf_0_3, pf_0_3, gf_0_4, pf_0_4, gf_0_5, pf_0_5, gf_0_6, pf_0_6, gf_0_7, pf_0_7, gf_0_8, pf_0_8, gf_0_9, pf_0_9, gf_1_0, pf_1_0, gf_1_1, pf_1_1, gf_2_0, pf_2_0, gf_2_1, pf_2_1, gf_2_2, pf_2_2, gf_2_3, pf_2_3, gf_2_4, pf_2_4, gf_3_0, pf_3_0, gf_3_1, pf_3_1, gf_4_0, pf_4_0, gf_4_1, pf_4_1, gf_4_2, pf_4_2, gf_4_3, pf_4_3, gf_5_0, pf_5_0, gf_5_1, pf_5_1, gf_5_2, pf_5_2, gf_5_3, pf_5_3, gf_6_0, pf_6_0, gf_6_1, pf_6_1, gf_7_0, pf_7_0, gf_7_1, pf_7_1, gf_7_2, pf_7_2, gf_7_3, pf_7_3, gf_7_4, pf_7_4, gf_7_5, pf_7_5, gf_7_6, pf_7_6, gf_7_7, pf_7_7, gf_7_8, pf_7_8, gf_7_9, pf_7_9, gf_7_10, pf_7_10, gf_7_11, pf_7_11, gf_7_12, pf_7_12, gf_7_13, pf_7_13, gf_7_14, pf_7_14, gf_7_15, pf_7_15, gf_7_16, pf_7_16, gf_7_17, pf_7_17, gf_7_18, pf_7_18, gf_7_19, pf_7_19, gf_7_20, pf_7_20, gf_7_21, pf_7_21, gf_7_22, pf_7_22, gf_7_23, pf_7_23a, pf_7_23b]
  | some b =>
    have hla := (List.getElem?_eq_some_iff.mp h).1
    rw [nx_s h]
    rw [if_neg (fun z => by
      rcases z with z | z
      · exact nI_pos (by omega) z
      · exact nI_ge hla (by omega) z), hp a b h] at at'
    simp (disch := omega) only [eReader_next_0, eReader_next_1, eReader_next_4, eReader_next_5, eReader_next_8, eReader_next_11, eReader_next_12, eReader_next_13, eReader_next_14, eReader_next_17, eReader_next_18, eReader_next_19, eReader_next_22, eReader_next_23, g0, et, at', g1, ai_ai_at, ai_aj_at, ai_aq_at, ai_si_at, ai_sj_at, ai_sq_at, ai_cy_at, ai_al_at, ai_na_0, ai_na_1, ai_na_2, ai_na_3, ai_rc_at, ai_th_v, ai_th_n, ai_th_z, ai_sw, ai_nl_i, ai_nl_r, ai_nl_l, ai_nl_n, nI_clamp, nI_add, pk_mul, pk_sub, az_e0, az_l0, az_g0, az_p0, az_q0, az_eq, az_lt, az_le, az_m1, az_m2, az_m3, az_m4, az_m5, az_m6, az_m7, az_m8, az_dec, az_bd, az_b0, az_bt, az_bf, dn_leT, dn_leF, dn_ltT, dn_ltF, dn_eqT, dn_eqF, ↓reduceIte, if_true, if_false, not_true_eq_false, not_false_eq_true, true_and, and_true, false_and, and_false, true_or, or_true, false_or, or_false, Nat.reduceAdd, Nat.reduceMul, Nat.reduceSub, Nat.reduceLT, Nat.reduceLeDiff, Nat.reduceEqDiff, Nat.add_zero, Nat.zero_add, ne_eq, reduceCtorEq, decide_true, decide_false, Bool.true_eq_false, Bool.false_eq_true, Classical.not_not, gf_0_0, pf_0_0, gf_0_1, pf_0_1, gf_0_2, pf_0_2, gf_0_3, pf_0_3, gf_0_4, pf_0_4, gf_0_5, pf_0_5, gf_0_6, pf_0_6, gf_0_7, pf_0_7, gf_0_8, pf_0_8, gf_0_9, pf_0_9, gf_1_0, pf_1_0, gf_1_1, pf_1_1, gf_2_0, pf_2_0, gf_2_1, pf_2_1, gf_2_2, pf_2_2, gf_2_3, pf_2_3, gf_2_4, pf_2_4, gf_3_0, pf_3_0, gf_3_1, pf_3_1, gf_4_0, pf_4_0, gf_4_1, pf_4_1, gf_4_2, pf_4_2, gf_4_3, pf_4_3, gf_5_0, pf_5_0, gf_5_1, pf_5_1, gf_5_2, pf_5_2, gf_5_3, pf_5_3, gf_6_0, pf_6_0, gf_6_1, pf_6_1, gf_7_0, pf_7_0, gf_7_1, pf_7_1, gf_7_2, pf_7_2, gf_7_3, pf_7_3, gf_7_4, pf_7_4, gf_7_5, pf_7_5, gf_7_6, pf_7_6, gf_7_7, pf_7_7, gf_7_8, pf_7_8, gf_7_9, pf_7_9, gf_7_10, pf_7_10, gf_7_11, pf_7_11, gf_7_12, pf_7_12, gf_7_13, pf_7_13, gf_7_14, pf_7_14, gf_7_15, pf_7_15, gf_7_16, pf_7_16, gf_7_17, pf_7_17, gf_7_18, pf_7_18, gf_7_19, pf_7_19, gf_7_20, pf_7_20, gf_7_21, pf_7_21, gf_7_22, pf_7_22, gf_7_23, pf_7_23a, pf_7_23b]
theorem p7 {i : Nat} : 128 ^ i = 2 ^ (7 * i) := by rw [Nat.pow_mul]
theorem s_rv1 (hR : R < t ∨ t + 1 < R) (hl : bs.length ≤ 1200) (hb : ∀ b, b ∈ bs → b < 256) (hp : pre T bs) (hT : tw W t T (nI bs.length) = W) : ∀ (c i U a : Nat) (l4 l5 : Option Value), c + i = 4 → U < 2 ^ (7 * i) → a + c < 2 ^ 29 →
  (∃ u r, bs.drop a = vb c u ++ r ∧ (i = 0 ∨ 0 < u) ∧ U + u * 2 ^ (7 * i) < 2 ^ 32 ∧ ai_ev none 116 4 [some (.ref R), some (.long (lN U)), none, some (.int (nI (7 * i))), l4, l5] [] (zw W R t (nI a)) = some (some (.long (zag (U + u * 2 ^ (7 * i))).toInt64), zw W R t (nI (a + (vb c u).length)))) ∨
  ((∀ u r, bs.drop a = vb c u ++ r → (i = 0 ∨ 0 < u) → ¬ U + u * 2 ^ (7 * i) < 2 ^ 32) ∧ ∃ x, ai_ev none 116 4 [some (.ref R), some (.long (lN U)), none, some (.int (nI (7 * i))), l4, l5] [] (zw W R t (nI a)) = some (some (.long 1099511627776), zw W R t x)) := by
  have g0 : ∀ x, (zw W R t x).2.2 R = .inr (6, [.ref t, .int x]) := fun x => zw_g0
  have kU : (4294967296 : Int64) = lN 4294967296 := rfl
  intro c
  induction c with
  | zero =>
    intro i U a l4 l5 hc hU ha
    have hi : i = 4 := by omega
    have h28 : 2 ^ (7 * i) = 2 ^ 28 := by rw [hi]
    have nxt := s_next (a := a) (by omega) hR hl hp hT
    cases h : bs[a]? with
    | none =>
      rw [nx_n h] at nxt
      refine Or.inr ⟨fun u r hd => ?_, nI (a + 1), ?_⟩
      · rw [dr_n h] at hd
        exact absurd hd (by simp [vb])
      · refine eReader_readVarint_4.trans ?_
        simp (disch := omega) only [eReader_readVarint_0, eReader_readVarint_1, eReader_readVarint_2, eReader_readVarint_3, eReader_readVarint_5, eReader_readVarint_7, eReader_readVarint_10, eReader_readVarint_11, eReader_readVarint_14, eReader_readVarint_16, eReader_readVarint_18, eReader_readVarint_21, eReader_readVarint_24, eReader_readVarint_25, eReader_readVarint_26, eReader_readVarint_28, eReader_readVarint_30, eReader_readVarint_31, eReader_readVarint_32, eReader_readVarint_33, eReader_readVarint_34, eReader_readVarint_35, eReader_readVarint_36, eReader_readVarint_38, eReader_readVarint_41, eReader_readVarint_44, eReader_readVarint_46, eReader_readVarint_49, eReader_readVarint_50, eReader_readVarint_53, eReader_readVarint_54, eReader_readVarint_57, eReader_readVarint_58, eReader_readVarint_60, eReader_readVarint_62, eReader_readVarint_65, eReader_readVarint_66, eReader_readVarint_69, eReader_readVarint_70, eReader_readVarint_73, eReader_readVarint_76, eReader_readVarint_79, eReader_readVarint_80, eReader_readVarint_83, eReader_readVarint_84, eReader_readVarint_87, eReader_readVarint_90, eReader_readVarint_93, g0, nxt, ai_ai_at, ai_aj_at, ai_aq_at, ai_si_at, ai_sj_at, ai_sq_at, ai_cy_at, ai_al_at, ai_na_0, ai_na_1, ai_na_2, ai_na_3, ai_rc_at, ai_th_v, ai_th_n, ai_th_z, ai_sw, ai_nl_i, ai_nl_r, ai_nl_l, ai_nl_n, nI_clamp, nI_add, pk_mul, pk_sub, az_e0, az_l0, az_g0, az_p0, az_q0, az_eq, az_lt, az_le, az_m1, az_m2, az_m3, az_m4, az_m5, az_m6, az_m7, az_m8, az_dec, az_bd, az_b0, az_bt, az_bf, dn_leT, dn_leF, dn_ltT, dn_ltF, dn_eqT, dn_eqF, ↓reduceIte, if_true, if_false, not_true_eq_false, not_false_eq_true, true_and, and_true, false_and, and_false, true_or, or_true, false_or, or_false, Nat.reduceAdd, Nat.reduceMul, Nat.reduceSub, Nat.reduceLT, Nat.reduceLeDiff, Nat.reduceEqDiff, Nat.add_zero, Nat.zero_add, ne_eq, reduceCtorEq, decide_true, decide_false, Bool.true_eq_false, Bool.false_eq_true, Classical.not_not]
    | some b =>
      rw [nx_s h] at nxt
      have h35 : 7 * i + 7 = 35 := by omega
      have hb2 := hb b (List.mem_of_getElem? h)
      have hd := dr_s h
      have v1 := lN_shl (y := b % 128) (show i < 5 by omega) (by omega)
      have v2 := lN_or (y := b % 128) (show i < 5 by omega) (by omega) hU
      by_cases h128 : b < 128
      · have hbm : b % 128 = b := Nat.mod_eq_of_lt h128
        rw [hbm] at v1 v2
        have hUb : U + b * 2 ^ (7 * i) < 2 ^ 63 := by
          have : b * 2 ^ (7 * i) ≤ 127 * 2 ^ 28 := Nat.mul_le_mul (by omega) (by omega)
          omega
        by_cases hz : b = 0
        · refine Or.inr ⟨fun u r hd2 hu => ?_, nI (a + 1), ?_⟩
          · rw [hd] at hd2
            have := (List.cons.inj hd2).1
            omega
          · subst hz
            have hz3 : ¬ 7 * i = 0 := by omega
            generalize U + 0 * 2 ^ (7 * i) = V at *
            refine eReader_readVarint_4.trans ?_
            simp (disch := omega) only [eReader_readVarint_0, eReader_readVarint_1, eReader_readVarint_2, eReader_readVarint_3, eReader_readVarint_5, eReader_readVarint_7, eReader_readVarint_10, eReader_readVarint_11, eReader_readVarint_14, eReader_readVarint_16, eReader_readVarint_18, eReader_readVarint_21, eReader_readVarint_24, eReader_readVarint_25, eReader_readVarint_26, eReader_readVarint_28, eReader_readVarint_30, eReader_readVarint_31, eReader_readVarint_32, eReader_readVarint_33, eReader_readVarint_34, eReader_readVarint_35, eReader_readVarint_36, eReader_readVarint_38, eReader_readVarint_41, eReader_readVarint_44, eReader_readVarint_46, eReader_readVarint_49, eReader_readVarint_50, eReader_readVarint_53, eReader_readVarint_54, eReader_readVarint_57, eReader_readVarint_58, eReader_readVarint_60, eReader_readVarint_62, eReader_readVarint_65, eReader_readVarint_66, eReader_readVarint_69, eReader_readVarint_70, eReader_readVarint_73, eReader_readVarint_76, eReader_readVarint_79, eReader_readVarint_80, eReader_readVarint_83, eReader_readVarint_84, eReader_readVarint_87, eReader_readVarint_90, eReader_readVarint_93, g0, nxt, and127, nI_l, v1, v2, Nat.zero_mod, hz3, ai_ai_at, ai_aj_at, ai_aq_at, ai_si_at, ai_sj_at, ai_sq_at, ai_cy_at, ai_al_at, ai_na_0, ai_na_1, ai_na_2, ai_na_3, ai_rc_at, ai_th_v, ai_th_n, ai_th_z, ai_sw, ai_nl_i, ai_nl_r, ai_nl_l, ai_nl_n, nI_clamp, nI_add, pk_mul, pk_sub, az_e0, az_l0, az_g0, az_p0, az_q0, az_eq, az_lt, az_le, az_m1, az_m2, az_m3, az_m4, az_m5, az_m6, az_m7, az_m8, az_dec, az_bd, az_b0, az_bt, az_bf, dn_leT, dn_leF, dn_ltT, dn_ltF, dn_eqT, dn_eqF, ↓reduceIte, if_true, if_false, not_true_eq_false, not_false_eq_true, true_and, and_true, false_and, and_false, true_or, or_true, false_or, or_false, Nat.reduceAdd, Nat.reduceMul, Nat.reduceSub, Nat.reduceLT, Nat.reduceLeDiff, Nat.reduceEqDiff, Nat.add_zero, Nat.zero_add, ne_eq, reduceCtorEq, decide_true, decide_false, Bool.true_eq_false, Bool.false_eq_true, Classical.not_not]
        · by_cases h32 : U + b * 2 ^ (7 * i) < 2 ^ 32
          · refine Or.inl ⟨b, bs.drop (a + 1), by rw [hd]; rfl, Or.inr (by omega), h32, ?_⟩
            have hlt : (lg_cmp (lN (U + b * 2 ^ (7 * i))) 4294967296 < 0) = True := eq_true ((lg_cmp_lt _ _).mpr (by rw [kU]; exact (pk_lLT hUb (by omega)).mpr h32))
            have sg := s_signed (w := zw W R t (nI (a + 1))) h32
            have hle : (vb 0 b).length = 1 := rfl
            rw [hle]
            have hz3 : ¬ 7 * i = 0 := by omega
            generalize U + b * 2 ^ (7 * i) = V at *
            refine eReader_readVarint_4.trans ?_
            simp (disch := omega) only [eReader_readVarint_0, eReader_readVarint_1, eReader_readVarint_2, eReader_readVarint_3, eReader_readVarint_5, eReader_readVarint_7, eReader_readVarint_10, eReader_readVarint_11, eReader_readVarint_14, eReader_readVarint_16, eReader_readVarint_18, eReader_readVarint_21, eReader_readVarint_24, eReader_readVarint_25, eReader_readVarint_26, eReader_readVarint_28, eReader_readVarint_30, eReader_readVarint_31, eReader_readVarint_32, eReader_readVarint_33, eReader_readVarint_34, eReader_readVarint_35, eReader_readVarint_36, eReader_readVarint_38, eReader_readVarint_41, eReader_readVarint_44, eReader_readVarint_46, eReader_readVarint_49, eReader_readVarint_50, eReader_readVarint_53, eReader_readVarint_54, eReader_readVarint_57, eReader_readVarint_58, eReader_readVarint_60, eReader_readVarint_62, eReader_readVarint_65, eReader_readVarint_66, eReader_readVarint_69, eReader_readVarint_70, eReader_readVarint_73, eReader_readVarint_76, eReader_readVarint_79, eReader_readVarint_80, eReader_readVarint_83, eReader_readVarint_84, eReader_readVarint_87, eReader_readVarint_90, eReader_readVarint_93, g0, nxt, and127, nI_l, hbm, v1, v2, hz, hlt, sg, ai_ai_at, ai_aj_at, ai_aq_at, ai_si_at, ai_sj_at, ai_sq_at, ai_cy_at, ai_al_at, ai_na_0, ai_na_1, ai_na_2, ai_na_3, ai_rc_at, ai_th_v, ai_th_n, ai_th_z, ai_sw, ai_nl_i, ai_nl_r, ai_nl_l, ai_nl_n, nI_clamp, nI_add, pk_mul, pk_sub, az_e0, az_l0, az_g0, az_p0, az_q0, az_eq, az_lt, az_le, az_m1, az_m2, az_m3, az_m4, az_m5, az_m6, az_m7, az_m8, az_dec, az_bd, az_b0, az_bt, az_bf, dn_leT, dn_leF, dn_ltT, dn_ltF, dn_eqT, dn_eqF, ↓reduceIte, if_true, if_false, not_true_eq_false, not_false_eq_true, true_and, and_true, false_and, and_false, true_or, or_true, false_or, or_false, Nat.reduceAdd, Nat.reduceMul, Nat.reduceSub, Nat.reduceLT, Nat.reduceLeDiff, Nat.reduceEqDiff, Nat.add_zero, Nat.zero_add, ne_eq, reduceCtorEq, decide_true, decide_false, Bool.true_eq_false, Bool.false_eq_true, Classical.not_not]
          · refine Or.inr ⟨fun u r hd2 _ => ?_, nI (a + 1), ?_⟩
            · rw [hd] at hd2
              rw [← (List.cons.inj hd2).1]
              exact h32
            · have hlt : (lg_cmp (lN (U + b * 2 ^ (7 * i))) 4294967296 < 0) = False := eq_false (fun z => h32 (by
                have := (lg_cmp_lt _ _).mp z
                rw [kU] at this
                exact (pk_lLT hUb (by omega)).mp this))
              generalize U + b * 2 ^ (7 * i) = V at *
              refine eReader_readVarint_4.trans ?_
              simp (disch := omega) only [eReader_readVarint_0, eReader_readVarint_1, eReader_readVarint_2, eReader_readVarint_3, eReader_readVarint_5, eReader_readVarint_7, eReader_readVarint_10, eReader_readVarint_11, eReader_readVarint_14, eReader_readVarint_16, eReader_readVarint_18, eReader_readVarint_21, eReader_readVarint_24, eReader_readVarint_25, eReader_readVarint_26, eReader_readVarint_28, eReader_readVarint_30, eReader_readVarint_31, eReader_readVarint_32, eReader_readVarint_33, eReader_readVarint_34, eReader_readVarint_35, eReader_readVarint_36, eReader_readVarint_38, eReader_readVarint_41, eReader_readVarint_44, eReader_readVarint_46, eReader_readVarint_49, eReader_readVarint_50, eReader_readVarint_53, eReader_readVarint_54, eReader_readVarint_57, eReader_readVarint_58, eReader_readVarint_60, eReader_readVarint_62, eReader_readVarint_65, eReader_readVarint_66, eReader_readVarint_69, eReader_readVarint_70, eReader_readVarint_73, eReader_readVarint_76, eReader_readVarint_79, eReader_readVarint_80, eReader_readVarint_83, eReader_readVarint_84, eReader_readVarint_87, eReader_readVarint_90, eReader_readVarint_93, g0, nxt, and127, nI_l, hbm, v1, v2, hz, hlt, ai_ai_at, ai_aj_at, ai_aq_at, ai_si_at, ai_sj_at, ai_sq_at, ai_cy_at, ai_al_at, ai_na_0, ai_na_1, ai_na_2, ai_na_3, ai_rc_at, ai_th_v, ai_th_n, ai_th_z, ai_sw, ai_nl_i, ai_nl_r, ai_nl_l, ai_nl_n, nI_clamp, nI_add, pk_mul, pk_sub, az_e0, az_l0, az_g0, az_p0, az_q0, az_eq, az_lt, az_le, az_m1, az_m2, az_m3, az_m4, az_m5, az_m6, az_m7, az_m8, az_dec, az_bd, az_b0, az_bt, az_bf, dn_leT, dn_leF, dn_ltT, dn_ltF, dn_eqT, dn_eqF, ↓reduceIte, if_true, if_false, not_true_eq_false, not_false_eq_true, true_and, and_true, false_and, and_false, true_or, or_true, false_or, or_false, Nat.reduceAdd, Nat.reduceMul, Nat.reduceSub, Nat.reduceLT, Nat.reduceLeDiff, Nat.reduceEqDiff, Nat.add_zero, Nat.zero_add, ne_eq, reduceCtorEq, decide_true, decide_false, Bool.true_eq_false, Bool.false_eq_true, Classical.not_not]
      · refine Or.inr ⟨fun u r hd2 _ => ?_, nI (a + 1), ?_⟩
        · rw [hd] at hd2
          rw [← (List.cons.inj hd2).1]
          have : 128 * 2 ^ 28 ≤ b * 2 ^ (7 * i) := Nat.mul_le_mul (by omega) (by omega)
          omega
        · refine eReader_readVarint_4.trans ?_
          simp (disch := omega) only [eReader_readVarint_0, eReader_readVarint_1, eReader_readVarint_2, eReader_readVarint_3, eReader_readVarint_5, eReader_readVarint_7, eReader_readVarint_10, eReader_readVarint_11, eReader_readVarint_14, eReader_readVarint_16, eReader_readVarint_18, eReader_readVarint_21, eReader_readVarint_24, eReader_readVarint_25, eReader_readVarint_26, eReader_readVarint_28, eReader_readVarint_30, eReader_readVarint_31, eReader_readVarint_32, eReader_readVarint_33, eReader_readVarint_34, eReader_readVarint_35, eReader_readVarint_36, eReader_readVarint_38, eReader_readVarint_41, eReader_readVarint_44, eReader_readVarint_46, eReader_readVarint_49, eReader_readVarint_50, eReader_readVarint_53, eReader_readVarint_54, eReader_readVarint_57, eReader_readVarint_58, eReader_readVarint_60, eReader_readVarint_62, eReader_readVarint_65, eReader_readVarint_66, eReader_readVarint_69, eReader_readVarint_70, eReader_readVarint_73, eReader_readVarint_76, eReader_readVarint_79, eReader_readVarint_80, eReader_readVarint_83, eReader_readVarint_84, eReader_readVarint_87, eReader_readVarint_90, eReader_readVarint_93, eReader_readVarint_4, g0, nxt, and127, nI_l, v1, v2, ai_ai_at, ai_aj_at, ai_aq_at, ai_si_at, ai_sj_at, ai_sq_at, ai_cy_at, ai_al_at, ai_na_0, ai_na_1, ai_na_2, ai_na_3, ai_rc_at, ai_th_v, ai_th_n, ai_th_z, ai_sw, ai_nl_i, ai_nl_r, ai_nl_l, ai_nl_n, nI_clamp, nI_add, pk_mul, pk_sub, az_e0, az_l0, az_g0, az_p0, az_q0, az_eq, az_lt, az_le, az_m1, az_m2, az_m3, az_m4, az_m5, az_m6, az_m7, az_m8, az_dec, az_bd, az_b0, az_bt, az_bf, dn_leT, dn_leF, dn_ltT, dn_ltF, dn_eqT, dn_eqF, ↓reduceIte, if_true, if_false, not_true_eq_false, not_false_eq_true, true_and, and_true, false_and, and_false, true_or, or_true, false_or, or_false, Nat.reduceAdd, Nat.reduceMul, Nat.reduceSub, Nat.reduceLT, Nat.reduceLeDiff, Nat.reduceEqDiff, Nat.add_zero, Nat.zero_add, ne_eq, reduceCtorEq, decide_true, decide_false, Bool.true_eq_false, Bool.false_eq_true, Classical.not_not]
  | succ c ih =>
    intro i U a l4 l5 hc hU ha
    have nxt := s_next (a := a) (by omega) hR hl hp hT
    cases h : bs[a]? with
    | none =>
      rw [nx_n h] at nxt
      refine Or.inr ⟨fun u r hd => ?_, nI (a + 1), ?_⟩
      · rw [dr_n h] at hd
        unfold vb at hd
        split at hd
        · exact absurd hd (by simp)
        · exact absurd hd (by simp)
      · refine eReader_readVarint_4.trans ?_
        simp (disch := omega) only [eReader_readVarint_0, eReader_readVarint_1, eReader_readVarint_2, eReader_readVarint_3, eReader_readVarint_5, eReader_readVarint_7, eReader_readVarint_10, eReader_readVarint_11, eReader_readVarint_14, eReader_readVarint_16, eReader_readVarint_18, eReader_readVarint_21, eReader_readVarint_24, eReader_readVarint_25, eReader_readVarint_26, eReader_readVarint_28, eReader_readVarint_30, eReader_readVarint_31, eReader_readVarint_32, eReader_readVarint_33, eReader_readVarint_34, eReader_readVarint_35, eReader_readVarint_36, eReader_readVarint_38, eReader_readVarint_41, eReader_readVarint_44, eReader_readVarint_46, eReader_readVarint_49, eReader_readVarint_50, eReader_readVarint_53, eReader_readVarint_54, eReader_readVarint_57, eReader_readVarint_58, eReader_readVarint_60, eReader_readVarint_62, eReader_readVarint_65, eReader_readVarint_66, eReader_readVarint_69, eReader_readVarint_70, eReader_readVarint_73, eReader_readVarint_76, eReader_readVarint_79, eReader_readVarint_80, eReader_readVarint_83, eReader_readVarint_84, eReader_readVarint_87, eReader_readVarint_90, eReader_readVarint_93, g0, nxt, ai_ai_at, ai_aj_at, ai_aq_at, ai_si_at, ai_sj_at, ai_sq_at, ai_cy_at, ai_al_at, ai_na_0, ai_na_1, ai_na_2, ai_na_3, ai_rc_at, ai_th_v, ai_th_n, ai_th_z, ai_sw, ai_nl_i, ai_nl_r, ai_nl_l, ai_nl_n, nI_clamp, nI_add, pk_mul, pk_sub, az_e0, az_l0, az_g0, az_p0, az_q0, az_eq, az_lt, az_le, az_m1, az_m2, az_m3, az_m4, az_m5, az_m6, az_m7, az_m8, az_dec, az_bd, az_b0, az_bt, az_bf, dn_leT, dn_leF, dn_ltT, dn_ltF, dn_eqT, dn_eqF, ↓reduceIte, if_true, if_false, not_true_eq_false, not_false_eq_true, true_and, and_true, false_and, and_false, true_or, or_true, false_or, or_false, Nat.reduceAdd, Nat.reduceMul, Nat.reduceSub, Nat.reduceLT, Nat.reduceLeDiff, Nat.reduceEqDiff, Nat.add_zero, Nat.zero_add, ne_eq, reduceCtorEq, decide_true, decide_false, Bool.true_eq_false, Bool.false_eq_true, Classical.not_not]
    | some b =>
      rw [nx_s h] at nxt
      have hb2 := hb b (List.mem_of_getElem? h)
      have hd := dr_s h
      have hi5 : i < 5 := by omega
      have v1 := lN_shl (y := b % 128) hi5 (by omega)
      have v2 := lN_or (y := b % 128) hi5 (by omega) hU
      have h28 : 2 ^ (7 * i) ≤ 2 ^ 28 := Nat.pow_le_pow_right (by decide) (by omega)
      by_cases h128 : b < 128
      · have hbm : b % 128 = b := Nat.mod_eq_of_lt h128
        rw [hbm] at v1 v2
        have hUb : U + b * 2 ^ (7 * i) < 2 ^ 63 := by
          have : b * 2 ^ (7 * i) ≤ 127 * 2 ^ 28 := Nat.mul_le_mul (by omega) h28
          omega
        have huniq : ∀ u r, bs.drop a = vb (c + 1) u ++ r → u = b := by
          intro u r hd2
          rw [hd] at hd2
          by_cases hu : u < 128
          · rw [vb_s hu] at hd2
            exact (List.cons.inj hd2).1.symm
          · rw [vb_b hu] at hd2
            have := (List.cons.inj hd2).1
            omega
        by_cases hz : b = 0 ∧ ¬ i = 0
        · refine Or.inr ⟨fun u r hd2 hu => ?_, nI (a + 1), ?_⟩
          · have := huniq u r hd2
            omega
          · have hz1 := hz.1
            have hz2 := hz.2
            have hz3 : ¬ 7 * i = 0 := by omega
            subst hz1
            generalize U + 0 * 2 ^ (7 * i) = V at *
            refine eReader_readVarint_4.trans ?_
            simp (disch := omega) only [eReader_readVarint_0, eReader_readVarint_1, eReader_readVarint_2, eReader_readVarint_3, eReader_readVarint_5, eReader_readVarint_7, eReader_readVarint_10, eReader_readVarint_11, eReader_readVarint_14, eReader_readVarint_16, eReader_readVarint_18, eReader_readVarint_21, eReader_readVarint_24, eReader_readVarint_25, eReader_readVarint_26, eReader_readVarint_28, eReader_readVarint_30, eReader_readVarint_31, eReader_readVarint_32, eReader_readVarint_33, eReader_readVarint_34, eReader_readVarint_35, eReader_readVarint_36, eReader_readVarint_38, eReader_readVarint_41, eReader_readVarint_44, eReader_readVarint_46, eReader_readVarint_49, eReader_readVarint_50, eReader_readVarint_53, eReader_readVarint_54, eReader_readVarint_57, eReader_readVarint_58, eReader_readVarint_60, eReader_readVarint_62, eReader_readVarint_65, eReader_readVarint_66, eReader_readVarint_69, eReader_readVarint_70, eReader_readVarint_73, eReader_readVarint_76, eReader_readVarint_79, eReader_readVarint_80, eReader_readVarint_83, eReader_readVarint_84, eReader_readVarint_87, eReader_readVarint_90, eReader_readVarint_93, g0, nxt, and127, nI_l, v1, v2, Nat.zero_mod, hz3, ai_ai_at, ai_aj_at, ai_aq_at, ai_si_at, ai_sj_at, ai_sq_at, ai_cy_at, ai_al_at, ai_na_0, ai_na_1, ai_na_2, ai_na_3, ai_rc_at, ai_th_v, ai_th_n, ai_th_z, ai_sw, ai_nl_i, ai_nl_r, ai_nl_l, ai_nl_n, nI_clamp, nI_add, pk_mul, pk_sub, az_e0, az_l0, az_g0, az_p0, az_q0, az_eq, az_lt, az_le, az_m1, az_m2, az_m3, az_m4, az_m5, az_m6, az_m7, az_m8, az_dec, az_bd, az_b0, az_bt, az_bf, dn_leT, dn_leF, dn_ltT, dn_ltF, dn_eqT, dn_eqF, ↓reduceIte, if_true, if_false, not_true_eq_false, not_false_eq_true, true_and, and_true, false_and, and_false, true_or, or_true, false_or, or_false, Nat.reduceAdd, Nat.reduceMul, Nat.reduceSub, Nat.reduceLT, Nat.reduceLeDiff, Nat.reduceEqDiff, Nat.add_zero, Nat.zero_add, ne_eq, reduceCtorEq, decide_true, decide_false, Bool.true_eq_false, Bool.false_eq_true, Classical.not_not]
        · have hlong : ∀ (V : Int64) (x : Int32), ai_ev none 116 44 [some (.ref R), some (.long V), none, some (.int (nI (7 * i))), some (.int (nI b)), l5] [] (zw W R t x) = ai_ev none 116 60 [some (.ref R), some (.long V), none, some (.int (nI (7 * i))), some (.int (nI b)), some (.int (nI 0))] [] (zw W R t x) := by
            intro V x
            by_cases hb0 : b = 0
            · have hi0 : i = 0 := Classical.not_not.mp (fun z => hz ⟨hb0, z⟩)
              subst hb0
              subst hi0
              simp (disch := omega) only [eReader_readVarint_0, eReader_readVarint_1, eReader_readVarint_2, eReader_readVarint_3, eReader_readVarint_5, eReader_readVarint_7, eReader_readVarint_10, eReader_readVarint_11, eReader_readVarint_14, eReader_readVarint_16, eReader_readVarint_18, eReader_readVarint_21, eReader_readVarint_24, eReader_readVarint_25, eReader_readVarint_26, eReader_readVarint_28, eReader_readVarint_30, eReader_readVarint_31, eReader_readVarint_32, eReader_readVarint_33, eReader_readVarint_34, eReader_readVarint_35, eReader_readVarint_36, eReader_readVarint_38, eReader_readVarint_41, eReader_readVarint_44, eReader_readVarint_46, eReader_readVarint_49, eReader_readVarint_50, eReader_readVarint_53, eReader_readVarint_54, eReader_readVarint_57, eReader_readVarint_58, eReader_readVarint_62, eReader_readVarint_65, eReader_readVarint_66, eReader_readVarint_69, eReader_readVarint_70, eReader_readVarint_73, eReader_readVarint_76, eReader_readVarint_79, eReader_readVarint_80, eReader_readVarint_83, eReader_readVarint_84, eReader_readVarint_87, eReader_readVarint_90, eReader_readVarint_93, ai_ai_at, ai_aj_at, ai_aq_at, ai_si_at, ai_sj_at, ai_sq_at, ai_cy_at, ai_al_at, ai_na_0, ai_na_1, ai_na_2, ai_na_3, ai_rc_at, ai_th_v, ai_th_n, ai_th_z, ai_sw, ai_nl_i, ai_nl_r, ai_nl_l, ai_nl_n, nI_clamp, nI_add, pk_mul, pk_sub, az_e0, az_l0, az_g0, az_p0, az_q0, az_eq, az_lt, az_le, az_m1, az_m2, az_m3, az_m4, az_m5, az_m6, az_m7, az_m8, az_dec, az_bd, az_b0, az_bt, az_bf, dn_leT, dn_leF, dn_ltT, dn_ltF, dn_eqT, dn_eqF, ↓reduceIte, if_true, if_false, not_true_eq_false, not_false_eq_true, true_and, and_true, false_and, and_false, true_or, or_true, false_or, or_false, Nat.reduceAdd, Nat.reduceMul, Nat.reduceSub, Nat.reduceLT, Nat.reduceLeDiff, Nat.reduceEqDiff, Nat.add_zero, Nat.zero_add, ne_eq, reduceCtorEq, decide_true, decide_false, Bool.true_eq_false, Bool.false_eq_true, Classical.not_not]
            · simp (disch := omega) only [eReader_readVarint_0, eReader_readVarint_1, eReader_readVarint_2, eReader_readVarint_3, eReader_readVarint_5, eReader_readVarint_7, eReader_readVarint_10, eReader_readVarint_11, eReader_readVarint_14, eReader_readVarint_16, eReader_readVarint_18, eReader_readVarint_21, eReader_readVarint_24, eReader_readVarint_25, eReader_readVarint_26, eReader_readVarint_28, eReader_readVarint_30, eReader_readVarint_31, eReader_readVarint_32, eReader_readVarint_33, eReader_readVarint_34, eReader_readVarint_35, eReader_readVarint_36, eReader_readVarint_38, eReader_readVarint_41, eReader_readVarint_44, eReader_readVarint_46, eReader_readVarint_49, eReader_readVarint_50, eReader_readVarint_53, eReader_readVarint_54, eReader_readVarint_57, eReader_readVarint_58, eReader_readVarint_62, eReader_readVarint_65, eReader_readVarint_66, eReader_readVarint_69, eReader_readVarint_70, eReader_readVarint_73, eReader_readVarint_76, eReader_readVarint_79, eReader_readVarint_80, eReader_readVarint_83, eReader_readVarint_84, eReader_readVarint_87, eReader_readVarint_90, eReader_readVarint_93, hb0, ai_ai_at, ai_aj_at, ai_aq_at, ai_si_at, ai_sj_at, ai_sq_at, ai_cy_at, ai_al_at, ai_na_0, ai_na_1, ai_na_2, ai_na_3, ai_rc_at, ai_th_v, ai_th_n, ai_th_z, ai_sw, ai_nl_i, ai_nl_r, ai_nl_l, ai_nl_n, nI_clamp, nI_add, pk_mul, pk_sub, az_e0, az_l0, az_g0, az_p0, az_q0, az_eq, az_lt, az_le, az_m1, az_m2, az_m3, az_m4, az_m5, az_m6, az_m7, az_m8, az_dec, az_bd, az_b0, az_bt, az_bf, dn_leT, dn_leF, dn_ltT, dn_ltF, dn_eqT, dn_eqF, ↓reduceIte, if_true, if_false, not_true_eq_false, not_false_eq_true, true_and, and_true, false_and, and_false, true_or, or_true, false_or, or_false, Nat.reduceAdd, Nat.reduceMul, Nat.reduceSub, Nat.reduceLT, Nat.reduceLeDiff, Nat.reduceEqDiff, Nat.add_zero, Nat.zero_add, ne_eq, reduceCtorEq, decide_true, decide_false, Bool.true_eq_false, Bool.false_eq_true, Classical.not_not]
          by_cases h32 : U + b * 2 ^ (7 * i) < 2 ^ 32
          · refine Or.inl ⟨b, bs.drop (a + 1), by rw [hd, vb_s h128]; rfl, by omega, h32, ?_⟩
            have hlt : (lg_cmp (lN (U + b * 2 ^ (7 * i))) 4294967296 < 0) = True := eq_true ((lg_cmp_lt _ _).mpr (by rw [kU]; exact (pk_lLT hUb (by omega)).mpr h32))
            have sg := s_signed (w := zw W R t (nI (a + 1))) h32
            have hle : (vb (c + 1) b).length = 1 := by rw [vb_s h128]; rfl
            rw [hle]
            generalize U + b * 2 ^ (7 * i) = V at *
            refine eReader_readVarint_4.trans ?_
            simp (disch := omega) only [eReader_readVarint_0, eReader_readVarint_1, eReader_readVarint_2, eReader_readVarint_3, eReader_readVarint_5, eReader_readVarint_7, eReader_readVarint_10, eReader_readVarint_11, eReader_readVarint_14, eReader_readVarint_16, eReader_readVarint_18, eReader_readVarint_21, eReader_readVarint_24, eReader_readVarint_25, eReader_readVarint_26, eReader_readVarint_28, eReader_readVarint_30, eReader_readVarint_31, eReader_readVarint_32, eReader_readVarint_33, eReader_readVarint_34, eReader_readVarint_35, eReader_readVarint_36, eReader_readVarint_38, eReader_readVarint_41, eReader_readVarint_46, eReader_readVarint_49, eReader_readVarint_50, eReader_readVarint_53, eReader_readVarint_54, eReader_readVarint_57, eReader_readVarint_58, eReader_readVarint_60, eReader_readVarint_62, eReader_readVarint_65, eReader_readVarint_66, eReader_readVarint_69, eReader_readVarint_70, eReader_readVarint_73, eReader_readVarint_76, eReader_readVarint_79, eReader_readVarint_80, eReader_readVarint_83, eReader_readVarint_84, eReader_readVarint_87, eReader_readVarint_90, eReader_readVarint_93, hlong, g0, nxt, and127, nI_l, hbm, v1, v2, hlt, sg, ai_ai_at, ai_aj_at, ai_aq_at, ai_si_at, ai_sj_at, ai_sq_at, ai_cy_at, ai_al_at, ai_na_0, ai_na_1, ai_na_2, ai_na_3, ai_rc_at, ai_th_v, ai_th_n, ai_th_z, ai_sw, ai_nl_i, ai_nl_r, ai_nl_l, ai_nl_n, nI_clamp, nI_add, pk_mul, pk_sub, az_e0, az_l0, az_g0, az_p0, az_q0, az_eq, az_lt, az_le, az_m1, az_m2, az_m3, az_m4, az_m5, az_m6, az_m7, az_m8, az_dec, az_bd, az_b0, az_bt, az_bf, dn_leT, dn_leF, dn_ltT, dn_ltF, dn_eqT, dn_eqF, ↓reduceIte, if_true, if_false, not_true_eq_false, not_false_eq_true, true_and, and_true, false_and, and_false, true_or, or_true, false_or, or_false, Nat.reduceAdd, Nat.reduceMul, Nat.reduceSub, Nat.reduceLT, Nat.reduceLeDiff, Nat.reduceEqDiff, Nat.add_zero, Nat.zero_add, ne_eq, reduceCtorEq, decide_true, decide_false, Bool.true_eq_false, Bool.false_eq_true, Classical.not_not]
          · refine Or.inr ⟨fun u r hd2 _ => ?_, nI (a + 1), ?_⟩
            · rw [huniq u r hd2]
              exact h32
            · have hlt : (lg_cmp (lN (U + b * 2 ^ (7 * i))) 4294967296 < 0) = False := eq_false (fun z => h32 (by
                have := (lg_cmp_lt _ _).mp z
                rw [kU] at this
                exact (pk_lLT hUb (by omega)).mp this))
              generalize U + b * 2 ^ (7 * i) = V at *
              refine eReader_readVarint_4.trans ?_
              simp (disch := omega) only [eReader_readVarint_0, eReader_readVarint_1, eReader_readVarint_2, eReader_readVarint_3, eReader_readVarint_5, eReader_readVarint_7, eReader_readVarint_10, eReader_readVarint_11, eReader_readVarint_14, eReader_readVarint_16, eReader_readVarint_18, eReader_readVarint_21, eReader_readVarint_24, eReader_readVarint_25, eReader_readVarint_26, eReader_readVarint_28, eReader_readVarint_30, eReader_readVarint_31, eReader_readVarint_32, eReader_readVarint_33, eReader_readVarint_34, eReader_readVarint_35, eReader_readVarint_36, eReader_readVarint_38, eReader_readVarint_41, eReader_readVarint_46, eReader_readVarint_49, eReader_readVarint_50, eReader_readVarint_53, eReader_readVarint_54, eReader_readVarint_57, eReader_readVarint_58, eReader_readVarint_60, eReader_readVarint_62, eReader_readVarint_65, eReader_readVarint_66, eReader_readVarint_69, eReader_readVarint_70, eReader_readVarint_73, eReader_readVarint_76, eReader_readVarint_79, eReader_readVarint_80, eReader_readVarint_83, eReader_readVarint_84, eReader_readVarint_87, eReader_readVarint_90, eReader_readVarint_93, hlong, g0, nxt, and127, nI_l, hbm, v1, v2, hlt, ai_ai_at, ai_aj_at, ai_aq_at, ai_si_at, ai_sj_at, ai_sq_at, ai_cy_at, ai_al_at, ai_na_0, ai_na_1, ai_na_2, ai_na_3, ai_rc_at, ai_th_v, ai_th_n, ai_th_z, ai_sw, ai_nl_i, ai_nl_r, ai_nl_l, ai_nl_n, nI_clamp, nI_add, pk_mul, pk_sub, az_e0, az_l0, az_g0, az_p0, az_q0, az_eq, az_lt, az_le, az_m1, az_m2, az_m3, az_m4, az_m5, az_m6, az_m7, az_m8, az_dec, az_bd, az_b0, az_bt, az_bf, dn_leT, dn_leF, dn_ltT, dn_ltF, dn_eqT, dn_eqF, ↓reduceIte, if_true, if_false, not_true_eq_false, not_false_eq_true, true_and, and_true, false_and, and_false, true_or, or_true, false_or, or_false, Nat.reduceAdd, Nat.reduceMul, Nat.reduceSub, Nat.reduceLT, Nat.reduceLeDiff, Nat.reduceEqDiff, Nat.add_zero, Nat.zero_add, ne_eq, reduceCtorEq, decide_true, decide_false, Bool.true_eq_false, Bool.false_eq_true, Classical.not_not]
      · have hbm : b % 128 = b - 128 := by omega
        rw [hbm] at v1 v2
        have hpow : 2 ^ (7 * (i + 1)) = 128 * 2 ^ (7 * i) := by
          rw [show 7 * (i + 1) = 7 * i + 7 by omega, Nat.pow_add, Nat.mul_comm]
        have hU2 : U + (b - 128) * 2 ^ (7 * i) < 2 ^ (7 * (i + 1)) := by
          rw [hpow]
          have : (b - 128) * 2 ^ (7 * i) ≤ 127 * 2 ^ (7 * i) := Nat.mul_le_mul (by omega) (Nat.le_refl _)
          omega
        have e0 : ai_ev none 116 4 [some (.ref R), some (.long (lN U)), none, some (.int (nI (7 * i))), l4, l5] [] (zw W R t (nI a)) = ai_ev none 116 4 [some (.ref R), some (.long (lN (U + (b - 128) * 2 ^ (7 * i)))), none, some (.int (nI (7 * (i + 1)))), some (.int (nI b)), l5] [] (zw W R t (nI (a + 1))) := by
          have h7 : 7 * i + 7 = 7 * (i + 1) := by omega
          refine eReader_readVarint_4.trans ?_
          simp (disch := omega) only [eReader_readVarint_0, eReader_readVarint_1, eReader_readVarint_2, eReader_readVarint_3, eReader_readVarint_5, eReader_readVarint_7, eReader_readVarint_10, eReader_readVarint_11, eReader_readVarint_14, eReader_readVarint_16, eReader_readVarint_18, eReader_readVarint_21, eReader_readVarint_24, eReader_readVarint_25, eReader_readVarint_26, eReader_readVarint_28, eReader_readVarint_30, eReader_readVarint_31, eReader_readVarint_32, eReader_readVarint_33, eReader_readVarint_34, eReader_readVarint_35, eReader_readVarint_36, eReader_readVarint_38, eReader_readVarint_41, eReader_readVarint_44, eReader_readVarint_46, eReader_readVarint_49, eReader_readVarint_50, eReader_readVarint_53, eReader_readVarint_54, eReader_readVarint_57, eReader_readVarint_58, eReader_readVarint_60, eReader_readVarint_62, eReader_readVarint_65, eReader_readVarint_66, eReader_readVarint_69, eReader_readVarint_70, eReader_readVarint_73, eReader_readVarint_76, eReader_readVarint_79, eReader_readVarint_80, eReader_readVarint_83, eReader_readVarint_84, eReader_readVarint_87, eReader_readVarint_90, eReader_readVarint_93, g0, nxt, and127, nI_l, hbm, v1, v2, h7, ai_ai_at, ai_aj_at, ai_aq_at, ai_si_at, ai_sj_at, ai_sq_at, ai_cy_at, ai_al_at, ai_na_0, ai_na_1, ai_na_2, ai_na_3, ai_rc_at, ai_th_v, ai_th_n, ai_th_z, ai_sw, ai_nl_i, ai_nl_r, ai_nl_l, ai_nl_n, nI_clamp, nI_add, pk_mul, pk_sub, az_e0, az_l0, az_g0, az_p0, az_q0, az_eq, az_lt, az_le, az_m1, az_m2, az_m3, az_m4, az_m5, az_m6, az_m7, az_m8, az_dec, az_bd, az_b0, az_bt, az_bf, dn_leT, dn_leF, dn_ltT, dn_ltF, dn_eqT, dn_eqF, ↓reduceIte, if_true, if_false, not_true_eq_false, not_false_eq_true, true_and, and_true, false_and, and_false, true_or, or_true, false_or, or_false, Nat.reduceAdd, Nat.reduceMul, Nat.reduceSub, Nat.reduceLT, Nat.reduceLeDiff, Nat.reduceEqDiff, Nat.add_zero, Nat.zero_add, ne_eq, reduceCtorEq, decide_true, decide_false, Bool.true_eq_false, Bool.false_eq_true, Classical.not_not]
        rw [e0]
        rcases ih (i + 1) (U + (b - 128) * 2 ^ (7 * i)) (a + 1) (some (.int (nI b))) l5 (by omega) hU2 (by omega) with ⟨u, r, i1, i2, i3, i4⟩ | ⟨i1, i2⟩
        · have hu0 : 0 < u := by omega
          have hval : U + (b - 128) * 2 ^ (7 * i) + u * 2 ^ (7 * (i + 1)) = U + (b - 128 + 128 * u) * 2 ^ (7 * i) := by
            rw [hpow, Nat.add_mul (b - 128), ← Nat.mul_assoc u, Nat.mul_comm u 128]
            omega
          rw [hval] at i3 i4
          have hvb : vb (c + 1) (b - 128 + 128 * u) = b :: vb c u := by
            rw [vb_b (by omega), show (b - 128 + 128 * u) % 128 + 128 = b by omega, show (b - 128 + 128 * u) / 128 = u by omega]
          refine Or.inl ⟨b - 128 + 128 * u, r, by rw [hd, i1, hvb]; rfl, by omega, i3, ?_⟩
          rw [i4, hvb, List.length_cons, show a + ((vb c u).length + 1) = a + 1 + (vb c u).length by omega]
        · refine Or.inr ⟨fun u r hd2 hu h32 => ?_, i2⟩
          rw [hd] at hd2
          by_cases hus : u < 128
          · rw [vb_s hus] at hd2
            have := (List.cons.inj hd2).1
            omega
          · rw [vb_b hus] at hd2
            obtain ⟨d1, d2⟩ := List.cons.inj hd2
            refine i1 (u / 128) r d2 (by omega) ?_
            rw [hpow]
            have hval : U + (b - 128) * 2 ^ (7 * i) + u / 128 * (128 * 2 ^ (7 * i)) = U + u * 2 ^ (7 * i) := by
              have e1 : u = (b - 128) + u / 128 * 128 := by omega
              have e2 : u * 2 ^ (7 * i) = ((b - 128) + u / 128 * 128) * 2 ^ (7 * i) := by rw [← e1]
              rw [e2, Nat.add_mul, ← Nat.mul_assoc]
              omega
            omega
end RD
