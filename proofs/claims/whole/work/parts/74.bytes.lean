def pre (T : Nat → Int32) (bs : List Nat) : Prop := ∀ k x, bs[k]? = some x → T k = nI x
theorem pre_nil {T : Nat → Int32} : pre T [] := fun k x h => by simp at h
theorem pre_snoc {T : Nat → Int32} {bs : List Nat} {b : Nat} (h : pre T bs) : pre (upd T bs.length (nI b)) (bs ++ [b]) := by
  intro k x hx
  by_cases hk : k < bs.length
  · rw [List.getElem?_append_left hk] at hx
    rw [ud_n (by omega)]
    exact h k x hx
  · have hk2 : k < (bs ++ [b]).length := (List.getElem?_eq_some_iff.mp hx).1
    have hke : k = bs.length := by simp at hk2; omega
    subst hke
    rw [List.getElem?_append_right (Nat.le_refl _)] at hx
    simp at hx
    subst hx
    exact ud_s
theorem s_tput {w : ai_W} {t b : Nat} {T : Nat → Int32} {bs : List Nat} (hl : bs.length < 1200) (hp : pre T bs) (h : tw w t T (nI bs.length) = w) : ∃ T', ai_ev none 60 0 [some (.ref t), some (.int (nI b))] [] w = some (none, tw w t T' (nI (bs ++ [b]).length)) ∧ pre T' (bs ++ [b]) := by
  refine ⟨upd T bs.length (nI b), ?_, pre_snoc hp⟩
  rw [s_tadd hl h]
  simp
section MO
variable {w : ai_W} {m : Nat} {mk vs cs dn wn pa gd : Int32} {li ha le re co cd ob sn th fr po is cf dr ou : Nat → Int32} {ce fo : Nat → Int64}
theorem m_write {b : Nat} {bs : List Nat} (hl : bs.length < 1200) (hp : pre ou bs) : ∃ ou', ai_ev none 177 0 [some (.ref m), some (.int (nI b))] [] (mw w m mk li vs ha le ce re co cd ob sn th fo fr po is cs cf dn dr (nI bs.length) ou pa gd) = some (none, mw w m mk li vs ha le ce re co cd ob sn th fo fr po is cs cf dn dr (nI (bs ++ [b]).length) (ou') pa gd) ∧ pre ou' (bs ++ [b]) := by
  refine ⟨upd ou bs.length (nI b), ?_, pre_snoc hp⟩
  rw [show (bs ++ [b]).length = bs.length + 1 by simp]
  simp (disch := omega) only [eGraphDeltasModel_write_0, eGraphDeltasModel_write_1, eGraphDeltasModel_write_4, eGraphDeltasModel_write_7, eGraphDeltasModel_write_10, eGraphDeltasModel_write_11, eGraphDeltasModel_write_14, eGraphDeltasModel_write_15, eGraphDeltasModel_write_18, eGraphDeltasModel_write_19, eGraphDeltasModel_write_20, eGraphDeltasModel_write_21, eGraphDeltasModel_write_22, eGraphDeltasModel_write_25, eGraphDeltasModel_write_26, eGraphDeltasModel_write_27, eGraphDeltasModel_write_30, ai_ai_at, ai_aj_at, ai_aq_at, ai_si_at, ai_sj_at, ai_sq_at, ai_cy_at, ai_al_at, ai_na_0, ai_na_1, ai_na_2, ai_na_3, ai_rc_at, ai_th_v, ai_th_n, ai_th_z, ai_sw, ai_nl_i, ai_nl_r, ai_nl_l, ai_nl_n, nI_clamp, nI_add, pk_mul, pk_sub, az_e0, az_l0, az_g0, az_p0, az_q0, az_eq, az_lt, az_le, az_m1, az_m2, az_m3, az_m4, az_m5, az_m6, az_m7, az_m8, az_dec, az_bd, az_b0, az_bt, az_bf, dn_leT, dn_leF, dn_ltT, dn_ltF, dn_eqT, dn_eqF, ↓reduceIte, if_true, if_false, not_true_eq_false, not_false_eq_true, true_and, and_true, false_and, and_false, true_or, or_true, false_or, or_false, Nat.reduceAdd, Nat.reduceMul, Nat.reduceSub, Nat.reduceLT, Nat.reduceLeDiff, Nat.reduceEqDiff, Nat.add_zero, Nat.zero_add, ne_eq, reduceCtorEq, decide_true, decide_false, Bool.true_eq_false, Bool.false_eq_true, Classical.not_not, gf_0_0, pf_0_0, gf_0_1, pf_0_1, gf_0_2, pf_0_2, gf_0_3, pf_0_3, gf_0_4, pf_0_4, gf_0_5, pf_0_5, gf_0_6, pf_0_6, gf_0_7, pf_0_7, gf_0_8, pf_0_8, gf_0_9, pf_0_9, gf_1_0, pf_1_0, gf_1_1, pf_1_1, gf_2_0, pf_2_0, gf_2_1, pf_2_1, gf_2_2, pf_2_2, gf_2_3, pf_2_3, gf_2_4, pf_2_4, gf_3_0, pf_3_0, gf_3_1, pf_3_1, gf_4_0, pf_4_0, gf_4_1, pf_4_1, gf_4_2, pf_4_2, gf_4_3, pf_4_3, gf_5_0, pf_5_0, gf_5_1, pf_5_1, gf_5_2, pf_5_2, gf_5_3, pf_5_3, gf_6_0, pf_6_0, gf_6_1, pf_6_1, gf_7_0, pf_7_0, gf_7_1, pf_7_1, gf_7_2, pf_7_2, gf_7_3, pf_7_3, gf_7_4, pf_7_4, gf_7_5, pf_7_5, gf_7_6, pf_7_6, gf_7_7, pf_7_7, gf_7_8, pf_7_8, gf_7_9, pf_7_9, gf_7_10, pf_7_10, gf_7_11, pf_7_11, gf_7_12, pf_7_12, gf_7_13, pf_7_13, gf_7_14, pf_7_14, gf_7_15, pf_7_15, gf_7_16, pf_7_16, gf_7_17, pf_7_17, gf_7_18, pf_7_18, gf_7_19, pf_7_19, gf_7_20, pf_7_20, gf_7_21, pf_7_21, gf_7_22, pf_7_22, gf_7_23, pf_7_23a, pf_7_23b, mw_1, mw_2, mw_g0, mw_g1, mw_g2, mw_g3, mw_g4, mw_g5, mw_g6, mw_g7, mw_g8, mw_g9, mw_g10, mw_g11, mw_g12, mw_g13, mw_g14, mw_g15, mw_g16, mw_g17, mw_go, mw_p0, mw_p1, mw_p2, mw_p3, mw_p4, mw_p5, mw_p6, mw_p7, mw_p8, mw_p9, mw_p10, mw_p11, mw_p12, mw_p13, mw_p14, mw_p15, mw_p16, mw_p17, mw_w]
end MO
def zig (v : Int32) : Nat := if v < 0 then (-2 * v.toInt - 1).toNat else (2 * v.toInt).toNat
theorem zig_lt (v : Int32) : zig v < 2 ^ 32 := by
  have h1 := Int32.toInt_lt v
  have h2 := Int32.le_toInt v
  unfold zig
  split <;> omega
