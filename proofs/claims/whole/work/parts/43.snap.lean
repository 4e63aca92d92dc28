theorem ad_t {r : Nat} {f : Nat → Int32} {m : Nat} {x : Int32} {o k : Nat} (hm : 0 < m) (hk : k < m) (hb : r.testBit o = true) : ar_d r f m x 16 (o * m + k) = f (o * m + k) := by
  unfold ar_d
  have e : (o * m + k) / m = o := by
    apply Nat.div_eq_of_lt_le
    · omega
    · rw [Nat.succ_mul]; omega
  rw [e, hb]
  exact if_neg (fun z => absurd z.2 (by decide))
theorem ad_f {r : Nat} {f : Nat → Int32} {m : Nat} {x : Int32} {o k : Nat} (hm : 0 < m) (hk : k < m) (ho : o < 16) (hb : r.testBit o = false) : ar_d r f m x 16 (o * m + k) = x := by
  unfold ar_d
  have e : (o * m + k) / m = o := by
    apply Nat.div_eq_of_lt_le
    · omega
    · rw [Nat.succ_mul]; omega
  rw [e, hb]
  have h2 : (o + 1) * m ≤ 16 * m := Nat.mul_le_mul_right m (by omega)
  rw [Nat.succ_mul] at h2
  exact if_pos ⟨by omega, rfl⟩
theorem ad1_t {r : Nat} {f : Nat → Int32} {x : Int32} {o : Nat} (hb : r.testBit o = true) : ar_d r f 1 x 16 o = f o := by
  have := ad_t (f := f) (m := 1) (x := x) (o := o) (k := 0) (by omega) (by omega) hb
  simpa using this
theorem ad1_f {r : Nat} {f : Nat → Int32} {x : Int32} {o : Nat} (ho : o < 16) (hb : r.testBit o = false) : ar_d r f 1 x 16 o = x := by
  have := ad_f (f := f) (m := 1) (x := x) (o := o) (k := 0) (by omega) (by omega) ho hb
  simpa using this
theorem go_prune {n r : Nat} {K A B C D : Nat → Int32} (h : go n K A B C D) (hr : r = rc_it (rc_F C D) 15) : go n K (ar_d r A 1 (-1) 16) (ar_d r B 1 (nI 0) 16) (ar_d r C 3 (nI 0) 16) (ar_d r D 6 (nI 0) 16) := by
  have b0 : r.testBit 0 = true := by rw [hr]; exact rc_zero 15
  refine ⟨by rw [ad1_t b0]; exact h.1, fun o ho => ?_⟩
  cases hb : r.testBit o with
  | false =>
    exact Or.inl ⟨ad1_f ho hb, ad1_f ho hb, fun k hk => ad_f (by omega) hk ho hb, fun k hk => ad_f (by omega) hk ho hb⟩
  | true =>
    rw [ad1_t hb, ad1_t hb]
    have c1 : ∀ k, k < 3 → ar_d r C 3 (nI 0) 16 (o * 3 + k) = C (o * 3 + k) := fun k hk => ad_t (by omega) hk hb
    have d1 : ∀ k, k < 6 → ar_d r D 6 (nI 0) 16 (o * 6 + k) = D (o * 6 + k) := fun k hk => ad_t (by omega) hk hb
    rcases h.2 o ho with ⟨h1, h2, h3, h4⟩ | ⟨h1, h2, h3, h4, h5, h6⟩ | ⟨h1, h2, h3, h4, m, h5, h6, h7⟩
    · exact Or.inl ⟨h1, h2, fun k hk => (c1 k hk).trans (h3 k hk), fun k hk => (d1 k hk).trans (h4 k hk)⟩
    · refine Or.inr (Or.inl ⟨h1, h2, h3, h4, fun k hk => ?_, fun k hk hk2 => (d1 k hk2).trans (h6 k hk hk2)⟩)
      rw [c1 k hk, d1 k (by omega)]
      rcases h5 k hk with q | q | ⟨q1, p, q2, q3, q4⟩
      · exact Or.inl q
      · exact Or.inr (Or.inl q)
      · have hbp : r.testBit p = true := by
          rw [hr]
          refine rc_clos (go_C h) ((rf_bit (go_C h) p 48 (Nat.le_refl _)).mpr ⟨o * 3 + k, by omega, ?_, q1, ?_, q2⟩)
          · rw [show (o * 3 + k) / 3 = o by omega, ← hr]
            exact hb
          · rw [show (o * 3 + k) / 3 = o by omega, show (o * 3 + k) % 3 = k by omega]
            exact q3
        exact Or.inr (Or.inr ⟨q1, p, q2, q3, by rw [ad1_t hbp]; exact q4⟩)
    · exact Or.inr (Or.inr ⟨h1, h2, h3, fun k hk => (c1 k hk).trans (h4 k hk), m, h5, h6, fun k hk hk2 => (d1 k hk2).trans (h7 k hk hk2)⟩)
theorem gm_prune {r g : Nat} {li ha le : Nat → Int32} {ce : Nat → Int64} {A B C D : Nat → Int32} (h : gm li ha le ce g A B C D) : gm li (prH ha g r 16) le ce g (ar_d r A 1 (-1) 16) (ar_d r B 1 (nI 0) 16) (ar_d r C 3 (nI 0) 16) (ar_d r D 6 (nI 0) 16) := by
  intro o ho
  cases hb : r.testBit o with
  | false =>
    refine Or.inl ⟨ad1_f ho hb, if_pos ⟨by omega, by omega, ?_⟩⟩
    rw [show 16 * g + o - 16 * g = o by omega]
    exact hb
  | true =>
    have e : prH ha g r 16 (16 * g + o) = ha (16 * g + o) := if_neg (fun z => by
      have := z.2.2
      rw [show 16 * g + o - 16 * g = o by omega, hb] at this
      cases this)
    rw [ad1_t hb, ad1_t hb, e]
    have c1 : ∀ k, k < 3 → ar_d r C 3 (nI 0) 16 (o * 3 + k) = C (o * 3 + k) := fun k hk => ad_t (by omega) hk hb
    have d1 : ∀ k, k < 6 → ar_d r D 6 (nI 0) 16 (o * 6 + k) = D (o * 6 + k) := fun k hk => ad_t (by omega) hk hb
    rcases h o ho with q | ⟨q1, q2, q3, q4⟩ | ⟨q1, q2, q3, q4, q5⟩
    · exact Or.inl q
    · exact Or.inr (Or.inl ⟨q1, q2, q3, fun k hk => by rw [c1 k hk, d1 k (by omega)]; exact q4 k hk⟩)
    · exact Or.inr (Or.inr ⟨q1, q2, q3, q4, fun k hk hk2 => by rw [d1 k hk]; exact q5 k hk hk2⟩)
theorem op_snapshot {w : ai_W} (h : rl w) : ∃ b w1 w2, ai_ev none 20 0 [some (.ref 1), none] [] w = some (some (.int b), w1) ∧ ai_ev none 170 0 [some (.ref 65)] [] w1 = some (some (.int b), w2) ∧ rl w2 ∧ w2.1 = w.1 ∧ w2.2.1 = w.2.1 := by
  have hr := h
  obtain ⟨K, mc, vc, dl, sp, A, B, C, D, VA, VB, VC, VD, da, dc, ca, cn, ta, tn, mk, li, vs, ha, le, ce, re, co, cd, ob, sn, th, fo, fr, po, is, cs0, cf, dn, dr, wn, ou, pa, gd, n, v, ⟨hcs, hmw, h0, hn⟩, hK, hG, hV, hD, hC, hT⟩ := h
  have hg := hcs.1.2.1
  have e := xw_at hcs.1.1
  have e7 := xw_at7 hcs.1.1
  simp only [Nat.reduceAdd] at e e7
  obtain ⟨v1, rfl, rfl, v4⟩ := hV
  have eg := gw_at hg
  by_cases hv8 : v = 8
  · subst hv8
    refine ⟨-2, w, w, ?_, ?_, hr, rfl, rfl⟩
    · simp (disch := omega) only [eGraphDeltas_snapshot_0, eGraphDeltas_snapshot_1, eGraphDeltas_snapshot_4, eGraphDeltas_snapshot_6, eGraphDeltas_snapshot_9, eGraphDeltas_snapshot_11, eGraphDeltas_snapshot_12, eGraphDeltas_snapshot_13, eGraphDeltas_snapshot_16, eGraphDeltas_snapshot_17, eGraphDeltas_snapshot_20, eGraphDeltas_snapshot_21, eGraphDeltas_snapshot_22, eGraphDeltas_snapshot_23, eGraphDeltas_snapshot_24, eGraphDeltas_snapshot_27, eGraphDeltas_snapshot_30, eGraphDeltas_snapshot_31, eGraphDeltas_snapshot_34, eGraphDeltas_snapshot_35, eGraphDeltas_snapshot_36, eGraphDeltas_snapshot_39, eGraphDeltas_snapshot_40, eGraphDeltas_snapshot_41, eGraphDeltas_snapshot_44, eGraphDeltas_snapshot_45, eGraphDeltas_snapshot_48, eGraphDeltas_snapshot_49, eGraphDeltas_snapshot_50, e, ai_ai_at, ai_aj_at, ai_aq_at, ai_si_at, ai_sj_at, ai_sq_at, ai_cy_at, ai_al_at, ai_na_0, ai_na_1, ai_na_2, ai_na_3, ai_rc_at, ai_th_v, ai_th_n, ai_th_z, ai_sw, ai_nl_i, ai_nl_r, ai_nl_l, ai_nl_n, nI_clamp, nI_add, pk_mul, pk_sub, az_e0, az_l0, az_g0, az_p0, az_q0, az_eq, az_lt, az_le, az_m1, az_m2, az_m3, az_m4, az_m5, az_m6, az_m7, az_m8, az_dec, az_bd, az_b0, az_bt, az_bf, dn_leT, dn_leF, dn_ltT, dn_ltF, dn_eqT, dn_eqF, ↓reduceIte, if_true, if_false, not_true_eq_false, not_false_eq_true, true_and, and_true, false_and, and_false, true_or, or_true, false_or, or_false, Nat.reduceAdd, Nat.reduceMul, Nat.reduceSub, Nat.reduceLT, Nat.reduceLeDiff, Nat.reduceEqDiff, Nat.add_zero, Nat.zero_add, ne_eq, reduceCtorEq, decide_true, decide_false, Bool.true_eq_false, Bool.false_eq_true, Classical.not_not, gf_0_0, pf_0_0, gf_0_1, pf_0_1, gf_0_2, pf_0_2, gf_0_3, pf_0_3, gf_0_4, pf_0_4, gf_0_5, pf_0_5, gf_0_6, pf_0_6, gf_0_7, pf_0_7, gf_0_8, pf_0_8, gf_0_9, pf_0_9, gf_1_0, pf_1_0, gf_1_1, pf_1_1, gf_2_0, pf_2_0, gf_2_1, pf_2_1, gf_2_2, pf_2_2, gf_2_3, pf_2_3, gf_2_4, pf_2_4, gf_3_0, pf_3_0, gf_3_1, pf_3_1, gf_4_0, pf_4_0, gf_4_1, pf_4_1, gf_4_2, pf_4_2, gf_4_3, pf_4_3, gf_5_0, pf_5_0, gf_5_1, pf_5_1, gf_5_2, pf_5_2, gf_5_3, pf_5_3, gf_6_0, pf_6_0, gf_6_1, pf_6_1, gf_7_0, pf_7_0, gf_7_1, pf_7_1, gf_7_2, pf_7_2, gf_7_3, pf_7_3, gf_7_4, pf_7_4, gf_7_5, pf_7_5, gf_7_6, pf_7_6, gf_7_7, pf_7_7, gf_7_8, pf_7_8, gf_7_9, pf_7_9, gf_7_10, pf_7_10, gf_7_11, pf_7_11, gf_7_12, pf_7_12, gf_7_13, pf_7_13, gf_7_14, pf_7_14, gf_7_15, pf_7_15, gf_7_16, pf_7_16, gf_7_17, pf_7_17, gf_7_18, pf_7_18, gf_7_19, pf_7_19, gf_7_20, pf_7_20, gf_7_21, pf_7_21, gf_7_22, pf_7_22, gf_7_23, pf_7_23a, pf_7_23b]
    · rw [← hmw]
      simp (disch := omega) only [eGraphDeltasModel_snapshot_0, eGraphDeltasModel_snapshot_1, eGraphDeltasModel_snapshot_4, eGraphDeltasModel_snapshot_6, eGraphDeltasModel_snapshot_9, eGraphDeltasModel_snapshot_11, eGraphDeltasModel_snapshot_12, eGraphDeltasModel_snapshot_13, eGraphDeltasModel_snapshot_14, eGraphDeltasModel_snapshot_17, eGraphDeltasModel_snapshot_18, eGraphDeltasModel_snapshot_19, eGraphDeltasModel_snapshot_22, eGraphDeltasModel_snapshot_23, eGraphDeltasModel_snapshot_24, eGraphDeltasModel_snapshot_25, eGraphDeltasModel_snapshot_28, eGraphDeltasModel_snapshot_31, eGraphDeltasModel_snapshot_32, eGraphDeltasModel_snapshot_33, eGraphDeltasModel_snapshot_36, eGraphDeltasModel_snapshot_39, eGraphDeltasModel_snapshot_40, eGraphDeltasModel_snapshot_43, eGraphDeltasModel_snapshot_44, eGraphDeltasModel_snapshot_45, mw_w, ai_ai_at, ai_aj_at, ai_aq_at, ai_si_at, ai_sj_at, ai_sq_at, ai_cy_at, ai_al_at, ai_na_0, ai_na_1, ai_na_2, ai_na_3, ai_rc_at, ai_th_v, ai_th_n, ai_th_z, ai_sw, ai_nl_i, ai_nl_r, ai_nl_l, ai_nl_n, nI_clamp, nI_add, pk_mul, pk_sub, az_e0, az_l0, az_g0, az_p0, az_q0, az_eq, az_lt, az_le, az_m1, az_m2, az_m3, az_m4, az_m5, az_m6, az_m7, az_m8, az_dec, az_bd, az_b0, az_bt, az_bf, dn_leT, dn_leF, dn_ltT, dn_ltF, dn_eqT, dn_eqF, ↓reduceIte, if_true, if_false, not_true_eq_false, not_false_eq_true, true_and, and_true, false_and, and_false, true_or, or_true, false_or, or_false, Nat.reduceAdd, Nat.reduceMul, Nat.reduceSub, Nat.reduceLT, Nat.reduceLeDiff, Nat.reduceEqDiff, Nat.add_zero, Nat.zero_add, ne_eq, reduceCtorEq, decide_true, decide_false, Bool.true_eq_false, Bool.false_eq_true, Classical.not_not, gf_0_0, pf_0_0, gf_0_1, pf_0_1, gf_0_2, pf_0_2, gf_0_3, pf_0_3, gf_0_4, pf_0_4, gf_0_5, pf_0_5, gf_0_6, pf_0_6, gf_0_7, pf_0_7, gf_0_8, pf_0_8, gf_0_9, pf_0_9, gf_1_0, pf_1_0, gf_1_1, pf_1_1, gf_2_0, pf_2_0, gf_2_1, pf_2_1, gf_2_2, pf_2_2, gf_2_3, pf_2_3, gf_2_4, pf_2_4, gf_3_0, pf_3_0, gf_3_1, pf_3_1, gf_4_0, pf_4_0, gf_4_1, pf_4_1, gf_4_2, pf_4_2, gf_4_3, pf_4_3, gf_5_0, pf_5_0, gf_5_1, pf_5_1, gf_5_2, pf_5_2, gf_5_3, pf_5_3, gf_6_0, pf_6_0, gf_6_1, pf_6_1, gf_7_0, pf_7_0, gf_7_1, pf_7_1, gf_7_2, pf_7_2, gf_7_3, pf_7_3, gf_7_4, pf_7_4, gf_7_5, pf_7_5, gf_7_6, pf_7_6, gf_7_7, pf_7_7, gf_7_8, pf_7_8, gf_7_9, pf_7_9, gf_7_10, pf_7_10, gf_7_11, pf_7_11, gf_7_12, pf_7_12, gf_7_13, pf_7_13, gf_7_14, pf_7_14, gf_7_15, pf_7_15, gf_7_16, pf_7_16, gf_7_17, pf_7_17, gf_7_18, pf_7_18, gf_7_19, pf_7_19, gf_7_20, pf_7_20, gf_7_21, pf_7_21, gf_7_22, pf_7_22, gf_7_23, pf_7_23a, pf_7_23b, mw_1, mw_2, mw_g0, mw_g1, mw_g2, mw_g3, mw_g4, mw_g5, mw_g6, mw_g7, mw_g8, mw_g9, mw_g10, mw_g11, mw_g12, mw_g13, mw_g14, mw_g15, mw_g16, mw_g17, mw_go, mw_p0, mw_p1, mw_p2, mw_p3, mw_p4, mw_p5, mw_p6, mw_p7, mw_p8, mw_p9, mw_p10, mw_p11, mw_p12, mw_p13, mw_p14, mw_p15, mw_p16, mw_p17, mw_w]
  · have hv : v < 8 := by omega
    have hvj := hcs.1.2.2 v hv
    have ev := gw_at hvj
    have hb := s_become hvj hg (by omega)
    have xA : ∀ k, k < 16 → va_cpy A (VA v) 0 0 16 k = A k := fun k hk => cp_in hk
    have xB : ∀ k, k < 16 → va_cpy B (VB v) 0 0 16 k = B k := fun k hk => cp_in hk
    have xC : ∀ k, k < 48 → va_cpy C (VC v) 0 0 48 k = C k := fun k hk => cp_in hk
    have xD : ∀ k, k < 96 → va_cpy D (VD v) 0 0 96 k = D k := fun k hk => cp_in hk
    have go2 := go_ext hG.1 xA xB xC xD
    generalize hA' : va_cpy A (VA v) 0 0 16 = A' at *
    generalize hB' : va_cpy B (VB v) 0 0 16 = B' at *
    generalize hC' : va_cpy C (VC v) 0 0 48 = C' at *
    generalize hD' : va_cpy D (VD v) 0 0 96 = D' at *
    generalize hrr : rc_it (rc_F C' D') 15 = r at *
    have hdr := s_drop (go_C go2) (gw_w (w := w) (a := 25 + 5 * v) (A := A') (B := B') (C := C') (D := D') (A' := A') (B' := B') (C' := C') (D' := D')) hrr.symm
    rw [gw_w] at hdr
    have gmc := gm_ext (gm_copy (b := v + 1) hG.2) xA xB xC xD
    have hmp := m_prune (w := gw (xw w 1 K mc x_V (nI (v + 1)) dl sp) (25 + 5 * v) (ar_d r A' 1 (-1) 16) (ar_d r B' 1 (nI 0) 16) (ar_d r C' 3 (nI 0) 16) (ar_d r D' 6 (nI 0) 16)) (m := 65) (mk := mk) (vs := nI (v + 1)) (re := re) (co := co) (cd := cd) (ob := ob) (sn := sn) (th := th) (fo := fo) (fr := fr) (po := po) (is := is) (cs := cs0) (cf := cf) (dn := dn) (dr := dr) (wn := wn) (ou := ou) (pa := pa) (gd := gd) (show v + 1 < 10 by omega) go2 gmc hrr.symm
    obtain ⟨re', hmp⟩ := hmp
    have mc2 := m_copy (w := gw (xw w 1 K mc x_V (nI (v + 1)) dl sp) (25 + 5 * v) (ar_d r A' 1 (-1) 16) (ar_d r B' 1 (nI 0) 16) (ar_d r C' 3 (nI 0) 16) (ar_d r D' 6 (nI 0) 16)) (m := 65) (mk := mk) (li := li) (vs := nI (v + 1)) (ha := ha) (le := le) (ce := ce) (re := re) (co := co) (cd := cd) (ob := ob) (sn := sn) (th := th) (fo := fo) (fr := fr) (po := po) (is := is) (cs := cs0) (cf := cf) (dn := dn) (dr := dr) (wn := wn) (ou := ou) (pa := pa) (gd := gd) (a := 0) (b := v + 1) (by omega) (by omega) (by omega) (gm_01 hG.2)
    have hm1 : mw (gw (xw w 1 K mc x_V (nI (v + 1)) dl sp) (25 + 5 * v) (ar_d r A' 1 (-1) 16) (ar_d r B' 1 (nI 0) 16) (ar_d r C' 3 (nI 0) 16) (ar_d r D' 6 (nI 0) 16)) 65 mk li (nI v) ha le ce re co cd ob sn th fo fr po is (cs0) cf dn dr wn ou pa gd = gw (xw w 1 K mc x_V (nI (v + 1)) dl sp) (25 + 5 * v) (ar_d r A' 1 (-1) 16) (ar_d r B' 1 (nI 0) 16) (ar_d r C' 3 (nI 0) 16) (ar_d r D' 6 (nI 0) 16) := mw_fr hmw (fun k _ _ => (gw_go (by omega)).trans (xw_go (by omega) (by omega) (by omega)))
    refine ⟨nI v, gw (xw w 1 K mc x_V (nI (v + 1)) dl sp) (25 + 5 * v) (ar_d r A' 1 (-1) 16) (ar_d r B' 1 (nI 0) 16) (ar_d r C' 3 (nI 0) 16) (ar_d r D' 6 (nI 0) 16), mw (gw (xw w 1 K mc x_V (nI (v + 1)) dl sp) (25 + 5 * v) (ar_d r A' 1 (-1) 16) (ar_d r B' 1 (nI 0) 16) (ar_d r C' 3 (nI 0) 16) (ar_d r D' 6 (nI 0) 16)) 65 mk li (nI (v + 1)) (prH (cpI ha (16 * 0) (16 * (v + 1)) 16) (v + 1) r 16) (cpI le (16 * 0) (16 * (v + 1)) 16) (cpL ce (96 * 0) (96 * (v + 1)) 96) (re') co cd ob sn th fo fr po is (cs0) cf dn dr wn ou pa gd, ?_, ?_, ?_, rfl, rfl⟩
    · have hx2 : ∀ (P Q R T : Nat → Int32), (gw w (25 + 5 * v) P Q R T).2.2 1 = .inr (0, [.ref 2, .int mc, .ref 3, .ref 8, .int (nI v), .ref dl, .ref sp, .ref 13, .ref 17, .ref 23]) := fun P Q R T => (gw_go (by omega)).trans e
      have hx3 : ∀ (P Q R T : Nat → Int32), ai_put (gw w (25 + 5 * v) P Q R T) 1 (.inr (0, [.ref 2, .int mc, .ref 3, .ref 8, .int (nI (v + 1)), .ref dl, .ref sp, .ref 13, .ref 17, .ref 23])) = gw (xw w 1 K mc x_V (nI (v + 1)) dl sp) (25 + 5 * v) P Q R T := by
        intro P Q R T
        rw [gw_po (by omega)]
        have := xw_p0 (w := w) (a := 1) (K := K) (mk := mc) (V := x_V) (vc := nI v) (dl := dl) (sp := sp) (mk' := mc) (vc' := nI (v + 1)) (dl' := dl) (sp' := sp)
        rw [hcs.1.1] at this
        simp only [Nat.reduceAdd] at this
        rw [this]
      have hx4 : ∀ (P Q R T : Nat → Int32), (gw (xw w 1 K mc x_V (nI (v + 1)) dl sp) (25 + 5 * v) P Q R T).2.2 1 = .inr (0, [.ref 2, .int mc, .ref 3, .ref 8, .int (nI (v + 1)), .ref dl, .ref sp, .ref 13, .ref 17, .ref 23]) := fun P Q R T => (gw_go (by omega)).trans xw_g0
      simp (disch := omega) only [eGraphDeltas_snapshot_0, eGraphDeltas_snapshot_1, eGraphDeltas_snapshot_4, eGraphDeltas_snapshot_6, eGraphDeltas_snapshot_9, eGraphDeltas_snapshot_11, eGraphDeltas_snapshot_12, eGraphDeltas_snapshot_13, eGraphDeltas_snapshot_16, eGraphDeltas_snapshot_17, eGraphDeltas_snapshot_20, eGraphDeltas_snapshot_21, eGraphDeltas_snapshot_22, eGraphDeltas_snapshot_23, eGraphDeltas_snapshot_24, eGraphDeltas_snapshot_27, eGraphDeltas_snapshot_30, eGraphDeltas_snapshot_31, eGraphDeltas_snapshot_34, eGraphDeltas_snapshot_35, eGraphDeltas_snapshot_36, eGraphDeltas_snapshot_39, eGraphDeltas_snapshot_40, eGraphDeltas_snapshot_41, eGraphDeltas_snapshot_44, eGraphDeltas_snapshot_45, eGraphDeltas_snapshot_48, eGraphDeltas_snapshot_49, eGraphDeltas_snapshot_50, e, e7, eg, ev, x_V_at, hb, hdr, hx2, hx3, hx4, gw_g0, Nat.add_sub_cancel, ai_ai_at, ai_aj_at, ai_aq_at, ai_si_at, ai_sj_at, ai_sq_at, ai_cy_at, ai_al_at, ai_na_0, ai_na_1, ai_na_2, ai_na_3, ai_rc_at, ai_th_v, ai_th_n, ai_th_z, ai_sw, ai_nl_i, ai_nl_r, ai_nl_l, ai_nl_n, nI_clamp, nI_add, pk_mul, pk_sub, az_e0, az_l0, az_g0, az_p0, az_q0, az_eq, az_lt, az_le, az_m1, az_m2, az_m3, az_m4, az_m5, az_m6, az_m7, az_m8, az_dec, az_bd, az_b0, az_bt, az_bf, dn_leT, dn_leF, dn_ltT, dn_ltF, dn_eqT, dn_eqF, ↓reduceIte, if_true, if_false, not_true_eq_false, not_false_eq_true, true_and, and_true, false_and, and_false, true_or, or_true, false_or, or_false, Nat.reduceAdd, Nat.reduceMul, Nat.reduceSub, Nat.reduceLT, Nat.reduceLeDiff, Nat.reduceEqDiff, Nat.add_zero, Nat.zero_add, ne_eq, reduceCtorEq, decide_true, decide_false, Bool.true_eq_false, Bool.false_eq_true, Classical.not_not, gf_0_0, pf_0_0, gf_0_1, pf_0_1, gf_0_2, pf_0_2, gf_0_3, pf_0_3, gf_0_4, pf_0_4, gf_0_5, pf_0_5, gf_0_6, pf_0_6, gf_0_7, pf_0_7, gf_0_8, pf_0_8, gf_0_9, pf_0_9, gf_1_0, pf_1_0, gf_1_1, pf_1_1, gf_2_0, pf_2_0, gf_2_1, pf_2_1, gf_2_2, pf_2_2, gf_2_3, pf_2_3, gf_2_4, pf_2_4, gf_3_0, pf_3_0, gf_3_1, pf_3_1, gf_4_0, pf_4_0, gf_4_1, pf_4_1, gf_4_2, pf_4_2, gf_4_3, pf_4_3, gf_5_0, pf_5_0, gf_5_1, pf_5_1, gf_5_2, pf_5_2, gf_5_3, pf_5_3, gf_6_0, pf_6_0, gf_6_1, pf_6_1, gf_7_0, pf_7_0, gf_7_1, pf_7_1, gf_7_2, pf_7_2, gf_7_3, pf_7_3, gf_7_4, pf_7_4, gf_7_5, pf_7_5, gf_7_6, pf_7_6, gf_7_7, pf_7_7, gf_7_8, pf_7_8, gf_7_9, pf_7_9, gf_7_10, pf_7_10, gf_7_11, pf_7_11, gf_7_12, pf_7_12, gf_7_13, pf_7_13, gf_7_14, pf_7_14, gf_7_15, pf_7_15, gf_7_16, pf_7_16, gf_7_17, pf_7_17, gf_7_18, pf_7_18, gf_7_19, pf_7_19, gf_7_20, pf_7_20, gf_7_21, pf_7_21, gf_7_22, pf_7_22, gf_7_23, pf_7_23a, pf_7_23b]
    · rw [← hm1, mw_w]
      simp (disch := omega) only [eGraphDeltasModel_snapshot_0, eGraphDeltasModel_snapshot_1, eGraphDeltasModel_snapshot_4, eGraphDeltasModel_snapshot_6, eGraphDeltasModel_snapshot_9, eGraphDeltasModel_snapshot_11, eGraphDeltasModel_snapshot_12, eGraphDeltasModel_snapshot_13, eGraphDeltasModel_snapshot_14, eGraphDeltasModel_snapshot_17, eGraphDeltasModel_snapshot_18, eGraphDeltasModel_snapshot_19, eGraphDeltasModel_snapshot_22, eGraphDeltasModel_snapshot_23, eGraphDeltasModel_snapshot_24, eGraphDeltasModel_snapshot_25, eGraphDeltasModel_snapshot_28, eGraphDeltasModel_snapshot_31, eGraphDeltasModel_snapshot_32, eGraphDeltasModel_snapshot_33, eGraphDeltasModel_snapshot_36, eGraphDeltasModel_snapshot_39, eGraphDeltasModel_snapshot_40, eGraphDeltasModel_snapshot_43, eGraphDeltasModel_snapshot_44, eGraphDeltasModel_snapshot_45, mc2, hmp, Nat.add_sub_cancel, ai_ai_at, ai_aj_at, ai_aq_at, ai_si_at, ai_sj_at, ai_sq_at, ai_cy_at, ai_al_at, ai_na_0, ai_na_1, ai_na_2, ai_na_3, ai_rc_at, ai_th_v, ai_th_n, ai_th_z, ai_sw, ai_nl_i, ai_nl_r, ai_nl_l, ai_nl_n, nI_clamp, nI_add, pk_mul, pk_sub, az_e0, az_l0, az_g0, az_p0, az_q0, az_eq, az_lt, az_le, az_m1, az_m2, az_m3, az_m4, az_m5, az_m6, az_m7, az_m8, az_dec, az_bd, az_b0, az_bt, az_bf, dn_leT, dn_leF, dn_ltT, dn_ltF, dn_eqT, dn_eqF, ↓reduceIte, if_true, if_false, not_true_eq_false, not_false_eq_true, true_and, and_true, false_and, and_false, true_or, or_true, false_or, or_false, Nat.reduceAdd, Nat.reduceMul, Nat.reduceSub, Nat.reduceLT, Nat.reduceLeDiff, Nat.reduceEqDiff, Nat.add_zero, Nat.zero_add, ne_eq, reduceCtorEq, decide_true, decide_false, Bool.true_eq_false, Bool.false_eq_true, Classical.not_not, gf_0_0, pf_0_0, gf_0_1, pf_0_1, gf_0_2, pf_0_2, gf_0_3, pf_0_3, gf_0_4, pf_0_4, gf_0_5, pf_0_5, gf_0_6, pf_0_6, gf_0_7, pf_0_7, gf_0_8, pf_0_8, gf_0_9, pf_0_9, gf_1_0, pf_1_0, gf_1_1, pf_1_1, gf_2_0, pf_2_0, gf_2_1, pf_2_1, gf_2_2, pf_2_2, gf_2_3, pf_2_3, gf_2_4, pf_2_4, gf_3_0, pf_3_0, gf_3_1, pf_3_1, gf_4_0, pf_4_0, gf_4_1, pf_4_1, gf_4_2, pf_4_2, gf_4_3, pf_4_3, gf_5_0, pf_5_0, gf_5_1, pf_5_1, gf_5_2, pf_5_2, gf_5_3, pf_5_3, gf_6_0, pf_6_0, gf_6_1, pf_6_1, gf_7_0, pf_7_0, gf_7_1, pf_7_1, gf_7_2, pf_7_2, gf_7_3, pf_7_3, gf_7_4, pf_7_4, gf_7_5, pf_7_5, gf_7_6, pf_7_6, gf_7_7, pf_7_7, gf_7_8, pf_7_8, gf_7_9, pf_7_9, gf_7_10, pf_7_10, gf_7_11, pf_7_11, gf_7_12, pf_7_12, gf_7_13, pf_7_13, gf_7_14, pf_7_14, gf_7_15, pf_7_15, gf_7_16, pf_7_16, gf_7_17, pf_7_17, gf_7_18, pf_7_18, gf_7_19, pf_7_19, gf_7_20, pf_7_20, gf_7_21, pf_7_21, gf_7_22, pf_7_22, gf_7_23, pf_7_23a, pf_7_23b, mw_1, mw_2, mw_g0, mw_g1, mw_g2, mw_g3, mw_g4, mw_g5, mw_g6, mw_g7, mw_g8, mw_g9, mw_g10, mw_g11, mw_g12, mw_g13, mw_g14, mw_g15, mw_g16, mw_g17, mw_go, mw_p0, mw_p1, mw_p2, mw_p3, mw_p4, mw_p5, mw_p6, mw_p7, mw_p8, mw_p9, mw_p10, mw_p11, mw_p12, mw_p13, mw_p14, mw_p15, mw_p16, mw_p17, mw_w]
    · refine ⟨_, _, _, _, _, _, _, _, _, _, _, _, _, _, _, _, _, _, _, _, _, _, _, _, _, _, _, _, _, _, _, _, _, _, _, _, _, _, _, _, _, _, _, _, _, ⟨cs_fr (cs_ver hv (cs_x hcs)) (fun k h1 h2 => mw_go (by omega)), mw_w, (mw_go (by omega)).trans ((gw_go (by omega)).trans ((xw_go (by omega) (by omega) (by omega)).trans h0)), hn⟩, hK, ⟨hG.1, gm_fr hG.2 (fun o ho => (if_neg (by omega)).trans (cpI_o (by omega))) (fun o ho => cpI_o (by omega)) (fun q _ hq => cpL_o (by omega))⟩, ⟨show v + 1 ≤ 8 by omega, rfl, rfl, fun u hu => ?_⟩, hD, ⟨hC.1, fun o ho z => (cpI_o (by omega)).trans (hC.2.1 o ho z), fun u hu o ho z => ?_⟩, hT⟩
      · by_cases huv : u = v
        · subst huv
          simp only [if_true]
          exact ⟨go_prune go2 hrr.symm, gm_prune gmc⟩
        · simp only [if_neg huv]
          have := v4 u (by omega)
          exact ⟨this.1, gm_fr this.2 (fun o ho => (if_neg (by omega)).trans (cpI_o (by omega))) (fun o ho => cpI_o (by omega)) (fun q hq1 hq => cpL_o (by omega))⟩
      · by_cases huv : u = v
        · subst huv
          simp only [if_true] at z
          rw [cpI_i (by omega)]
          cases hb : r.testBit o with
          | false =>
            rw [ad1_f ho hb] at z
            exact absurd z (by decide +kernel)
          | true =>
            rw [ad1_t hb, xA o ho] at z
            rw [show 16 * 0 + o = o by omega]
            exact hC.2.1 o ho z
        · simp only [if_neg huv] at z
          exact (cpI_o (by omega)).trans (hC.2.2 u (by omega) o ho z)
