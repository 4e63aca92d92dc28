section BL
variable {w : ai_W} {d g t o : Nat} {X A B C D A2 B2 C2 D2 : Nat → Int32} {l : List op}
theorem s_blist (htg : t + 4 < g ∨ g + 4 < t) (htd : t + 4 < d ∨ d + 1 < t) (ho : o < 16) (hn : l.length ≤ 127) (hov : ∀ q, q ∈ l → ov q) (hpw : l.Pairwise ofol) (rX : ∀ k q, l[k]? = some q → crep X k q) (hfit : ∀ q, q ∈ l → onL o q → q.2.2.1 + q.2.2.2.1 ≤ rn A2 B2 o) (h6 : (rn A2 B2 o : Int) + gz l o ≤ 6) (hd : dw w d X (nI l.length) = w) (hg : gw w g A2 B2 C2 D2 = w) (hB : gr_B B2) (ht : gw w t A B C D = w) : ai_ev none 100 0 [some (.ref d), some (.int (nI o)), some (.ref g), some (.ref t), none, none, none] [] w = some (none, gw w t (upd A o (nI 1)) (upd B o (nI (fin o (gi A2 B2 D2 o) (rn A2 B2 o) l).length)) (ar_f C (o * 3) ((o + 1) * 3) (nI 0)) (wr D o (fin o (gi A2 B2 D2 o) (rn A2 B2 o) l))) := by
  have hfl := fin_len (it := gi A2 B2 D2 o) hov hpw hfit
  have hF6 : (fin o (gi A2 B2 D2 o) (rn A2 B2 o) l).length ≤ 6 := by omega
  obtain ⟨r1, r2⟩ := rn_eq (A := A2) hB ho
  have frd : ∀ (P Q R T : Nat → Int32), dw (gw w t P Q R T) d X (nI l.length) = gw w t P Q R T := fun P Q R T => dw_fr hd (fun k _ _ => gw_go (by omega))
  have frg : ∀ (P Q R T : Nat → Int32), gw (gw w t P Q R T) g A2 B2 C2 D2 = gw w t P Q R T := fun P Q R T => gw_fr hg (fun k _ _ => gw_go (by omega))
  have ed : ∀ (P Q R T : Nat → Int32), (gw w t P Q R T).2.2 d = .inr (1, [.ref (d + 1), .int (nI l.length)]) := fun P Q R T => dw_at (frd P Q R T)
  have eg : ∀ (P Q R T : Nat → Int32), (gw w t P Q R T).2.2 g = .inr (4, [.ref (g + 1), .ref (g + 2), .ref (g + 3), .ref (g + 4)]) := fun P Q R T => gw_at (frg P Q R T)
  have et : ∀ (P Q R T : Nat → Int32), (gw w t P Q R T).2.2 t = .inr (4, [.ref (t + 1), .ref (t + 2), .ref (t + 3), .ref (t + 4)]) := fun P Q R T => gw_g0
  have sz : ∀ (P Q R T : Nat → Int32), ai_ev none 46 0 [some (.ref d)] [] (gw w t P Q R T) = some (some (.int (nI l.length)), gw w t P Q R T) := fun P Q R T => s_dsize (frd P Q R T)
  have sl : ∀ (P Q R T : Nat → Int32), ai_ev none 85 0 [some (.ref g), some (.int (nI o))] [] (gw w t P Q R T) = some (some (.int (nI (rn A2 B2 o))), gw w t P Q R T) := fun P Q R T => by
    have := s_length (o := nI o) (frg P Q R T)
    rw [r1] at this
    exact this
  generalize hA1 : upd A o (nI 1) = A1
  generalize hC1 : ar_f C (o * 3) ((o + 1) * 3) (nI 0) = C1
  generalize hit : gi A2 B2 D2 o = it at *
  have st : ∀ k, k ≤ l.length → ∃ l6, ai_ev none 100 0 [some (.ref d), some (.int (nI o)), some (.ref g), some (.ref t), none, none, none] [] w = ai_ev none 100 12 [some (.ref d), some (.int (nI o)), some (.ref g), some (.ref t), some (.int (nI (cbk o it l k).2)), some (.int (nI k)), l6] [] (gw w t A1 (upd B o (nI (cbk o it l k).1.length)) C1 (wr D o (cbk o it l k).1)) := by
    intro k
    induction k with
    | zero =>
      intro _
      refine ⟨none, ?_⟩
      have z1 : (cbk o it l 0).2 = 0 := rfl
      have z2 : (cbk o it l 0).1 = [] := rfl
      rw [z1, z2]
      have ad := s_admit (x := nI 1) ho ht
      rw [hA1, hC1, wr_0] at ad
      have et0 := gw_at ht
      have z3 : ([] : List Int32).length = 0 := rfl
      rw [z3]
      simp (disch := omega) only [ePatch_buildList_0, ePatch_buildList_1, ePatch_buildList_2, ePatch_buildList_3, ePatch_buildList_6, ePatch_buildList_7, ePatch_buildList_9, ePatch_buildList_10, ePatch_buildList_14, ePatch_buildList_15, ePatch_buildList_18, ePatch_buildList_21, ePatch_buildList_22, ePatch_buildList_24, ePatch_buildList_25, ePatch_buildList_26, ePatch_buildList_29, ePatch_buildList_32, ePatch_buildList_33, ePatch_buildList_34, ePatch_buildList_36, ePatch_buildList_37, ePatch_buildList_39, ePatch_buildList_42, ePatch_buildList_43, ePatch_buildList_46, ePatch_buildList_47, ePatch_buildList_49, ePatch_buildList_51, ePatch_buildList_52, ePatch_buildList_54, ePatch_buildList_57, ePatch_buildList_60, ePatch_buildList_61, ePatch_buildList_62, ePatch_buildList_63, ePatch_buildList_65, ePatch_buildList_67, ePatch_buildList_70, ePatch_buildList_73, ePatch_buildList_76, ePatch_buildList_79, ePatch_buildList_80, ePatch_buildList_82, ePatch_buildList_85, ePatch_buildList_87, ePatch_buildList_90, ePatch_buildList_93, ePatch_buildList_94, ePatch_buildList_95, ePatch_buildList_97, ePatch_buildList_98, ePatch_buildList_99, ePatch_buildList_102, ePatch_buildList_103, ePatch_buildList_106, et0, ad, ai_ai_at, ai_aj_at, ai_aq_at, ai_si_at, ai_sj_at, ai_sq_at, ai_cy_at, ai_al_at, ai_na_0, ai_na_1, ai_na_2, ai_na_3, ai_rc_at, ai_th_v, ai_th_n, ai_th_z, ai_sw, ai_nl_i, ai_nl_r, ai_nl_l, ai_nl_n, nI_clamp, nI_add, pk_mul, pk_sub, az_e0, az_l0, az_g0, az_p0, az_q0, az_eq, az_lt, az_le, az_m1, az_m2, az_m3, az_m4, az_m5, az_m6, az_m7, az_m8, az_dec, az_bd, az_b0, az_bt, az_bf, dn_leT, dn_leF, dn_ltT, dn_ltF, dn_eqT, dn_eqF, ↓reduceIte, if_true, if_false, not_true_eq_false, not_false_eq_true, true_and, and_true, false_and, and_false, true_or, or_true, false_or, or_false, Nat.reduceAdd, Nat.reduceMul, Nat.reduceSub, Nat.reduceLT, Nat.reduceLeDiff, Nat.reduceEqDiff, Nat.add_zero, Nat.zero_add, ne_eq, reduceCtorEq, decide_true, decide_false, Bool.true_eq_false, Bool.false_eq_true, Classical.not_not]
    | succ k ih =>
      intro hk
      obtain ⟨l6, a1⟩ := ih (by omega)
      obtain ⟨c1, c2, c3, c4⟩ := cbk_f (it := it) hov hpw hfit k (by omega)
      have hlen := cbk_len (o := o) (it := it) (n := rn A2 B2 o) (l := l) hk
      have hx : l[k]? = some (l[k]'(by omega)) := List.getElem?_eq_getElem (by omega)
      have v := hov _ (List.mem_of_getElem? hx)
      have c := rX k _ hx
      have hk7 : k < 127 := by omega
      rw [cbk_s hx] at hlen ⊢
      generalize l[k]'(by omega) = q at hx v c hlen ⊢
      generalize cbk o it l k = s at *
      obtain ⟨L, f⟩ := s
      simp only at a1 c1 c2 c3 c4
      have on : ∀ (P Q R T : Nat → Int32), ai_ev none 41 0 [some (.ref d), some (.int (nI k)), some (.int (nI 3)), some (.int (nI o))] [] (gw w t P Q R T) = some (some (.int (ai_bI (cD (q.1 = 3 ∧ q.2.1 = o)))), gw w t P Q R T) := fun P Q R T => s_isOn hk7 v (by decide) (by omega) c (frd P Q R T)
      by_cases hq : onL o q
      · have hq' : q.1 = 3 ∧ q.2.1 = o := hq
        simp only [cD_t hq'] at on
        rw [cbs_t hq] at hlen ⊢
        simp only at hlen ⊢
        rw [List.length_append, List.length_append, row_len] at hlen
        have hpl := c2 k q (Nat.le_refl _) hx hq
        have hcon : q.2.2.2.2.1 = nI q.2.2.2.2.2.length ∧ q.2.2.2.2.2.length ≤ 6 ∧ q.2.2.1 + q.2.2.2.1 ≤ 6 := by
          rcases v.2 with ⟨z, _⟩ | ⟨z, _⟩ | ⟨_, z1, z2, z, _⟩
          · omega
          · omega
          · exact ⟨z, z2, z1⟩
        obtain ⟨hc1, hc2, hc3⟩ := hcon
        have pl : ∀ (P Q R T : Nat → Int32), ai_ev none 44 0 [some (.ref d), some (.int (nI k))] [] (gw w t P Q R T) = some (some (.int (nI q.2.2.1)), gw w t P Q R T) := fun P Q R T => by
          have := s_place hk7 (frd P Q R T)
          rw [c.2.2.1] at this
          exact this
        have isz : ∀ (P Q R T : Nat → Int32), ai_ev none 40 0 [some (.ref d), some (.int (nI k))] [] (gw w t P Q R T) = some (some (.int (nI q.2.2.2.2.2.length)), gw w t P Q R T) := fun P Q R T => by
          have := s_inserts hk7 (frd P Q R T)
          rw [c.2.2.2.2.1, hc1] at this
          exact this
        have en : ∀ (P Q R T : Nat → Int32), ai_ev none 35 0 [some (.ref d), some (.int (nI k))] [] (gw w t P Q R T) = some (some (.int (nI (q.2.2.1 + q.2.2.2.1))), gw w t P Q R T) := fun P Q R T => by
          have := s_end hk7 (frd P Q R T)
          rw [c.2.2.1, c.2.2.2.1, nI_add] at this
          exact this
        have cp := s_cpy (w := gw w t A1 (upd B o (nI L.length)) C1 (wr D o L)) (g := g) (t := t) (o := o) (A := A1) (B := B) (C := C1) (D := D) (L := L) (a := f) (b := q.2.2.1) (n := 0) htg ho (by omega) (by omega) (frg _ _ _ _) hB (by omega) gw_w
        rw [gw_w, hit] at cp
        have inn : ∀ i, i ≤ q.2.2.2.2.2.length → ai_ev none 100 12 [some (.ref d), some (.int (nI o)), some (.ref g), some (.ref t), some (.int (nI f)), some (.int (nI k)), l6] [] (gw w t A1 (upd B o (nI L.length)) C1 (wr D o L)) = ai_ev none 100 49 [some (.ref d), some (.int (nI o)), some (.ref g), some (.ref t), some (.int (nI f)), some (.int (nI k)), some (.int (nI i))] [] (gw w t A1 (upd B o (nI (L ++ row it f (q.2.2.1 - f) ++ q.2.2.2.2.2.take i).length)) C1 (wr D o (L ++ row it f (q.2.2.1 - f) ++ q.2.2.2.2.2.take i))) := by
          intro i
          induction i with
          | zero =>
            intro _
            rw [List.take_zero, List.append_nil]
            refine ePatch_buildList_12.trans ?_
            simp (disch := omega) only [ePatch_buildList_0, ePatch_buildList_1, ePatch_buildList_2, ePatch_buildList_3, ePatch_buildList_6, ePatch_buildList_7, ePatch_buildList_9, ePatch_buildList_10, ePatch_buildList_14, ePatch_buildList_15, ePatch_buildList_18, ePatch_buildList_21, ePatch_buildList_22, ePatch_buildList_24, ePatch_buildList_25, ePatch_buildList_26, ePatch_buildList_29, ePatch_buildList_32, ePatch_buildList_33, ePatch_buildList_34, ePatch_buildList_36, ePatch_buildList_37, ePatch_buildList_39, ePatch_buildList_42, ePatch_buildList_43, ePatch_buildList_46, ePatch_buildList_47, ePatch_buildList_51, ePatch_buildList_52, ePatch_buildList_54, ePatch_buildList_57, ePatch_buildList_60, ePatch_buildList_61, ePatch_buildList_62, ePatch_buildList_63, ePatch_buildList_65, ePatch_buildList_67, ePatch_buildList_70, ePatch_buildList_73, ePatch_buildList_76, ePatch_buildList_79, ePatch_buildList_80, ePatch_buildList_82, ePatch_buildList_85, ePatch_buildList_87, ePatch_buildList_90, ePatch_buildList_93, ePatch_buildList_94, ePatch_buildList_95, ePatch_buildList_97, ePatch_buildList_98, ePatch_buildList_99, ePatch_buildList_102, ePatch_buildList_103, ePatch_buildList_106, ed, eg, et, sz, on, pl, cp, ai_ai_at, ai_aj_at, ai_aq_at, ai_si_at, ai_sj_at, ai_sq_at, ai_cy_at, ai_al_at, ai_na_0, ai_na_1, ai_na_2, ai_na_3, ai_rc_at, ai_th_v, ai_th_n, ai_th_z, ai_sw, ai_nl_i, ai_nl_r, ai_nl_l, ai_nl_n, nI_clamp, nI_add, pk_mul, pk_sub, az_e0, az_l0, az_g0, az_p0, az_q0, az_eq, az_lt, az_le, az_m1, az_m2, az_m3, az_m4, az_m5, az_m6, az_m7, az_m8, az_dec, az_bd, az_b0, az_bt, az_bf, dn_leT, dn_leF, dn_ltT, dn_ltF, dn_eqT, dn_eqF, ↓reduceIte, if_true, if_false, not_true_eq_false, not_false_eq_true, true_and, and_true, false_and, and_false, true_or, or_true, false_or, or_false, Nat.reduceAdd, Nat.reduceMul, Nat.reduceSub, Nat.reduceLT, Nat.reduceLeDiff, Nat.reduceEqDiff, Nat.add_zero, Nat.zero_add, ne_eq, reduceCtorEq, decide_true, decide_false, Bool.true_eq_false, Bool.false_eq_true, Classical.not_not]
          | succ i ih2 =>
            intro hi
            rw [ih2 (by omega)]
            have hy : q.2.2.2.2.2[i]? = some (q.2.2.2.2.2[i]'(by omega)) := List.getElem?_eq_getElem (by omega)
            have et2 : q.2.2.2.2.2.take (i + 1) = q.2.2.2.2.2.take i ++ [q.2.2.2.2.2[i]'(by omega)] := by
              rw [List.take_succ, hy]
              rfl
            rw [et2, ← List.append_assoc]
            have ci := c.2.2.2.2.2 i _ hy
            generalize q.2.2.2.2.2[i]'(by omega) = x at hy ci
            have hL2 : (L ++ row it f (q.2.2.1 - f) ++ q.2.2.2.2.2.take i).length < 6 := by
              rw [List.length_append, List.length_append, row_len, List.length_take]
              omega
            generalize L ++ row it f (q.2.2.1 - f) ++ q.2.2.2.2.2.take i = L2 at hL2
            have ap := s_app (w := gw w t A1 (upd B o (nI L2.length)) C1 (wr D o L2)) (t := t) (A := A1) (B := B) (C := C1) (D := D) (x := x) ho hL2 gw_w
            rw [gw_w] at ap
            have ins := s_inserted hk7 (show i < 6 by omega) (frd A1 (upd B o (nI L2.length)) C1 (wr D o L2))
            rw [ci] at ins
            refine ePatch_buildList_49.trans ?_
            simp (disch := omega) only [ePatch_buildList_0, ePatch_buildList_1, ePatch_buildList_2, ePatch_buildList_3, ePatch_buildList_6, ePatch_buildList_7, ePatch_buildList_9, ePatch_buildList_10, ePatch_buildList_14, ePatch_buildList_15, ePatch_buildList_18, ePatch_buildList_21, ePatch_buildList_22, ePatch_buildList_24, ePatch_buildList_25, ePatch_buildList_26, ePatch_buildList_29, ePatch_buildList_32, ePatch_buildList_33, ePatch_buildList_34, ePatch_buildList_36, ePatch_buildList_37, ePatch_buildList_39, ePatch_buildList_42, ePatch_buildList_43, ePatch_buildList_46, ePatch_buildList_47, ePatch_buildList_51, ePatch_buildList_52, ePatch_buildList_54, ePatch_buildList_57, ePatch_buildList_60, ePatch_buildList_61, ePatch_buildList_62, ePatch_buildList_63, ePatch_buildList_65, ePatch_buildList_67, ePatch_buildList_70, ePatch_buildList_73, ePatch_buildList_76, ePatch_buildList_79, ePatch_buildList_80, ePatch_buildList_82, ePatch_buildList_85, ePatch_buildList_87, ePatch_buildList_90, ePatch_buildList_93, ePatch_buildList_94, ePatch_buildList_95, ePatch_buildList_97, ePatch_buildList_98, ePatch_buildList_99, ePatch_buildList_102, ePatch_buildList_103, ePatch_buildList_106, ed, et, isz, ins, ap, ai_ai_at, ai_aj_at, ai_aq_at, ai_si_at, ai_sj_at, ai_sq_at, ai_cy_at, ai_al_at, ai_na_0, ai_na_1, ai_na_2, ai_na_3, ai_rc_at, ai_th_v, ai_th_n, ai_th_z, ai_sw, ai_nl_i, ai_nl_r, ai_nl_l, ai_nl_n, nI_clamp, nI_add, pk_mul, pk_sub, az_e0, az_l0, az_g0, az_p0, az_q0, az_eq, az_lt, az_le, az_m1, az_m2, az_m3, az_m4, az_m5, az_m6, az_m7, az_m8, az_dec, az_bd, az_b0, az_bt, az_bf, dn_leT, dn_leF, dn_ltT, dn_ltF, dn_eqT, dn_eqF, ↓reduceIte, if_true, if_false, not_true_eq_false, not_false_eq_true, true_and, and_true, false_and, and_false, true_or, or_true, false_or, or_false, Nat.reduceAdd, Nat.reduceMul, Nat.reduceSub, Nat.reduceLT, Nat.reduceLeDiff, Nat.reduceEqDiff, Nat.add_zero, Nat.zero_add, ne_eq, reduceCtorEq, decide_true, decide_false, Bool.true_eq_false, Bool.false_eq_true, Classical.not_not]
        have fi := inn q.2.2.2.2.2.length (Nat.le_refl _)
        rw [List.take_of_length_le (Nat.le_refl _)] at fi
        refine ⟨some (.int (nI q.2.2.2.2.2.length)), a1.trans (fi.trans ?_)⟩
        refine ePatch_buildList_49.trans ?_
        simp (disch := omega) only [ePatch_buildList_0, ePatch_buildList_1, ePatch_buildList_2, ePatch_buildList_3, ePatch_buildList_6, ePatch_buildList_7, ePatch_buildList_9, ePatch_buildList_10, ePatch_buildList_14, ePatch_buildList_15, ePatch_buildList_18, ePatch_buildList_21, ePatch_buildList_22, ePatch_buildList_24, ePatch_buildList_25, ePatch_buildList_26, ePatch_buildList_29, ePatch_buildList_32, ePatch_buildList_33, ePatch_buildList_34, ePatch_buildList_36, ePatch_buildList_37, ePatch_buildList_39, ePatch_buildList_42, ePatch_buildList_43, ePatch_buildList_46, ePatch_buildList_47, ePatch_buildList_51, ePatch_buildList_52, ePatch_buildList_54, ePatch_buildList_57, ePatch_buildList_60, ePatch_buildList_61, ePatch_buildList_62, ePatch_buildList_63, ePatch_buildList_65, ePatch_buildList_67, ePatch_buildList_70, ePatch_buildList_73, ePatch_buildList_76, ePatch_buildList_79, ePatch_buildList_80, ePatch_buildList_82, ePatch_buildList_85, ePatch_buildList_87, ePatch_buildList_90, ePatch_buildList_93, ePatch_buildList_94, ePatch_buildList_95, ePatch_buildList_97, ePatch_buildList_98, ePatch_buildList_99, ePatch_buildList_102, ePatch_buildList_103, ePatch_buildList_106, ed, isz, en, ai_ai_at, ai_aj_at, ai_aq_at, ai_si_at, ai_sj_at, ai_sq_at, ai_cy_at, ai_al_at, ai_na_0, ai_na_1, ai_na_2, ai_na_3, ai_rc_at, ai_th_v, ai_th_n, ai_th_z, ai_sw, ai_nl_i, ai_nl_r, ai_nl_l, ai_nl_n, nI_clamp, nI_add, pk_mul, pk_sub, az_e0, az_l0, az_g0, az_p0, az_q0, az_eq, az_lt, az_le, az_m1, az_m2, az_m3, az_m4, az_m5, az_m6, az_m7, az_m8, az_dec, az_bd, az_b0, az_bt, az_bf, dn_leT, dn_leF, dn_ltT, dn_ltF, dn_eqT, dn_eqF, ↓reduceIte, if_true, if_false, not_true_eq_false, not_false_eq_true, true_and, and_true, false_and, and_false, true_or, or_true, false_or, or_false, Nat.reduceAdd, Nat.reduceMul, Nat.reduceSub, Nat.reduceLT, Nat.reduceLeDiff, Nat.reduceEqDiff, Nat.add_zero, Nat.zero_add, ne_eq, reduceCtorEq, decide_true, decide_false, Bool.true_eq_false, Bool.false_eq_true, Classical.not_not]
      · have hq' : ¬ (q.1 = 3 ∧ q.2.1 = o) := hq
        simp only [cD_f hq'] at on
        rw [cbs_f hq]
        refine ⟨l6, a1.trans ?_⟩
        refine ePatch_buildList_12.trans ?_
        simp (disch := omega) only [ePatch_buildList_0, ePatch_buildList_1, ePatch_buildList_2, ePatch_buildList_3, ePatch_buildList_6, ePatch_buildList_7, ePatch_buildList_9, ePatch_buildList_10, ePatch_buildList_14, ePatch_buildList_15, ePatch_buildList_18, ePatch_buildList_21, ePatch_buildList_22, ePatch_buildList_24, ePatch_buildList_25, ePatch_buildList_26, ePatch_buildList_29, ePatch_buildList_32, ePatch_buildList_33, ePatch_buildList_34, ePatch_buildList_36, ePatch_buildList_37, ePatch_buildList_39, ePatch_buildList_42, ePatch_buildList_43, ePatch_buildList_46, ePatch_buildList_47, ePatch_buildList_51, ePatch_buildList_52, ePatch_buildList_54, ePatch_buildList_57, ePatch_buildList_60, ePatch_buildList_61, ePatch_buildList_62, ePatch_buildList_63, ePatch_buildList_65, ePatch_buildList_67, ePatch_buildList_70, ePatch_buildList_73, ePatch_buildList_76, ePatch_buildList_79, ePatch_buildList_80, ePatch_buildList_82, ePatch_buildList_85, ePatch_buildList_87, ePatch_buildList_90, ePatch_buildList_93, ePatch_buildList_94, ePatch_buildList_95, ePatch_buildList_97, ePatch_buildList_98, ePatch_buildList_99, ePatch_buildList_102, ePatch_buildList_103, ePatch_buildList_106, ed, sz, on, ai_ai_at, ai_aj_at, ai_aq_at, ai_si_at, ai_sj_at, ai_sq_at, ai_cy_at, ai_al_at, ai_na_0, ai_na_1, ai_na_2, ai_na_3, ai_rc_at, ai_th_v, ai_th_n, ai_th_z, ai_sw, ai_nl_i, ai_nl_r, ai_nl_l, ai_nl_n, nI_clamp, nI_add, pk_mul, pk_sub, az_e0, az_l0, az_g0, az_p0, az_q0, az_eq, az_lt, az_le, az_m1, az_m2, az_m3, az_m4, az_m5, az_m6, az_m7, az_m8, az_dec, az_bd, az_b0, az_bt, az_bf, dn_leT, dn_leF, dn_ltT, dn_ltF, dn_eqT, dn_eqF, ↓reduceIte, if_true, if_false, not_true_eq_false, not_false_eq_true, true_and, and_true, false_and, and_false, true_or, or_true, false_or, or_false, Nat.reduceAdd, Nat.reduceMul, Nat.reduceSub, Nat.reduceLT, Nat.reduceLeDiff, Nat.reduceEqDiff, Nat.add_zero, Nat.zero_add, ne_eq, reduceCtorEq, decide_true, decide_false, Bool.true_eq_false, Bool.false_eq_true, Classical.not_not]
  obtain ⟨l6, a1⟩ := st l.length (Nat.le_refl _)
  obtain ⟨c1, c2, c3, c4⟩ := cbk_f (it := it) hov hpw hfit l.length (Nat.le_refl _)
  rw [a1]
  have hF : fin o it (rn A2 B2 o) l = (cbk o it l l.length).1 ++ row it (cbk o it l l.length).2 (rn A2 B2 o - (cbk o it l l.length).2) := rfl
  have hF6' := hF6
  rw [hF, List.length_append, row_len] at hF6'
  rw [hF]
  generalize cbk o it l l.length = s at *
  obtain ⟨L, f⟩ := s
  simp only at c1 hF6'
  have cp := s_cpy (w := gw w t A1 (upd B o (nI L.length)) C1 (wr D o L)) (g := g) (t := t) (o := o) (A := A1) (B := B) (C := C1) (D := D) (L := L) (a := f) (b := rn A2 B2 o) (n := 0) htg ho (by omega) (by omega) (frg _ _ _ _) hB (by omega) gw_w
  rw [gw_w, hit] at cp
  refine ePatch_buildList_12.trans ?_
  simp (disch := omega) only [ePatch_buildList_0, ePatch_buildList_1, ePatch_buildList_2, ePatch_buildList_3, ePatch_buildList_6, ePatch_buildList_7, ePatch_buildList_9, ePatch_buildList_10, ePatch_buildList_14, ePatch_buildList_15, ePatch_buildList_18, ePatch_buildList_21, ePatch_buildList_22, ePatch_buildList_24, ePatch_buildList_25, ePatch_buildList_26, ePatch_buildList_29, ePatch_buildList_32, ePatch_buildList_33, ePatch_buildList_34, ePatch_buildList_36, ePatch_buildList_37, ePatch_buildList_39, ePatch_buildList_42, ePatch_buildList_43, ePatch_buildList_46, ePatch_buildList_47, ePatch_buildList_51, ePatch_buildList_52, ePatch_buildList_54, ePatch_buildList_57, ePatch_buildList_60, ePatch_buildList_61, ePatch_buildList_62, ePatch_buildList_63, ePatch_buildList_65, ePatch_buildList_67, ePatch_buildList_70, ePatch_buildList_73, ePatch_buildList_76, ePatch_buildList_79, ePatch_buildList_80, ePatch_buildList_82, ePatch_buildList_85, ePatch_buildList_87, ePatch_buildList_90, ePatch_buildList_93, ePatch_buildList_94, ePatch_buildList_95, ePatch_buildList_97, ePatch_buildList_98, ePatch_buildList_99, ePatch_buildList_102, ePatch_buildList_103, ePatch_buildList_106, ed, eg, et, sz, sl, cp, ai_ai_at, ai_aj_at, ai_aq_at, ai_si_at, ai_sj_at, ai_sq_at, ai_cy_at, ai_al_at, ai_na_0, ai_na_1, ai_na_2, ai_na_3, ai_rc_at, ai_th_v, ai_th_n, ai_th_z, ai_sw, ai_nl_i, ai_nl_r, ai_nl_l, ai_nl_n, nI_clamp, nI_add, pk_mul, pk_sub, az_e0, az_l0, az_g0, az_p0, az_q0, az_eq, az_lt, az_le, az_m1, az_m2, az_m3, az_m4, az_m5, az_m6, az_m7, az_m8, az_dec, az_bd, az_b0, az_bt, az_bf, dn_leT, dn_leF, dn_ltT, dn_ltF, dn_eqT, dn_eqF, ↓reduceIte, if_true, if_false, not_true_eq_false, not_false_eq_true, true_and, and_true, false_and, and_false, true_or, or_true, false_or, or_false, Nat.reduceAdd, Nat.reduceMul, Nat.reduceSub, Nat.reduceLT, Nat.reduceLeDiff, Nat.reduceEqDiff, Nat.add_zero, Nat.zero_add, ne_eq, reduceCtorEq, decide_true, decide_false, Bool.true_eq_false, Bool.false_eq_true, Classical.not_not]
end BL
