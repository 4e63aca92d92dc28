theorem go_adm {n o : Nat} {K A B C D : Nat → Int32} {b : Int32} (hn : o < n) (hn16 : n ≤ 16) (h1o : 1 ≤ o) (hb : b = nI 0 ∨ b = nI 1) (hK : K o = b) (h : go n K A B C D) : go n K (upd A o b) (upd B o (nI 0)) (ar_f C (o * 3) ((o + 1) * 3) (nI 0)) (ar_f D (o * 6) ((o + 1) * 6) (nI 0)) := by
  have hb1 : ¬ b = -1 := by rcases hb with rfl | rfl <;> decide +kernel
  refine ⟨by rw [ud_n (by omega)]; exact h.1, fun p hp => ?_⟩
  by_cases hon : p = o
  · subst hon
    have c1 : ∀ k, k < 3 → ar_f C (p * 3) ((p + 1) * 3) (nI 0) (p * 3 + k) = nI 0 := fun k hk => ar_f_in (by omega) (by omega)
    have d1 : ∀ k, k < 6 → ar_f D (p * 6) ((p + 1) * 6) (nI 0) (p * 6 + k) = nI 0 := fun k hk => ar_f_in (by omega) (by omega)
    rw [ud_s, ud_s]
    rcases hb with rfl | rfl
    · exact Or.inr (Or.inl ⟨rfl, hn, hK, rfl, fun k hk => Or.inl ⟨c1 k hk, d1 k (by omega)⟩, fun k _ hk => d1 k hk⟩)
    · exact Or.inr (Or.inr ⟨rfl, hn, hK, c1, 0, by omega, rfl, fun k _ hk => d1 k hk⟩)
  · have c1 : ∀ k, k < 3 → ar_f C (o * 3) ((o + 1) * 3) (nI 0) (p * 3 + k) = C (p * 3 + k) := fun k hk => ar_f_out (by omega)
    have d1 : ∀ k, k < 6 → ar_f D (o * 6) ((o + 1) * 6) (nI 0) (p * 6 + k) = D (p * 6 + k) := fun k hk => ar_f_out (by omega)
    rw [ud_n hon, ud_n hon]
    rcases h.2 p hp with ⟨h1, h2, h3, h4⟩ | ⟨h1, h2, h3, h4, h5, h6⟩ | ⟨h1, h2, h3, h4, m, h5, h6, h7⟩
    · exact Or.inl ⟨h1, h2, fun k hk => (c1 k hk).trans (h3 k hk), fun k hk => (d1 k hk).trans (h4 k hk)⟩
    · exact Or.inr (Or.inl ⟨h1, h2, h3, h4, fun k hk => by rw [c1 k hk, d1 k (by omega)]; exact gsl_up hb1 (h5 k hk), fun k hk hk2 => (d1 k hk2).trans (h6 k hk hk2)⟩)
    · exact Or.inr (Or.inr ⟨h1, h2, h3, fun k hk => (c1 k hk).trans (h4 k hk), m, h5, h6, fun k hk hk2 => (d1 k hk2).trans (h7 k hk hk2)⟩)
theorem gm_adm {g o : Nat} {li ha le : Nat → Int32} {ce : Nat → Int64} {A B C D : Nat → Int32} {b : Int32} (ho : o < 16) (hb : b = nI 0 ∨ b = nI 1) (hli : li o = b) (h : gm li ha le ce g A B C D) : gm li (upd ha (16 * g + o) (nI 1)) (upd le (16 * g + o) (nI 0)) (cl3 ce (16 * g + o)) g (upd A o b) (upd B o (nI 0)) (ar_f C (o * 3) ((o + 1) * 3) (nI 0)) (ar_f D (o * 6) ((o + 1) * 6) (nI 0)) := by
  intro p hp
  by_cases hon : p = o
  · subst hon
    rw [ud_s, ud_s, ud_s, ud_s]
    rcases hb with rfl | rfl
    · refine Or.inr (Or.inl ⟨rfl, rfl, hli, fun k hk => ?_⟩)
      rw [show 96 * g + 6 * p + k = 6 * (16 * g + p) + k by omega, cl3_in hk, ar_f_in (by omega) (by omega), sv_0]
    · refine Or.inr (Or.inr ⟨rfl, rfl, hli, rfl, fun k hk hk2 => ?_⟩)
      exact absurd hk2 (nI_nlt (by omega) (by omega))
  · rw [ud_n hon, ud_n hon, ud_n (show ¬ 16 * g + p = 16 * g + o by omega), ud_n (show ¬ 16 * g + p = 16 * g + o by omega)]
    rcases h p hp with ⟨q1, q2⟩ | ⟨q1, q2, q3, q4⟩ | ⟨q1, q2, q3, q4, q5⟩
    · exact Or.inl ⟨q1, q2⟩
    · refine Or.inr (Or.inl ⟨q1, q2, q3, fun k hk => ?_⟩)
      rw [cl3_out (by omega), ar_f_out (by omega), ar_f_out (by omega)]
      exact q4 k hk
    · refine Or.inr (Or.inr ⟨q1, q2, q3, q4, fun k hk hk2 => ?_⟩)
      rw [cl3_out (by omega), ar_f_out (by omega)]
      exact q5 k hk hk2
theorem gm_set {g j i : Nat} {li ha le : Nat → Int32} {ce : Nat → Int64} {A B C D : Nat → Int32} {c d : Int32} {x : Int64} (hj : j < 16) (hi : i < 3) (hA : A j = nI 0) (hx : x = sv c d) (h : gm li ha le ce g A B C D) : gm li ha le (vp_updL ce (6 * (16 * g + j) + i) x) g A B (upd C (j * 3 + i) c) (upd D (j * 6 + i) d) := by
  intro o ho
  rcases h o ho with ⟨h1, h2⟩ | ⟨h1, h2, h3, h4⟩ | ⟨h1, h2, h3, h4, h5⟩
  · exact Or.inl ⟨h1, h2⟩
  · refine Or.inr (Or.inl ⟨h1, h2, h3, fun k hk => ?_⟩)
    by_cases hz : o = j ∧ k = i
    · obtain ⟨rfl, rfl⟩ := hz
      rw [ud_s, ud_s, show 96 * g + 6 * o + k = 6 * (16 * g + o) + k by omega, pk_uLs, hx]
    · rw [uL_n (by omega), ud_n (by omega), ud_n (by omega)]
      exact h4 k hk
  · have hoj : ¬ o = j := by intro e; subst e; rw [hA] at h1; exact absurd h1 (by decide +kernel)
    refine Or.inr (Or.inr ⟨h1, h2, h3, h4, fun k hk hk2 => ?_⟩)
    rw [uL_n (by omega), ud_n (by omega)]
    exact h5 k hk hk2
theorem gm_lsg {g j l : Nat} {li ha le : Nat → Int32} {ce ce' : Nat → Int64} {A B C D D' : Nat → Int32} (hj : j < 16) (hl : l ≤ 6) (hA : A j = nI 1) (hd : ∀ o k, o < 16 → k < 6 → ¬ o = j → D' (o * 6 + k) = D (o * 6 + k)) (hc : ∀ o k, o < 16 → k < 6 → ¬ o = j → ce' (96 * g + 6 * o + k) = ce (96 * g + 6 * o + k)) (hz : ∀ k, k < l → ce' (96 * g + 6 * j + k) = (D' (j * 6 + k)).toInt64) (h : gm li ha le ce g A B C D) : gm li ha (upd le (16 * g + j) (nI l)) ce' g A (upd B j (nI l)) C D' := by
  intro o ho
  have h2 := h o ho
  by_cases hoj : o = j
  · subst hoj
    rw [ud_s, ud_s]
    rcases h2 with ⟨q1, _⟩ | ⟨q1, _⟩ | ⟨q1, q2, q3, q4, q5⟩
    · rw [hA] at q1; exact absurd q1 (by decide +kernel)
    · rw [hA] at q1; exact absurd q1 (by decide +kernel)
    · exact Or.inr (Or.inr ⟨q1, q2, q3, rfl, fun k hk hk2 => hz k ((nI_ltI (by omega) (by omega)).mp hk2)⟩)
  · rw [ud_n (by omega), ud_n hoj]
    rcases h2 with q1 | ⟨q1, q2, q3, q4⟩ | ⟨q1, q2, q3, q4, q5⟩
    · exact Or.inl q1
    · exact Or.inr (Or.inl ⟨q1, q2, q3, fun k hk => by rw [hc o k ho (by omega) hoj, hd o k ho (by omega) hoj]; exact q4 k hk⟩)
    · exact Or.inr (Or.inr ⟨q1, q2, q3, q4, fun k hk hk2 => by rw [hc o k ho hk hoj, hd o k ho hk hoj]; exact q5 k hk hk2⟩)
def wr (D : Nat → Int32) (o : Nat) (L : List Int32) : Nat → Int32 := fun q => if o * 6 ≤ q ∧ q < o * 6 + 6 then L.getD (q - o * 6) (nI 0) else D q
theorem wr_0 {D : Nat → Int32} {o : Nat} : ar_f D (o * 6) ((o + 1) * 6) (nI 0) = wr D o [] := by
  funext q
  unfold wr ar_f
  by_cases h : o * 6 ≤ q ∧ q < o * 6 + 6
  · rw [if_pos h, if_pos (by omega)]
    simp
  · rw [if_neg h, if_neg (by omega)]
theorem wr_s {D : Nat → Int32} {o : Nat} {L : List Int32} {x : Int32} (h : L.length < 6) : upd (wr D o L) (o * 6 + L.length) x = wr D o (L ++ [x]) := by
  funext q
  rw [ud_at]
  unfold wr
  by_cases hq : q = o * 6 + L.length
  · subst hq
    rw [if_pos rfl, if_pos (by omega), show o * 6 + L.length - o * 6 = L.length by omega]
    simp
  · rw [if_neg hq]
    by_cases h2 : o * 6 ≤ q ∧ q < o * 6 + 6
    · rw [if_pos h2, if_pos h2]
      rcases Nat.lt_or_ge (q - o * 6) L.length with h3 | h3
      · rw [List.getD_eq_getElem?_getD, List.getD_eq_getElem?_getD, List.getElem?_append_left h3]
      · rw [List.getD_eq_getElem?_getD, List.getD_eq_getElem?_getD, List.getElem?_eq_none h3, List.getElem?_eq_none (by simp; omega)]
    · rw [if_neg h2, if_neg h2]
theorem wr_o {D : Nat → Int32} {o p k : Nat} {L : List Int32} (h : ¬ p = o) (hk : k < 6) : wr D o L (p * 6 + k) = D (p * 6 + k) := if_neg (by omega)
theorem wr_i {D : Nat → Int32} {o k : Nat} {L : List Int32} (hk : k < 6) : wr D o L (o * 6 + k) = L.getD k (nI 0) := by
  unfold wr
  rw [if_pos (by omega), show o * 6 + k - o * 6 = k by omega]
def wrL (ce : Nat → Int64) (p : Nat) (L : List Int32) : Nat → Int64 := fun q => if p ≤ q ∧ q < p + L.length then (L.getD (q - p) (nI 0)).toInt64 else ce q
theorem wrL_0 {ce : Nat → Int64} {p : Nat} : wrL ce p [] = ce := by
  funext q
  unfold wrL
  rw [if_neg (by simp only [List.length_nil]; omega)]
theorem wrL_s {ce : Nat → Int64} {p : Nat} {L : List Int32} {x : Int32} : vp_updL (wrL ce p L) (p + L.length) x.toInt64 = wrL ce p (L ++ [x]) := by
  funext q
  rw [uL_at]
  unfold wrL
  have hl : (L ++ [x]).length = L.length + 1 := by simp
  by_cases hq : q = p + L.length
  · subst hq
    rw [if_pos rfl, if_pos (by omega), show p + L.length - p = L.length by omega]
    simp
  · rw [if_neg hq]
    by_cases h2 : p ≤ q ∧ q < p + L.length
    · rw [if_pos h2, if_pos (by omega), List.getD_eq_getElem?_getD, List.getD_eq_getElem?_getD, List.getElem?_append_left (by omega)]
    · rw [if_neg h2, if_neg (by omega)]
theorem wrL_o {ce : Nat → Int64} {p q : Nat} {L : List Int32} (h : q < p ∨ p + L.length ≤ q) : wrL ce p L q = ce q := if_neg (by omega)
theorem wrL_i {ce : Nat → Int64} {p k : Nat} {L : List Int32} (hk : k < L.length) : wrL ce p L (p + k) = (L.getD k (nI 0)).toInt64 := by
  unfold wrL
  rw [if_pos (by omega), show p + k - p = k by omega]
section GW
variable {w : ai_W} {g t o : Nat} {A B C D A2 B2 C2 D2 : Nat → Int32}
theorem s_app {L : List Int32} {x : Int32} (ho : o < 16) (hL : L.length < 6) (h : gw w t A (upd B o (nI L.length)) C (wr D o L) = w) : ai_ev none 72 0 [some (.ref t), some (.int (nI o)), some (.int x)] [] w = some (none, gw w t A (upd B o (nI (L ++ [x]).length)) C (wr D o (L ++ [x]))) := by
  rw [s_append ho hL ud_s h, ud_ud, wr_s hL]
  simp
theorem s_cpy {L : List Int32} {a b n : Nat} (htg : t + 4 < g ∨ g + 4 < t) (ho : o < 16) (haa : a < 2 ^ 31) (hb : b < 2 ^ 31) (hg : gw w g A2 B2 C2 D2 = w) (hB : gr_B B2) (hL : L.length + (b - a) ≤ 6) (hw : gw w t A (upd B o (nI L.length)) C (wr D o L) = w) : ai_ev none 102 0 [some (.ref g), some (.int (nI o)), some (.int (nI a)), some (.int (nI b)), some (.ref t), none] [] w = some (none, gw w t A (upd B o (nI (L ++ row (gi A2 B2 D2 o) a (b - a)).length)) C (wr D o (L ++ row (gi A2 B2 D2 o) a (b - a)))) := by
  have fr : ∀ (Q R : Nat → Int32), gw (gw w t A Q C R) g A2 B2 C2 D2 = gw w t A Q C R := fun Q R => gw_fr hg (fun k _ _ => gw_go (by omega))
  have eg : ∀ (Q R : Nat → Int32), (gw w t A Q C R).2.2 g = .inr (4, [.ref (g + 1), .ref (g + 2), .ref (g + 3), .ref (g + 4)]) := fun Q R => gw_at (fr Q R)
  have et : ∀ (Q R : Nat → Int32), (gw w t A Q C R).2.2 t = .inr (4, [.ref (t + 1), .ref (t + 2), .ref (t + 3), .ref (t + 4)]) := fun Q R => gw_g0
  have it : ∀ (Q R : Nat → Int32) (k : Nat), ai_ev none 84 0 [some (.ref g), some (.int (nI o)), some (.int (nI k))] [] (gw w t A Q C R) = some (some (.int (gi A2 B2 D2 o k)), gw w t A Q C R) := fun Q R k => s_item (fr Q R) hB
  have rs : ∀ (c a : Nat), row (gi A2 B2 D2 o) a (c + 1) = row (gi A2 B2 D2 o) a c ++ [gi A2 B2 D2 o (a + c)] := by
    intro c
    induction c with
    | zero => intro a; rfl
    | succ c ihc =>
      intro a
      show gi A2 B2 D2 o a :: row (gi A2 B2 D2 o) (a + 1) (c + 1) = gi A2 B2 D2 o a :: (row (gi A2 B2 D2 o) (a + 1) c ++ [gi A2 B2 D2 o (a + (c + 1))])
      rw [ihc (a + 1), show a + 1 + c = a + (c + 1) by omega]
  have st : ∀ c, c ≤ b - a → ai_ev none 102 0 [some (.ref g), some (.int (nI o)), some (.int (nI a)), some (.int (nI b)), some (.ref t), none] [] w = ai_ev none 102 3 [some (.ref g), some (.int (nI o)), some (.int (nI a)), some (.int (nI b)), some (.ref t), some (.int (nI (a + c)))] [] (gw w t A (upd B o (nI (L ++ row (gi A2 B2 D2 o) a c).length)) C (wr D o (L ++ row (gi A2 B2 D2 o) a c))) := by
    intro c
    induction c with
    | zero =>
      intro _
      have ez : L ++ row (gi A2 B2 D2 o) a 0 = L := List.append_nil L
      rw [ez, hw]
      simp (disch := omega) only [ePatch_copyItems_0, ePatch_copyItems_1, ePatch_copyItems_5, ePatch_copyItems_6, ePatch_copyItems_9, ePatch_copyItems_11, ePatch_copyItems_12, ePatch_copyItems_13, ePatch_copyItems_14, ePatch_copyItems_16, ePatch_copyItems_19, ePatch_copyItems_22, ePatch_copyItems_25, ePatch_copyItems_28, ai_ai_at, ai_aj_at, ai_aq_at, ai_si_at, ai_sj_at, ai_sq_at, ai_cy_at, ai_al_at, ai_na_0, ai_na_1, ai_na_2, ai_na_3, ai_rc_at, ai_th_v, ai_th_n, ai_th_z, ai_sw, ai_nl_i, ai_nl_r, ai_nl_l, ai_nl_n, nI_clamp, nI_add, pk_mul, pk_sub, az_e0, az_l0, az_g0, az_p0, az_q0, az_eq, az_lt, az_le, az_m1, az_m2, az_m3, az_m4, az_m5, az_m6, az_m7, az_m8, az_dec, az_bd, az_b0, az_bt, az_bf, dn_leT, dn_leF, dn_ltT, dn_ltF, dn_eqT, dn_eqF, ↓reduceIte, if_true, if_false, not_true_eq_false, not_false_eq_true, true_and, and_true, false_and, and_false, true_or, or_true, false_or, or_false, Nat.reduceAdd, Nat.reduceMul, Nat.reduceSub, Nat.reduceLT, Nat.reduceLeDiff, Nat.reduceEqDiff, Nat.add_zero, Nat.zero_add, ne_eq, reduceCtorEq, decide_true, decide_false, Bool.true_eq_false, Bool.false_eq_true, Classical.not_not]
    | succ c ih =>
      intro hc
      rw [ih (by omega), rs c a, ← List.append_assoc]
      have hlen : (L ++ row (gi A2 B2 D2 o) a c).length = L.length + c := by rw [List.length_append, row_len]
      have ap := s_app (w := gw w t A (upd B o (nI (L ++ row (gi A2 B2 D2 o) a c).length)) C (wr D o (L ++ row (gi A2 B2 D2 o) a c))) (t := t) (A := A) (B := B) (C := C) (D := D) (x := gi A2 B2 D2 o (a + c)) ho (by omega) gw_w
      rw [gw_w] at ap
      have hac : a + c + 1 = a + (c + 1) := by omega
      refine ePatch_copyItems_3.trans ?_
      simp (disch := omega) only [ePatch_copyItems_0, ePatch_copyItems_1, ePatch_copyItems_5, ePatch_copyItems_6, ePatch_copyItems_9, ePatch_copyItems_11, ePatch_copyItems_12, ePatch_copyItems_13, ePatch_copyItems_14, ePatch_copyItems_16, ePatch_copyItems_19, ePatch_copyItems_22, ePatch_copyItems_25, ePatch_copyItems_28, eg, et, it, ap, hac, ai_ai_at, ai_aj_at, ai_aq_at, ai_si_at, ai_sj_at, ai_sq_at, ai_cy_at, ai_al_at, ai_na_0, ai_na_1, ai_na_2, ai_na_3, ai_rc_at, ai_th_v, ai_th_n, ai_th_z, ai_sw, ai_nl_i, ai_nl_r, ai_nl_l, ai_nl_n, nI_clamp, nI_add, pk_mul, pk_sub, az_e0, az_l0, az_g0, az_p0, az_q0, az_eq, az_lt, az_le, az_m1, az_m2, az_m3, az_m4, az_m5, az_m6, az_m7, az_m8, az_dec, az_bd, az_b0, az_bt, az_bf, dn_leT, dn_leF, dn_ltT, dn_ltF, dn_eqT, dn_eqF, ↓reduceIte, if_true, if_false, not_true_eq_false, not_false_eq_true, true_and, and_true, false_and, and_false, true_or, or_true, false_or, or_false, Nat.reduceAdd, Nat.reduceMul, Nat.reduceSub, Nat.reduceLT, Nat.reduceLeDiff, Nat.reduceEqDiff, Nat.add_zero, Nat.zero_add, ne_eq, reduceCtorEq, decide_true, decide_false, Bool.true_eq_false, Bool.false_eq_true, Classical.not_not]
  rw [st (b - a) (Nat.le_refl _)]
  refine ePatch_copyItems_3.trans ?_
  rcases Nat.lt_or_ge b a with hba | hba
  · rw [show b - a = 0 by omega, Nat.add_zero]
    simp (disch := omega) only [ePatch_copyItems_0, ePatch_copyItems_1, ePatch_copyItems_5, ePatch_copyItems_6, ePatch_copyItems_9, ePatch_copyItems_11, ePatch_copyItems_12, ePatch_copyItems_13, ePatch_copyItems_14, ePatch_copyItems_16, ePatch_copyItems_19, ePatch_copyItems_22, ePatch_copyItems_25, ePatch_copyItems_28, ai_ai_at, ai_aj_at, ai_aq_at, ai_si_at, ai_sj_at, ai_sq_at, ai_cy_at, ai_al_at, ai_na_0, ai_na_1, ai_na_2, ai_na_3, ai_rc_at, ai_th_v, ai_th_n, ai_th_z, ai_sw, ai_nl_i, ai_nl_r, ai_nl_l, ai_nl_n, nI_clamp, nI_add, pk_mul, pk_sub, az_e0, az_l0, az_g0, az_p0, az_q0, az_eq, az_lt, az_le, az_m1, az_m2, az_m3, az_m4, az_m5, az_m6, az_m7, az_m8, az_dec, az_bd, az_b0, az_bt, az_bf, dn_leT, dn_leF, dn_ltT, dn_ltF, dn_eqT, dn_eqF, ↓reduceIte, if_true, if_false, not_true_eq_false, not_false_eq_true, true_and, and_true, false_and, and_false, true_or, or_true, false_or, or_false, Nat.reduceAdd, Nat.reduceMul, Nat.reduceSub, Nat.reduceLT, Nat.reduceLeDiff, Nat.reduceEqDiff, Nat.add_zero, Nat.zero_add, ne_eq, reduceCtorEq, decide_true, decide_false, Bool.true_eq_false, Bool.false_eq_true, Classical.not_not]
  · rw [show a + (b - a) = b by omega]
    simp (disch := omega) only [ePatch_copyItems_0, ePatch_copyItems_1, ePatch_copyItems_5, ePatch_copyItems_6, ePatch_copyItems_9, ePatch_copyItems_11, ePatch_copyItems_12, ePatch_copyItems_13, ePatch_copyItems_14, ePatch_copyItems_16, ePatch_copyItems_19, ePatch_copyItems_22, ePatch_copyItems_25, ePatch_copyItems_28, ai_ai_at, ai_aj_at, ai_aq_at, ai_si_at, ai_sj_at, ai_sq_at, ai_cy_at, ai_al_at, ai_na_0, ai_na_1, ai_na_2, ai_na_3, ai_rc_at, ai_th_v, ai_th_n, ai_th_z, ai_sw, ai_nl_i, ai_nl_r, ai_nl_l, ai_nl_n, nI_clamp, nI_add, pk_mul, pk_sub, az_e0, az_l0, az_g0, az_p0, az_q0, az_eq, az_lt, az_le, az_m1, az_m2, az_m3, az_m4, az_m5, az_m6, az_m7, az_m8, az_dec, az_bd, az_b0, az_bt, az_bf, dn_leT, dn_leF, dn_ltT, dn_ltF, dn_eqT, dn_eqF, ↓reduceIte, if_true, if_false, not_true_eq_false, not_false_eq_true, true_and, and_true, false_and, and_false, true_or, or_true, false_or, or_false, Nat.reduceAdd, Nat.reduceMul, Nat.reduceSub, Nat.reduceLT, Nat.reduceLeDiff, Nat.reduceEqDiff, Nat.add_zero, Nat.zero_add, ne_eq, reduceCtorEq, decide_true, decide_false, Bool.true_eq_false, Bool.false_eq_true, Classical.not_not]
end GW
