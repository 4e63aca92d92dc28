theorem sub1 (x : Int32) : x - nI 1 = x + -1 := by
  rw [Int32.sub_eq_add_neg]
  rfl
theorem m1_neg : nI 0 + -1 < 0 := by decide +kernel
section FW
variable {w : ai_W} {f : Nat} {P R M : Nat → Int32}
theorem s_cp2 {n m i : Nat} {l3 l4 : Option Value} (hn : n ≤ 6) (hm : m ≤ 6) (hi : i < n) (hf : fw w f P R (nI n) (nI m) M = w) (hM : mOk P R n m M i m) : ∀ c, c ≤ m → ∃ M' l3' l4', ai_ev none 54 26 [some (.ref f), some (.int (nI i)), some (.int (nI m + -1)), l3, l4] [] w = ai_ev none 54 26 [some (.ref f), some (.int (nI i)), some (.int (nI (m - c) + -1)), l3', l4'] [] (fw w f P R (nI n) (nI m) M') ∧ mOk P R n m M' i (m - c)
  | 0, _ => ⟨M, l3, l4, by rw [Nat.sub_zero, hf], by rw [Nat.sub_zero]; exact hM⟩
  | c + 1, hc => by
    obtain ⟨M1, a3, a4, b1, b2⟩ := s_cp2 (l3 := l3) (l4 := l4) hn hm hi hf hM c (by omega)
    have e : m - c = (m - (c + 1)) + 1 := by omega
    rw [e] at b1 b2
    obtain ⟨M2, c3, c4, d1, d2⟩ := s_cp1 (w := fw w f P R (nI n) (nI m) M1) (l3 := a3) (l4 := a4) hn hm hi (show m - (c + 1) < m by omega) fw_w b2
    rw [fw_w] at d1
    rw [pk_m1] at b1
    exact ⟨M2, c3, c4, b1.trans d1, d2⟩
theorem s_cp3 {n m : Nat} {l2 l3 l4 : Option Value} (hn : n ≤ 6) (hm : m ≤ 6) (hf : fw w f P R (nI n) (nI m) M = w) (hM : mOk P R n m M n 0) : ∀ c, c ≤ n → ∃ M' l2' l3' l4', ai_ev none 54 15 [some (.ref f), some (.int (nI n + -1)), l2, l3, l4] [] w = ai_ev none 54 15 [some (.ref f), some (.int (nI (n - c) + -1)), l2', l3', l4'] [] (fw w f P R (nI n) (nI m) M') ∧ mOk P R n m M' (n - c) 0
  | 0, _ => ⟨M, l2, l3, l4, by rw [Nat.sub_zero, hf], by rw [Nat.sub_zero]; exact hM⟩
  | c + 1, hc => by
    obtain ⟨M1, a2, a3, a4, b1, b2⟩ := s_cp3 (l2 := l2) (l3 := l3) (l4 := l4) hn hm hf hM c (by omega)
    have e : n - c = (n - (c + 1)) + 1 := by omega
    rw [e] at b1 b2
    have hM1 : mOk P R n m M1 (n - (c + 1)) m := by
      intro i' j' h1 h2 h3
      exact b2 i' j' h1 h2 (by omega)
    obtain ⟨M2, c3, c4, d1, d2⟩ := s_cp2 (w := fw w f P R (nI n) (nI m) M1) (l3 := a3) (l4 := a4) hn hm (show n - (c + 1) < n by omega) fw_w hM1 m (Nat.le_refl _)
    rw [fw_w, Nat.sub_self] at d1
    rw [Nat.sub_self] at d2
    rw [pk_m1] at b1
    have z := m1_neg
    refine ⟨M2, some (.int (nI 0 + -1)), c3, c4, b1.trans ?_, d2⟩
    refine eDifference_countPairs_15.trans ?_
    have s1 : ai_ev none 54 16 [some (.ref f), some (.int (nI (n - (c + 1)))), a2, a3, a4] [.int (nI (n - (c + 1)))] (fw w f P R (nI n) (nI m) M1) = ai_ev none 54 26 [some (.ref f), some (.int (nI (n - (c + 1)))), some (.int (nI m + -1)), a3, a4] [] (fw w f P R (nI n) (nI m) M1) := by
      refine eDifference_countPairs_16.trans ?_
      rw [if_neg (nI_pos (by omega))]
      refine eDifference_countPairs_19.trans ?_
      refine eDifference_countPairs_20.trans ?_
      rw [fw_g0, gf_2_3]
      refine eDifference_countPairs_23.trans ?_
      refine eDifference_countPairs_24.trans ?_
      refine eDifference_countPairs_25.trans ?_
      rw [sub1]
    rw [s1, d1]
    refine eDifference_countPairs_26.trans ?_
    refine eDifference_countPairs_27.trans ?_
    rw [if_pos z]
    refine eDifference_countPairs_106.trans ?_
    exact eDifference_countPairs_109
theorem s_count {n m : Nat} (hn : n ≤ 6) (hm : m ≤ 6) (hf : fw w f P R (nI n) (nI m) M = w) : ∃ M', ai_ev none 54 0 [some (.ref f), none, none, none, none] [] w = some (none, fw w f P R (nI n) (nI m) M') ∧ ∀ i j, i ≤ n → j ≤ m → M' (i * 7 + j) = nI (lc_m (sx P n i) (sx R m j)) := by
  have e := fw_at hf
  have hfill := s_fill (v := nI 0) (fw_at3 hf) (by decide)
  have e0 : ai_ev none 54 0 [some (.ref f), none, none, none, none] [] w = ai_ev none 54 15 [some (.ref f), some (.int (nI n + -1)), none, none, none] [] (fw w f P R (nI n) (nI m) (ar_f M 0 49 (nI 0))) := by
    have hp : ai_put w (f + 3) (.inl (0, 49, .inl (ar_f M 0 49 (nI 0)))) = fw w f P R (nI n) (nI m) (ar_f M 0 49 (nI 0)) := by
      conv => lhs; rw [← hf]
      exact fw_p3
    rw [hp] at hfill
    refine eDifference_countPairs_0.trans ?_
    refine eDifference_countPairs_1.trans ?_
    rw [e, gf_2_4]
    refine eDifference_countPairs_4.trans ?_
    refine eDifference_countPairs_5.trans ?_
    rw [hfill, ai_th_n]
    refine eDifference_countPairs_8.trans ?_
    refine eDifference_countPairs_9.trans ?_
    rw [fw_g0, gf_2_2]
    refine eDifference_countPairs_12.trans ?_
    refine eDifference_countPairs_13.trans ?_
    refine eDifference_countPairs_14.trans ?_
    rw [sub1]
  have h0 : mOk P R n m (ar_f M 0 49 (nI 0)) n 0 := by
    intro i' j' h1 h2 h3
    rw [ar_f_in (by omega) (by omega)]
    have hz : i' = n ∨ j' = m := by omega
    rcases hz with rfl | rfl
    · rw [sx_n (Nat.le_refl _)]; rfl
    · rw [sx_n (f := R) (Nat.le_refl _), lc_nil]
  obtain ⟨M1, a2, a3, a4, b1, b2⟩ := s_cp3 (w := fw w f P R (nI n) (nI m) (ar_f M 0 49 (nI 0))) (l2 := none) (l3 := none) (l4 := none) hn hm fw_w h0 n (Nat.le_refl _)
  rw [fw_w, Nat.sub_self] at b1
  rw [Nat.sub_self] at b2
  have z := m1_neg
  refine ⟨M1, ?_, fun i j hi hj => b2 i j hi hj (by omega)⟩
  rw [e0, b1]
  refine eDifference_countPairs_15.trans ?_
  refine eDifference_countPairs_16.trans ?_
  rw [if_pos z]
  exact eDifference_countPairs_112
end FW
