theorem wk_os2 {P R : Nat → Int32} {o n m : Nat} : ∀ (ms : List Bool) (p i j : Nat), p + ms.length = n → j ≤ m → lc_s ms (sx P n p) (sx R m j) = true → osum (wk P R o n m ms p i j) ≤ 5 + 5 * (m - j)
  | [], p, i, j, _, _, _ => by
    have := gap_os (R := R) (o := o) (i := i) (e := n) (j := j) (s := m)
    show osum (gap R o i n j m) ≤ _
    omega
  | false :: ms, p, i, j, hp, hj, hs => by
    have hpn : p < n := by simp at hp; omega
    rw [sx_c hpn] at hs
    have := wk_os2 (P := P) (R := R) (o := o) (n := n) (m := m) ms (p + 1) i j (by simp at hp; omega) hj hs
    show osum (wk P R o n m ms (p + 1) i j) ≤ _
    omega
  | true :: ms, p, i, j, hp, hj, hs => by
    have hpn : p < n := by simp at hp; omega
    rw [sx_c hpn] at hs
    rcases fi_sx (R := R) (x := P p) hj with ⟨s1, s2, s3, s4, s5⟩ | ⟨s1, s2⟩
    · simp only [lc_s, s5] at hs
      have h1 := wk_os2 (P := P) (R := R) (o := o) (n := n) (m := m) ms (p + 1) (p + 1) (fi R (P p) (m - j) j + 1) (by simp at hp; omega) (by omega) hs
      have h2 := gap_os (R := R) (o := o) (i := i) (e := p) (j := j) (s := fi R (P p) (m - j) j)
      show osum (gap R o i p j _ ++ wk P R o n m ms (p + 1) (p + 1) _) ≤ _
      rw [osum_app]
      omega
    · simp only [lc_s, s2] at hs
      cases hs
theorem dob_os2 {A B C D A2 B2 C2 D2 : Nat → Int32} {o : Nat} (hB : gr_B B) (hB2 : gr_B B2) (ho : o < 16) : osum (dob A B C D A2 B2 C2 D2 o) ≤ 35 ∧ (A2 o = nI 0 → osum (dob A B C D A2 B2 C2 D2 o) ≤ 27) := by
  have hd := dset_os (A := A) (C := C) (D := D) (A2 := A2) (C2 := C2) (D2 := D2) (o := o) 3
  unfold dob
  split
  · next hL =>
    have h2 := (lc_g_ok (sx (gi A B D o) (rn A B o) 0) (sx (gi A2 B2 D2 o) (rn A2 B2 o) 0)).2.2
    have h3 : (sx (gi A B D o) (rn A B o) 0).length = rn A B o - 0 := row_len _ _ _
    have h4 := (rn_eq (A := A) hB ho).2
    have h5 := (rn_eq (A := A2) hB2 ho).2
    have h1 := wk_os2 (P := gi A B D o) (R := gi A2 B2 D2 o) (o := o) (n := rn A B o) (m := rn A2 B2 o) (lc_g (sx (gi A B D o) (rn A B o) 0) (sx (gi A2 B2 D2 o) (rn A2 B2 o) 0)) 0 0 0 (by omega) (by omega) (lc_g_ok _ _).1
    refine ⟨by omega, fun z => ?_⟩
    rw [hL] at z
    exact absurd z (by decide +kernel)
  · split
    · exact ⟨by omega, fun _ => by omega⟩
    · exact ⟨by simp [osum], fun _ => by simp [osum]⟩
theorem dall_os2 {A B C D A2 B2 C2 D2 : Nat → Int32} (h0 : ¬ A 0 = -1) (h2 : A2 0 = nI 0) (hB : gr_B B) (hB2 : gr_B B2) : ∀ o, o < 16 → osum (dall A B C D A2 B2 C2 D2 (o + 1)) ≤ 72 + 35 * o
  | 0, _ => by
    have h1 := dcr_os h0 (A2 := A2) 16
    have h3 := (dob_os2 (A := A) (B := B) (C := C) (D := D) (A2 := A2) (B2 := B2) (C2 := C2) (D2 := D2) (o := 0) hB hB2 (by omega)).2 h2
    show osum (dcr A A2 16 ++ dob A B C D A2 B2 C2 D2 0) ≤ _
    rw [osum_app]
    omega
  | o + 1, ho => by
    have ih := dall_os2 h0 h2 hB hB2 (C := C) (D := D) (C2 := C2) (D2 := D2) o (by omega)
    have h3 := (dob_os2 (A := A) (C := C) (D := D) (A2 := A2) (C2 := C2) (D2 := D2) (o := o + 1) hB hB2 (by omega)).1
    show osum (dall A B C D A2 B2 C2 D2 (o + 1) ++ dob A B C D A2 B2 C2 D2 (o + 1)) ≤ _
    rw [osum_app]
    omega
def rk (q : op) : Nat := if q.1 = 1 then q.2.1 else 16 + 7 * q.2.1 + q.2.2.1
theorem ov_c {q : op} (h : ov q) : q.2.1 < 16 ∧ ((q.1 = 1 ∧ 1 ≤ q.2.1) ∨ (q.1 = 2 ∧ q.2.2.1 ≤ 2) ∨ (q.1 = 3 ∧ q.2.2.1 + q.2.2.2.1 ≤ 6)) := by
  refine ⟨h.1, ?_⟩
  rcases h.2 with ⟨a, b, _⟩ | ⟨a, b, _⟩ | ⟨a, b, _⟩
  · exact Or.inl ⟨a, b⟩
  · exact Or.inr (Or.inl ⟨a, b⟩)
  · exact Or.inr (Or.inr ⟨a, b⟩)
theorem rk_1 {q : op} (h : q.1 = 1) : rk q = q.2.1 := if_pos h
theorem rk_n {q : op} (h : ¬ q.1 = 1) : rk q = 16 + 7 * q.2.1 + q.2.2.1 := if_neg h
theorem rk_b {q : op} (h : ov q) : 1 ≤ rk q ∧ rk q ≤ 127 := by
  obtain ⟨h1, h2⟩ := ov_c h
  by_cases h3 : q.1 = 1
  · rw [rk_1 h3]; omega
  · rw [rk_n h3]; omega
theorem ofol_1 {p q : op} (h : q.1 = 1) (z : ofol p q) : p.1 = 1 ∧ p.2.1 < q.2.1 := by
  unfold ofol at z
  rw [if_pos h] at z
  exact z
theorem ofol_n {p q : op} (h : ¬ q.1 = 1) (z : ofol p q) : p.1 = 1 ∨ p.2.1 < q.2.1 ∨ (p.2.1 = q.2.1 ∧ p.1 = q.1 ∧ p.2.2.1 < q.2.2.1 ∧ (q.1 = 3 → p.2.2.1 + p.2.2.2.1 < q.2.2.1)) := by
  unfold ofol at z
  rw [if_neg h] at z
  rcases z with z | z | ⟨z1, z2, z3⟩
  · exact Or.inl z
  · exact Or.inr (Or.inl z)
  · refine Or.inr (Or.inr ⟨z1, z2, ?_, fun h3 => ?_⟩)
    · split at z3 <;> omega
    · rw [if_neg (by omega)] at z3
      exact z3
theorem ofol_i {p q : op} (h : ¬ q.1 = 1) (z : p.1 = 1 ∨ p.2.1 < q.2.1 ∨ (p.2.1 = q.2.1 ∧ p.1 = q.1 ∧ p.2.2.1 < q.2.2.1 ∧ (¬ q.1 = 2 → p.2.2.1 + p.2.2.2.1 < q.2.2.1))) : ofol p q := by
  unfold ofol
  rw [if_neg h]
  rcases z with z | z | ⟨z1, z2, z3, z4⟩
  · exact Or.inl z
  · exact Or.inr (Or.inl z)
  · refine Or.inr (Or.inr ⟨z1, z2, ?_⟩)
    split
    · exact z3
    · next h2 => exact z4 h2
theorem ofol_rk {p q : op} (hp : ov p) (hq : ov q) (h : ofol p q) : rk p < rk q := by
  obtain ⟨p1, p2⟩ := ov_c hp
  obtain ⟨q1, q2⟩ := ov_c hq
  by_cases h3 : q.1 = 1
  · obtain ⟨z1, z2⟩ := ofol_1 h3 h
    rw [rk_1 h3, rk_1 z1]
    exact z2
  · rw [rk_n h3]
    rcases ofol_n h3 h with z | z | ⟨z1, z2, z3, _⟩
    · rw [rk_1 z]; omega
    · by_cases h4 : p.1 = 1
      · rw [rk_1 h4]; omega
      · rw [rk_n h4]; omega
    · rw [rk_n (by omega)]; omega
theorem ofol_in {l : List op} (hov : ∀ q, q ∈ l → ov q) (hpw : l.Pairwise ofol) {p q : op} (hp : p ∈ l) (hq : q ∈ l) (h : rk p < rk q) : ofol p q := by
  obtain ⟨i, hi, rfl⟩ := List.getElem_of_mem hp
  obtain ⟨j, hj, rfl⟩ := List.getElem_of_mem hq
  rcases Nat.lt_or_ge i j with hij | hij
  · exact List.pairwise_iff_getElem.mp hpw i j hi hj hij
  · rcases Nat.lt_or_ge j i with hji | hji
    · have := ofol_rk (hov _ (List.getElem_mem hj)) (hov _ (List.getElem_mem hi)) (List.pairwise_iff_getElem.mp hpw j i hj hi hji)
      omega
    · have : i = j := by omega
      subst this
      omega
theorem rk_inc {l : List op} (hov : ∀ q, q ∈ l → ov q) (hpw : l.Pairwise ofol) {i j : Nat} {p q : op} (hij : i < j) (hp : l[i]? = some p) (hq : l[j]? = some q) : rk p < rk q := by
  obtain ⟨b1, e1⟩ := List.getElem?_eq_some_iff.mp hp
  obtain ⟨b2, e2⟩ := List.getElem?_eq_some_iff.mp hq
  rw [← e1, ← e2]
  exact ofol_rk (hov _ (List.getElem_mem b1)) (hov _ (List.getElem_mem b2)) (List.pairwise_iff_getElem.mp hpw i j b1 b2 hij)
theorem rk_len : ∀ (l : List op) (lo : Nat), (∀ q, q ∈ l → ov q) → l.Pairwise ofol → (∀ q, q ∈ l → lo < rk q) → lo ≤ 127 → l.length + lo ≤ 127
  | [], lo, _, _, _, h => by simpa using h
  | a :: l, lo, hov, hpw, hlo, h => by
    obtain ⟨h1, h2⟩ := List.pairwise_cons.mp hpw
    have ha := hov a List.mem_cons_self
    have hb := rk_b ha
    have h3 := hlo a List.mem_cons_self
    have := rk_len l (rk a) (fun q hq => hov q (List.mem_cons_of_mem _ hq)) h2 (fun q hq => ofol_rk ha (hov q (List.mem_cons_of_mem _ hq)) (h1 q hq)) hb.2
    rw [List.length_cons]
    omega
def clp (a b : op) : Prop := ¬ a.1 = 1 ∧ a.1 = b.1 ∧ a.2.1 = b.2.1 ∧ ¬ a = b ∧ (if a.1 = 2 then a.2.2.1 = b.2.2.1 else a.2.2.1 ≤ b.2.2.1 + b.2.2.2.1 ∧ b.2.2.1 ≤ a.2.2.1 + a.2.2.2.1)
def okd (K : Nat → Int32) (q : op) : Prop := ov q ∧ ((q.1 = 1 ∧ K q.2.1 = nI q.2.2.1) ∨ (q.1 = 2 ∧ K q.2.1 = nI 0) ∨ (q.1 = 3 ∧ K q.2.1 = nI 1))
theorem okd_c {K : Nat → Int32} {p q : op} (hp : okd K p) (hq : okd K q) (h : p.2.1 = q.2.1) (h1 : ¬ p.1 = 1) (h2 : ¬ q.1 = 1) : p.1 = q.1 := by
  have z : ¬ nI 0 = nI 1 := by decide +kernel
  rcases hp.2 with ⟨a, _⟩ | ⟨a, b⟩ | ⟨a, b⟩
  · exact absurd a h1
  · rcases hq.2 with ⟨c, _⟩ | ⟨c, d⟩ | ⟨c, d⟩
    · exact absurd c h2
    · omega
    · rw [h, d] at b
      exact absurd b.symm z
  · rcases hq.2 with ⟨c, _⟩ | ⟨c, d⟩ | ⟨c, d⟩
    · exact absurd c h2
    · rw [h, d] at b
      exact absurd b z
    · omega
theorem ofol_x {K : Nat → Int32} {p q : op} (hp : okd K p) (hq : okd K q) (h : rk p < rk q) (hc : ¬ clp p q ∨ ¬ clp q p) : ofol p q := by
  obtain ⟨p1, p2⟩ := ov_c hp.1
  obtain ⟨q1, q2⟩ := ov_c hq.1
  by_cases h3 : q.1 = 1
  · unfold ofol
    rw [if_pos h3]
    rw [rk_1 h3] at h
    by_cases h4 : p.1 = 1
    · rw [rk_1 h4] at h
      exact ⟨h4, h⟩
    · rw [rk_n h4] at h
      omega
  · apply ofol_i h3
    by_cases h4 : p.1 = 1
    · exact Or.inl h4
    · have h' := h
      rw [rk_n h3, rk_n h4] at h
      by_cases h5 : p.2.1 = q.2.1
      · have h6 := okd_c hp hq h5 h4 h3
        refine Or.inr (Or.inr ⟨h5, h6, by omega, fun h7 => ?_⟩)
        have hne : ¬ p = q := fun z => by rw [z] at h'; omega
        rcases hc with hc | hc
        · by_cases h8 : q.2.2.1 ≤ p.2.2.1 + p.2.2.2.1
          · exact absurd ⟨h4, h6, h5, hne, by rw [if_neg (by omega)]; exact ⟨by omega, h8⟩⟩ hc
          · omega
        · by_cases h8 : q.2.2.1 ≤ p.2.2.1 + p.2.2.2.1
          · exact absurd ⟨h3, h6.symm, h5.symm, fun z => hne z.symm, by rw [if_neg h7]; exact ⟨h8, by omega⟩⟩ hc
          · omega
      · exact Or.inr (Or.inl (by omega))
