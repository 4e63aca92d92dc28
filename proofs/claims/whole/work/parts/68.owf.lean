def osum (l : List op) : Nat := (l.map olen).sum
theorem osum_app (l k : List op) : osum (l ++ k) = osum l + osum k := by simp [osum]
theorem osum_1 (q : op) : osum [q] = olen q := by simp [osum]
theorem vlen_le (v : Int32) : vlen v ≤ 5 := by
  unfold vlen
  simp only
  repeat' split
  all_goals omega
theorem vsum_le : ∀ l : List Int32, (l.map vlen).sum ≤ 5 * l.length
  | [] => Nat.le_refl _
  | v :: l => by
    have h1 := vlen_le v
    have h2 := vsum_le l
    simp
    omega
theorem gap_os {R : Nat → Int32} {o i e j s : Nat} : osum (gap R o i e j s) ≤ 5 + 5 * (s - j) := by
  unfold gap
  split
  · simp [osum]
  · rw [osum_1]
    have h := vsum_le (row R j (s - j))
    rw [row_len] at h
    have e1 : olen (3, o, i, e - i, nI (s - j), row R j (s - j)) = 5 + ((row R j (s - j)).map vlen).sum := by
      simp [olen]
    rw [e1]
    omega
theorem fi_ge {f : Nat → Int32} {x : Int32} {c j : Nat} : j ≤ fi f x c j := by
  rcases fi_spec (R := f) (x := x) c j with ⟨_, h, _⟩ | ⟨h, _⟩ <;> omega
theorem wk_os {P R : Nat → Int32} {o n m : Nat} : ∀ (ms : List Bool) (p i j : Nat), osum (wk P R o n m ms p i j) ≤ 5 * (ms.length + 1) + 5 * (m - j)
  | [], p, i, j => by
    have := gap_os (R := R) (o := o) (i := i) (e := n) (j := j) (s := m)
    show osum (gap R o i n j m) ≤ _
    simp
    omega
  | false :: ms, p, i, j => by
    have := wk_os (P := P) (R := R) (o := o) (n := n) (m := m) ms (p + 1) i j
    show osum (wk P R o n m ms (p + 1) i j) ≤ _
    simp
    omega
  | true :: ms, p, i, j => by
    have h1 := wk_os (P := P) (R := R) (o := o) (n := n) (m := m) ms (p + 1) (p + 1) (fi R (P p) (m - j) j + 1)
    have h2 := gap_os (R := R) (o := o) (i := i) (e := p) (j := j) (s := fi R (P p) (m - j) j)
    have h3 := fi_le (f := R) (x := P p) (c := m - j) (j := j)
    have h4 := fi_ge (f := R) (x := P p) (c := m - j) (j := j)
    show osum (gap R o i p j _ ++ wk P R o n m ms (p + 1) (p + 1) _) ≤ _
    rw [osum_app]
    simp
    omega
theorem dset_os {A C D A2 C2 D2 : Nat → Int32} {o : Nat} : ∀ k, osum (dset A C D A2 C2 D2 o k) ≤ 9 * k
  | 0 => Nat.le_refl _
  | k + 1 => by
    have ih := dset_os (A := A) (C := C) (D := D) (A2 := A2) (C2 := C2) (D2 := D2) (o := o) k
    unfold dset
    rw [osum_app]
    split
    · simp [osum] at ih ⊢; omega
    · rw [osum_1]
      have hv := vlen_le (tn A2 D2 o k)
      have : olen (2, o, k, (tg A2 C2 o k).toNatClampNeg, tn A2 D2 o k, []) ≤ 9 := by
        have e1 : olen (2, o, k, (tg A2 C2 o k).toNatClampNeg, tn A2 D2 o k, []) = if (tg A2 C2 o k).toNatClampNeg = 0 then 4 else if (tg A2 C2 o k).toNatClampNeg = 1 then 4 + vlen (tn A2 D2 o k) else 5 := by
          simp [olen]
        rw [e1]
        repeat' split
        all_goals omega
      omega
theorem dob_os {A B C D A2 B2 C2 D2 : Nat → Int32} {o : Nat} (hB : gr_B B) (hB2 : gr_B B2) (ho : o < 16) : osum (dob A B C D A2 B2 C2 D2 o) ≤ 65 := by
  unfold dob
  split
  · have h1 := wk_os (P := gi A B D o) (R := gi A2 B2 D2 o) (o := o) (n := rn A B o) (m := rn A2 B2 o) (lc_g (sx (gi A B D o) (rn A B o) 0) (sx (gi A2 B2 D2 o) (rn A2 B2 o) 0)) 0 0 0
    have h2 := (lc_g_ok (sx (gi A B D o) (rn A B o) 0) (sx (gi A2 B2 D2 o) (rn A2 B2 o) 0)).2.2
    have h3 : (sx (gi A B D o) (rn A B o) 0).length = rn A B o - 0 := row_len _ _ _
    have h4 := (rn_eq (A := A) hB ho).2
    have h5 := (rn_eq (A := A2) hB2 ho).2
    omega
  · split
    · have := dset_os (A := A) (C := C) (D := D) (A2 := A2) (C2 := C2) (D2 := D2) (o := o) 3
      omega
    · simp [osum]
theorem dcr_os {A A2 : Nat → Int32} (h0 : ¬ A 0 = -1) : ∀ o, osum (dcr A A2 o) ≤ 3 * (o - 1)
  | 0 => Nat.le_refl _
  | o + 1 => by
    have ih := dcr_os h0 (A2 := A2) o
    unfold dcr
    rw [osum_app]
    by_cases ho : o = 0
    · subst ho
      rw [if_neg (fun z => h0 z.2)]
      simp [osum] at ih ⊢
      exact ih
    · split
      · rw [osum_1]
        simp [olen]
        omega
      · simp [osum] at ih ⊢
        omega
theorem dall_os {A B C D A2 B2 C2 D2 : Nat → Int32} (h0 : ¬ A 0 = -1) (hB : gr_B B) (hB2 : gr_B B2) : ∀ o, o ≤ 16 → osum (dall A B C D A2 B2 C2 D2 o) ≤ 45 + 65 * o
  | 0, _ => by
    have := dcr_os h0 (A2 := A2) 16
    show osum (dcr A A2 16) ≤ _
    omega
  | o + 1, ho => by
    have ih := dall_os h0 hB hB2 (C := C) (D := D) (A2 := A2) (C2 := C2) (D2 := D2) o (by omega)
    have h2 := dob_os (A := A) (C := C) (D := D) (A2 := A2) (C2 := C2) (D2 := D2) (o := o) hB hB2 (by omega)
    show osum (dall A B C D A2 B2 C2 D2 o ++ dob A B C D A2 B2 C2 D2 o) ≤ _
    rw [osum_app]
    omega
theorem gap_mem {R : Nat → Int32} {o i e j s : Nat} {q : op} (h : q ∈ gap R o i e j s) : q = (3, o, i, e - i, nI (s - j), row R j (s - j)) ∧ ¬ (i = e ∧ j = s) := by
  unfold gap at h
  split at h
  · cases h
  · next hz =>
    simp at h
    exact ⟨h, hz⟩
theorem wk_mem {P R : Nat → Int32} {o n m : Nat} (ho : o < 16) (hn : n ≤ 6) (hm : m ≤ 6) : ∀ (ms : List Bool) (p i j : Nat), p + ms.length = n → i ≤ p → j ≤ m → lc_s ms (sx P n p) (sx R m j) = true → ∀ q, q ∈ wk P R o n m ms p i j → ov q ∧ q.1 = 3 ∧ q.2.1 = o ∧ i ≤ q.2.2.1
  | [], p, i, j, hp, hi, hj, _, q, hq => by
    obtain ⟨rfl, hz⟩ := gap_mem hq
    have hpn : p = n := by simpa using hp
    have hlen := row_len R (m - j) j
    exact ⟨⟨ho, Or.inr (Or.inr ⟨rfl, show i + (n - i) ≤ 6 by omega, show (row R j (m - j)).length ≤ 6 by omega, show nI (m - j) = nI (row R j (m - j)).length by rw [hlen], show 0 < n - i + (row R j (m - j)).length by omega⟩)⟩, rfl, rfl, Nat.le_refl _⟩
  | false :: ms, p, i, j, hp, hi, hj, hs, q, hq => by
    have hpn : p < n := by simp at hp; omega
    rw [sx_c hpn] at hs
    exact wk_mem ho hn hm ms (p + 1) i j (by simp at hp; omega) (by omega) hj hs q hq
  | true :: ms, p, i, j, hp, hi, hj, hs, q, hq => by
    have hpn : p < n := by simp at hp; omega
    rw [sx_c hpn] at hs
    rcases fi_sx (R := R) (x := P p) hj with ⟨s1, s2, s3, s4, s5⟩ | ⟨s1, s2⟩
    · simp only [lc_s, s5] at hs
      have hq : q ∈ gap R o i p j (fi R (P p) (m - j) j) ++ wk P R o n m ms (p + 1) (p + 1) (fi R (P p) (m - j) j + 1) := hq
      rcases List.mem_append.mp hq with hq | hq
      · obtain ⟨rfl, hz⟩ := gap_mem hq
        generalize fi R (P p) (m - j) j = s at *
        have hlen := row_len R (s - j) j
        exact ⟨⟨ho, Or.inr (Or.inr ⟨rfl, show i + (p - i) ≤ 6 by omega, show (row R j (s - j)).length ≤ 6 by omega, show nI (s - j) = nI (row R j (s - j)).length by rw [hlen], show 0 < p - i + (row R j (s - j)).length by omega⟩)⟩, rfl, rfl, Nat.le_refl _⟩
      · obtain ⟨a1, a2, a3, a4⟩ := wk_mem ho hn hm ms (p + 1) (p + 1) (fi R (P p) (m - j) j + 1) (by simp at hp; omega) (Nat.le_refl _) (by omega) hs q hq
        exact ⟨a1, a2, a3, by omega⟩
    · simp only [lc_s, s2] at hs
      cases hs
