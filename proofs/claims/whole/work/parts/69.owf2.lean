theorem pw_adj {l : List op} (h : l.Pairwise ofol) : ∀ i p q, l[i]? = some p → l[i + 1]? = some q → ofol p q := by
  intro i p q hp hq
  obtain ⟨b1, e1⟩ := List.getElem?_eq_some_iff.mp hp
  obtain ⟨b2, e2⟩ := List.getElem?_eq_some_iff.mp hq
  rw [← e1, ← e2]
  exact List.pairwise_iff_getElem.mp h i (i + 1) b1 b2 (by omega)
theorem dcr_mem {A A2 : Nat → Int32} {q : op} : ∀ i, q ∈ dcr A A2 i → ∃ o, o < i ∧ ¬ A2 o = -1 ∧ A o = -1 ∧ q = (1, o, (A2 o).toNatClampNeg, 0, nI 0, [])
  | 0, h => by cases h
  | i + 1, h => by
    unfold dcr at h
    rcases List.mem_append.mp h with h | h
    · obtain ⟨o, h1, h2⟩ := dcr_mem i h
      exact ⟨o, by omega, h2⟩
    · split at h
      · next hz =>
        simp at h
        exact ⟨i, by omega, hz.1, hz.2, h⟩
      · cases h
theorem dset_mem {A C D A2 C2 D2 : Nat → Int32} {o : Nat} {q : op} : ∀ k, q ∈ dset A C D A2 C2 D2 o k → ∃ k', k' < k ∧ q = (2, o, k', (tg A2 C2 o k').toNatClampNeg, tn A2 D2 o k', [])
  | 0, h => by cases h
  | k + 1, h => by
    unfold dset at h
    rcases List.mem_append.mp h with h | h
    · obtain ⟨k', h1, h2⟩ := dset_mem k h
      exact ⟨k', by omega, h2⟩
    · split at h
      · cases h
      · simp at h
        exact ⟨k, by omega, h⟩
section OW
variable {n : Nat} {K A B C D A2 B2 C2 D2 : Nat → Int32}
theorem dob_mem {o : Nat} {q : op} (ho : o < 16) (g1 : go n K A B C D) (g2 : go n K A2 B2 C2 D2) (h : q ∈ dob A B C D A2 B2 C2 D2 o) : ov q ∧ q.2.1 = o ∧ ((q.1 = 2 ∧ A2 o = nI 0) ∨ (q.1 = 3 ∧ A2 o = nI 1)) := by
  have hB := go_B g1
  have hB2 := go_B g2
  unfold dob at h
  split at h
  · next hL =>
    have hgl : (lc_g (sx (gi A B D o) (rn A B o) 0) (sx (gi A2 B2 D2 o) (rn A2 B2 o) 0)).length = rn A B o := by
      have h3 : (sx (gi A B D o) (rn A B o) 0).length = rn A B o - 0 := row_len _ _ _
      rw [(lc_g_ok _ _).2.2, h3, Nat.sub_zero]
    obtain ⟨a1, a2, a3, _⟩ := wk_mem ho (rn_eq (A := A) hB ho).2 (rn_eq (A := A2) hB2 ho).2 _ 0 0 0 (by omega) (Nat.le_refl _) (by omega) (lc_g_ok _ _).1 q h
    exact ⟨a1, a3, Or.inr ⟨a2, hL⟩⟩
  · split at h
    · next hR =>
      obtain ⟨k, hk, rfl⟩ := dset_mem 3 h
      refine ⟨⟨ho, Or.inr (Or.inl ⟨rfl, show k ≤ 2 by omega, rfl, ?_⟩)⟩, rfl, Or.inl ⟨rfl, hR⟩⟩
      rcases go_tg g2 ho hk with ⟨t1, t2⟩ | t1 | ⟨t1, p, t2, t3, _⟩
      · exact Or.inl ⟨show (tg A2 C2 o k).toNatClampNeg = 0 by rw [t1]; exact nI_clamp (by decide), t2⟩
      · exact Or.inr (Or.inl (show (tg A2 C2 o k).toNatClampNeg = 1 by rw [t1]; exact nI_clamp (by decide)))
      · exact Or.inr (Or.inr ⟨show (tg A2 C2 o k).toNatClampNeg = 2 by rw [t1]; exact nI_clamp (by decide), p, t2, t3⟩)
    · cases h
theorem dall_mem {q : op} : ∀ i, q ∈ dall A B C D A2 B2 C2 D2 i → q ∈ dcr A A2 16 ∨ ∃ o, o < i ∧ q ∈ dob A B C D A2 B2 C2 D2 o
  | 0, h => Or.inl h
  | i + 1, h => by
    have h : q ∈ dall A B C D A2 B2 C2 D2 i ++ dob A B C D A2 B2 C2 D2 i := h
    rcases List.mem_append.mp h with h | h
    · rcases dall_mem i h with h | ⟨o, h1, h2⟩
      · exact Or.inl h
      · exact Or.inr ⟨o, by omega, h2⟩
    · exact Or.inr ⟨i, by omega, h⟩
theorem dcr_pw : ∀ i, (dcr A A2 i).Pairwise ofol
  | 0 => List.Pairwise.nil
  | i + 1 => by
    unfold dcr
    refine List.pairwise_append.mpr ⟨dcr_pw i, ?_, fun p hp q hq => ?_⟩
    · split
      · exact List.pairwise_singleton _ _
      · exact List.Pairwise.nil
    · split at hq
      · simp at hq
        subst hq
        obtain ⟨o, ho, _, _, rfl⟩ := dcr_mem i hp
        show ofol _ _
        unfold ofol
        rw [if_pos rfl]
        exact ⟨rfl, ho⟩
      · cases hq
theorem dset_pw {o : Nat} : ∀ k, (dset A C D A2 C2 D2 o k).Pairwise ofol
  | 0 => List.Pairwise.nil
  | k + 1 => by
    unfold dset
    refine List.pairwise_append.mpr ⟨dset_pw k, ?_, fun p hp q hq => ?_⟩
    · split
      · exact List.Pairwise.nil
      · exact List.pairwise_singleton _ _
    · split at hq
      · cases hq
      · simp at hq
        subst hq
        obtain ⟨k', hk', rfl⟩ := dset_mem k hp
        unfold ofol
        rw [if_neg (show ¬ (2 : Nat) = 1 by decide), if_pos rfl]
        exact Or.inr (Or.inr ⟨rfl, rfl, hk'⟩)
theorem wk_pw {P R : Nat → Int32} {o m' n' : Nat} (ho : o < 16) (hn : n' ≤ 6) (hm : m' ≤ 6) : ∀ (ms : List Bool) (p i j : Nat), p + ms.length = n' → i ≤ p → j ≤ m' → lc_s ms (sx P n' p) (sx R m' j) = true → (wk P R o n' m' ms p i j).Pairwise ofol
  | [], p, i, j, _, _, _, _ => by
    show (gap R o i n' j m').Pairwise ofol
    unfold gap
    split
    · exact List.Pairwise.nil
    · exact List.pairwise_singleton _ _
  | false :: ms, p, i, j, hp, hi, hj, hs => by
    have hpn : p < n' := by simp at hp; omega
    rw [sx_c hpn] at hs
    exact wk_pw ho hn hm ms (p + 1) i j (by simp at hp; omega) (by omega) hj hs
  | true :: ms, p, i, j, hp, hi, hj, hs => by
    have hpn : p < n' := by simp at hp; omega
    rw [sx_c hpn] at hs
    rcases fi_sx (R := R) (x := P p) hj with ⟨s1, s2, s3, s4, s5⟩ | ⟨s1, s2⟩
    · simp only [lc_s, s5] at hs
      have ih := wk_pw ho hn hm ms (p + 1) (p + 1) (fi R (P p) (m' - j) j + 1) (by simp at hp; omega) (Nat.le_refl _) (by omega) hs
      show (gap R o i p j (fi R (P p) (m' - j) j) ++ wk P R o n' m' ms (p + 1) (p + 1) (fi R (P p) (m' - j) j + 1)).Pairwise ofol
      refine List.pairwise_append.mpr ⟨?_, ih, fun a ha b hb => ?_⟩
      · unfold gap
        split
        · exact List.Pairwise.nil
        · exact List.pairwise_singleton _ _
      · obtain ⟨rfl, _⟩ := gap_mem ha
        obtain ⟨_, b2, b3, b4⟩ := wk_mem ho hn hm ms (p + 1) (p + 1) (fi R (P p) (m' - j) j + 1) (by simp at hp; omega) (Nat.le_refl _) (by omega) hs b hb
        unfold ofol
        rw [if_neg (by rw [b2]; decide), if_neg (by rw [b2]; decide)]
        exact Or.inr (Or.inr ⟨b3.symm, b2.symm, show i + (p - i) < b.2.2.1 by omega⟩)
    · simp only [lc_s, s2] at hs
      cases hs
theorem dob_pw {o : Nat} (ho : o < 16) (g1 : go n K A B C D) (g2 : go n K A2 B2 C2 D2) : (dob A B C D A2 B2 C2 D2 o).Pairwise ofol := by
  have hB := go_B g1
  have hB2 := go_B g2
  unfold dob
  split
  · have hgl : (lc_g (sx (gi A B D o) (rn A B o) 0) (sx (gi A2 B2 D2 o) (rn A2 B2 o) 0)).length = rn A B o := by
      have h3 : (sx (gi A B D o) (rn A B o) 0).length = rn A B o - 0 := row_len _ _ _
      rw [(lc_g_ok _ _).2.2, h3, Nat.sub_zero]
    exact wk_pw ho (rn_eq (A := A) hB ho).2 (rn_eq (A := A2) hB2 ho).2 _ 0 0 0 (by omega) (Nat.le_refl _) (by omega) (lc_g_ok _ _).1
  · split
    · exact dset_pw 3
    · exact List.Pairwise.nil
theorem dall_pw (g1 : go n K A B C D) (g2 : go n K A2 B2 C2 D2) : ∀ i, i ≤ 16 → (dall A B C D A2 B2 C2 D2 i).Pairwise ofol
  | 0, _ => dcr_pw 16
  | i + 1, hi => by
    show (dall A B C D A2 B2 C2 D2 i ++ dob A B C D A2 B2 C2 D2 i).Pairwise ofol
    refine List.pairwise_append.mpr ⟨dall_pw g1 g2 i (by omega), dob_pw (by omega) g1 g2, fun p hp q hq => ?_⟩
    obtain ⟨_, q2, q3⟩ := dob_mem (by omega) g1 g2 hq
    have hq1 : ¬ q.1 = 1 := by rcases q3 with ⟨z, _⟩ | ⟨z, _⟩ <;> rw [z] <;> decide
    unfold ofol
    rw [if_neg hq1]
    rcases dall_mem i hp with hp | ⟨o, ho, hp⟩
    · obtain ⟨o, _, _, _, rfl⟩ := dcr_mem 16 hp
      exact Or.inl rfl
    · obtain ⟨_, p2, _⟩ := dob_mem (by omega) g1 g2 hp
      exact Or.inr (Or.inl (by omega))
theorem owf_dall (g1 : go n K A B C D) (g2 : go n K A2 B2 C2 D2) : owf (dall A B C D A2 B2 C2 D2 16) := by
  have h00 : ¬ A 0 = -1 := by rw [g1.1]; decide +kernel
  have hlen := dall_len h00 (go_B g1) (C := C) (D := D) (A2 := A2) (B2 := B2) (C2 := C2) (D2 := D2) 16 (Nat.le_refl _)
  have hos := dall_os h00 (go_B g1) (go_B g2) (C := C) (D := D) (A2 := A2) (C2 := C2) (D2 := D2) 16 (Nat.le_refl _)
  have hpw := dall_pw g1 g2 16 (Nat.le_refl _)
  refine ⟨by omega, fun q hq => ?_, fun i p q hp hq => ?_, fun p q hp hq h1 h2 h3 => ?_, ?_⟩
  · rcases dall_mem 16 hq with hq | ⟨o, ho, hq⟩
    · obtain ⟨o, ho, z1, z2, rfl⟩ := dcr_mem 16 hq
      have ho0 : ¬ o = 0 := fun z => h00 (by rw [← z]; exact z2)
      refine ⟨ho, Or.inl ⟨rfl, show 1 ≤ o by omega, ?_, rfl, rfl, rfl⟩⟩
      show (A2 o).toNatClampNeg ≤ 1
      rcases go_A g2 ho with z | z | z
      · exact absurd z z1
      · rw [z, nI_clamp (by decide)]; omega
      · rw [z, nI_clamp (by decide)]; omega
    · exact (dob_mem ho g1 g2 hq).1
  · exact pw_adj hpw i p q hp hq
  · rcases dall_mem 16 hp with hp | ⟨o, ho, hp⟩
    · obtain ⟨o, ho, z1, z2, rfl⟩ := dcr_mem 16 hp
      rcases dall_mem 16 hq with hq | ⟨o2, ho2, hq⟩
      · obtain ⟨o3, _, _, _, rfl⟩ := dcr_mem 16 hq
        exact absurd rfl h2
      · obtain ⟨_, q2, q3⟩ := dob_mem ho2 g1 g2 hq
        have ho3 : o = o2 := h3.trans q2
        subst ho3
        show (A2 o).toNatClampNeg = _
        rcases q3 with ⟨z3, z4⟩ | ⟨z3, z4⟩
        · rw [z3, z4, if_pos rfl]; exact nI_clamp (by decide)
        · rw [z3, z4, if_neg (by decide)]; exact nI_clamp (by decide)
    · obtain ⟨_, _, p3⟩ := dob_mem ho g1 g2 hp
      rcases p3 with ⟨z, _⟩ | ⟨z, _⟩ <;> rw [z] at h1 <;> exact absurd h1 (by decide)
  · show 3 + osum (dall A B C D A2 B2 C2 D2 16) ≤ 1200
    omega
end OW
theorem op_diff {w : ai_W} (h : rl w) (x y : Int32) : ∃ b w1 w2, ai_ev none 6 0 [some (.ref 1), some (.int x), some (.int y)] [] w = some (some (.int b), w1) ∧ ai_ev none 132 0 [some (.ref 65), some (.int x), some (.int y)] [] w1 = some (some (.int b), w2) ∧ rl w2 ∧ w2.1 = w.1 ∧ w2.2.1 = w.2.1 := op_diff0 (fun _ _ _ _ _ _ _ _ _ _ g1 g2 => owf_dall g1 g2) h x y
