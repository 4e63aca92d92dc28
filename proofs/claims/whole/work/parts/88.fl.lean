noncomputable def fl (P : Nat → Prop) : Nat → List Nat
  | 0 => []
  | n + 1 => if cD (P n) = true then fl P n ++ [n] else fl P n
theorem fl_t {P : Nat → Prop} {n : Nat} (h : P n) : fl P (n + 1) = fl P n ++ [n] := if_pos (cD_t h)
theorem fl_f {P : Nat → Prop} {n : Nat} (h : ¬ P n) : fl P (n + 1) = fl P n := if_neg (by rw [cD_f h]; decide)
theorem fl_mem {P : Nat → Prop} {x : Nat} : ∀ n, x ∈ fl P n → P x ∧ x < n
  | 0, h => absurd h List.not_mem_nil
  | n + 1, h => by
    by_cases hp : P n
    · rw [fl_t hp] at h
      rcases List.mem_append.mp h with h | h
      · have := fl_mem n h
        exact ⟨this.1, by omega⟩
      · rw [List.mem_singleton.mp h]
        exact ⟨hp, by omega⟩
    · rw [fl_f hp] at h
      have := fl_mem n h
      exact ⟨this.1, by omega⟩
theorem fl_ext {P Q : Nat → Prop} : ∀ n, (∀ p, p < n → (P p ↔ Q p)) → fl P n = fl Q n
  | 0, _ => rfl
  | n + 1, h => by
    have ih := fl_ext n (fun p hp => h p (by omega))
    have hn := h n (by omega)
    by_cases hp : P n
    · rw [fl_t hp, fl_t (hn.mp hp), ih]
    · rw [fl_f hp, fl_f (fun z => hp (hn.mpr z)), ih]
theorem fl_top {P : Nat → Prop} {n : Nat} (h : ∀ p, P p → p < n) : ∀ N, n ≤ N → fl P N = fl P n
  | 0, hN => by
    have : n = 0 := by omega
    rw [this]
  | N + 1, hN => by
    by_cases hn : n = N + 1
    · rw [hn]
    · rw [fl_f (fun z => by have := h N z; omega), fl_top h N (by omega)]
theorem fl_old {P : Nat → Prop} {n N : Nat} (h : ∀ p, P p → p ≤ n) (hn : P n) (hN : n < N) : fl P N = fl P n ++ [n] := by
  rw [fl_top (n := n + 1) (fun p hp => by have := h p hp; omega) N (by omega), fl_t hn]
theorem fl_new {P Q : Nat → Prop} {n N : Nat} (h : ∀ p, P p → p ≤ n) (hn : ¬ P n) (hN : n < N) (hQ : ∀ p, Q p ↔ (P p ∨ p = n)) : fl Q N = fl P N ++ [n] := by
  have hlt : ∀ p, P p → p < n := fun p hp => by
    have := h p hp
    rcases Nat.lt_or_ge p n with z | z
    · exact z
    · have : p = n := by omega
      exact absurd (this ▸ hp) hn
  rw [fl_old (P := Q) (n := n) (fun p hp => by
    rcases (hQ p).mp hp with z | z
    · exact h p z
    · omega) ((hQ n).mpr (Or.inr rfl)) hN, fl_top hlt N (by omega), fl_ext (P := Q) (Q := P) n (fun p hp => ⟨fun z => by
      rcases (hQ p).mp z with z | z
      · exact z
      · omega, fun z => (hQ p).mpr (Or.inl z)⟩)]
theorem fl_mono {P : Nat → Prop} : ∀ (n k : Nat), (fl P n).length ≤ (fl P (n + k)).length
  | n, 0 => Nat.le_refl _
  | n, k + 1 => by
    have ih := fl_mono (P := P) n k
    rw [← Nat.add_assoc]
    by_cases hp : P (n + k)
    · rw [fl_t hp, List.length_append]
      omega
    · rw [fl_f hp]
      exact ih
theorem fl_l1 {P : Nat → Prop} {n : Nat} : (fl P (n + 1)).length ≤ (fl P n).length + 1 := by
  by_cases hp : P n
  · rw [fl_t hp, List.length_append, List.length_singleton]
    omega
  · rw [fl_f hp]
    omega
theorem fl_48 {P : Nat → Prop} (h1 : ∀ p, P p → p % 8 ≤ 3) (h2 : ∀ o k, k < 3 → P (8 * o + 3) → ¬ P (8 * o + k)) : ∀ o, (fl P (8 * o)).length ≤ 3 * o
  | 0 => Nat.le_refl _
  | o + 1 => by
    have ih := fl_48 h1 h2 o
    have n4 : fl P (8 * o + 8) = fl P (8 * o + 4) := by
      rw [show 8 * o + 8 = 8 * o + 7 + 1 by omega, fl_f (fun z => by have := h1 _ z; omega), show 8 * o + 7 = 8 * o + 6 + 1 by omega, fl_f (fun z => by have := h1 _ z; omega), show 8 * o + 6 = 8 * o + 5 + 1 by omega, fl_f (fun z => by have := h1 _ z; omega), show 8 * o + 5 = 8 * o + 4 + 1 by omega, fl_f (fun z => by have := h1 _ z; omega)]
    rw [show 8 * (o + 1) = 8 * o + 8 by omega, n4]
    by_cases h3 : P (8 * o + 3)
    · have e : fl P (8 * o + 3) = fl P (8 * o) := by
        rw [show 8 * o + 3 = 8 * o + 2 + 1 by omega, fl_f (h2 o 2 (by omega) h3), show 8 * o + 2 = 8 * o + 1 + 1 by omega, fl_f (h2 o 1 (by omega) h3), fl_f (h2 o 0 (by omega) h3), Nat.add_zero]
      rw [show 8 * o + 4 = 8 * o + 3 + 1 by omega, fl_t h3, List.length_append, e, List.length_singleton]
      omega
    · rw [show 8 * o + 4 = 8 * o + 3 + 1 by omega, fl_f h3]
      have a1 := fl_l1 (P := P) (n := 8 * o)
      have a2 := fl_l1 (P := P) (n := 8 * o + 1)
      have a3 := fl_l1 (P := P) (n := 8 * o + 2)
      rw [show 8 * o + 1 + 1 = 8 * o + 2 by omega] at a2
      rw [show 8 * o + 2 + 1 = 8 * o + 3 by omega] at a3
      omega
def cnum (q : op) : Nat := 8 * q.2.1 + (if q.1 = 2 then q.2.2.1 else 3)
def cfQ (X Y : List op) (k m p : Nat) : Prop := ∃ j i a b, X[j]? = some a ∧ Y[i]? = some b ∧ clp a b ∧ cnum a = p ∧ (j < k ∨ (j = k ∧ i < m))
section CF
variable {K : Nat → Int32} {X Y : List op}
theorem cfQ_step {k m p : Nat} {a b : op} (ha : X[k]? = some a) (hb : Y[m]? = some b) : cfQ X Y k (m + 1) p ↔ (cfQ X Y k m p ∨ (clp a b ∧ p = cnum a)) := by
  refine ⟨?_, ?_⟩
  · rintro ⟨j, i, a', b', h1, h2, h3, h4, h5⟩
    by_cases hji : j = k ∧ i = m
    · obtain ⟨rfl, rfl⟩ := hji
      rw [ha] at h1
      rw [hb] at h2
      cases h1
      cases h2
      exact Or.inr ⟨h3, h4.symm⟩
    · exact Or.inl ⟨j, i, a', b', h1, h2, h3, h4, by omega⟩
  · rintro (⟨j, i, a', b', h1, h2, h3, h4, h5⟩ | ⟨h1, h2⟩)
    · exact ⟨j, i, a', b', h1, h2, h3, h4, by omega⟩
    · exact ⟨k, m, a, b, ha, hb, h1, h2.symm, by omega⟩
theorem cfQ_end {k p : Nat} : cfQ X Y k Y.length p ↔ cfQ X Y (k + 1) 0 p := by
  refine ⟨?_, ?_⟩
  · rintro ⟨j, i, a', b', h1, h2, h3, h4, h5⟩
    exact ⟨j, i, a', b', h1, h2, h3, h4, by omega⟩
  · rintro ⟨j, i, a', b', h1, h2, h3, h4, h5⟩
    have := (List.getElem?_eq_some_iff.mp h2).1
    exact ⟨j, i, a', b', h1, h2, h3, h4, by omega⟩
theorem cfQ_0 {p : Nat} : ¬ cfQ X Y 0 0 p := by
  rintro ⟨j, i, a', b', h1, h2, h3, h4, h5⟩
  omega
theorem cnum_b {q : op} (h : ov q) (h1 : ¬ q.1 = 1) : cnum q < 128 ∧ cnum q % 8 ≤ 3 ∧ cnum q / 8 = q.2.1 ∧ (cnum q % 8 = 3 ↔ q.1 = 3) := by
  obtain ⟨a, b⟩ := ov_c h
  unfold cnum
  by_cases h2 : q.1 = 2
  · rw [if_pos h2]; omega
  · rw [if_neg h2]; omega
theorem cnum_mono (vX : ∀ q, q ∈ X → ov q) (pX : X.Pairwise ofol) {j k : Nat} {a c : op} (hjk : j ≤ k) (ha : X[j]? = some a) (hc : X[k]? = some c) (h1 : ¬ a.1 = 1) : cnum a ≤ cnum c := by
  rcases Nat.lt_or_ge j k with h | h
  · obtain ⟨b1, e1⟩ := List.getElem?_eq_some_iff.mp ha
    obtain ⟨b2, e2⟩ := List.getElem?_eq_some_iff.mp hc
    have hf := List.pairwise_iff_getElem.mp pX j k b1 b2 h
    rw [e1, e2] at hf
    have va := ov_c (vX a (List.mem_of_getElem? ha))
    have vc := ov_c (vX c (List.mem_of_getElem? hc))
    by_cases hc1 : c.1 = 1
    · have := ofol_1 hc1 hf
      omega
    · unfold cnum
      rcases ofol_n hc1 hf with z | z | ⟨z1, z2, z3, _⟩
      · omega
      · by_cases h2 : a.1 = 2
        · rw [if_pos h2]; omega
        · rw [if_neg h2]; omega
      · by_cases h2 : a.1 = 2
        · rw [if_pos h2, if_pos (by omega)]; omega
        · rw [if_neg h2, if_neg (by omega)]; omega
  · have : j = k := by omega
    subst this
    rw [ha] at hc
    cases hc
    exact Nat.le_refl _
theorem cfQ_le (vX : ∀ q, q ∈ X → ov q) (pX : X.Pairwise ofol) {k m p : Nat} {a : op} (ha : X[k]? = some a) (h : cfQ X Y k m p) : p ≤ cnum a := by
  obtain ⟨j, i, a', b', h1, h2, h3, h4, h5⟩ := h
  rw [← h4]
  exact cnum_mono vX pX (by omega) h1 ha h3.1
theorem cfQ_48 (hX : ∀ q, q ∈ X → okd K q) {k m : Nat} : (fl (cfQ X Y k m) 128).length ≤ 48 := by
  refine fl_48 (P := cfQ X Y k m) (fun p hp => ?_) (fun o k' hk' h3 hp => ?_) 16
  · obtain ⟨j, i, a', b', h1, h2, h3, h4, h5⟩ := hp
    rw [← h4]
    exact (cnum_b (hX _ (List.mem_of_getElem? h1)).1 h3.1).2.1
  · obtain ⟨j, i, a', b', h1, h2, h4, h5, h6⟩ := h3
    obtain ⟨j2, i2, a2, b2, g1, g2, g4, g5, g6⟩ := hp
    have v1 := hX _ (List.mem_of_getElem? h1)
    have v2 := hX _ (List.mem_of_getElem? g1)
    obtain ⟨x1, x2, x3, x4⟩ := cnum_b v1.1 h4.1
    obtain ⟨y1, y2, y3, y4⟩ := cnum_b v2.1 g4.1
    have e1 : a'.1 = 3 := x4.mp (by omega)
    have e2 : ¬ a2.1 = 3 := fun z => by have := y4.mpr z; omega
    have e3 := okd_c v1 v2 (by omega) h4.1 g4.1
    omega
end CF
