def rc_n : Nat → (Nat → Bool) → Nat
  | 0, _ => 0
  | n + 1, f => rc_n n f + (if f n = true then 1 else 0)
theorem rc_n_le : ∀ (n : Nat) (f : Nat → Bool), rc_n n f ≤ n
  | 0, _ => Nat.le_refl _
  | n + 1, f => by
    have := rc_n_le n f
    unfold rc_n
    split <;> omega
theorem rc_n_mono : ∀ (n : Nat) (f g : Nat → Bool), (∀ p, p < n → f p = true → g p = true) → rc_n n f ≤ rc_n n g
  | 0, _, _, _ => Nat.le_refl _
  | n + 1, f, g, h => by
    have ih := rc_n_mono n f g (fun p hp => h p (by omega))
    have h1 := h n (by omega)
    unfold rc_n
    by_cases hf : f n = true
    · rw [if_pos hf, if_pos (h1 hf)]; omega
    · rw [if_neg hf]; split <;> omega
theorem rc_n_lt : ∀ (n : Nat) (f g : Nat → Bool), (∀ p, p < n → f p = true → g p = true) → (∃ p, p < n ∧ g p = true ∧ ¬ f p = true) → rc_n n f < rc_n n g
  | 0, _, _, _, h => by obtain ⟨p, hp, _⟩ := h; omega
  | n + 1, f, g, h, he => by
    have h1 := h n (by omega)
    obtain ⟨p, hp, hg, hf⟩ := he
    by_cases hpn : p = n
    · subst hpn
      have ih := rc_n_mono p f g (fun q hq => h q (by omega))
      unfold rc_n
      rw [if_neg hf, if_pos hg]
      omega
    · have ih := rc_n_lt n f g (fun q hq => h q (by omega)) ⟨p, by omega, hg, hf⟩
      unfold rc_n
      by_cases hfn : f n = true
      · rw [if_pos hfn, if_pos (h1 hfn)]; omega
      · rw [if_neg hfn]; split <;> omega
theorem rc_n_full : ∀ (n : Nat) (f : Nat → Bool), n ≤ rc_n n f → ∀ p, p < n → f p = true
  | 0, _, _, p, hp => by omega
  | n + 1, f, h, p, hp => by
    have h1 := rc_n_le n f
    unfold rc_n at h
    have hfn : f n = true := by
      by_cases hf : f n = true
      · exact hf
      · rw [if_neg hf] at h; omega
    rw [if_pos hfn] at h
    by_cases hpn : p = n
    · rw [hpn]; exact hfn
    · exact rc_n_full n f (by omega) p (by omega)
def rc_it (F : Nat → Nat) : Nat → Nat
  | 0 => 1
  | n + 1 => F (rc_it F n)
theorem rc_it_lt {F : Nat → Nat} (hb : ∀ r, r < 2 ^ 16 → F r < 2 ^ 16) : ∀ n, rc_it F n < 2 ^ 16
  | 0 => (show (1 : Nat) < 2 ^ 16 by decide)
  | n + 1 => hb _ (rc_it_lt hb n)
theorem rc_bit_ext {a b : Nat} (ha : a < 2 ^ 16) (hb : b < 2 ^ 16) (h : ∀ p, p < 16 → a.testBit p = b.testBit p) : a = b := by
  apply Nat.eq_of_testBit_eq
  intro p
  by_cases hp : p < 16
  · exact h p hp
  · have h2 : 2 ^ 16 ≤ 2 ^ p := Nat.pow_le_pow_right (by decide) (by omega)
    rw [Nat.testBit_lt_two_pow (by omega), Nat.testBit_lt_two_pow (by omega)]
theorem rc_fix {F : Nat → Nat} (hm : ∀ r p, r.testBit p = true → (F r).testBit p = true) (hb : ∀ r, r < 2 ^ 16 → F r < 2 ^ 16) : F (rc_it F 15) = rc_it F 15 := by
  have key : ∀ n, F (rc_it F n) = rc_it F n ∨ n + 1 ≤ rc_n 16 (fun p => (rc_it F n).testBit p) := by
    intro n
    induction n with
    | zero => right; exact (show 0 + 1 ≤ rc_n 16 (fun p => (1 : Nat).testBit p) by decide)
    | succ n ih =>
      rcases ih with ih | ih
      · left
        show F (F (rc_it F n)) = F (rc_it F n)
        rw [ih]
        exact ih
      · by_cases h : F (rc_it F n) = rc_it F n
        · left
          show F (F (rc_it F n)) = F (rc_it F n)
          rw [h]
          exact h
        · right
          have hl := rc_it_lt hb n
          have h2 := rc_n_lt 16 (fun p => (rc_it F n).testBit p) (fun p => (F (rc_it F n)).testBit p) (fun p _ hp => hm _ p hp) (by
            apply Classical.byContradiction
            intro hne
            apply h
            refine rc_bit_ext (hb _ hl) hl (fun p hp => ?_)
            cases h1 : (rc_it F n).testBit p with
            | true => exact hm _ p h1
            | false =>
              cases h2 : (F (rc_it F n)).testBit p with
              | false => rfl
              | true => exact absurd ⟨p, hp, h2, by rw [h1]; decide⟩ hne)
          show n + 1 + 1 ≤ rc_n 16 (fun p => (F (rc_it F n)).testBit p)
          omega
  rcases key 15 with h | h
  · exact h
  · have hl := rc_it_lt hb 15
    have hf := rc_n_full 16 _ h
    refine rc_bit_ext (hb _ hl) hl (fun p hp => ?_)
    rw [hm _ p (hf p hp)]
    exact (hf p hp).symm
