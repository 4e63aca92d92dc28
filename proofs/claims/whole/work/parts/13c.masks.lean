def mk_b : Nat → Nat → List Bool
  | 0, _ => []
  | n + 1, s => (s % 2 == 1) :: mk_b n (s / 2)
theorem mk_b_len : ∀ (n s : Nat), (mk_b n s).length = n
  | 0, _ => rfl
  | n + 1, s => by simp [mk_b, mk_b_len n]
def mk_n : List Bool → Nat
  | [] => 0
  | b :: m => (if b = true then 1 else 0) + 2 * mk_n m
theorem mk_bn : ∀ (m : List Bool), mk_b m.length (mk_n m) = m
  | [] => rfl
  | b :: m => by
    have ih := mk_bn m
    show ((mk_n (b :: m)) % 2 == 1) :: mk_b m.length (mk_n (b :: m) / 2) = b :: m
    unfold mk_n
    cases b with
    | true =>
      have e1 : ((if true = true then 1 else 0) + 2 * mk_n m) / 2 = mk_n m := by rw [if_pos rfl]; omega
      have e2 : ((if true = true then 1 else 0) + 2 * mk_n m) % 2 = 1 := by rw [if_pos rfl]; omega
      rw [e1, e2, ih]
      rfl
    | false =>
      have e1 : ((if false = true then 1 else 0) + 2 * mk_n m) / 2 = mk_n m := by rw [if_neg (by decide)]; omega
      have e2 : ((if false = true then 1 else 0) + 2 * mk_n m) % 2 = 0 := by rw [if_neg (by decide)]; omega
      rw [e1, e2, ih]
      rfl
theorem mk_n_lt : ∀ (m : List Bool), mk_n m < 2 ^ m.length
  | [] => by decide
  | b :: m => by
    have ih := mk_n_lt m
    have e : 2 ^ (b :: m).length = 2 * 2 ^ m.length := by rw [List.length_cons, Nat.pow_succ]; omega
    rw [e]
    unfold mk_n
    split <;> omega
theorem mk_nb : ∀ (n s : Nat), s < 2 ^ n → mk_n (mk_b n s) = s
  | 0, s, h => by have : s = 0 := by simpa using h
                  subst this; rfl
  | n + 1, s, h => by
    have h2 : s / 2 < 2 ^ n := by rw [Nat.pow_succ] at h; omega
    have ih := mk_nb n (s / 2) h2
    unfold mk_b mk_n
    rw [ih]
    by_cases hs : s % 2 = 1
    · have e : (s % 2 == 1) = true := by rw [hs]; rfl
      rw [if_pos e]
      omega
    · have e : ¬ (s % 2 == 1) = true := by simpa using hs
      rw [if_neg e]
      omega
theorem lc_lt_irr : ∀ m : List Bool, ¬ lc_lt m m = true
  | [] => by decide
  | true :: m => by
    intro h
    exact lc_lt_irr m (by simpa [lc_lt] using h)
  | false :: m => by
    intro h
    exact lc_lt_irr m (by simpa [lc_lt] using h)
theorem lc_lt_tr : ∀ a b c : List Bool, lc_lt a b = true → lc_lt b c = true → lc_lt a c = true
  | [], b, c, h, _ => by cases b <;> cases h
  | _ :: _, [], c, h, _ => by cases ‹Bool› <;> cases h
  | _ :: _, _ :: _, [], _, h => by cases ‹Bool› <;> cases h
  | x :: a, y :: b, z :: c, h1, h2 => by
    cases x <;> cases y <;> cases z <;> simp only [lc_lt] at h1 h2 ⊢
    all_goals first
      | exact lc_lt_tr a b c h1 h2
      | rfl
      | exact absurd h2 (by decide)
      | exact absurd h1 (by decide)
/-- the sets 1, 2, .. in their order, the better one kept -/
def mk_best (st : Nat → Bool) (sz : Nat → Nat) (lt : Nat → Nat → Bool) : Nat → Nat
  | 0 => 0
  | s + 1 => let b := mk_best st sz lt s
    if st (s + 1) = true ∧ (sz b < sz (s + 1) ∨ sz (s + 1) = sz b ∧ lt b (s + 1) = true) then s + 1 else b
theorem mk_best_ok {st : Nat → Bool} {sz : Nat → Nat} {lt : Nat → Nat → Bool} {N : Nat} (h0 : st 0 = true) (htr : ∀ a b c, lt a b = true → lt b c = true → lt a c = true) (htot : ∀ a b, a ≤ N → b ≤ N → lt a b = true ∨ a = b ∨ lt b a = true) : ∀ s, s ≤ N → mk_best st sz lt s ≤ s ∧ st (mk_best st sz lt s) = true ∧ ∀ t, t ≤ s → st t = true → sz t < sz (mk_best st sz lt s) ∨ sz t = sz (mk_best st sz lt s) ∧ (t = mk_best st sz lt s ∨ lt t (mk_best st sz lt s) = true)
  | 0, _ => ⟨Nat.le_refl _, h0, fun t ht _ => Or.inr (by
      have : t = 0 := by omega
      subst this
      exact ⟨rfl, Or.inl rfl⟩)⟩
  | s + 1, hN => by
    obtain ⟨h1, h2, h3⟩ := mk_best_ok (sz := sz) h0 htr htot s (by omega)
    have e : mk_best st sz lt (s + 1) = if st (s + 1) = true ∧ (sz (mk_best st sz lt s) < sz (s + 1) ∨ sz (s + 1) = sz (mk_best st sz lt s) ∧ lt (mk_best st sz lt s) (s + 1) = true) then s + 1 else mk_best st sz lt s := rfl
    rw [e]
    by_cases hc : st (s + 1) = true ∧ (sz (mk_best st sz lt s) < sz (s + 1) ∨ sz (s + 1) = sz (mk_best st sz lt s) ∧ lt (mk_best st sz lt s) (s + 1) = true)
    · rw [if_pos hc]
      refine ⟨Nat.le_refl _, hc.1, fun t ht hst => ?_⟩
      by_cases hts : t = s + 1
      · subst hts; exact Or.inr ⟨rfl, Or.inl rfl⟩
      · rcases h3 t (by omega) hst with h | ⟨h, h'⟩
        · rcases hc.2 with g | ⟨g, -⟩
          · exact Or.inl (by omega)
          · exact Or.inl (by omega)
        · rcases hc.2 with g | ⟨g, g'⟩
          · exact Or.inl (by omega)
          · refine Or.inr ⟨by omega, Or.inr ?_⟩
            rcases h' with h' | h'
            · rw [h']; exact g'
            · exact htr _ _ _ h' g'
    · rw [if_neg hc]
      refine ⟨by omega, h2, fun t ht hst => ?_⟩
      by_cases hts : t = s + 1
      · subst hts
        by_cases g1 : sz (s + 1) < sz (mk_best st sz lt s)
        · exact Or.inl g1
        · by_cases g2 : sz (mk_best st sz lt s) < sz (s + 1)
          · exact absurd ⟨hst, Or.inl g2⟩ hc
          · refine Or.inr ⟨by omega, ?_⟩
            rcases htot (s + 1) (mk_best st sz lt s) (by omega) (by omega) with g | g | g
            · exact Or.inr g
            · exact Or.inl g
            · exact absurd ⟨hst, Or.inr ⟨by omega, g⟩⟩ hc
      · exact h3 t (by omega) hst
