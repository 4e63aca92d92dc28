def lc_cut (x : Int32) : List Int32 → Option (List Int32)
  | [] => none
  | y :: b => if x = y then some b else lc_cut x b
def lc_m : List Int32 → List Int32 → Nat
  | [], _ => 0
  | x :: a, b => match lc_cut x b with
    | none => lc_m a b
    | some b' => max (lc_m a b) (1 + lc_m a b')
theorem lc_mono : ∀ (a b : List Int32) (y : Int32), lc_m a b ≤ lc_m a (y :: b)
  | [], b, y => Nat.le_refl _
  | x :: a, b, y => by
    have ih := lc_mono a
    have hc : ∀ (b b' : List Int32), lc_cut x b = some b' → lc_m a b' ≤ lc_m a b := by
      intro b
      induction b with
      | nil => intro b' h; cases h
      | cons z b ihb =>
        intro b' h
        unfold lc_cut at h
        split at h
        · cases h; exact ih b z
        · exact Nat.le_trans (ihb b' h) (ih b z)
    by_cases h : x = y
    · subst h
      have e : lc_cut x (x :: b) = some b := by simp [lc_cut]
      simp only [lc_m, e]
      have h1 := ih b x
      cases h2 : lc_cut x b with
      | none => simp only; omega
      | some b' =>
        have h3 := hc b b' h2
        simp only
        omega
    · have e : lc_cut x (y :: b) = lc_cut x b := by simp [lc_cut, h]
      simp only [lc_m, e]
      have h1 := ih b y
      cases h2 : lc_cut x b with
      | none => simp only; omega
      | some b' => simp only; omega
theorem lc_cutm (a : List Int32) (x : Int32) : ∀ (b b' : List Int32), lc_cut x b = some b' → lc_m a b' ≤ lc_m a b := by
  intro b
  induction b with
  | nil => intro b' h; cases h
  | cons z b ihb =>
    intro b' h
    unfold lc_cut at h
    split at h
    · cases h; exact lc_mono a b z
    · exact Nat.le_trans (ihb b' h) (lc_mono a b z)
theorem lc_nil (a : List Int32) : lc_m a [] = 0 := by
  induction a with
  | nil => rfl
  | cons x a ih => simp [lc_m, lc_cut, ih]
theorem lc_rec (x y : Int32) (a b : List Int32) : lc_m (x :: a) (y :: b) = max (max (lc_m a (y :: b)) (lc_m (x :: a) b)) (if x = y then 1 + lc_m a b else 0) := by
  by_cases h : x = y
  · subst h
    have e : lc_cut x (x :: b) = some b := by simp [lc_cut]
    rw [if_pos rfl]
    have h1 : lc_m (x :: a) (x :: b) = max (lc_m a (x :: b)) (1 + lc_m a b) := by simp only [lc_m, e]
    rw [h1]
    have h2 := lc_mono a b x
    cases h3 : lc_cut x b with
    | none =>
      have h4 : lc_m (x :: a) b = lc_m a b := by simp only [lc_m, h3]
      rw [h4]; omega
    | some b' =>
      have h4 : lc_m (x :: a) b = max (lc_m a b) (1 + lc_m a b') := by simp only [lc_m, h3]
      have h5 := lc_cutm a x b b' h3
      rw [h4]; omega
  · have e : lc_cut x (y :: b) = lc_cut x b := by simp [lc_cut, h]
    rw [if_neg h]
    have h2 := lc_mono a b y
    cases h3 : lc_cut x b with
    | none =>
      have h1 : lc_m (x :: a) (y :: b) = lc_m a (y :: b) := by simp only [lc_m, e, h3]
      have h4 : lc_m (x :: a) b = lc_m a b := by simp only [lc_m, h3]
      rw [h1, h4]; omega
    | some b' =>
      have h1 : lc_m (x :: a) (y :: b) = max (lc_m a (y :: b)) (1 + lc_m a b') := by simp only [lc_m, e, h3]
      have h4 : lc_m (x :: a) b = max (lc_m a b) (1 + lc_m a b') := by simp only [lc_m, h3]
      rw [h1, h4]; omega
def lc_g : List Int32 → List Int32 → List Bool
  | [], _ => []
  | x :: a, b => match lc_cut x b with
    | none => false :: lc_g a b
    | some b' => if 1 + lc_m a b' = lc_m (x :: a) b then true :: lc_g a b' else false :: lc_g a b
def lc_s : List Bool → List Int32 → List Int32 → Bool
  | [], _, _ => true
  | _ :: _, [], _ => false
  | false :: m, _ :: a, b => lc_s m a b
  | true :: m, x :: a, b => match lc_cut x b with
    | none => false
    | some b' => lc_s m a b'
def lc_n : List Bool → Nat
  | [] => 0
  | true :: m => 1 + lc_n m
  | false :: m => lc_n m
def lc_lt : List Bool → List Bool → Bool
  | false :: _, true :: _ => true
  | false :: m, false :: k => lc_lt m k
  | true :: m, true :: k => lc_lt m k
  | _, _ => false
theorem lc_s_le : ∀ (m : List Bool) (a b : List Int32), lc_s m a b = true → lc_n m ≤ lc_m a b
  | [], a, b, _ => Nat.zero_le _
  | _ :: _, [], b, h => by cases h
  | false :: m, x :: a, b, h => by
    have ih := lc_s_le m a b h
    cases h3 : lc_cut x b with
    | none => simp only [lc_n, lc_m, h3]; exact ih
    | some b' => simp only [lc_n, lc_m, h3]; omega
  | true :: m, x :: a, b, h => by
    cases h3 : lc_cut x b with
    | none => simp [lc_s, h3] at h
    | some b' =>
      have ih := lc_s_le m a b' (by simpa [lc_s, h3] using h)
      simp only [lc_n, lc_m, h3]
      omega
theorem lc_g_ok : ∀ (a b : List Int32), lc_s (lc_g a b) a b = true ∧ lc_n (lc_g a b) = lc_m a b ∧ (lc_g a b).length = a.length
  | [], b => ⟨rfl, rfl, rfl⟩
  | x :: a, b => by
    cases h3 : lc_cut x b with
    | none =>
      obtain ⟨h1, h2, h4⟩ := lc_g_ok a b
      have e : lc_g (x :: a) b = false :: lc_g a b := by simp only [lc_g, h3]
      have e2 : lc_m (x :: a) b = lc_m a b := by simp only [lc_m, h3]
      rw [e, e2]
      exact ⟨h1, h2, by simp [h4]⟩
    | some b' =>
      have e2 : lc_m (x :: a) b = max (lc_m a b) (1 + lc_m a b') := by simp only [lc_m, h3]
      by_cases hc : 1 + lc_m a b' = lc_m (x :: a) b
      · obtain ⟨h1, h2, h4⟩ := lc_g_ok a b'
        have e : lc_g (x :: a) b = true :: lc_g a b' := by simp only [lc_g, h3, if_pos hc]
        rw [e]
        exact ⟨by simp only [lc_s, h3]; exact h1, by simp only [lc_n]; omega, by simp [h4]⟩
      · obtain ⟨h1, h2, h4⟩ := lc_g_ok a b
        have e : lc_g (x :: a) b = false :: lc_g a b := by simp only [lc_g, h3, if_neg hc]
        rw [e]
        exact ⟨h1, by simp only [lc_n]; omega, by simp [h4]⟩
theorem lc_g_top : ∀ (m : List Bool) (a b : List Int32), m.length = a.length → lc_s m a b = true → lc_n m = lc_m a b → m = lc_g a b ∨ lc_lt m (lc_g a b) = true
  | [], [], b, _, _, _ => Or.inl rfl
  | [], _ :: _, b, h, _, _ => by simp at h
  | _ :: _, [], b, h, _, _ => by simp at h
  | q :: m, x :: a, b, hl, hs, hn => by
    have hl' : m.length = a.length := by simpa using hl
    cases h3 : lc_cut x b with
    | none =>
      have e : lc_g (x :: a) b = false :: lc_g a b := by simp only [lc_g, h3]
      have e2 : lc_m (x :: a) b = lc_m a b := by simp only [lc_m, h3]
      cases q with
      | true => simp [lc_s, h3] at hs
      | false =>
        rw [e]
        rcases lc_g_top m a b hl' hs (by rw [← e2]; exact hn) with h | h
        · exact Or.inl (by rw [h])
        · exact Or.inr (by simpa [lc_lt] using h)
    | some b' =>
      have e2 : lc_m (x :: a) b = max (lc_m a b) (1 + lc_m a b') := by simp only [lc_m, h3]
      by_cases hc : 1 + lc_m a b' = lc_m (x :: a) b
      · have e : lc_g (x :: a) b = true :: lc_g a b' := by simp only [lc_g, h3, if_pos hc]
        rw [e]
        cases q with
        | false => exact Or.inr rfl
        | true =>
          have hs' : lc_s m a b' = true := by simpa [lc_s, h3] using hs
          rcases lc_g_top m a b' hl' hs' (by simp only [lc_n] at hn; omega) with h | h
          · exact Or.inl (by rw [h])
          · exact Or.inr (by simpa [lc_lt] using h)
      · have e : lc_g (x :: a) b = false :: lc_g a b := by simp only [lc_g, h3, if_neg hc]
        rw [e]
        cases q with
        | true =>
          have hs' : lc_s m a b' = true := by simpa [lc_s, h3] using hs
          have := lc_s_le m a b' hs'
          simp only [lc_n] at hn
          omega
        | false =>
          have := lc_s_le m a b hs
          simp only [lc_n] at hn
          rcases lc_g_top m a b hl' hs (by omega) with h | h
          · exact Or.inl (by rw [h])
          · exact Or.inr (by simpa [lc_lt] using h)
