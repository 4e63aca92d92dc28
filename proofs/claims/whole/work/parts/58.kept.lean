theorem bl_mk : ∀ (c s i : Nat), bl s i c = mk_b c (s / 2 ^ i)
  | 0, _, _ => rfl
  | c + 1, s, i => by
    have ih := bl_mk c s (i + 1)
    show s.testBit i :: bl s (i + 1) c = (s / 2 ^ i % 2 == 1) :: mk_b c (s / 2 ^ i / 2)
    rw [ih, Nat.testBit_eq_decide_div_mod_eq, Nat.div_div_eq_div_mul, ← Nat.pow_succ]
    congr 1
theorem mk_pad : ∀ (n d s : Nat), s < 2 ^ n → mk_b (n + d) s = mk_b n s ++ List.replicate d false
  | 0, d, s, h => by
    have : s = 0 := by simpa using h
    subst this
    rw [Nat.zero_add]
    show mk_b d 0 = [] ++ List.replicate d false
    rw [List.nil_append]
    induction d with
    | zero => rfl
    | succ d ih => show false :: mk_b d 0 = _; rw [ih]; rfl
  | n + 1, d, s, h => by
    have h2 : s / 2 < 2 ^ n := by rw [Nat.pow_succ] at h; omega
    have ih := mk_pad n d (s / 2) h2
    rw [show n + 1 + d = (n + d) + 1 by omega]
    show (s % 2 == 1) :: mk_b (n + d) (s / 2) = (s % 2 == 1) :: mk_b n (s / 2) ++ List.replicate d false
    rw [ih]
    rfl
theorem lc_n_pad : ∀ (l : List Bool) (d : Nat), lc_n (l ++ List.replicate d false) = lc_n l
  | [], d => by
    rw [List.nil_append]
    induction d with
    | zero => rfl
    | succ d ih => exact ih
  | true :: l, d => by show 1 + lc_n (l ++ _) = 1 + lc_n l; rw [lc_n_pad l d]
  | false :: l, d => by show lc_n (l ++ _) = lc_n l; exact lc_n_pad l d
theorem lc_lt_pad : ∀ (l k : List Bool) (d : Nat), l.length = k.length → lc_lt (l ++ List.replicate d false) (k ++ List.replicate d false) = lc_lt l k
  | [], [], d, _ => by
    rw [List.nil_append]
    have := lc_lt_irr (List.replicate d false)
    cases h : lc_lt (List.replicate d false) (List.replicate d false) with
    | true => exact absurd h this
    | false => rfl
  | [], _ :: _, _, h => by simp at h
  | _ :: _, [], _, h => by simp at h
  | x :: l, y :: k, d, h => by
    have ih := lc_lt_pad l k d (by simpa using h)
    cases x <;> cases y <;> simp [lc_lt, ih]
theorem lc_lt_tot : ∀ (l k : List Bool), l.length = k.length → lc_lt l k = true ∨ l = k ∨ lc_lt k l = true
  | [], [], _ => Or.inr (Or.inl rfl)
  | [], _ :: _, h => by simp at h
  | _ :: _, [], h => by simp at h
  | x :: l, y :: k, h => by
    have ih := lc_lt_tot l k (by simpa using h)
    cases x <;> cases y
    · rcases ih with h | h | h
      · exact Or.inl (by simpa [lc_lt] using h)
      · exact Or.inr (Or.inl (by rw [h]))
      · exact Or.inr (Or.inr (by simpa [lc_lt] using h))
    · exact Or.inl rfl
    · exact Or.inr (Or.inr rfl)
    · rcases ih with h | h | h
      · exact Or.inl (by simpa [lc_lt] using h)
      · exact Or.inr (Or.inl (by rw [h]))
      · exact Or.inr (Or.inr (by simpa [lc_lt] using h))
theorem lc_s_zero : ∀ (n : Nat) (a b : List Int32), a.length = n → lc_s (mk_b n 0) a b = true
  | 0, _, _, _ => rfl
  | n + 1, [], _, h => by simp at h
  | n + 1, _ :: a, b, h => lc_s_zero n a b (by simpa using h)
def kst (P R : Nat → Int32) (n k : Nat) (s : Nat) : Bool := lc_s (bl s 0 n) (sx P n 0) (sx R k 0)
def ksz (s : Nat) : Nat := lc_n (mk_b 6 s)
def klt (a b : Nat) : Bool := lc_lt (mk_b 6 a) (mk_b 6 b)
theorem kept_g {P R : Nat → Int32} {n k : Nat} (hn : n ≤ 6) : mk_best (kst P R n k) ksz klt (2 ^ n - 1) < 2 ^ n ∧ bl (mk_best (kst P R n k) ksz klt (2 ^ n - 1)) 0 n = lc_g (sx P n 0) (sx R k 0) := by
  have h2 : 0 < 2 ^ n := Nat.two_pow_pos n
  have hla : (sx P n 0).length = n := row_len P _ _
  have bl0 : ∀ s, bl s 0 n = mk_b n s := fun s => by rw [bl_mk, Nat.pow_zero, Nat.div_one]
  have pad : ∀ s, s < 2 ^ n → mk_b 6 s = mk_b n s ++ List.replicate (6 - n) false := fun s hs => by
    have := mk_pad n (6 - n) s hs
    rwa [show n + (6 - n) = 6 by omega] at this
  obtain ⟨b1, b2, b3⟩ := mk_best_ok (st := kst P R n k) (sz := ksz) (lt := klt) (N := 2 ^ n - 1) (by unfold kst; rw [bl0]; exact lc_s_zero n _ _ hla) (fun a b c h1 h2 => lc_lt_tr _ _ _ h1 h2) (fun a b h3 h4 => by
    rcases lc_lt_tot (mk_b 6 a) (mk_b 6 b) (by rw [mk_b_len, mk_b_len]) with h | h | h
    · exact Or.inl h
    · refine Or.inr (Or.inl ?_)
      have h64 : 2 ^ n ≤ 2 ^ 6 := Nat.pow_le_pow_right (by decide) hn
      have e1 := mk_nb 6 a (by omega)
      have e2 := mk_nb 6 b (by omega)
      rw [h, e2] at e1
      exact e1.symm
    · exact Or.inr (Or.inr h)) (2 ^ n - 1) (Nat.le_refl _)
  generalize mk_best (kst P R n k) ksz klt (2 ^ n - 1) = best at *
  have hb : best < 2 ^ n := by omega
  refine ⟨hb, ?_⟩
  obtain ⟨g1, g2, g3⟩ := lc_g_ok (sx P n 0) (sx R k 0)
  have hgl : (lc_g (sx P n 0) (sx R k 0)).length = n := g3.trans hla
  have hgn := mk_n_lt (lc_g (sx P n 0) (sx R k 0))
  have hgb := mk_bn (lc_g (sx P n 0) (sx R k 0))
  rw [hgl] at hgn hgb
  have st : kst P R n k (mk_n (lc_g (sx P n 0) (sx R k 0))) = true := by
    unfold kst
    rw [bl0, hgb]
    exact g1
  have zg : ksz (mk_n (lc_g (sx P n 0) (sx R k 0))) = lc_m (sx P n 0) (sx R k 0) := by
    unfold ksz
    rw [pad _ hgn, hgb, lc_n_pad, g2]
  have zb : ksz best = lc_n (mk_b n best) := by
    unfold ksz
    rw [pad _ hb, lc_n_pad]
  have sb : lc_s (mk_b n best) (sx P n 0) (sx R k 0) = true := by
    unfold kst at b2
    rw [bl0] at b2
    exact b2
  have le1 := lc_s_le _ _ _ sb
  have b4 := b3 _ (by omega) st
  rw [bl0]
  rcases b4 with h | ⟨h, h5⟩
  · omega
  · rcases lc_g_top (mk_b n best) (sx P n 0) (sx R k 0) (by rw [mk_b_len, hla]) sb (by omega) with h6 | h6
    · exact h6
    · rcases h5 with h5 | h5
      · rw [← h5, hgb]
      · exfalso
        unfold klt at h5
        rw [pad _ hgn, pad _ hb, hgb, lc_lt_pad _ _ _ (by rw [hgl, mk_b_len])] at h5
        exact lc_lt_irr _ (lc_lt_tr _ _ _ h6 h5)
