def jstep (X Y : List op) (s : Nat × Nat × List op) : Nat × Nat × List op :=
  match X[s.1]?, Y[s.2.1]? with
  | none, none => s
  | some a, none => (s.1 + 1, s.2.1, s.2.2 ++ [a])
  | none, some b => (s.1, s.2.1 + 1, s.2.2 ++ [b])
  | some a, some b => if rk a < rk b then (s.1 + 1, s.2.1, s.2.2 ++ [a]) else if rk b < rk a then (s.1, s.2.1 + 1, s.2.2 ++ [b]) else (s.1 + 1, s.2.1 + 1, s.2.2 ++ [a])
def jn (X Y : List op) : Nat → Nat × Nat × List op
  | 0 => (0, 0, [])
  | n + 1 => jstep X Y (jn X Y n)
def jI (X Y : List op) (s : Nat × Nat × List op) (n : Nat) : Prop := s.1 ≤ X.length ∧ s.2.1 ≤ Y.length ∧ (n ≤ s.1 + s.2.1 ∨ (s.1 = X.length ∧ s.2.1 = Y.length)) ∧ s.2.2.Pairwise ofol ∧ (∀ q, q ∈ s.2.2 → q ∈ X ∨ q ∈ Y) ∧ (∀ q, q ∈ s.2.2 → ∀ j a, s.1 ≤ j → X[j]? = some a → rk q < rk a) ∧ (∀ q, q ∈ s.2.2 → ∀ j b, s.2.1 ≤ j → Y[j]? = some b → rk q < rk b) ∧ osum s.2.2 ≤ osum (X.take s.1) + osum (Y.take s.2.1)
theorem osum_tk {l : List op} {i : Nat} {q : op} (h : l[i]? = some q) : osum (l.take (i + 1)) = osum (l.take i) + olen q := by
  have e : l.take (i + 1) = l.take i ++ [q] := by
    rw [List.take_succ, h]
    rfl
  rw [e, osum_app, osum_1]
theorem pw_snoc {l : List op} {a : op} (h : l.Pairwise ofol) (h2 : ∀ p, p ∈ l → ofol p a) : (l ++ [a]).Pairwise ofol :=
  List.pairwise_append.mpr ⟨h, List.pairwise_singleton _ _, fun p hp q hq => by
    rw [List.mem_singleton.mp hq]
    exact h2 p hp⟩
theorem mem_snoc {l : List op} {a q : op} (h : q ∈ l ++ [a]) : q ∈ l ∨ q = a := by
  rcases List.mem_append.mp h with h | h
  · exact Or.inl h
  · exact Or.inr (List.mem_singleton.mp h)
section JN
variable {K : Nat → Int32} {X Y : List op}
theorem jI_step (hX : ∀ q, q ∈ X → okd K q) (hY : ∀ q, q ∈ Y → okd K q) (pX : X.Pairwise ofol) (pY : Y.Pairwise ofol) (hc : ∀ a b, a ∈ X → b ∈ Y → ¬ clp a b) {s : Nat × Nat × List op} {n : Nat} (h : jI X Y s n) : jI X Y (jstep X Y s) (n + 1) := by
  obtain ⟨k, m, l⟩ := s
  obtain ⟨h1, h2, h3, h4, h5, h6, h7, h8⟩ := h
  simp only at h1 h2 h3 h4 h5 h6 h7 h8
  have vX : ∀ q, q ∈ X → ov q := fun q hq => (hX q hq).1
  have vY : ∀ q, q ∈ Y → ov q := fun q hq => (hY q hq).1
  have fX : ∀ a, X[k]? = some a → ∀ p, p ∈ l → ofol p a := by
    intro a ha p hp
    have hr := h6 p hp k a (Nat.le_refl _) ha
    have ham := List.mem_of_getElem? ha
    rcases h5 p hp with hm | hm
    · exact ofol_in vX pX hm ham hr
    · exact ofol_x (hY p hm) (hX a ham) hr (Or.inr (hc a p ham hm))
  have fY : ∀ b, Y[m]? = some b → ∀ p, p ∈ l → ofol p b := by
    intro b hb p hp
    have hr := h7 p hp m b (Nat.le_refl _) hb
    have hbm := List.mem_of_getElem? hb
    rcases h5 p hp with hm | hm
    · exact ofol_x (hX p hm) (hY b hbm) hr (Or.inl (hc p b hm hbm))
    · exact ofol_in vY pY hm hbm hr
  cases eX : X[k]? with
  | none =>
    have lX : X.length ≤ k := List.getElem?_eq_none_iff.mp eX
    cases eY : Y[m]? with
    | none =>
      have lY : Y.length ≤ m := List.getElem?_eq_none_iff.mp eY
      have e : jstep X Y (k, m, l) = (k, m, l) := by
        unfold jstep
        simp only [eX, eY]
      rw [e]
      exact ⟨h1, h2, Or.inr ⟨by show k = _; omega, by show m = _; omega⟩, h4, h5, h6, h7, h8⟩
    | some b =>
      have lY := (List.getElem?_eq_some_iff.mp eY).1
      have e : jstep X Y (k, m, l) = (k, m + 1, l ++ [b]) := by
        unfold jstep
        simp only [eX, eY]
      rw [e]
      refine ⟨h1, lY, ?_, pw_snoc h4 (fY b eY), fun q hq => ?_, fun q hq j a hj ha => ?_, fun q hq j a hj ha => ?_, ?_⟩
      · show n + 1 ≤ k + (m + 1) ∨ _
        omega
      · rcases mem_snoc hq with hq | hq
        · exact h5 q hq
        · rw [hq]
          exact Or.inr (List.mem_of_getElem? eY)
      · have := (List.getElem?_eq_some_iff.mp ha).1
        have hj : k ≤ j := hj
        omega
      · have hj : m + 1 ≤ j := hj
        rcases mem_snoc hq with hq | hq
        · exact h7 q hq j a (by omega) ha
        · rw [hq]
          exact rk_inc vY pY (by omega) eY ha
      · show osum (l ++ [b]) ≤ osum (X.take k) + osum (Y.take (m + 1))
        rw [osum_app, osum_1, osum_tk eY]
        omega
  | some a =>
    have lX := (List.getElem?_eq_some_iff.mp eX).1
    cases eY : Y[m]? with
    | none =>
      have lY : Y.length ≤ m := List.getElem?_eq_none_iff.mp eY
      have e : jstep X Y (k, m, l) = (k + 1, m, l ++ [a]) := by
        unfold jstep
        simp only [eX, eY]
      rw [e]
      refine ⟨lX, h2, ?_, pw_snoc h4 (fX a eX), fun q hq => ?_, fun q hq j b hj hb => ?_, fun q hq j b hj hb => ?_, ?_⟩
      · show n + 1 ≤ k + 1 + m ∨ _
        omega
      · rcases mem_snoc hq with hq | hq
        · exact h5 q hq
        · rw [hq]
          exact Or.inl (List.mem_of_getElem? eX)
      · have hj : k + 1 ≤ j := hj
        rcases mem_snoc hq with hq | hq
        · exact h6 q hq j b (by omega) hb
        · rw [hq]
          exact rk_inc vX pX (by omega) eX hb
      · have := (List.getElem?_eq_some_iff.mp hb).1
        have hj : m ≤ j := hj
        omega
      · show osum (l ++ [a]) ≤ osum (X.take (k + 1)) + osum (Y.take m)
        rw [osum_app, osum_1, osum_tk eX]
        omega
    | some b =>
      have lY := (List.getElem?_eq_some_iff.mp eY).1
      have gX : ∀ j c, k < j → X[j]? = some c → rk a < rk c := fun j c hj hcj => rk_inc vX pX hj eX hcj
      have gY : ∀ j c, m < j → Y[j]? = some c → rk b < rk c := fun j c hj hcj => rk_inc vY pY hj eY hcj
      by_cases r1 : rk a < rk b
      · have e : jstep X Y (k, m, l) = (k + 1, m, l ++ [a]) := by
          unfold jstep
          simp only [eX, eY, if_pos r1]
        rw [e]
        refine ⟨lX, h2, ?_, pw_snoc h4 (fX a eX), fun q hq => ?_, fun q hq j c hj hcj => ?_, fun q hq j c hj hcj => ?_, ?_⟩
        · show n + 1 ≤ k + 1 + m ∨ _
          omega
        · rcases mem_snoc hq with hq | hq
          · exact h5 q hq
          · rw [hq]
            exact Or.inl (List.mem_of_getElem? eX)
        · have hj : k + 1 ≤ j := hj
          rcases mem_snoc hq with hq | hq
          · exact h6 q hq j c (by omega) hcj
          · rw [hq]
            exact gX j c (by omega) hcj
        · have hj : m ≤ j := hj
          rcases mem_snoc hq with hq | hq
          · exact h7 q hq j c hj hcj
          · rw [hq]
            rcases Nat.lt_or_ge m j with hj2 | hj2
            · have := gY j c hj2 hcj
              omega
            · have : j = m := by omega
              subst this
              rw [eY] at hcj
              cases hcj
              exact r1
        · show osum (l ++ [a]) ≤ osum (X.take (k + 1)) + osum (Y.take m)
          rw [osum_app, osum_1, osum_tk eX]
          omega
      · by_cases r2 : rk b < rk a
        · have e : jstep X Y (k, m, l) = (k, m + 1, l ++ [b]) := by
            unfold jstep
            simp only [eX, eY, if_neg r1, if_pos r2]
          rw [e]
          refine ⟨h1, lY, ?_, pw_snoc h4 (fY b eY), fun q hq => ?_, fun q hq j c hj hcj => ?_, fun q hq j c hj hcj => ?_, ?_⟩
          · show n + 1 ≤ k + (m + 1) ∨ _
            omega
          · rcases mem_snoc hq with hq | hq
            · exact h5 q hq
            · rw [hq]
              exact Or.inr (List.mem_of_getElem? eY)
          · have hj : k ≤ j := hj
            rcases mem_snoc hq with hq | hq
            · exact h6 q hq j c hj hcj
            · rw [hq]
              rcases Nat.lt_or_ge k j with hj2 | hj2
              · have := gX j c hj2 hcj
                omega
              · have : j = k := by omega
                subst this
                rw [eX] at hcj
                cases hcj
                exact r2
          · have hj : m + 1 ≤ j := hj
            rcases mem_snoc hq with hq | hq
            · exact h7 q hq j c (by omega) hcj
            · rw [hq]
              exact gY j c (by omega) hcj
          · show osum (l ++ [b]) ≤ osum (X.take k) + osum (Y.take (m + 1))
            rw [osum_app, osum_1, osum_tk eY]
            omega
        · have e : jstep X Y (k, m, l) = (k + 1, m + 1, l ++ [a]) := by
            unfold jstep
            simp only [eX, eY, if_neg r1, if_neg r2]
          rw [e]
          refine ⟨lX, lY, ?_, pw_snoc h4 (fX a eX), fun q hq => ?_, fun q hq j c hj hcj => ?_, fun q hq j c hj hcj => ?_, ?_⟩
          · show n + 1 ≤ k + 1 + (m + 1) ∨ _
            omega
          · rcases mem_snoc hq with hq | hq
            · exact h5 q hq
            · rw [hq]
              exact Or.inl (List.mem_of_getElem? eX)
          · have hj : k + 1 ≤ j := hj
            rcases mem_snoc hq with hq | hq
            · exact h6 q hq j c (by omega) hcj
            · rw [hq]
              exact gX j c (by omega) hcj
          · have hj : m + 1 ≤ j := hj
            rcases mem_snoc hq with hq | hq
            · exact h7 q hq j c (by omega) hcj
            · rw [hq]
              have := gY j c (by omega) hcj
              omega
          · show osum (l ++ [a]) ≤ osum (X.take (k + 1)) + osum (Y.take (m + 1))
            rw [osum_app, osum_1, osum_tk eX, osum_tk eY]
            omega
theorem jn_I (hX : ∀ q, q ∈ X → okd K q) (hY : ∀ q, q ∈ Y → okd K q) (pX : X.Pairwise ofol) (pY : Y.Pairwise ofol) (hc : ∀ a b, a ∈ X → b ∈ Y → ¬ clp a b) : ∀ n, jI X Y (jn X Y n) n
  | 0 => ⟨Nat.zero_le _, Nat.zero_le _, Or.inl (Nat.zero_le _), List.Pairwise.nil, fun q hq => absurd hq List.not_mem_nil, fun q hq => absurd hq List.not_mem_nil, fun q hq => absurd hq List.not_mem_nil, Nat.zero_le _⟩
  | n + 1 => jI_step hX hY pX pY hc (jn_I hX hY pX pY hc n)
theorem jI_okd (hX : ∀ q, q ∈ X → okd K q) (hY : ∀ q, q ∈ Y → okd K q) {s : Nat × Nat × List op} {n : Nat} (h : jI X Y s n) : ∀ q, q ∈ s.2.2 → okd K q := fun q hq => by
  rcases h.2.2.2.2.1 q hq with h | h
  · exact hX q h
  · exact hY q h
theorem jI_len (hX : ∀ q, q ∈ X → okd K q) (hY : ∀ q, q ∈ Y → okd K q) {s : Nat × Nat × List op} {n : Nat} (h : jI X Y s n) : s.2.2.length ≤ 127 := by
  have h1 := jI_okd hX hY h
  have := rk_len s.2.2 0 (fun q hq => (h1 q hq).1) h.2.2.2.1 (fun q hq => by have := (rk_b (h1 q hq).1).1; omega) (by omega)
  omega
theorem osum_take_le {l : List op} {i : Nat} : osum (l.take i) ≤ osum l := by
  have : osum l = osum (l.take i) + osum (l.drop i) := by rw [← osum_app, List.take_append_drop]
  omega
theorem jI_owf (hX : ∀ q, q ∈ X → okd K q) (hY : ∀ q, q ∈ Y → okd K q) (sX : osum X ≤ 597) (sY : osum Y ≤ 597) {s : Nat × Nat × List op} {n : Nat} (h : jI X Y s n) : owf s.2.2 := by
  have h1 := jI_okd hX hY h
  refine ⟨jI_len hX hY h, fun q hq => (h1 q hq).1, pw_adj h.2.2.2.1, fun p q hp hq p1 q1 pq => ?_, ?_⟩
  · rcases (h1 p hp).2 with ⟨_, a2⟩ | ⟨a1, _⟩ | ⟨a1, _⟩
    · have hpl : p.2.2.1 ≤ 1 := by
        rcases (h1 p hp).1.2 with ⟨_, _, z, _⟩ | ⟨z, _⟩ | ⟨z, _⟩
        · exact z
        · omega
        · omega
      rcases (h1 q hq).2 with ⟨b1, _⟩ | ⟨b1, b2⟩ | ⟨b1, b2⟩
      · exact absurd b1 q1
      · rw [if_pos b1]
        rw [pq, b2] at a2
        exact ((nI_eq (by omega) (by omega)).mp a2).symm
      · rw [if_neg (by omega)]
        rw [pq, b2] at a2
        exact ((nI_eq (by omega) (by omega)).mp a2).symm
    · omega
    · omega
  · have h8 := h.2.2.2.2.2.2.2
    have t1 := osum_take_le (l := X) (i := s.1)
    have t2 := osum_take_le (l := Y) (i := s.2.1)
    show 3 + osum s.2.2 ≤ 1200
    omega
theorem jn_end (hX : ∀ q, q ∈ X → okd K q) (hY : ∀ q, q ∈ Y → okd K q) (pX : X.Pairwise ofol) (pY : Y.Pairwise ofol) (hc : ∀ a b, a ∈ X → b ∈ Y → ¬ clp a b) (lX : X.length ≤ 127) (lY : Y.length ≤ 127) : (jn X Y 254).1 = X.length ∧ (jn X Y 254).2.1 = Y.length := by
  obtain ⟨h1, h2, h3, _⟩ := jn_I hX hY pX pY hc 254
  rcases h3 with h3 | h3
  · omega
  · exact h3
end JN
theorem okd_dall {n : Nat} {K A B C D A2 B2 C2 D2 : Nat → Int32} (g1 : go n K A B C D) (g2 : go n K A2 B2 C2 D2) : ∀ q, q ∈ dall A B C D A2 B2 C2 D2 16 → okd K q := by
  intro q hq
  have hov := (owf_dall g1 g2).2.1 q hq
  refine ⟨hov, ?_⟩
  have hK : ∀ o, o < 16 → ¬ A2 o = -1 → A2 o = K o := by
    intro o ho hn
    rcases g2.2 o ho with ⟨z, _⟩ | ⟨z1, _, z2, _⟩ | ⟨z1, _, z2, _⟩
    · exact absurd z hn
    · rw [z1, z2]
    · rw [z1, z2]
  rcases dall_mem 16 hq with hq | ⟨o, ho, hq⟩
  · obtain ⟨o, ho, z1, z2, rfl⟩ := dcr_mem 16 hq
    refine Or.inl ⟨rfl, ?_⟩
    show K o = nI (A2 o).toNatClampNeg
    rw [← hK o ho z1]
    rcases go_A g2 ho with z | z | z
    · exact absurd z z1
    · rw [z, nI_clamp (by decide)]
    · rw [z, nI_clamp (by decide)]
  · obtain ⟨_, q2, q3⟩ := dob_mem ho g1 g2 hq
    rw [q2]
    rcases q3 with ⟨z1, z2⟩ | ⟨z1, z2⟩
    · refine Or.inr (Or.inl ⟨z1, ?_⟩)
      rw [← hK o ho (by rw [z2]; decide +kernel), z2]
    · refine Or.inr (Or.inr ⟨z1, ?_⟩)
      rw [← hK o ho (by rw [z2]; decide +kernel), z2]
theorem os_dall {n : Nat} {K A B C D A2 B2 C2 D2 : Nat → Int32} (g1 : go n K A B C D) (g2 : go n K A2 B2 C2 D2) : osum (dall A B C D A2 B2 C2 D2 16) ≤ 597 := by
  have h00 : ¬ A 0 = -1 := by rw [g1.1]; decide +kernel
  have := dall_os2 h00 g2.1 (go_B g1) (go_B g2) (C := C) (D := D) (C2 := C2) (D2 := D2) 15 (by omega)
  show osum (dall A B C D A2 B2 C2 D2 (15 + 1)) ≤ _
  omega
