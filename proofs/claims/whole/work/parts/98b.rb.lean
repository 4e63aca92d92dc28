abbrev onL (o : Nat) (q : op) : Prop := q.1 = 3 ∧ q.2.1 = o
def cbs (o : Nat) (it : Nat → Int32) (s : List Int32 × Nat) (q : op) : List Int32 × Nat := if onL o q then (s.1 ++ row it s.2 (q.2.2.1 - s.2) ++ q.2.2.2.2.2, q.2.2.1 + q.2.2.2.1) else s
def cbk (o : Nat) (it : Nat → Int32) (l : List op) (k : Nat) : List Int32 × Nat := (l.take k).foldl (cbs o it) ([], 0)
theorem cbk_s {o k : Nat} {it : Nat → Int32} {l : List op} {q : op} (h : l[k]? = some q) : cbk o it l (k + 1) = cbs o it (cbk o it l k) q := by
  have e : l.take (k + 1) = l.take k ++ [q] := by
    rw [List.take_succ, h]
    rfl
  unfold cbk
  rw [e, List.foldl_append]
  rfl
theorem cbs_t {o : Nat} {it : Nat → Int32} {s : List Int32 × Nat} {q : op} (h : onL o q) : cbs o it s q = (s.1 ++ row it s.2 (q.2.2.1 - s.2) ++ q.2.2.2.2.2, q.2.2.1 + q.2.2.2.1) := if_pos h
theorem cbs_f {o : Nat} {it : Nat → Int32} {s : List Int32 × Nat} {q : op} (h : ¬ onL o q) : cbs o it s q = s := if_neg h
def fin (o : Nat) (it : Nat → Int32) (n : Nat) (l : List op) : List Int32 := (cbk o it l l.length).1 ++ row it (cbk o it l l.length).2 (n - (cbk o it l l.length).2)
theorem pw_on {l : List op} {o i j : Nat} {p q : op} (hov : ∀ q, q ∈ l → ov q) (hpw : l.Pairwise ofol) (hij : i < j) (hp : l[i]? = some p) (hq : l[j]? = some q) (h1 : onL o p) (h2 : onL o q) : p.2.2.1 + p.2.2.2.1 < q.2.2.1 := by
  obtain ⟨b1, e1⟩ := List.getElem?_eq_some_iff.mp hp
  obtain ⟨b2, e2⟩ := List.getElem?_eq_some_iff.mp hq
  have hf := List.pairwise_iff_getElem.mp hpw i j b1 b2 hij
  rw [e1, e2] at hf
  rcases ofol_n (by rw [h2.1]; decide) hf with z | z | ⟨_, _, _, z⟩
  · rw [h1.1] at z
    exact absurd z (by decide)
  · rw [h1.2, h2.2] at z
    omega
  · exact z h2.1
section RB
variable {o n : Nat} {it : Nat → Int32} {l : List op}
theorem cbk_f (hov : ∀ q, q ∈ l → ov q) (hpw : l.Pairwise ofol) (hfit : ∀ q, q ∈ l → onL o q → q.2.2.1 + q.2.2.2.1 ≤ n) : ∀ k, k ≤ l.length → (cbk o it l k).2 ≤ n ∧ (∀ j q, k ≤ j → l[j]? = some q → onL o q → (cbk o it l k).2 ≤ q.2.2.1) ∧ (∀ j q, j < k → l[j]? = some q → onL o q → q.2.2.1 + q.2.2.2.1 ≤ (cbk o it l k).2) ∧ ((cbk o it l k).1.length : Int) = ((cbk o it l k).2 : Int) + gz (l.take k) o
  | 0, _ => by
    refine ⟨Nat.zero_le _, fun j q _ _ _ => Nat.zero_le _, fun j q hj => absurd hj (Nat.not_lt_zero _), ?_⟩
    rw [List.take_zero]
    rfl
  | k + 1, hk => by
    obtain ⟨h1, h2, h3, h4⟩ := cbk_f hov hpw hfit k (by omega)
    have hx : l[k]? = some (l[k]'(by omega)) := List.getElem?_eq_getElem (by omega)
    have hm := List.mem_of_getElem? hx
    rw [cbk_s hx, gz_tk hx]
    generalize l[k]'(by omega) = q at hx hm
    by_cases hq : onL o q
    · rw [cbs_t hq]
      have h5 := h2 k q (Nat.le_refl _) hx hq
      refine ⟨hfit q hm hq, fun j p hj hp hpo => ?_, fun j p hj hp hpo => ?_, ?_⟩
      · have := pw_on hov hpw (show k < j by omega) hx hp hq hpo
        show q.2.2.1 + q.2.2.2.1 ≤ _
        omega
      · show _ ≤ q.2.2.1 + q.2.2.2.1
        by_cases hjk : j = k
        · subst hjk
          rw [hx] at hp
          cases hp
          exact Nat.le_refl _
        · have := pw_on hov hpw (show j < k by omega) hp hx hpo hq
          omega
      · show (((cbk o it l k).1 ++ row it (cbk o it l k).2 (q.2.2.1 - (cbk o it l k).2) ++ q.2.2.2.2.2).length : Int) = ((q.2.2.1 + q.2.2.2.1 : Nat) : Int) + _
        rw [List.length_append, List.length_append, row_len]
        have hg : gt1 o q = (q.2.2.2.2.2.length : Int) - (q.2.2.2.1 : Int) := if_pos hq
        rw [hg]
        omega
    · rw [cbs_f hq]
      have hg : gt1 o q = 0 := if_neg hq
      rw [hg, Int.add_zero]
      refine ⟨h1, fun j p hj hp hpo => h2 j p (by omega) hp hpo, fun j p hj hp hpo => ?_, h4⟩
      by_cases hjk : j = k
      · subst hjk
        rw [hx] at hp
        cases hp
        exact absurd hpo hq
      · exact h3 j p (by omega) hp hpo
theorem fin_len (hov : ∀ q, q ∈ l → ov q) (hpw : l.Pairwise ofol) (hfit : ∀ q, q ∈ l → onL o q → q.2.2.1 + q.2.2.2.1 ≤ n) : ((fin o it n l).length : Int) = (n : Int) + gz l o := by
  obtain ⟨h1, h2, h3, h4⟩ := cbk_f (it := it) hov hpw hfit l.length (Nat.le_refl _)
  unfold fin
  rw [List.take_of_length_le (Nat.le_refl _)] at h4
  rw [List.length_append, row_len]
  omega
theorem cbk_mono : ∀ (k j : Nat), k + j ≤ l.length → (cbk o it l k).1.length ≤ (cbk o it l (k + j)).1.length
  | k, 0, _ => Nat.le_refl _
  | k, j + 1, h => by
    have ih := cbk_mono k j (by omega)
    have hx : l[k + j]? = some (l[k + j]'(by omega)) := List.getElem?_eq_getElem (by omega)
    rw [← Nat.add_assoc, cbk_s hx]
    generalize l[k + j]'(by omega) = q at hx
    by_cases hq : onL o q
    · rw [cbs_t hq]
      simp only [List.length_append]
      omega
    · rw [cbs_f hq]
      exact ih
theorem cbk_len {k : Nat} (hk : k ≤ l.length) : (cbk o it l k).1.length ≤ (fin o it n l).length := by
  have := cbk_mono (o := o) (it := it) (l := l) k (l.length - k) (by omega)
  rw [show k + (l.length - k) = l.length by omega] at this
  unfold fin
  rw [List.length_append]
  omega
def spo (o : Nat) (l : List op) (p : Nat) : Option op := l.find? (fun q => decide (onL o q ∧ q.2.2.1 = p))
theorem spo_none {p : Nat} : spo o l p = none ↔ ∀ q, q ∈ l → ¬ (onL o q ∧ q.2.2.1 = p) := by
  unfold spo
  rw [List.find?_eq_none]
  simp
theorem spo_some {p k : Nat} {q : op} (hov : ∀ q, q ∈ l → ov q) (hpw : l.Pairwise ofol) (hk : l[k]? = some q) (h1 : onL o q) (h2 : q.2.2.1 = p) : spo o l p = some q := by
  cases h : spo o l p with
  | none => exact absurd ⟨h1, h2⟩ (spo_none.mp h q (List.mem_of_getElem? hk))
  | some r =>
    have hm := List.mem_of_find?_eq_some h
    have hp := List.find?_some h
    have hp : onL o r ∧ r.2.2.1 = p := by simpa using hp
    obtain ⟨j, hj, e⟩ := List.getElem_of_mem hm
    have hjr : l[j]? = some r := by rw [List.getElem?_eq_getElem hj, e]
    rcases Nat.lt_or_ge j k with hjk | hjk
    · have := pw_on hov hpw hjk hjr hk hp.1 h1
      omega
    · rcases Nat.lt_or_ge k j with hkj | hkj
      · have := pw_on hov hpw hkj hk hjr h1 hp.1
        omega
      · have : j = k := by omega
        subst this
        rw [hk] at hjr
        cases hjr
        rfl
def st1 (o : Nat) (l : List op) (p : Nat) (s : List Int32 × Nat) : List Int32 × Nat :=
  match spo o l p with
  | some q => (s.1 ++ q.2.2.2.2.2, q.2.2.2.1)
  | none => s
def st2 (n : Nat) (it : Nat → Int32) (p : Nat) (s : List Int32 × Nat) : List Int32 × Nat := (s.1 ++ (if p < n ∧ s.2 = 0 then [it p] else []), s.2 - 1)
def rbk (o n : Nat) (it : Nat → Int32) (l : List op) : Nat → List Int32 × Nat
  | 0 => ([], 0)
  | p + 1 => st2 n it p (st1 o l p (rbk o n it l p))
theorem st1_n {p : Nat} {s : List Int32 × Nat} (h : spo o l p = none) : st1 o l p s = s := by
  unfold st1
  rw [h]
theorem st1_s {p : Nat} {s : List Int32 × Nat} {q : op} (h : spo o l p = some q) : st1 o l p s = (s.1 ++ q.2.2.2.2.2, q.2.2.2.1) := by
  unfold st1
  rw [h]
theorem rb_adv {L : List Int32} {a : Nat} (h : rbk o n it l a = (L, 0)) : ∀ c, (∀ p, a ≤ p → p < a + c → spo o l p = none) → a + c ≤ n → rbk o n it l (a + c) = (L ++ row it a c, 0)
  | 0, _, _ => by
    rw [Nat.add_zero, h]
    show _ = (L ++ [], 0)
    rw [List.append_nil]
  | c + 1, h1, h2 => by
    have ih := rb_adv h c (fun p hp1 hp2 => h1 p hp1 (by omega)) (by omega)
    rw [← Nat.add_assoc]
    show st2 n it (a + c) (st1 o l (a + c) (rbk o n it l (a + c))) = _
    rw [ih, st1_n (h1 (a + c) (by omega) (by omega))]
    unfold st2
    rw [if_pos ⟨by omega, rfl⟩]
    have e : ∀ (c a : Nat), row it a (c + 1) = row it a c ++ [it (a + c)] := by
      intro c
      induction c with
      | zero => intro a; rfl
      | succ c ihc =>
        intro a
        show it a :: row it (a + 1) (c + 1) = it a :: (row it (a + 1) c ++ [it (a + (c + 1))])
        rw [ihc (a + 1), show a + 1 + c = a + (c + 1) by omega]
    rw [e c a, List.append_assoc]
    rfl
theorem rb_skip {L : List Int32} : ∀ (d p : Nat), st1 o l p (rbk o n it l p) = (L, d) → (∀ r, p < r → r ≤ p + d → spo o l r = none) → st1 o l (p + d) (rbk o n it l (p + d)) = (L, 0)
  | 0, p, h, _ => h
  | d + 1, p, h, h1 => by
    have e : rbk o n it l (p + 1) = (L, d) := by
      show st2 n it p (st1 o l p (rbk o n it l p)) = _
      rw [h]
      unfold st2
      rw [if_neg (fun z => by have := z.2; simp at this), List.append_nil]
      rfl
    have := rb_skip d (p + 1) (by rw [e, st1_n (h1 (p + 1) (by omega) (by omega))]) (fun r hr1 hr2 => h1 r (by omega) (by omega))
    rw [show p + 1 + d = p + (d + 1) by omega] at this
    exact this
theorem row_c {a c : Nat} : row it a (c + 1) = it a :: row it (a + 1) c := rfl
def rJ (o n : Nat) (it : Nat → Int32) (l : List op) (k : Nat) : Prop := ((cbk o it l k) = ([], 0) ∧ ∀ j q, j < k → l[j]? = some q → ¬ onL o q) ∨ st1 o l (cbk o it l k).2 (rbk o n it l (cbk o it l k).2) = ((cbk o it l k).1, 0)
theorem rJ_to (hov : ∀ q, q ∈ l → ov q) (hpw : l.Pairwise ofol) (hfit : ∀ q, q ∈ l → onL o q → q.2.2.1 + q.2.2.2.1 ≤ n) {k p : Nat} (hk : k ≤ l.length) (hJ : rJ o n it l k) (hp : p ≤ n) (hfp : (cbk o it l k).2 ≤ p) (hlt : ∀ j q, k ≤ j → l[j]? = some q → onL o q → p ≤ q.2.2.1) (hne : (∃ j q, j < k ∧ l[j]? = some q ∧ onL o q) → (cbk o it l k).2 < p) : rbk o n it l p = ((cbk o it l k).1 ++ row it (cbk o it l k).2 (p - (cbk o it l k).2), 0) := by
  obtain ⟨c1, c2, c3, c4⟩ := cbk_f (it := it) hov hpw hfit k hk
  rcases hJ with ⟨h1, h2⟩ | h1
  · rw [h1]
    have := rb_adv (o := o) (n := n) (it := it) (l := l) (L := []) (a := 0) rfl p (fun r hr1 hr2 => spo_none.mpr (fun q hq hz => by
      obtain ⟨j, hj, e⟩ := List.getElem_of_mem hq
      have hjr : l[j]? = some q := by rw [List.getElem?_eq_getElem hj, e]
      rcases Nat.lt_or_ge j k with hjk | hjk
      · exact h2 j q hjk hjr hz.1
      · have := hlt j q hjk hjr hz.1
        omega)) (by omega)
    rw [Nat.zero_add] at this
    rw [this]
    rfl
  · by_cases he : ∃ j q, j < k ∧ l[j]? = some q ∧ onL o q
    · have hf := hne he
      generalize cbk o it l k = s at *
      obtain ⟨L, f⟩ := s
      simp only at *
      have e1 : rbk o n it l (f + 1) = (L ++ [it f], 0) := by
        show st2 n it f (st1 o l f (rbk o n it l f)) = _
        rw [h1]
        unfold st2
        rw [if_pos ⟨by omega, rfl⟩]
        rfl
      have := rb_adv e1 (p - (f + 1)) (fun r hr1 hr2 => spo_none.mpr (fun q hq hz => by
        obtain ⟨j, hj, e⟩ := List.getElem_of_mem hq
        have hjr : l[j]? = some q := by rw [List.getElem?_eq_getElem hj, e]
        rcases Nat.lt_or_ge j k with hjk | hjk
        · have := c3 j q hjk hjr hz.1
          omega
        · have := hlt j q hjk hjr hz.1
          omega)) (by omega)
      rw [show f + 1 + (p - (f + 1)) = p by omega] at this
      rw [this, show p - f = (p - (f + 1)) + 1 by omega, row_c, List.append_assoc]
      rfl
    · have hz : ∀ j q, j < k → l[j]? = some q → ¬ onL o q := fun j q hj hq ho => he ⟨j, q, hj, hq, ho⟩
      have hc : ∀ i, i ≤ k → cbk o it l i = ([], 0) := by
        intro i
        induction i with
        | zero => intro _; rfl
        | succ i ih =>
          intro hi
          have hx : l[i]? = some (l[i]'(by omega)) := List.getElem?_eq_getElem (by omega)
          rw [cbk_s hx, cbs_f (hz i _ (by omega) hx)]
          exact ih (by omega)
      rw [hc k (Nat.le_refl _)]
      have := rb_adv (o := o) (n := n) (it := it) (l := l) (L := []) (a := 0) rfl p (fun r hr1 hr2 => spo_none.mpr (fun q hq hz2 => by
        obtain ⟨j, hj, e⟩ := List.getElem_of_mem hq
        have hjr : l[j]? = some q := by rw [List.getElem?_eq_getElem hj, e]
        rcases Nat.lt_or_ge j k with hjk | hjk
        · exact hz j q hjk hjr hz2.1
        · have := hlt j q hjk hjr hz2.1
          omega)) (by omega)
      rw [Nat.zero_add] at this
      rw [this]
      rfl
theorem rJ_all (hov : ∀ q, q ∈ l → ov q) (hpw : l.Pairwise ofol) (hfit : ∀ q, q ∈ l → onL o q → q.2.2.1 + q.2.2.2.1 ≤ n) : ∀ k, k ≤ l.length → rJ o n it l k
  | 0, _ => Or.inl ⟨rfl, fun j q hj => absurd hj (Nat.not_lt_zero _)⟩
  | k + 1, hk => by
    have ih := rJ_all hov hpw hfit k (by omega)
    obtain ⟨c1, c2, c3, c4⟩ := cbk_f (it := it) hov hpw hfit k (by omega)
    have hx : l[k]? = some (l[k]'(by omega)) := List.getElem?_eq_getElem (by omega)
    have hm := List.mem_of_getElem? hx
    unfold rJ
    rw [cbk_s hx]
    generalize l[k]'(by omega) = q at hx hm
    by_cases hq : onL o q
    · rw [cbs_t hq]
      refine Or.inr ?_
      have hpl := c2 k q (Nat.le_refl _) hx hq
      have hft := hfit q hm hq
      have hto := rJ_to hov hpw hfit (p := q.2.2.1) (by omega) ih (by omega) hpl (fun j r hj hr hro => by
        by_cases hjk : j = k
        · subst hjk
          rw [hx] at hr
          cases hr
          exact Nat.le_refl _
        · have := pw_on hov hpw (show k < j by omega) hx hr hq hro
          omega) (fun ⟨j, r, hj, hr, hro⟩ => by
        have hlast : ∀ i, i ≤ k → (∃ j r, j < i ∧ l[j]? = some r ∧ onL o r) → (cbk o it l i).2 < q.2.2.1 := by
          intro i
          induction i with
          | zero => intro _ ⟨j, r, hj, _⟩; omega
          | succ i ihi =>
            intro hi ⟨j, r, hj, hr, hro⟩
            have hxi : l[i]? = some (l[i]'(by omega)) := List.getElem?_eq_getElem (by omega)
            rw [cbk_s hxi]
            by_cases hoi : onL o (l[i]'(by omega))
            · rw [cbs_t hoi]
              exact pw_on hov hpw (show i < k by omega) hxi hx hoi hq
            · rw [cbs_f hoi]
              refine ihi (by omega) ⟨j, r, ?_, hr, hro⟩
              by_cases hji : j = i
              · subst hji
                rw [hxi] at hr
                rw [← Option.some.inj hr] at hro
                exact absurd hro hoi
              · omega
        exact hlast k (Nat.le_refl _) ⟨j, r, hj, hr, hro⟩)
      have hsp := spo_some hov hpw hx hq rfl
      have hs1 : st1 o l q.2.2.1 (rbk o n it l q.2.2.1) = ((cbk o it l k).1 ++ row it (cbk o it l k).2 (q.2.2.1 - (cbk o it l k).2) ++ q.2.2.2.2.2, q.2.2.2.1) := by
        rw [hto, st1_s hsp]
      exact rb_skip q.2.2.2.1 q.2.2.1 hs1 (fun r hr1 hr2 => spo_none.mpr (fun p hp hz => by
        obtain ⟨j, hj, e⟩ := List.getElem_of_mem hp
        have hjr : l[j]? = some p := by rw [List.getElem?_eq_getElem hj, e]
        rcases Nat.lt_or_ge j k with hjk | hjk
        · have := pw_on hov hpw hjk hjr hx hz.1 hq
          omega
        · by_cases hjk2 : j = k
          · subst hjk2
            rw [hx] at hjr
            cases hjr
            omega
          · have := pw_on hov hpw (show k < j by omega) hx hjr hq hz.1
            omega))
    · rw [cbs_f hq]
      rcases ih with ⟨h1, h2⟩ | h1
      · refine Or.inl ⟨h1, fun j p hj hp => ?_⟩
        by_cases hjk : j = k
        · subst hjk
          rw [hx] at hp
          cases hp
          exact hq
        · exact h2 j p (by omega) hp
      · exact Or.inr h1
theorem rb_fin (hov : ∀ q, q ∈ l → ov q) (hpw : l.Pairwise ofol) (hfit : ∀ q, q ∈ l → onL o q → q.2.2.1 + q.2.2.2.1 ≤ n) : (rbk o n it l (n + 1)).1 = fin o it n l := by
  have hJ := rJ_all (it := it) hov hpw hfit l.length (Nat.le_refl _)
  obtain ⟨c1, c2, c3, c4⟩ := cbk_f (it := it) hov hpw hfit l.length (Nat.le_refl _)
  have hidx : ∀ q, q ∈ l → ∃ j, j < l.length ∧ l[j]? = some q := fun q hq => by
    obtain ⟨j, hj, e⟩ := List.getElem_of_mem hq
    exact ⟨j, hj, by rw [List.getElem?_eq_getElem hj, e]⟩
  by_cases he : (cbk o it l l.length).2 < n ∨ ¬ ∃ j q, j < l.length ∧ l[j]? = some q ∧ onL o q
  · have hto := rJ_to hov hpw hfit (p := n) (Nat.le_refl _) hJ (Nat.le_refl _) c1 (fun j q hj hq => by
      have := (List.getElem?_eq_some_iff.mp hq).1
      omega) (fun h => he.elim (fun z => z) (fun z => absurd h z))
    have hn : spo o l n = none := spo_none.mpr (fun q hq hz => by
      obtain ⟨j, hj, hjr⟩ := hidx q hq
      rcases he with he | he
      · have := c3 j q hj hjr hz.1
        omega
      · exact he ⟨j, q, hj, hjr, hz.1⟩)
    show (st2 n it n (st1 o l n (rbk o n it l n))).1 = _
    rw [hto, st1_n hn]
    unfold st2 fin
    rw [if_neg (fun z => by omega), List.append_nil]
  · have h1 : (cbk o it l l.length).2 = n := by
      rcases Nat.lt_or_ge (cbk o it l l.length).2 n with h | h
      · exact absurd (Or.inl h) he
      · omega
    have h2 : ∃ j q, j < l.length ∧ l[j]? = some q ∧ onL o q := Classical.not_not.mp (fun z => he (Or.inr z))
    rcases hJ with ⟨h3, h4⟩ | h3
    · obtain ⟨j, q, hj, hq, hqo⟩ := h2
      exact absurd hqo (h4 j q hj hq)
    · show (st2 n it n (st1 o l n (rbk o n it l n))).1 = _
      rw [h1] at h3
      rw [h3]
      unfold st2 fin
      rw [if_neg (fun z => by omega), List.append_nil, h1, Nat.sub_self]
      show _ = _ ++ []
      rw [List.append_nil]
theorem rbk_mono : ∀ (a c : Nat), (rbk o n it l a).1.length ≤ (rbk o n it l (a + c)).1.length
  | a, 0 => Nat.le_refl _
  | a, c + 1 => by
    have ih := rbk_mono a c
    rw [← Nat.add_assoc]
    show _ ≤ (st2 n it (a + c) (st1 o l (a + c) (rbk o n it l (a + c)))).1.length
    unfold st2
    rw [List.length_append]
    have : (rbk o n it l (a + c)).1.length ≤ (st1 o l (a + c) (rbk o n it l (a + c))).1.length := by
      cases h : spo o l (a + c) with
      | none => rw [st1_n h]; exact Nat.le_refl _
      | some q =>
        rw [st1_s h, List.length_append]
        omega
    omega
end RB
