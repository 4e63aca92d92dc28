abbrev op : Type := Nat × Nat × Nat × Nat × Int32 × List Int32
def ov (q : op) : Prop := q.2.1 < 16 ∧ ((q.1 = 1 ∧ 1 ≤ q.2.1 ∧ q.2.2.1 ≤ 1 ∧ q.2.2.2.1 = 0 ∧ q.2.2.2.2.1 = nI 0 ∧ q.2.2.2.2.2 = []) ∨ (q.1 = 2 ∧ q.2.2.1 ≤ 2 ∧ q.2.2.2.2.2 = [] ∧ ((q.2.2.2.1 = 0 ∧ q.2.2.2.2.1 = nI 0) ∨ q.2.2.2.1 = 1 ∨ (q.2.2.2.1 = 2 ∧ ∃ p, p < 16 ∧ q.2.2.2.2.1 = nI p))) ∨ (q.1 = 3 ∧ q.2.2.1 + q.2.2.2.1 ≤ 6 ∧ q.2.2.2.2.2.length ≤ 6 ∧ q.2.2.2.2.1 = nI q.2.2.2.2.2.length ∧ 0 < q.2.2.2.1 + q.2.2.2.2.2.length))
def ofol (p q : op) : Prop := if q.1 = 1 then p.1 = 1 ∧ p.2.1 < q.2.1 else p.1 = 1 ∨ p.2.1 < q.2.1 ∨ (p.2.1 = q.2.1 ∧ p.1 = q.1 ∧ (if q.1 = 2 then p.2.2.1 < q.2.2.1 else p.2.2.1 + p.2.2.2.1 < q.2.2.1))
def vlen (v : Int32) : Nat := (if v < 0 then (-2 * v.toInt - 1).toNat else (2 * v.toInt).toNat) |> fun u => if u < 128 then 1 else if u < 16384 then 2 else if u < 2097152 then 3 else if u < 268435456 then 4 else 5
def olen (q : op) : Nat := if q.1 = 1 then 3 else if q.1 = 2 then (if q.2.2.2.1 = 0 then 4 else if q.2.2.2.1 = 1 then 4 + vlen q.2.2.2.2.1 else 5) else 5 + (q.2.2.2.2.2.map vlen).sum
def owf (l : List op) : Prop := l.length ≤ 127 ∧ (∀ q, q ∈ l → ov q) ∧ (∀ i p q, l[i]? = some p → l[i + 1]? = some q → ofol p q) ∧ (∀ p q, p ∈ l → q ∈ l → p.1 = 1 → ¬ q.1 = 1 → p.2.1 = q.2.1 → p.2.2.1 = (if q.1 = 2 then 0 else 1)) ∧ 3 + (l.map olen).sum ≤ 1200
def crep (da : Nat → Int32) (k : Nat) (q : op) : Prop := da (k * 11) = nI q.1 ∧ da (k * 11 + 1) = nI q.2.1 ∧ da (k * 11 + 2) = nI q.2.2.1 ∧ da (k * 11 + 3) = nI q.2.2.2.1 ∧ da (k * 11 + 4) = q.2.2.2.2.1 ∧ ∀ i x, q.2.2.2.2.2[i]? = some x → da (k * 11 + 5 + i) = x
def mrep (cd ob sn th : Nat → Int32) (fo : Nat → Int64) (fr is : Nat → Int32) (k : Nat) (q : op) : Prop := cd k = nI q.1 ∧ ob k = nI q.2.1 ∧ sn k = nI q.2.2.1 ∧ th k = nI q.2.2.2.1 ∧ fo k = q.2.2.2.2.1.toInt64 ∧ ∃ f, fr k = nI f ∧ f + q.2.2.2.2.2.length ≤ 5200 ∧ ∀ i x, q.2.2.2.2.2[i]? = some x → is (f + i) = x
def isum (l : List op) : Nat := (l.map (fun q => q.2.2.2.2.2.length)).sum
theorem isum_app (l k : List op) : isum (l ++ k) = isum l + isum k := by simp [isum]
theorem isum_1 (q : op) : isum [q] = q.2.2.2.2.2.length := by simp [isum]
def mrow (cd ob sn th : Nat → Int32) (fo : Nat → Int64) (fr is : Nat → Int32) (k f : Nat) (q : op) : Prop := cd k = nI q.1 ∧ ob k = nI q.2.1 ∧ sn k = nI q.2.2.1 ∧ th k = nI q.2.2.2.1 ∧ fo k = q.2.2.2.2.1.toInt64 ∧ fr k = nI f ∧ ∀ i x, q.2.2.2.2.2[i]? = some x → is (f + i) = x
def md (co cd ob sn th : Nat → Int32) (fo : Nat → Int64) (fr po is : Nat → Int32) (d : Nat) (l : List op) : Prop := co d = nI l.length ∧ po d = nI (1300 * d + isum l) ∧ ∀ k q, l[k]? = some q → mrow cd ob sn th fo fr is (130 * d + k) (1300 * d + isum (l.take k)) q
theorem isum_take (l : List op) (k : Nat) {q : op} (h : l[k]? = some q) : isum (l.take k) + q.2.2.2.2.2.length ≤ isum l := by
  have hk := (List.getElem?_eq_some_iff.mp h).1
  have hq := (List.getElem?_eq_some_iff.mp h).2
  have e : l = l.take k ++ (l[k] :: l.drop (k + 1)) := by
    rw [List.getElem_cons_drop]
    exact (List.take_append_drop k l).symm
  have e2 : isum l = isum (l.take k) + (q.2.2.2.2.2.length + isum (l.drop (k + 1))) := by
    conv => lhs; rw [e]
    rw [isum_app, hq]
    simp [isum]
  omega
theorem md_rep {co cd ob sn th : Nat → Int32} {fo : Nat → Int64} {fr po is : Nat → Int32} {l : List op} (hs : isum l ≤ 1300) (h : md co cd ob sn th fo fr po is 0 l) : ∀ k q, l[k]? = some q → mrep cd ob sn th fo fr is k q := by
  intro k q hq
  have ht := isum_take l k hq
  obtain ⟨g1, g2, g3, g4, g5, g6, g7⟩ := h.2.2 k q hq
  rw [show 130 * 0 + k = k by omega] at g1 g2 g3 g4 g5 g6
  rw [show 1300 * 0 + isum (l.take k) = isum (l.take k) by omega] at g6 g7
  exact ⟨g1, g2, g3, g4, g5, isum (l.take k), g6, by omega, g7⟩
theorem isum_owf : ∀ l : List op, (∀ q, q ∈ l → ov q) → isum l ≤ (l.map olen).sum
  | [], _ => Nat.le_refl _
  | q :: l, h => by
    have h1 := isum_owf l (fun p hp => h p (List.mem_cons_of_mem _ hp))
    have h2 : q.2.2.2.2.2.length ≤ olen q := by
      have hv : ∀ s : List Int32, s.length ≤ (s.map vlen).sum := by
        intro s
        induction s with
        | nil => exact Nat.le_refl _
        | cons v s ih =>
          have : 1 ≤ vlen v := by
            unfold vlen
            dsimp only
            generalize (if v < 0 then (-2 * v.toInt - 1).toNat else (2 * v.toInt).toNat) = u
            by_cases h1 : u < 128
            · rw [if_pos h1]
              omega
            · rw [if_neg h1]
              by_cases h2 : u < 16384
              · rw [if_pos h2]
                omega
              · rw [if_neg h2]
                by_cases h3 : u < 2097152
                · rw [if_pos h3]
                  omega
                · rw [if_neg h3]
                  by_cases h4 : u < 268435456
                  · rw [if_pos h4]
                    omega
                  · rw [if_neg h4]
                    omega
          rw [List.map_cons, List.sum_cons, List.length_cons]
          omega
      have h3 := hv q.2.2.2.2.2
      rcases (h q List.mem_cons_self).2 with ⟨_, _, _, _, _, z⟩ | ⟨_, _, z, _⟩ | ⟨z, _⟩
      · rw [z]
        exact Nat.zero_le _
      · rw [z]
        exact Nat.zero_le _
      · unfold olen
        rw [z, if_neg (by decide), if_neg (by decide)]
        omega
    have e1 : isum (q :: l) = q.2.2.2.2.2.length + isum l := by simp [isum]
    rw [e1, List.map_cons, List.sum_cons]
    omega
def rD (da : Nat → Int32) (dn : Int32) (co cd ob sn th : Nat → Int32) (fo : Nat → Int64) (fr po is : Nat → Int32) : Prop := ∃ l : List op, owf l ∧ dn = nI l.length ∧ md co cd ob sn th fo fr po is 0 l ∧ ∀ k q, l[k]? = some q → crep da k q
theorem rD_o {da : Nat → Int32} {dn : Int32} {co cd ob sn th : Nat → Int32} {fo : Nat → Int64} {fr po is : Nat → Int32} (h : rD da dn co cd ob sn th fo fr po is) : ∃ l : List op, owf l ∧ dn = nI l.length ∧ co 0 = nI l.length ∧ ∀ k q, l[k]? = some q → crep da k q ∧ mrep cd ob sn th fo fr is k q := by
  obtain ⟨l, h1, h2, h3, h4⟩ := h
  have h5 := isum_owf l h1.2.1
  have h6 := h1.2.2.2.2
  exact ⟨l, h1, h2, h3.1, fun k q hq => ⟨h4 k q hq, md_rep (by omega) h3 k q hq⟩⟩
def rK (n : Nat) (K li : Nat → Int32) (c m : Int32) : Prop := 1 ≤ n ∧ n ≤ 16 ∧ c = nI n ∧ m = nI n ∧ (∀ o, o < n → (K o = nI 0 ∨ K o = nI 1) ∧ li o = K o) ∧ ∀ o, n ≤ o → o < 16 → K o = -1
def rG (n : Nat) (K li ha le : Nat → Int32) (ce : Nat → Int64) (g : Nat) (A B C D : Nat → Int32) : Prop := go n K A B C D ∧ gm li ha le ce g A B C D
def rV (n : Nat) (K li ha le : Nat → Int32) (ce : Nat → Int64) (v : Nat) (c m : Int32) (VA VB VC VD : Nat → Nat → Int32) : Prop := v ≤ 8 ∧ c = nI v ∧ m = nI v ∧ ∀ u, u < v → rG n K li ha le ce (u + 1) (VA u) (VB u) (VC u) (VD u)
def rC (ca : Nat → Int32) (cn cs : Int32) (cf : Nat → Int32) : Prop := ∃ n, n ≤ 48 ∧ cn = nI n ∧ cs = nI n ∧ ∀ k, k < n → ca k = cf k
def rT (ta : Nat → Int32) (tn dn : Int32) (dr : Nat → Int32) : Prop := ∃ n, n ≤ 1200 ∧ tn = nI n ∧ dn = nI n ∧ ∀ k, k < n → ta k = dr k ∧ ∃ b, b ≤ 255 ∧ ta k = nI b
def rZ (le A : Nat → Int32) (v : Nat) (VA : Nat → Nat → Int32) : Prop := (∀ o, o < 16 → A o = nI 0 → le o = nI 0) ∧ ∀ u, u < v → ∀ o, o < 16 → VA u o = nI 0 → le (16 * (u + 1) + o) = nI 0
theorem rZ_le {le le' A A' : Nat → Int32} {v : Nat} {VA : Nat → Nat → Int32} (h : rZ le A v VA) (h1 : ∀ o, o < 16 → A' o = nI 0 → le' o = nI 0) (h2 : ∀ q, 16 ≤ q → le' q = le q) : rZ le' A' v VA := ⟨h1, fun u hu o ho z => (h2 _ (by omega)).trans (h.2 u hu o ho z)⟩
theorem rZ_up {le A : Nat → Int32} {v : Nat} {VA : Nat → Nat → Int32} {j : Nat} {x : Int32} (hj : j < 16) (hA : A j = nI 1) (h : rZ le A v VA) : rZ (upd le j x) A v VA := rZ_le h (fun o ho z => by
  by_cases hoj : o = j
  · rw [hoj, hA] at z
    exact absurd z (by decide +kernel)
  · rw [ud_n hoj]
    exact h.1 o ho z) (fun q hq => ud_n (by omega))
def rl (w : ai_W) : Prop := ∃ (K : Nat → Int32) (mc vc : Int32) (dl sp : Nat) (A B C D : Nat → Int32) (VA VB VC VD : Nat → Nat → Int32) (da : Nat → Int32) (dc : Int32) (ca : Nat → Int32) (cn : Int32) (ta : Nat → Int32) (tn : Int32) (mk : Int32) (li : Nat → Int32) (vs : Int32) (ha le : Nat → Int32) (ce : Nat → Int64) (re co cd ob sn th : Nat → Int32) (fo : Nat → Int64) (fr po is : Nat → Int32) (cs0 : Int32) (cf : Nat → Int32) (dn : Int32) (dr : Nat → Int32) (wn : Int32) (ou : Nat → Int32) (pa gd : Int32) (n v : Nat),
  (cs w K mc vc dl sp A B C D VA VB VC VD da dc ca cn ta tn ∧ mw w 65 mk li vs ha le ce re co cd ob sn th fo fr po is cs0 cf dn dr wn ou pa gd = w ∧ w.2.2 0 = .inr (0, []) ∧ 82 ≤ w.1) ∧ rK n K li mc mk ∧ rG n K li ha le ce 0 A B C D ∧ rV n K li ha le ce v vc vs VA VB VC VD ∧ rD da dc co cd ob sn th fo fr po is ∧ (rC ca cn cs0 cf ∧ rZ le A v VA) ∧ rT ta tn dn dr
section CS
variable {w : ai_W} {K : Nat → Int32} {mk vc : Int32} {dl sp : Nat} {A B C D : Nat → Int32} {VA VB VC VD : Nat → Nat → Int32} {da : Nat → Int32} {dn : Int32} {ca : Nat → Int32} {cn : Int32} {ta : Nat → Int32} {tn : Int32}
theorem cs_live {A' B' C' D' : Nat → Int32} (h : cs w K mk vc dl sp A B C D VA VB VC VD da dn ca cn ta tn) : cs (gw w 3 A' B' C' D') K mk vc dl sp A' B' C' D' VA VB VC VD da dn ca cn ta tn := by
  obtain ⟨⟨h1, h2, h3⟩, ⟨h4, h5, h6⟩, ⟨⟨X1, n1, h7⟩, ⟨X2, Y2, p2, q2, Z2, h8⟩, ⟨X3, n3, h9⟩, ⟨X4, n4, h10⟩⟩, h11⟩ := h
  exact ⟨⟨xw_fr h1 (gw_go (by omega)) (gw_go (by omega)) (gw_go (by omega)), gw_w, fun v hv => gw_fr (h3 v hv) (fun k _ _ => gw_go (by omega))⟩, ⟨dw_fr h4 (fun k _ _ => gw_go (by omega)), ew_fr h5 (gw_go (by omega)) (gw_go (by omega)), tw_fr h6 (fun k _ _ => gw_go (by omega))⟩, ⟨⟨X1, n1, dw_fr h7 (fun k _ _ => gw_go (by omega))⟩, ⟨X2, Y2, p2, q2, Z2, fw_fr h8 (fun k _ _ => gw_go (by omega))⟩, ⟨X3, n3, dw_fr h9 (fun k _ _ => gw_go (by omega))⟩, ⟨X4, n4, dw_fr h10 (fun k _ _ => gw_go (by omega))⟩⟩, h11⟩
theorem cs_x {K' : Nat → Int32} {mk' vc' : Int32} (h : cs w K mk vc dl sp A B C D VA VB VC VD da dn ca cn ta tn) : cs (xw w 1 K' mk' x_V vc' dl sp) K' mk' vc' dl sp A B C D VA VB VC VD da dn ca cn ta tn := by
  obtain ⟨⟨h1, h2, h3⟩, ⟨h4, h5, h6⟩, ⟨⟨X1, n1, h7⟩, ⟨X2, Y2, p2, q2, Z2, h8⟩, ⟨X3, n3, h9⟩, ⟨X4, n4, h10⟩⟩, h11⟩ := h
  exact ⟨⟨xw_w, gw_fr h2 (fun k _ _ => xw_go (by omega) (by omega) (by omega)), fun v hv => gw_fr (h3 v hv) (fun k _ _ => xw_go (by omega) (by omega) (by omega))⟩, ⟨dw_fr h4 (fun k _ _ => xw_go (by omega) (by omega) (by omega)), ew_fr h5 (xw_go (by omega) (by omega) (by omega)) (xw_go (by omega) (by omega) (by omega)), tw_fr h6 (fun k _ _ => xw_go (by omega) (by omega) (by omega))⟩, ⟨⟨X1, n1, dw_fr h7 (fun k _ _ => xw_go (by omega) (by omega) (by omega))⟩, ⟨X2, Y2, p2, q2, Z2, fw_fr h8 (fun k _ _ => xw_go (by omega) (by omega) (by omega))⟩, ⟨X3, n3, dw_fr h9 (fun k _ _ => xw_go (by omega) (by omega) (by omega))⟩, ⟨X4, n4, dw_fr h10 (fun k _ _ => xw_go (by omega) (by omega) (by omega))⟩⟩, h11⟩
theorem cs_ver {u : Nat} (hu : u < 8) {A' B' C' D' : Nat → Int32} (h : cs w K mk vc dl sp A B C D VA VB VC VD da dn ca cn ta tn) : cs (gw w (25 + 5 * u) A' B' C' D') K mk vc dl sp A B C D (fun v => if v = u then A' else VA v) (fun v => if v = u then B' else VB v) (fun v => if v = u then C' else VC v) (fun v => if v = u then D' else VD v) da dn ca cn ta tn := by
  obtain ⟨⟨h1, h2, h3⟩, ⟨h4, h5, h6⟩, ⟨⟨X1, n1, h7⟩, ⟨X2, Y2, p2, q2, Z2, h8⟩, ⟨X3, n3, h9⟩, ⟨X4, n4, h10⟩⟩, h11⟩ := h
  refine ⟨⟨xw_fr h1 (gw_go (by omega)) (gw_go (by omega)) (gw_go (by omega)), gw_fr h2 (fun k _ _ => gw_go (by omega)), fun v hv => ?_⟩, ⟨dw_fr h4 (fun k _ _ => gw_go (by omega)), ew_fr h5 (gw_go (by omega)) (gw_go (by omega)), tw_fr h6 (fun k _ _ => gw_go (by omega))⟩, ⟨⟨X1, n1, dw_fr h7 (fun k _ _ => gw_go (by omega))⟩, ⟨X2, Y2, p2, q2, Z2, fw_fr h8 (fun k _ _ => gw_go (by omega))⟩, ⟨X3, n3, dw_fr h9 (fun k _ _ => gw_go (by omega))⟩, ⟨X4, n4, dw_fr h10 (fun k _ _ => gw_go (by omega))⟩⟩, h11⟩
  by_cases hvu : v = u
  · subst hvu
    simp only [if_true]
    exact gw_w
  · simp only [if_neg hvu]
    exact gw_fr (h3 v hv) (fun k _ _ => gw_go (by omega))
theorem cs_draft {ta' : Nat → Int32} {tn' : Int32} (h : cs w K mk vc dl sp A B C D VA VB VC VD da dn ca cn ta tn) : cs (tw w 23 ta' tn') K mk vc dl sp A B C D VA VB VC VD da dn ca cn ta' tn' := by
  obtain ⟨⟨h1, h2, h3⟩, ⟨h4, h5, h6⟩, ⟨⟨X1, n1, h7⟩, ⟨X2, Y2, p2, q2, Z2, h8⟩, ⟨X3, n3, h9⟩, ⟨X4, n4, h10⟩⟩, h11⟩ := h
  exact ⟨⟨xw_fr h1 (tw_go (by omega)) (tw_go (by omega)) (tw_go (by omega)), gw_fr h2 (fun k _ _ => tw_go (by omega)), fun v hv => gw_fr (h3 v hv) (fun k _ _ => tw_go (by omega))⟩, ⟨dw_fr h4 (fun k _ _ => tw_go (by omega)), ew_fr h5 (tw_go (by omega)) (tw_go (by omega)), tw_w⟩, ⟨⟨X1, n1, dw_fr h7 (fun k _ _ => tw_go (by omega))⟩, ⟨X2, Y2, p2, q2, Z2, fw_fr h8 (fun k _ _ => tw_go (by omega))⟩, ⟨X3, n3, dw_fr h9 (fun k _ _ => tw_go (by omega))⟩, ⟨X4, n4, dw_fr h10 (fun k _ _ => tw_go (by omega))⟩⟩, h11⟩
end CS
