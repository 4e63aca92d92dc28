theorem row_cg {f g : Nat → Int32} : ∀ c i, (∀ k, i ≤ k → k < i + c → f k = g k) → row f i c = row g i c
  | 0, _, _ => rfl
  | c + 1, i, h => by
    show f i :: row f (i + 1) c = g i :: row g (i + 1) c
    rw [h i (by omega) (by omega), row_cg c (i + 1) (fun k h1 h2 => h k (by omega) (by omega))]
theorem sx_cg {f g : Nat → Int32} {n i : Nat} (h : ∀ k, k < n → f k = g k) : sx f n i = sx g n i := row_cg _ _ (fun k h1 h2 => h k (by omega))
theorem fi_cg {f g : Nat → Int32} {x : Int32} : ∀ c j, (∀ k, j ≤ k → k < j + c → f k = g k) → fi f x c j = fi g x c j
  | 0, _, _ => rfl
  | c + 1, j, h => by
    unfold fi
    rw [h j (by omega) (by omega), fi_cg c (j + 1) (fun k h1 h2 => h k (by omega) (by omega))]
theorem fi_le {f : Nat → Int32} {x : Int32} {c j : Nat} : fi f x c j ≤ j + c := by
  rcases fi_spec (R := f) (x := x) c j with ⟨h, _⟩ | ⟨h, _⟩ <;> omega
theorem gap_cg {f g : Nat → Int32} {o i e j s m : Nat} (hs : s ≤ m) (h : ∀ k, k < m → f k = g k) : gap f o i e j s = gap g o i e j s := by
  unfold gap
  rw [row_cg (s - j) j (fun k h1 h2 => h k (by omega))]
theorem wk_cg {P P' R R' : Nat → Int32} {o n m : Nat} (hP : ∀ k, k < n → P k = P' k) (hR : ∀ k, k < m → R k = R' k) : ∀ (ms : List Bool) (p i j : Nat), p + ms.length ≤ n → j ≤ m + 1 → wk P R o n m ms p i j = wk P' R' o n m ms p i j
  | [], p, i, j, _, _ => gap_cg (Nat.le_refl _) hR
  | false :: ms, p, i, j, h, hj => wk_cg hP hR ms (p + 1) i j (by simp at h; omega) hj
  | true :: ms, p, i, j, h, hj => by
    have hp := hP p (by simp at h; omega)
    show gap R o i p j (fi R (P p) (m - j) j) ++ wk P R o n m ms (p + 1) (p + 1) (fi R (P p) (m - j) j + 1) = gap R' o i p j (fi R' (P' p) (m - j) j) ++ wk P' R' o n m ms (p + 1) (p + 1) (fi R' (P' p) (m - j) j + 1)
    have e1 : fi R (P p) (m - j) j = fi R' (P' p) (m - j) j := by
      rw [hp]
      exact fi_cg _ _ (fun k h1 h2 => hR k (by omega))
    have e2 := fi_le (f := R') (x := P' p) (c := m - j) (j := j)
    rw [e1]
    by_cases hjm : j ≤ m
    · rw [gap_cg (m := m) (by omega) hR, wk_cg hP hR ms (p + 1) (p + 1) _ (by simp at h; omega) (by omega)]
    · have hj1 : j = m + 1 := by omega
      subst hj1
      have e3 : m - (m + 1) = 0 := by omega
      rw [e3]
      show gap R o i p (m + 1) (m + 1) ++ wk P R o n m ms (p + 1) (p + 1) (m + 1 + 1) = gap R' o i p (m + 1) (m + 1) ++ wk P' R' o n m ms (p + 1) (p + 1) (m + 1 + 1)
      have e4 : gap R o i p (m + 1) (m + 1) = gap R' o i p (m + 1) (m + 1) := by
        unfold gap
        rw [Nat.sub_self]
        rfl
      rw [e4]
      have far : ∀ (ms : List Bool) (p i j : Nat), p + ms.length ≤ n → m + 1 ≤ j → wk P R o n m ms p i j = wk P' R' o n m ms p i j := by
        intro ms
        induction ms with
        | nil =>
          intro p i j _ hj
          show gap R o i n j m = gap R' o i n j m
          unfold gap
          rw [show m - j = 0 by omega]
          rfl
        | cons b ms ih =>
          intro p i j hp hj
          cases b with
          | false => exact ih (p + 1) i j (by simp at hp; omega) hj
          | true =>
            show gap R o i p j (fi R (P p) (m - j) j) ++ wk P R o n m ms (p + 1) (p + 1) (fi R (P p) (m - j) j + 1) = gap R' o i p j (fi R' (P' p) (m - j) j) ++ wk P' R' o n m ms (p + 1) (p + 1) (fi R' (P' p) (m - j) j + 1)
            rw [show m - j = 0 by omega]
            show gap R o i p j j ++ wk P R o n m ms (p + 1) (p + 1) (j + 1) = gap R' o i p j j ++ wk P' R' o n m ms (p + 1) (p + 1) (j + 1)
            have e5 : gap R o i p j j = gap R' o i p j j := by
              unfold gap
              rw [Nat.sub_self]
              rfl
            rw [e5, ih (p + 1) (p + 1) (j + 1) (by simp at hp; omega) (by omega)]
      rw [far ms (p + 1) (p + 1) (m + 1 + 1) (by simp at h; omega) (by omega)]
noncomputable def rn (A B : Nat → Int32) (o : Nat) : Nat := (gr_len A B (nI o)).toNatClampNeg
theorem rn_eq {A B : Nat → Int32} {o : Nat} (hB : gr_B B) (ho : o < 16) : gr_len A B (nI o) = nI (rn A B o) ∧ rn A B o ≤ 6 := by
  unfold rn gr_len
  by_cases h : gr_f A (nI o) = nI 1
  · obtain ⟨n, hn, hb⟩ := hB o ho
    rw [if_pos h, nI_clamp (show o < 2 ^ 31 by omega), hb, nI_clamp (by omega)]
    exact ⟨rfl, hn⟩
  · rw [if_neg h, nI_clamp (by decide)]
    exact ⟨rfl, by omega⟩
def dcr (A A2 : Nat → Int32) : Nat → List op
  | 0 => []
  | o + 1 => dcr A A2 o ++ (if ¬ A2 o = -1 ∧ A o = -1 then [(1, o, (A2 o).toNatClampNeg, 0, nI 0, [])] else [])
noncomputable def dob (A B C D A2 B2 C2 D2 : Nat → Int32) (o : Nat) : List op := if A2 o = nI 1 then wk (gi A B D o) (gi A2 B2 D2 o) o (rn A B o) (rn A2 B2 o) (lc_g (sx (gi A B D o) (rn A B o) 0) (sx (gi A2 B2 D2 o) (rn A2 B2 o) 0)) 0 0 0 else if A2 o = nI 0 then dset A C D A2 C2 D2 o 3 else []
noncomputable def dall (A B C D A2 B2 C2 D2 : Nat → Int32) : Nat → List op
  | 0 => dcr A A2 16
  | o + 1 => dall A B C D A2 B2 C2 D2 o ++ dob A B C D A2 B2 C2 D2 o
theorem wk_len {P R : Nat → Int32} {o n m : Nat} : ∀ (ms : List Bool) (p i j : Nat), (wk P R o n m ms p i j).length ≤ ms.length + 1
  | [], p, i, j => gap_len
  | false :: ms, p, i, j => by
    have := wk_len (P := P) (R := R) (o := o) (n := n) (m := m) ms (p + 1) i j
    show (wk P R o n m ms (p + 1) i j).length ≤ _
    simp
    omega
  | true :: ms, p, i, j => by
    have h1 := wk_len (P := P) (R := R) (o := o) (n := n) (m := m) ms (p + 1) (p + 1) (fi R (P p) (m - j) j + 1)
    have h2 := gap_len (R := R) (o := o) (i := i) (e := p) (j := j) (s := fi R (P p) (m - j) j)
    show (gap R o i p j _ ++ wk P R o n m ms (p + 1) (p + 1) _).length ≤ _
    rw [List.length_append]
    simp
    omega
theorem dob_len {A B C D A2 B2 C2 D2 : Nat → Int32} {o : Nat} (hB : gr_B B) (ho : o < 16) : (dob A B C D A2 B2 C2 D2 o).length ≤ 7 := by
  unfold dob
  split
  · have h1 := wk_len (P := gi A B D o) (R := gi A2 B2 D2 o) (o := o) (n := rn A B o) (m := rn A2 B2 o) (lc_g (sx (gi A B D o) (rn A B o) 0) (sx (gi A2 B2 D2 o) (rn A2 B2 o) 0)) 0 0 0
    have h2 := (lc_g_ok (sx (gi A B D o) (rn A B o) 0) (sx (gi A2 B2 D2 o) (rn A2 B2 o) 0)).2.2
    have h3 : (sx (gi A B D o) (rn A B o) 0).length = rn A B o - 0 := row_len _ _ _
    have h4 := (rn_eq (A := A) hB ho).2
    omega
  · split
    · have := dset_len (A := A) (C := C) (D := D) (A2 := A2) (C2 := C2) (D2 := D2) (o := o) 3
      omega
    · simp
theorem dcr_len {A A2 : Nat → Int32} (h0 : ¬ A 0 = -1) : ∀ o, (dcr A A2 o).length ≤ o - 1
  | 0 => Nat.le_refl _
  | o + 1 => by
    have ih := dcr_len h0 (A2 := A2) o
    unfold dcr
    rw [List.length_append]
    by_cases ho : o = 0
    · subst ho
      rw [if_neg (fun z => h0 z.2)]
      simp at ih ⊢
      exact ih
    · split <;> simp <;> omega
theorem dall_len {A B C D A2 B2 C2 D2 : Nat → Int32} (h0 : ¬ A 0 = -1) (hB : gr_B B) : ∀ o, o ≤ 16 → (dall A B C D A2 B2 C2 D2 o).length ≤ 15 + 7 * o
  | 0, _ => by
    have := dcr_len h0 (A2 := A2) 16
    show (dcr A A2 16).length ≤ _
    omega
  | o + 1, ho => by
    have ih := dall_len h0 hB (C := C) (D := D) (A2 := A2) (B2 := B2) (C2 := C2) (D2 := D2) o (by omega)
    have h2 := dob_len (A := A) (B := B) (C := C) (D := D) (A2 := A2) (B2 := B2) (C2 := C2) (D2 := D2) (o := o) hB (by omega)
    show (dall A B C D A2 B2 C2 D2 o ++ dob A B C D A2 B2 C2 D2 o).length ≤ _
    rw [List.length_append]
    omega
