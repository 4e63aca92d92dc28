def ai_nx (rc : ai_S → Nat → Nat → ai_L → List Value → ai_W → Option (Option Value × ai_W)) (scr : ai_S) (M : Nat) (ls : ai_L) (w : ai_W) : Option ai_R → Option (Option Value × ai_W)
  | none => none
  | some (.inl q) => rc scr M q.1 q.2.1 q.2.2.1 q.2.2.2
  | some (.inr (.inl r)) => some (r, w)
  | some (.inr (.inr q)) => if (ai_sl q.2.1).length ≤ ai_mx q.1 then (rc none q.1 0 (ai_in (ai_mx q.1) q.2.1) [] w).bind (fun z => rc scr M q.2.2.2 ls (z.1.toList ++ q.2.2.1) z.2) else none
noncomputable def ai_next (rc : ai_S → Nat → Nat → ai_L → List Value → ai_W → Option (Option Value × ai_W)) (scr : ai_S) (M i : Nat) (ls : ai_L) (st : List Value) (w : ai_W) : Option (Option Value × ai_W) :=
  match ai_find (ai_tab M) i with
  | none => none
  | some I => ai_nx rc scr M ls w (ai_step scr I ls st w)
noncomputable def ai_run : Nat → ai_S → Nat → Nat → ai_L → List Value → ai_W → Option (Option Value × ai_W)
  | 0 => fun _ _ _ _ _ _ => none
  | n + 1 => ai_next (ai_run n)
theorem ai_next_mono {r1 r2 : ai_S → Nat → Nat → ai_L → List Value → ai_W → Option (Option Value × ai_W)} (h12 : ∀ scr M i ls st w z, r1 scr M i ls st w = some z → r2 scr M i ls st w = some z) {scr : ai_S} {M i : Nat} {ls : ai_L} {st : List Value} {w : ai_W} {z : Option Value × ai_W} (h : ai_next r1 scr M i ls st w = some z) : ai_next r2 scr M i ls st w = some z := by
  unfold ai_next at h ⊢
  revert h
  cases ai_find (ai_tab M) i with
  | none => intro h; cases h
  | some I =>
    show ai_nx r1 scr M ls w (ai_step scr I ls st w) = some z → ai_nx r2 scr M ls w (ai_step scr I ls st w) = some z
    rcases ai_step scr I ls st w with _ | (q | r | q)
    · intro h; cases h
    · intro h; exact h12 _ _ _ _ _ _ _ h
    · intro h; exact h
    · intro h
      unfold ai_nx at h ⊢
      by_cases hm : (ai_sl q.2.1).length ≤ ai_mx q.1
      · simp only [if_pos hm] at h ⊢
        obtain ⟨z1, h1, h2⟩ := Option.bind_eq_some_iff.mp h
        exact Option.bind_eq_some_iff.mpr ⟨z1, h12 _ _ _ _ _ _ _ h1, h12 _ _ _ _ _ _ _ h2⟩
      · simp only [if_neg hm] at h
        cases h
theorem ai_mono : ∀ (n : Nat) (scr : ai_S) (M i : Nat) (ls : ai_L) (st : List Value) (w : ai_W) (z : Option Value × ai_W), ai_run n scr M i ls st w = some z → ai_run (n + 1) scr M i ls st w = some z
  | 0, _, _, _, _, _, _, _, h => by cases h
  | n + 1, _, _, _, _, _, _, _, h => ai_next_mono (ai_mono n) h
theorem ai_mono_le {n k : Nat} {scr : ai_S} {M i : Nat} {ls : ai_L} {st : List Value} {w : ai_W} {z : Option Value × ai_W} (h : ai_run n scr M i ls st w = some z) (hk : n ≤ k) : ai_run k scr M i ls st w = some z := by
  obtain ⟨d, rfl⟩ := Nat.le.dest hk
  induction d with
  | zero => exact h
  | succ d ih => exact ai_mono _ _ _ _ _ _ _ _ (ih (Nat.le_add_right _ _))
theorem ai_uni {n k : Nat} {scr : ai_S} {M i : Nat} {ls : ai_L} {st : List Value} {w : ai_W} {z y : Option Value × ai_W} (h : ai_run n scr M i ls st w = some z) (h2 : ai_run k scr M i ls st w = some y) : z = y :=
  Option.some.inj ((ai_mono_le h (Nat.le_add_right n k)).symm.trans (ai_mono_le h2 (Nat.le_add_left k n)))
noncomputable def ai_ev : ai_S → Nat → Nat → ai_L → List Value → ai_W → Option (Option Value × ai_W) := fun scr M i ls st w => @dite _ (∃ z, ∃ n, ai_run n scr M i ls st w = some z) (Classical.propDecidable _) (fun h => some (Classical.choose h)) (fun _ => none)
theorem ai_ev_some {scr : ai_S} {M i : Nat} {ls : ai_L} {st : List Value} {w : ai_W} {z : Option Value × ai_W} : ai_ev scr M i ls st w = some z ↔ ∃ n, ai_run n scr M i ls st w = some z := by
  unfold ai_ev
  by_cases h : ∃ z, ∃ n, ai_run n scr M i ls st w = some z
  · rw [dif_pos h]
    obtain ⟨n, hn⟩ := Classical.choose_spec h
    constructor
    · intro e; cases e; exact ⟨n, hn⟩
    · rintro ⟨k, hk⟩; rw [ai_uni hn hk]
  · rw [dif_neg h]
    constructor
    · intro e; cases e
    · rintro ⟨k, hk⟩; exact absurd ⟨z, k, hk⟩ h
theorem ai_ev_fix (scr : ai_S) (M i : Nat) (ls : ai_L) (st : List Value) (w : ai_W) : ai_ev scr M i ls st w = ai_next ai_ev scr M i ls st w := by
  apply Option.ext
  intro z
  rw [ai_ev_some]
  constructor
  · rintro ⟨n, hn⟩
    cases n with
    | zero => cases hn
    | succ n => exact ai_next_mono (r1 := ai_run n) (fun scr M i ls st w z h => ai_ev_some.mpr ⟨n, h⟩) hn
  · intro h
    unfold ai_next at h
    revert h
    cases hI : ai_find (ai_tab M) i with
    | none => intro h; cases h
    | some I =>
      show ai_nx ai_ev scr M ls w (ai_step scr I ls st w) = some z → _
      have up : ∀ n, ai_nx (ai_run n) scr M ls w (ai_step scr I ls st w) = some z → ∃ n, ai_run n scr M i ls st w = some z := by
        intro n hn
        refine ⟨n + 1, ?_⟩
        show ai_next (ai_run n) scr M i ls st w = some z
        unfold ai_next
        rw [hI]
        exact hn
      revert up
      rcases ai_step scr I ls st w with _ | (q | r | q)
      · intro up h; cases h
      · intro up h
        obtain ⟨n, hn⟩ := ai_ev_some.mp h
        exact up n hn
      · intro up h
        exact up 0 h
      · intro up h
        unfold ai_nx at h up
        by_cases hm : (ai_sl q.2.1).length ≤ ai_mx q.1
        · simp only [if_pos hm] at h up
          obtain ⟨z1, h1, h2⟩ := Option.bind_eq_some_iff.mp h
          obtain ⟨n1, g1⟩ := ai_ev_some.mp h1
          obtain ⟨n2, g2⟩ := ai_ev_some.mp h2
          exact up (n1 + n2) (Option.bind_eq_some_iff.mpr ⟨z1, ai_mono_le g1 (Nat.le_add_right _ _), ai_mono_le g2 (Nat.le_add_left _ _)⟩)
        · simp only [if_neg hm] at h
          cases h
noncomputable def ai_gf (cell : va_E) (a b : Nat) (scr : ai_S) (M nx : Nat) (ls : ai_L) (r : List Value) (w : ai_W) : Option (Option Value × ai_W) := match cell with
  | .inr (ci, fs) => if ci = a then (match fs[b]? with
    | some v => ai_ev scr M nx ls (v :: r) w
    | none => none) else none
  | _ => none
noncomputable def ai_pf (cell : va_E) (a b c : Nat) (v : Value) (o : Nat) (scr : ai_S) (M nx : Nat) (ls : ai_L) (r : List Value) (w : ai_W) : Option (Option Value × ai_W) := match cell with
  | .inr (ci, fs) => if ci = a ∧ b < fs.length ∧ ai_fit c v = true then ai_ev scr M nx ls r (ai_put w o (.inr (ci, fs.set b v))) else none
  | _ => none
noncomputable def ai_ai (cell : va_E) (t : Nat) (i : Int32) (scr : ai_S) (M nx : Nat) (ls : ai_L) (r : List Value) (w : ai_W) : Option (Option Value × ai_W) := match cell with
  | .inl (t', n, .inl f) => if t' = t then (if i < 0 ∨ n ≤ i.toNatClampNeg then none else ai_ev scr M nx ls (.int (f i.toNatClampNeg) :: r) w) else none
  | _ => none
noncomputable def ai_aj (cell : va_E) (i : Int32) (scr : ai_S) (M nx : Nat) (ls : ai_L) (r : List Value) (w : ai_W) : Option (Option Value × ai_W) := match cell with
  | .inl (2, n, .inr (.inl f)) => if i < 0 ∨ n ≤ i.toNatClampNeg then none else ai_ev scr M nx ls (.long (f i.toNatClampNeg) :: r) w
  | _ => none
noncomputable def ai_aq2 (cell : va_E) (i : Int32) (scr : ai_S) (M nx : Nat) (ls : ai_L) (r : List Value) (w : ai_W) : Option (Option Value × ai_W) := match cell with
  | .inl (3, n, .inr (.inr (.inr (.inr f)))) => if i < 0 ∨ n ≤ i.toNatClampNeg then none else ai_ev scr M nx ls (va_rf (f i.toNatClampNeg) :: r) w
  | _ => none
noncomputable def ai_si (cell : va_E) (t : Nat) (i x : Int32) (o : Nat) (scr : ai_S) (M nx : Nat) (ls : ai_L) (r : List Value) (w : ai_W) : Option (Option Value × ai_W) := match cell with
  | .inl (t', n, .inl f) => if t' = t then (if i < 0 ∨ n ≤ i.toNatClampNeg then none else ai_ev scr M nx ls r (ai_put w o (.inl (t, n, .inl (upd f i.toNatClampNeg x))))) else none
  | _ => none
noncomputable def ai_sj (cell : va_E) (i : Int32) (x : Int64) (o : Nat) (scr : ai_S) (M nx : Nat) (ls : ai_L) (r : List Value) (w : ai_W) : Option (Option Value × ai_W) := match cell with
  | .inl (2, n, .inr (.inl f)) => if i < 0 ∨ n ≤ i.toNatClampNeg then none else ai_ev scr M nx ls r (ai_put w o (.inl (2, n, .inr (.inl (vp_updL f i.toNatClampNeg x)))))
  | _ => none
noncomputable def ai_sq (cell ce : va_E) (a : Nat) (i : Int32) (x o : Nat) (scr : ai_S) (M nx : Nat) (ls : ai_L) (r : List Value) (w : ai_W) : Option (Option Value × ai_W) := match cell, ce with
  | .inl (3, n, .inr (.inr (.inr (.inr f)))), .inr (ci, _ :: _) => if i < 0 ∨ n ≤ i.toNatClampNeg ∨ ¬ ci = a then none else ai_ev scr M nx ls r (ai_put w o (.inl (3, n, .inr (.inr (.inr (.inr (va_up f i.toNatClampNeg (some x))))))))
  | _, _ => none
noncomputable def ai_al (cell : va_E) (o : Nat) (scr : ai_S) (M nx : Nat) (ls : ai_L) (r : List Value) (w : ai_W) : Option (Option Value × ai_W) := match cell with
  | .inl (t, n, _) => if t < 4 then ai_ev scr M nx ls (.int (nI n) :: r) w else none
  | .inr (0, []) => match scr with
    | some (n, _) => if o = 0 then ai_ev scr M nx ls (.int (nI n) :: r) w else none
    | none => none
  | _ => none
noncomputable def ai_sc (cell : va_E) (i : Int32) (o : Nat) (scr : ai_S) (M nx : Nat) (ls : ai_L) (r : List Value) (w : ai_W) : Option (Option Value × ai_W) := match cell with
  | .inl (0, n, .inl f) => if i < 0 ∨ n ≤ i.toNatClampNeg then none else ai_ev scr M nx ls (.int (f i.toNatClampNeg) :: r) w
  | .inr (0, []) => match scr with
    | some (n, f) => if i < 0 ∨ n ≤ i.toNatClampNeg ∨ ¬ o = 0 then none else ai_ev scr M nx ls (.int (f i.toNatClampNeg) :: r) w
    | none => none
  | _ => none
noncomputable def ai_cy (c0 c1 : va_E) (sp dp n : Int32) (d : Nat) (scr : ai_S) (M nx : Nat) (ls : ai_L) (r : List Value) (w : ai_W) : Option (Option Value × ai_W) := match c0, c1 with
  | .inl (0, n0, .inl f), .inl (0, n1, .inl g) =>
    if ¬ sp < 0 ∧ ¬ dp < 0 ∧ ¬ n < 0 ∧ sp.toNatClampNeg + n.toNatClampNeg ≤ n0 ∧ dp.toNatClampNeg + n.toNatClampNeg ≤ n1 then
      ai_ev scr M nx ls r (ai_put w d (.inl (0, n1, .inl (va_cpy f g sp.toNatClampNeg dp.toNatClampNeg n.toNatClampNeg))))
    else none
  | _, _ => none
noncomputable def ai_na2 (t : Nat) (n : Int32) (scr : ai_S) (M nx : Nat) (ls : ai_L) (r : List Value) (w : ai_W) : Option (Option Value × ai_W) := if n < 0 ∨ 100000 < n.toNatClampNeg then none else match t with
  | 0 => ai_ev scr M nx ls (.ref (w.1 + 1) :: r) (ai_add w n.toNatClampNeg (.inl (0, n.toNatClampNeg, .inl (fun _ => 0))))
  | 1 => ai_ev scr M nx ls (.ref (w.1 + 1) :: r) (ai_add w n.toNatClampNeg (.inl (1, n.toNatClampNeg, .inl (fun _ => 0))))
  | 2 => ai_ev scr M nx ls (.ref (w.1 + 1) :: r) (ai_add w n.toNatClampNeg (.inl (2, n.toNatClampNeg, .inr (.inl (fun _ => 0)))))
  | _ => ai_ev scr M nx ls (.ref (w.1 + 1) :: r) (ai_add w n.toNatClampNeg (.inl (3, n.toNatClampNeg, .inr (.inr (.inr (.inr (fun _ => none)))))))
def ai_bI (q : Bool) : Int32 := bif q then nI 1 else nI 0
theorem ai_bI_01 (q : Bool) : ai_bI q = 0 ∨ ai_bI q = 1 := by
  cases q
  · exact Or.inl nI_0
  · exact Or.inr rfl
def ai_rc (cell : va_E) (cl : Nat) (k : Option (Option Value × ai_W)) : Option (Option Value × ai_W) := match cell with
  | .inr (ci, _ :: _) => if ci = cl then k else none
  | _ => none
noncomputable def ai_th (x : Option (Option Value × ai_W)) (scr : ai_S) (M nx : Nat) (ls : ai_L) (r : List Value) : Option (Option Value × ai_W) := x.bind (fun z => ai_ev scr M nx ls (z.1.toList ++ r) z.2)
theorem ai_th_v {scr : ai_S} {M nx : Nat} {ls : ai_L} {r : List Value} {v : Value} {w : ai_W} : ai_th (some (some v, w)) scr M nx ls r = ai_ev scr M nx ls (v :: r) w := rfl
theorem ai_th_n {scr : ai_S} {M nx : Nat} {ls : ai_L} {r : List Value} {w : ai_W} : ai_th (some (none, w)) scr M nx ls r = ai_ev scr M nx ls r w := rfl
theorem ai_th_z {scr : ai_S} {M nx : Nat} {ls : ai_L} {r : List Value} : ai_th none scr M nx ls r = none := rfl
theorem ai_th_if {scr : ai_S} {M nx : Nat} {ls : ai_L} {r : List Value} {p : Prop} {dp : Decidable p} {x y : Option (Option Value × ai_W)} : ai_th (if p then x else y) scr M nx ls r = if p then ai_th x scr M nx ls r else ai_th y scr M nx ls r := by split <;> rfl
section EV
variable {scr : ai_S} {M i : Nat} {ls ls' : ai_L} {st st' : List Value} {w w' : ai_W} {rr : Option Value} {I : ai_I}
theorem ev_eq (hI : ai_find (ai_tab M) i = some I) : ai_ev scr M i ls st w = ai_nx ai_ev scr M ls w (ai_step scr I ls st w) := by
  rw [ai_ev_fix]
  unfold ai_next
  rw [hI]
theorem ev_go {i' : Nat} (hI : ai_find (ai_tab M) i = some I) (hs : ai_step scr I ls st w = some (.inl (i', ls', st', w'))) : ai_ev scr M i ls st w = ai_ev scr M i' ls' st' w' := by
  rw [ev_eq hI, hs]
  rfl
theorem ev_ret (hI : ai_find (ai_tab M) i = some I) (hs : ai_step scr I ls st w = some (.inr (.inl rr))) : ai_ev scr M i ls st w = some (rr, w) := by
  rw [ev_eq hI, hs]
  rfl
theorem ev_cal {M' nx : Nat} {as rest : List Value} (hI : ai_find (ai_tab M) i = some I) (hs : ai_step scr I ls st w = some (.inr (.inr (M', as, rest, nx)))) (hm : (ai_sl as).length ≤ ai_mx M') : ai_ev scr M i ls st w = (ai_ev none M' 0 (ai_in (ai_mx M') as) [] w).bind (fun z => ai_ev scr M nx ls (z.1.toList ++ rest) z.2) := by
  rw [ev_eq hI, hs]
  show (if (ai_sl as).length ≤ ai_mx M' then _ else none) = _
  rw [if_pos hm]
variable {nx a b c : Nat} {cv : Value} {tb : List (Int32 × Nat)} {r : List Value}

theorem ev_if_eq {q : Int} {x : Int32} (hI : ai_find (ai_tab M) i = some (.ifCond .eq q, nx, a, b, c, cv, tb)) : ai_ev scr M i ls (.int x :: r) w = if x = 0 then ai_ev scr M a ls r w else ai_ev scr M nx ls r w := by
  cases hD : ai_czD .eq x with
  | isTrue h => exact (ev_go hI (by simp only [ai_step, hD]; rfl)).trans (if_pos (c := x = 0) h).symm
  | isFalse h => exact (ev_go hI (by simp only [ai_step, hD]; rfl)).trans (if_neg (c := x = 0) h).symm
theorem ev_icmp_eq {q : Int} {x y : Int32} (hI : ai_find (ai_tab M) i = some (.if_icmp .eq q, nx, a, b, c, cv, tb)) : ai_ev scr M i ls (.int y :: .int x :: r) w = if x = y then ai_ev scr M a ls r w else ai_ev scr M nx ls r w := by
  cases hD : ai_ciD .eq x y with
  | isTrue h => exact (ev_go hI (by simp only [ai_step, hD]; rfl)).trans (if_pos (c := x = y) h).symm
  | isFalse h => exact (ev_go hI (by simp only [ai_step, hD]; rfl)).trans (if_neg (c := x = y) h).symm
theorem ev_if_ne {q : Int} {x : Int32} (hI : ai_find (ai_tab M) i = some (.ifCond .ne q, nx, a, b, c, cv, tb)) : ai_ev scr M i ls (.int x :: r) w = if ¬ x = 0 then ai_ev scr M a ls r w else ai_ev scr M nx ls r w := by
  cases hD : ai_czD .ne x with
  | isTrue h => exact (ev_go hI (by simp only [ai_step, hD]; rfl)).trans (if_pos (c := ¬ x = 0) h).symm
  | isFalse h => exact (ev_go hI (by simp only [ai_step, hD]; rfl)).trans (if_neg (c := ¬ x = 0) h).symm
theorem ev_icmp_ne {q : Int} {x y : Int32} (hI : ai_find (ai_tab M) i = some (.if_icmp .ne q, nx, a, b, c, cv, tb)) : ai_ev scr M i ls (.int y :: .int x :: r) w = if ¬ x = y then ai_ev scr M a ls r w else ai_ev scr M nx ls r w := by
  cases hD : ai_ciD .ne x y with
  | isTrue h => exact (ev_go hI (by simp only [ai_step, hD]; rfl)).trans (if_pos (c := ¬ x = y) h).symm
  | isFalse h => exact (ev_go hI (by simp only [ai_step, hD]; rfl)).trans (if_neg (c := ¬ x = y) h).symm
theorem ev_if_lt {q : Int} {x : Int32} (hI : ai_find (ai_tab M) i = some (.ifCond .lt q, nx, a, b, c, cv, tb)) : ai_ev scr M i ls (.int x :: r) w = if x < 0 then ai_ev scr M a ls r w else ai_ev scr M nx ls r w := by
  cases hD : ai_czD .lt x with
  | isTrue h => exact (ev_go hI (by simp only [ai_step, hD]; rfl)).trans (if_pos (c := x < 0) h).symm
  | isFalse h => exact (ev_go hI (by simp only [ai_step, hD]; rfl)).trans (if_neg (c := x < 0) h).symm
theorem ev_icmp_lt {q : Int} {x y : Int32} (hI : ai_find (ai_tab M) i = some (.if_icmp .lt q, nx, a, b, c, cv, tb)) : ai_ev scr M i ls (.int y :: .int x :: r) w = if x < y then ai_ev scr M a ls r w else ai_ev scr M nx ls r w := by
  cases hD : ai_ciD .lt x y with
  | isTrue h => exact (ev_go hI (by simp only [ai_step, hD]; rfl)).trans (if_pos (c := x < y) h).symm
  | isFalse h => exact (ev_go hI (by simp only [ai_step, hD]; rfl)).trans (if_neg (c := x < y) h).symm
theorem ev_if_ge {q : Int} {x : Int32} (hI : ai_find (ai_tab M) i = some (.ifCond .ge q, nx, a, b, c, cv, tb)) : ai_ev scr M i ls (.int x :: r) w = if 0 ≤ x then ai_ev scr M a ls r w else ai_ev scr M nx ls r w := by
  cases hD : ai_czD .ge x with
  | isTrue h => exact (ev_go hI (by simp only [ai_step, hD]; rfl)).trans (if_pos (c := 0 ≤ x) h).symm
  | isFalse h => exact (ev_go hI (by simp only [ai_step, hD]; rfl)).trans (if_neg (c := 0 ≤ x) h).symm
theorem ev_icmp_ge {q : Int} {x y : Int32} (hI : ai_find (ai_tab M) i = some (.if_icmp .ge q, nx, a, b, c, cv, tb)) : ai_ev scr M i ls (.int y :: .int x :: r) w = if y ≤ x then ai_ev scr M a ls r w else ai_ev scr M nx ls r w := by
  cases hD : ai_ciD .ge x y with
  | isTrue h => exact (ev_go hI (by simp only [ai_step, hD]; rfl)).trans (if_pos (c := y ≤ x) h).symm
  | isFalse h => exact (ev_go hI (by simp only [ai_step, hD]; rfl)).trans (if_neg (c := y ≤ x) h).symm
theorem ev_if_gt {q : Int} {x : Int32} (hI : ai_find (ai_tab M) i = some (.ifCond .gt q, nx, a, b, c, cv, tb)) : ai_ev scr M i ls (.int x :: r) w = if 0 < x then ai_ev scr M a ls r w else ai_ev scr M nx ls r w := by
  cases hD : ai_czD .gt x with
  | isTrue h => exact (ev_go hI (by simp only [ai_step, hD]; rfl)).trans (if_pos (c := 0 < x) h).symm
  | isFalse h => exact (ev_go hI (by simp only [ai_step, hD]; rfl)).trans (if_neg (c := 0 < x) h).symm
theorem ev_icmp_gt {q : Int} {x y : Int32} (hI : ai_find (ai_tab M) i = some (.if_icmp .gt q, nx, a, b, c, cv, tb)) : ai_ev scr M i ls (.int y :: .int x :: r) w = if y < x then ai_ev scr M a ls r w else ai_ev scr M nx ls r w := by
  cases hD : ai_ciD .gt x y with
  | isTrue h => exact (ev_go hI (by simp only [ai_step, hD]; rfl)).trans (if_pos (c := y < x) h).symm
  | isFalse h => exact (ev_go hI (by simp only [ai_step, hD]; rfl)).trans (if_neg (c := y < x) h).symm
theorem ev_if_le {q : Int} {x : Int32} (hI : ai_find (ai_tab M) i = some (.ifCond .le q, nx, a, b, c, cv, tb)) : ai_ev scr M i ls (.int x :: r) w = if x ≤ 0 then ai_ev scr M a ls r w else ai_ev scr M nx ls r w := by
  cases hD : ai_czD .le x with
  | isTrue h => exact (ev_go hI (by simp only [ai_step, hD]; rfl)).trans (if_pos (c := x ≤ 0) h).symm
  | isFalse h => exact (ev_go hI (by simp only [ai_step, hD]; rfl)).trans (if_neg (c := x ≤ 0) h).symm
theorem ev_icmp_le {q : Int} {x y : Int32} (hI : ai_find (ai_tab M) i = some (.if_icmp .le q, nx, a, b, c, cv, tb)) : ai_ev scr M i ls (.int y :: .int x :: r) w = if x ≤ y then ai_ev scr M a ls r w else ai_ev scr M nx ls r w := by
  cases hD : ai_ciD .le x y with
  | isTrue h => exact (ev_go hI (by simp only [ai_step, hD]; rfl)).trans (if_pos (c := x ≤ y) h).symm
  | isFalse h => exact (ev_go hI (by simp only [ai_step, hD]; rfl)).trans (if_neg (c := x ≤ y) h).symm
theorem ev_getf {q o : Nat} (hI : ai_find (ai_tab M) i = some (.getfield q, nx, a, b, c, cv, tb)) : ai_ev scr M i ls (.ref o :: r) w = ai_gf (w.2.2 o) a b scr M nx ls r w := by
  rw [ev_eq hI]
  simp only [ai_step, ai_gf]
  rcases w.2.2 o with x | ⟨ci, fs⟩
  · rfl
  · by_cases h : ci = a
    · simp only [if_pos h]
      cases fs[b]? <;> rfl
    · simp only [if_neg h]
      rfl
theorem ev_putf {q o : Nat} {v : Value} (hI : ai_find (ai_tab M) i = some (.putfield q, nx, a, b, c, cv, tb)) : ai_ev scr M i ls (v :: .ref o :: r) w = ai_pf (w.2.2 o) a b c v o scr M nx ls r w := by
  rw [ev_eq hI]
  simp only [ai_step, ai_pf]
  rcases w.2.2 o with x | ⟨ci, fs⟩
  · rfl
  · by_cases h : ci = a ∧ b < fs.length ∧ ai_fit c v = true
    · simp only [if_pos h]
      rfl
    · simp only [if_neg h]
      rfl
theorem ev_iald {o : Nat} {i2 : Int32} (hI : ai_find (ai_tab M) i = some (.iaload, nx, a, b, c, cv, tb)) : ai_ev none M i ls (.int i2 :: .ref o :: r) w = ai_ai (w.2.2 o) 0 i2 none M nx ls r w := by
  rw [ev_eq hI]
  simp only [ai_step, ai_ai]
  generalize w.2.2 o = cell
  split
  · next n f =>
    by_cases h : i2 < 0 ∨ n ≤ i2.toNatClampNeg
    · simp only [if_pos h]; rfl
    · simp only [if_neg h]; rfl
  · rfl
  · next h1 h2 =>
    split
    · next t n f =>
      by_cases ht : t = 0
      · subst ht; exact absurd rfl (h1 n f)
      · rw [if_neg ht]; rfl
    · rfl
theorem ev_bald {o : Nat} {i2 : Int32} (hI : ai_find (ai_tab M) i = some (.baload, nx, a, b, c, cv, tb)) : ai_ev scr M i ls (.int i2 :: .ref o :: r) w = ai_ai (w.2.2 o) 1 i2 scr M nx ls r w := by
  rw [ev_eq hI]
  simp only [ai_step, ai_ai]
  generalize w.2.2 o = cell
  split
  · next n f =>
    by_cases h : i2 < 0 ∨ n ≤ i2.toNatClampNeg
    · simp only [if_pos h]; rfl
    · simp only [if_neg h]; rfl
  · next h1 =>
    split
    · next t n f =>
      by_cases ht : t = 1
      · subst ht; exact absurd rfl (h1 n f)
      · rw [if_neg ht]; rfl
    · rfl
theorem ev_lald {o : Nat} {i2 : Int32} (hI : ai_find (ai_tab M) i = some (.laload, nx, a, b, c, cv, tb)) : ai_ev scr M i ls (.int i2 :: .ref o :: r) w = ai_aj (w.2.2 o) i2 scr M nx ls r w := by
  rw [ev_eq hI]
  simp only [ai_step, ai_aj]
  generalize w.2.2 o = cell
  split
  · next n f =>
    by_cases h : i2 < 0 ∨ n ≤ i2.toNatClampNeg
    · simp only [if_pos h]; rfl
    · simp only [if_neg h]; rfl
  · next h1 =>
    split
    · next n f => exact (h1 n f rfl).elim
    · rfl
theorem ev_aald {o : Nat} {i2 : Int32} (hI : ai_find (ai_tab M) i = some (.aaload, nx, a, b, c, cv, tb)) : ai_ev scr M i ls (.int i2 :: .ref o :: r) w = ai_aq2 (w.2.2 o) i2 scr M nx ls r w := by
  rw [ev_eq hI]
  simp only [ai_step, ai_aq2]
  generalize w.2.2 o = cell
  split
  · next n f =>
    by_cases h : i2 < 0 ∨ n ≤ i2.toNatClampNeg
    · simp only [if_pos h]; rfl
    · simp only [if_neg h]; rfl
  · next h1 =>
    split
    · next n f => exact (h1 n f rfl).elim
    · rfl
theorem ev_iast {o : Nat} {i2 x : Int32} (hI : ai_find (ai_tab M) i = some (.iastore, nx, a, b, c, cv, tb)) : ai_ev scr M i ls (.int x :: .int i2 :: .ref o :: r) w = ai_si (w.2.2 o) 0 i2 x o scr M nx ls r w := by
  rw [ev_eq hI]
  simp only [ai_step, ai_si]
  generalize w.2.2 o = cell
  split
  · next n f =>
    by_cases h : i2 < 0 ∨ n ≤ i2.toNatClampNeg
    · simp only [if_pos h]; rfl
    · simp only [if_neg h]; rfl
  · next h1 =>
    split
    · next t n f =>
      by_cases ht : t = 0
      · subst ht; exact absurd rfl (h1 n f)
      · rw [if_neg ht]; rfl
    · rfl
theorem ev_bast {o : Nat} {i2 x : Int32} (hI : ai_find (ai_tab M) i = some (.bastore, nx, a, b, c, cv, tb)) : ai_ev scr M i ls (.int x :: .int i2 :: .ref o :: r) w = ai_si (w.2.2 o) 1 i2 (vp_nar .boolean x) o scr M nx ls r w := by
  rw [ev_eq hI]
  simp only [ai_step, ai_si]
  generalize w.2.2 o = cell
  split
  · next n f =>
    by_cases h : i2 < 0 ∨ n ≤ i2.toNatClampNeg
    · simp only [if_pos h]; rfl
    · simp only [if_neg h]; rfl
  · next h1 =>
    split
    · next t n f =>
      by_cases ht : t = 1
      · subst ht; exact absurd rfl (h1 n f)
      · rw [if_neg ht]; rfl
    · rfl
theorem ev_last {o : Nat} {i2 : Int32} {x : Int64} (hI : ai_find (ai_tab M) i = some (.lastore, nx, a, b, c, cv, tb)) : ai_ev scr M i ls (.long x :: .int i2 :: .ref o :: r) w = ai_sj (w.2.2 o) i2 x o scr M nx ls r w := by
  rw [ev_eq hI]
  simp only [ai_step, ai_sj]
  generalize w.2.2 o = cell
  split
  · next n f =>
    by_cases h : i2 < 0 ∨ n ≤ i2.toNatClampNeg
    · simp only [if_pos h]; rfl
    · simp only [if_neg h]; rfl
  · next h1 =>
    split
    · next n f => exact (h1 n f rfl).elim
    · rfl
theorem ev_scrl {o : Nat} {i2 : Int32} (hI : ai_find (ai_tab M) i = some (.iaload, nx, a, b, c, cv, tb)) : ai_ev scr M i ls (.int i2 :: .ref o :: r) w = ai_sc (w.2.2 o) i2 o scr M nx ls r w := by
  rw [ev_eq hI]
  simp only [ai_step, ai_sc]
  generalize w.2.2 o = cell
  split
  · next n f =>
    by_cases h : i2 < 0 ∨ n ≤ i2.toNatClampNeg
    · simp only [if_pos h]; rfl
    · simp only [if_neg h]; rfl
  · split
    · next n f =>
      by_cases h : i2 < 0 ∨ n ≤ i2.toNatClampNeg ∨ ¬ o = 0
      · simp only [if_pos h]; rfl
      · simp only [if_neg h]; rfl
    · rfl
  · next h1 h2 =>
    split
    · next n f => exact (h1 n f rfl).elim
    · exact (h2 rfl).elim
    · rfl
theorem ev_alen {o : Nat} (hI : ai_find (ai_tab M) i = some (.arraylength, nx, a, b, c, cv, tb)) : ai_ev scr M i ls (.ref o :: r) w = ai_al (w.2.2 o) o scr M nx ls r w := by
  rw [ev_eq hI]
  simp only [ai_step, ai_al]
  generalize w.2.2 o = cell
  split
  · next t n z =>
    by_cases h : t < 4
    · simp only [if_pos h]; rfl
    · simp only [if_neg h]; rfl
  · split
    · next n f =>
      by_cases h : o = 0
      · simp only [if_pos h]; rfl
      · simp only [if_neg h]; rfl
    · rfl
  · next h1 h2 =>
    split
    · next t n z => exact (h1 t n z rfl).elim
    · exact (h2 rfl).elim
    · rfl
theorem ev_aast {o x : Nat} {i2 : Int32} (hI : ai_find (ai_tab M) i = some (.aastore, nx, a, b, c, cv, tb)) : ai_ev scr M i ls (.ref x :: .int i2 :: .ref o :: r) w = ai_sq (w.2.2 o) (w.2.2 x) a i2 x o scr M nx ls r w := by
  rw [ev_eq hI]
  simp only [ai_step, ai_sq]
  generalize w.2.2 o = cell
  generalize w.2.2 x = ce
  split
  · next n f ci v vs =>
    by_cases h : i2 < 0 ∨ n ≤ i2.toNatClampNeg ∨ ¬ ci = a
    · simp only [if_pos h]; rfl
    · simp only [if_neg h]; rfl
  · next h1 =>
    split
    · next n f ci v vs => exact (h1 n f ci v vs rfl rfl).elim
    · rfl
theorem ev_newa0 {n : Int32} {q : ArrayType} (hI : ai_find (ai_tab M) i = some (.newarray q, nx, 0, b, c, cv, tb)) : ai_ev scr M i ls (.int n :: r) w = ai_na2 0 n scr M nx ls r w := by
  rw [ev_eq hI]
  simp only [ai_step, ai_na2]
  by_cases h : n < 0 ∨ 100000 < n.toNatClampNeg
  · simp only [if_pos h]; rfl
  · simp only [if_neg h]; rfl
theorem ev_newa1 {n : Int32} {q : ArrayType} (hI : ai_find (ai_tab M) i = some (.newarray q, nx, 1, b, c, cv, tb)) : ai_ev scr M i ls (.int n :: r) w = ai_na2 1 n scr M nx ls r w := by
  rw [ev_eq hI]
  simp only [ai_step, ai_na2]
  by_cases h : n < 0 ∨ 100000 < n.toNatClampNeg
  · simp only [if_pos h]; rfl
  · simp only [if_neg h]; rfl
theorem ev_newa2 {n : Int32} {q : ArrayType} (hI : ai_find (ai_tab M) i = some (.newarray q, nx, 2, b, c, cv, tb)) : ai_ev scr M i ls (.int n :: r) w = ai_na2 2 n scr M nx ls r w := by
  rw [ev_eq hI]
  simp only [ai_step, ai_na2]
  by_cases h : n < 0 ∨ 100000 < n.toNatClampNeg
  · simp only [if_pos h]; rfl
  · simp only [if_neg h]; rfl
theorem ev_newq {n : Int32} {q : Nat} (hI : ai_find (ai_tab M) i = some (.anewarray q, nx, a, b, c, cv, tb)) : ai_ev scr M i ls (.int n :: r) w = ai_na2 3 n scr M nx ls r w := by
  rw [ev_eq hI]
  simp only [ai_step, ai_na2]
  by_cases h : n < 0 ∨ 100000 < n.toNatClampNeg
  · simp only [if_pos h]; rfl
  · simp only [if_neg h]; rfl
theorem ev_irem {x y : Int32} (hI : ai_find (ai_tab M) i = some (.irem, nx, a, b, c, cv, tb)) (hy : ¬ y = 0) : ai_ev scr M i ls (.int y :: .int x :: r) w = ai_ev scr M nx ls (.int (x - x / y * y) :: r) w := ev_go hI (by simp only [ai_step, if_neg hy]; rfl)
theorem ev_ldiv {x y : Int64} (hI : ai_find (ai_tab M) i = some (.ldiv, nx, a, b, c, cv, tb)) (hy : ¬ y = 0) : ai_ev scr M i ls (.long y :: .long x :: r) w = ai_ev scr M nx ls (.long (x / y) :: r) w := ev_go hI (by simp only [ai_step, if_neg hy]; rfl)
theorem ev_lrem {x y : Int64} (hI : ai_find (ai_tab M) i = some (.lrem, nx, a, b, c, cv, tb)) (hy : ¬ y = 0) : ai_ev scr M i ls (.long y :: .long x :: r) w = ai_ev scr M nx ls (.long (x - x / y * y) :: r) w := ev_go hI (by simp only [ai_step, if_neg hy]; rfl)
theorem ev_zret {v : Int32} (hI : ai_find (ai_tab M) i = some (.ireturn, nx, 1, b, c, cv, tb)) (h : v = 0 ∨ v = 1) : ai_ev scr M i ls [.int v] w = some (some (.int v), w) := ev_ret hI (by simp only [ai_step, ai_fit]; rw [if_pos (decide_eq_true h)])
theorem ai_call_eq {as rest : List Value} (hst : st = as.reverse ++ rest) (hb : as.length = b) : ai_call a b nx st = if ai_csum rest ≤ 8 then some (.inr (.inr (a, as, rest, nx))) else none := by
  subst hst
  subst hb
  unfold ai_call
  have e1 : (as.reverse ++ rest).drop as.length = rest := by rw [List.drop_append_of_le_length (by simp), List.drop_of_length_le (by simp)]; simp
  have e2 : (as.reverse ++ rest).take as.length = as.reverse := by rw [List.take_append_of_le_length (by simp), List.take_of_length_le (by simp)]
  rw [e1, e2, List.reverse_reverse]
  by_cases h : ai_csum rest ≤ 8
  · rw [if_pos h, if_pos ⟨by simp, h⟩]
  · rw [if_neg h, if_neg (fun z => h z.2)]
theorem ev_cst {q : Nat} (as rest : List Value) {L : ai_L} (hI : ai_find (ai_tab M) i = some (.invokestatic q, nx, a, b, 0, cv, tb)) (hst : st = as.reverse ++ rest) (hb : as.length = b) (hm : (ai_sl as).length ≤ ai_mx a) (hL : ai_in (ai_mx a) as = L) (h : ai_csum rest ≤ 8) : ai_ev scr M i ls st w = ai_th (ai_ev none a 0 L [] w) scr M nx ls rest := by
  subst hL
  exact ev_cal hI (by simp only [ai_step, ai_inv]; rw [ai_call_eq hst hb, if_pos h]) hm
theorem ev_cvi {q o cl : Nat} (as rest : List Value) {L : ai_L} (hI : ai_find (ai_tab M) i = some (.invokevirtual q, nx, a, b, 1, .ref cl, tb)) (hst : st = as.reverse ++ .ref o :: rest) (hb : as.length + 1 = b) (hm : (ai_sl (.ref o :: as)).length ≤ ai_mx a) (hL : ai_in (ai_mx a) (.ref o :: as) = L) (h : ai_csum rest ≤ 8) : ai_ev scr M i ls st w = ai_rc (w.2.2 o) cl (ai_th (ai_ev none a 0 L [] w) scr M nx ls rest) := by
  subst hL
  have hd : st.drop (b - 1) = .ref o :: rest := by subst hst; subst hb; simp
  have hc : ai_call a b nx st = some (.inr (.inr (a, .ref o :: as, rest, nx))) := by rw [ai_call_eq (as := .ref o :: as) (rest := rest) (by rw [hst]; simp) (by simp [hb]), if_pos h]
  cases ho : w.2.2 o with
  | inl x =>
    rw [ev_eq hI]
    simp only [ai_step, ai_inv, hd, ho, ai_rc]
    rfl
  | inr q2 =>
    obtain ⟨ci, fs⟩ := q2
    cases fs with
    | nil =>
      rw [ev_eq hI]
      simp only [ai_step, ai_inv, hd, ho, ai_rc]
      rfl
    | cons v vs =>
      by_cases h1 : ci = cl
      · subst h1
        simp only [ai_rc, if_true]
        exact ev_cal hI (by simp only [ai_step, ai_inv, hd, ho, if_true]; rw [hc]) hm
      · simp only [ai_rc, if_neg h1]
        rw [ev_eq hI]
        simp only [ai_step, ai_inv, hd, ho, if_neg h1]
        rfl
theorem ev_csp {q o : Nat} (as rest : List Value) {L : ai_L} (hI : ai_find (ai_tab M) i = some (.invokespecial q, nx, a, b, 2, cv, tb)) (hst : st = as.reverse ++ .ref o :: rest) (hb : as.length + 1 = b) (hm : (ai_sl (.ref o :: as)).length ≤ ai_mx a) (hL : ai_in (ai_mx a) (.ref o :: as) = L) (h : ai_csum rest ≤ 8) : ai_ev scr M i ls st w = ai_th (ai_ev none a 0 L [] w) scr M nx ls rest := by
  subst hL
  have hd : st.drop (b - 1) = .ref o :: rest := by subst hst; subst hb; simp
  have hc : ai_call a b nx st = some (.inr (.inr (a, .ref o :: as, rest, nx))) := by rw [ai_call_eq (as := .ref o :: as) (rest := rest) (by rw [hst]; simp) (by simp [hb]), if_pos h]
  exact ev_cal hI (by simp only [ai_step, ai_inv, hd]; rw [hc]) hm
theorem ev_obj {q o : Nat} (hI : ai_find (ai_tab M) i = some (.invokespecial q, nx, a, b, 3, cv, tb)) (h : ai_csum r ≤ 8) : ai_ev scr M i ls (.ref o :: r) w = ai_ev scr M nx ls r w := ev_go hI (by simp only [ai_step, ai_inv]; rw [if_pos h]; rfl)
theorem ev_max {q : Nat} {x y : Int32} (hI : ai_find (ai_tab M) i = some (.invokestatic q, nx, a, b, 4, cv, tb)) (h : ai_csum r ≤ 8) : ai_ev scr M i ls (.int y :: .int x :: r) w = ai_ev scr M nx ls (.int (if x < y then y else x) :: r) w := ev_go hI (by simp only [ai_step, ai_inv]; rw [if_pos h]; rfl)
theorem ev_copy {q d s0 : Nat} {sp dp n : Int32} (hI : ai_find (ai_tab M) i = some (.invokestatic q, nx, a, b, 5, cv, tb)) (h8 : ai_csum r ≤ 8) : ai_ev scr M i ls (.int n :: .int dp :: .ref d :: .int sp :: .ref s0 :: r) w = ai_cy (w.2.2 s0) (w.2.2 d) sp dp n d scr M nx ls r w := by
  rw [ev_eq hI]
  simp only [ai_step, ai_inv, ai_cy]
  generalize w.2.2 s0 = c0
  generalize w.2.2 d = c1
  split
  · next n0 f n1 g =>
    by_cases h : ¬ sp < 0 ∧ ¬ dp < 0 ∧ ¬ n < 0 ∧ sp.toNatClampNeg + n.toNatClampNeg ≤ n0 ∧ dp.toNatClampNeg + n.toNatClampNeg ≤ n1
    · have h' : ai_csum r ≤ 8 ∧ ¬ sp < 0 ∧ ¬ dp < 0 ∧ ¬ n < 0 ∧ sp.toNatClampNeg + n.toNatClampNeg ≤ n0 ∧ dp.toNatClampNeg + n.toNatClampNeg ≤ n1 := ⟨h8, h⟩
      simp only [if_pos h, if_pos h']
      rfl
    · have h' : ¬ (ai_csum r ≤ 8 ∧ ¬ sp < 0 ∧ ¬ dp < 0 ∧ ¬ n < 0 ∧ sp.toNatClampNeg + n.toNatClampNeg ≤ n0 ∧ dp.toNatClampNeg + n.toNatClampNeg ≤ n1) := fun z => h z.2
      simp only [if_neg h, if_neg h']
      rfl
  · next h1 =>
    split
    · next n0 f n1 g => exact (h1 n0 f n1 g rfl rfl).elim
    · rfl
end EV
theorem ai_put_eq {w : ai_W} {a : Nat} {e : va_E} : (ai_put w a e).2.2 a = e := by simp [ai_put]
theorem ai_put_ne {w : ai_W} {a b : Nat} {e : va_E} (h : ¬ b = a) : (ai_put w a e).2.2 b = w.2.2 b := by simp [ai_put, h]
section AT
variable {scr : ai_S} {M nx : Nat} {ls : ai_L} {r : List Value} {w : ai_W}
theorem ai_ai_at {t n j : Nat} {f : Nat → Int32} (hj : j < n) (hn : n < 2 ^ 31) : ai_ai (.inl (t, n, .inl f)) t (nI j) scr M nx ls r w = ai_ev scr M nx ls (.int (f j) :: r) w := by
  have e : (nI j).toNatClampNeg = j := nI_clamp (by omega)
  unfold ai_ai
  simp only [if_true, e]
  rw [if_neg (by rintro (h | h); exact nI_pos (by omega) h; omega)]
theorem ai_aj_at {n j : Nat} {f : Nat → Int64} (hj : j < n) (hn : n < 2 ^ 31) : ai_aj (.inl (2, n, .inr (.inl f))) (nI j) scr M nx ls r w = ai_ev scr M nx ls (.long (f j) :: r) w := by
  have e : (nI j).toNatClampNeg = j := nI_clamp (by omega)
  unfold ai_aj
  simp only [e]
  rw [if_neg (by rintro (h | h); exact nI_pos (by omega) h; omega)]
theorem ai_aq_at {n j : Nat} {f : Nat → Option Nat} (hj : j < n) (hn : n < 2 ^ 31) : ai_aq2 (.inl (3, n, .inr (.inr (.inr (.inr f))))) (nI j) scr M nx ls r w = ai_ev scr M nx ls (va_rf (f j) :: r) w := by
  have e : (nI j).toNatClampNeg = j := nI_clamp (by omega)
  unfold ai_aq2
  simp only [e]
  rw [if_neg (by rintro (h | h); exact nI_pos (by omega) h; omega)]
theorem ai_si_at {t n j o : Nat} {x : Int32} {f : Nat → Int32} (hj : j < n) (hn : n < 2 ^ 31) : ai_si (.inl (t, n, .inl f)) t (nI j) x o scr M nx ls r w = ai_ev scr M nx ls r (ai_put w o (.inl (t, n, .inl (upd f j x)))) := by
  have e : (nI j).toNatClampNeg = j := nI_clamp (by omega)
  unfold ai_si
  simp only [if_true, e]
  rw [if_neg (by rintro (h | h); exact nI_pos (by omega) h; omega)]
theorem ai_sj_at {n j o : Nat} {x : Int64} {f : Nat → Int64} (hj : j < n) (hn : n < 2 ^ 31) : ai_sj (.inl (2, n, .inr (.inl f))) (nI j) x o scr M nx ls r w = ai_ev scr M nx ls r (ai_put w o (.inl (2, n, .inr (.inl (vp_updL f j x))))) := by
  have e : (nI j).toNatClampNeg = j := nI_clamp (by omega)
  unfold ai_sj
  simp only [e]
  rw [if_neg (by rintro (h | h); exact nI_pos (by omega) h; omega)]
theorem ai_sq_at {n j o x a : Nat} {v : Value} {vs : List Value} {f : Nat → Option Nat} (hj : j < n) (hn : n < 2 ^ 31) : ai_sq (.inl (3, n, .inr (.inr (.inr (.inr f))))) (.inr (a, v :: vs)) a (nI j) x o scr M nx ls r w = ai_ev scr M nx ls r (ai_put w o (.inl (3, n, .inr (.inr (.inr (.inr (va_up f j (some x)))))))) := by
  have e : (nI j).toNatClampNeg = j := nI_clamp (by omega)
  unfold ai_sq
  simp only [e]
  rw [if_neg (by rintro (h | h | h); exact nI_pos (by omega) h; omega; exact h trivial)]
theorem ai_cy_at {n0 n1 sp dp n d : Nat} {f g : Nat → Int32} (h1 : sp + n ≤ n0) (h2 : dp + n ≤ n1) (h3 : n0 < 2 ^ 31) (h4 : n1 < 2 ^ 31) : ai_cy (.inl (0, n0, .inl f)) (.inl (0, n1, .inl g)) (nI sp) (nI dp) (nI n) d scr M nx ls r w = ai_ev scr M nx ls r (ai_put w d (.inl (0, n1, .inl (va_cpy f g sp dp n)))) := by
  have e1 : (nI sp).toNatClampNeg = sp := nI_clamp (by omega)
  have e2 : (nI dp).toNatClampNeg = dp := nI_clamp (by omega)
  have e3 : (nI n).toNatClampNeg = n := nI_clamp (by omega)
  unfold ai_cy
  simp only [e1, e2, e3]
  rw [if_pos ⟨nI_pos (by omega), nI_pos (by omega), nI_pos (by omega), h1, h2⟩]
theorem ai_al_at {o t n : Nat} {z : (Nat → Int32) ⊕ (Nat → Int64) ⊕ (Nat → UInt32) ⊕ (Nat → UInt64) ⊕ (Nat → Option Nat)} (h : t < 4) : ai_al (.inl (t, n, z)) o scr M nx ls r w = ai_ev scr M nx ls (.int (nI n) :: r) w := if_pos h
theorem ai_al_s {n : Nat} {f : Nat → Int32} : ai_al (.inr (0, [])) 0 (some (n, f)) M nx ls r w = ai_ev (some (n, f)) M nx ls (.int (nI n) :: r) w := rfl
theorem ai_sc_at {n j : Nat} {f : Nat → Int32} (hj : j < n) (hn : n < 2 ^ 31) : ai_sc (.inr (0, [])) (nI j) 0 (some (n, f)) M nx ls r w = ai_ev (some (n, f)) M nx ls (.int (f j) :: r) w := by
  have e : (nI j).toNatClampNeg = j := nI_clamp (by omega)
  unfold ai_sc
  simp only [e]
  rw [if_neg (by rintro (h | h | h); exact nI_pos (by omega) h; omega; exact h trivial)]
theorem ai_na_0 {n : Nat} (hn : n ≤ 100000) : ai_na2 0 (nI n) scr M nx ls r w = ai_ev scr M nx ls (.ref (w.1 + 1) :: r) (ai_add w n (.inl (0, n, .inl (fun _ => 0)))) := by
  unfold ai_na2
  simp only [nI_clamp (show n < 2 ^ 31 by omega)]
  rw [if_neg (by rintro (h | h); exact nI_pos (show n < 2 ^ 31 by omega) h; omega)]
theorem ai_na_1 {n : Nat} (hn : n ≤ 100000) : ai_na2 1 (nI n) scr M nx ls r w = ai_ev scr M nx ls (.ref (w.1 + 1) :: r) (ai_add w n (.inl (1, n, .inl (fun _ => 0)))) := by
  unfold ai_na2
  simp only [nI_clamp (show n < 2 ^ 31 by omega)]
  rw [if_neg (by rintro (h | h); exact nI_pos (show n < 2 ^ 31 by omega) h; omega)]
theorem ai_na_2 {n : Nat} (hn : n ≤ 100000) : ai_na2 2 (nI n) scr M nx ls r w = ai_ev scr M nx ls (.ref (w.1 + 1) :: r) (ai_add w n (.inl (2, n, .inr (.inl (fun _ => 0))))) := by
  unfold ai_na2
  simp only [nI_clamp (show n < 2 ^ 31 by omega)]
  rw [if_neg (by rintro (h | h); exact nI_pos (show n < 2 ^ 31 by omega) h; omega)]
theorem ai_na_3 {n : Nat} (hn : n ≤ 100000) : ai_na2 3 (nI n) scr M nx ls r w = ai_ev scr M nx ls (.ref (w.1 + 1) :: r) (ai_add w n (.inl (3, n, .inr (.inr (.inr (.inr (fun _ => none))))))) := by
  unfold ai_na2
  simp only [nI_clamp (show n < 2 ^ 31 by omega)]
  rw [if_neg (by rintro (h | h); exact nI_pos (show n < 2 ^ 31 by omega) h; omega)]
theorem ai_rc_at {cl : Nat} {v : Value} {vs : List Value} {k : Option (Option Value × ai_W)} : ai_rc (.inr (cl, v :: vs)) cl k = k := if_pos rfl
end AT
