theorem ai_put_cls {w : ai_W} {o k ci : Nat} {e : va_E} (hc : ∃ v vs, w.2.2 k = .inr (ci, v :: vs)) (he : ∀ ci' v vs, w.2.2 o = .inr (ci', v :: vs) → ∃ v' vs', e = .inr (ci', v' :: vs')) : ∃ v vs, (ai_put w o e).2.2 k = .inr (ci, v :: vs) := by
  obtain ⟨v, vs, h⟩ := hc
  by_cases hk : k = o
  · subst hk
    obtain ⟨v', vs', h2⟩ := he ci v vs h
    exact ⟨v', vs', ai_put_eq.trans h2⟩
  · exact ⟨v, vs, (ai_put_ne hk).trans h⟩
theorem set_cons {v x : Value} {vs : List Value} : ∀ b, ∃ v' vs', (v :: vs).set b x = v' :: vs'
  | 0 => ⟨x, vs, rfl⟩
  | b + 1 => ⟨v, vs.set b x, rfl⟩
theorem ai_step_cls {scr : ai_S} {I : ai_I} {ls ls' : ai_L} {st st' : List Value} {w w' : ai_W} {pc' k ci : Nat} (hs : ai_step scr I ls st w = some (.inl (pc', ls', st', w'))) (hk : k ≤ w.1) (hc : ∃ v vs, w.2.2 k = .inr (ci, v :: vs)) : ∃ v vs, w'.2.2 k = .inr (ci, v :: vs) := by
  obtain ⟨ins, nx, a, b, c', cv, tb⟩ := I
  cases ins
  all_goals try (exfalso; revert hs; show (none : Option ai_R) = some _ → False; intro h; cases h; done)
  all_goals simp only [ai_step, ai_go, ai_inv] at hs
  all_goals (repeat' split at hs)
  all_goals try (cases hs; done)
  all_goals try (exact absurd hs ai_call_ne)
  all_goals try (cases hs; exact hc)
  all_goals try (cases hs; obtain ⟨v, vs, h⟩ := hc; exact ⟨v, vs, (if_neg (by omega)).trans h⟩)
  all_goals (cases hs; exact ai_put_cls hc (fun ci' v vs h => by first | (simp_all; done) | (simp_all; rename_i hq hq2; rw [← hq.2]; exact set_cons _)))
theorem ai_run_cls : ∀ (n : Nat) {scr : ai_S} {M pc : Nat} {ls : ai_L} {st : List Value} {w wf : ai_W} {r : Option Value} {k ci : Nat}, ai_run n scr M pc ls st w = some (r, wf) → ai_ok w → k ≤ w.1 → (∃ v vs, w.2.2 k = .inr (ci, v :: vs)) → ∃ v vs, wf.2.2 k = .inr (ci, v :: vs)
  | 0, _, _, _, _, _, _, _, _, _, _, h, _, _, _ => by cases h
  | n + 1, scr, M, pc, ls, st, w, wf, r, k, ci, h, hok, hk, hc => by
    have h : ai_next (ai_run n) scr M pc ls st w = some (r, wf) := h
    unfold ai_next at h
    split at h
    · cases h
    · next I hI =>
      cases hs : ai_step scr I ls st w with
      | none => rw [hs] at h; cases h
      | some z =>
        rw [hs] at h
        rcases z with q | r' | q
        · obtain ⟨pc', ls', st', w'⟩ := q
          obtain ⟨h1, h2, h3⟩ := ai_step_ok hs hok
          exact ai_run_cls n (show ai_run n scr M pc' ls' st' w' = some (r, wf) from h) h1 (by omega) (ai_step_cls hs hk hc)
        · cases h
          exact hc
        · simp only [ai_nx] at h
          split at h
          · obtain ⟨⟨r1, w1⟩, a1, a2⟩ := Option.bind_eq_some_iff.mp h
            obtain ⟨hok1, q2, q3⟩ := ai_run_ok n a1 hok
            have q2 : w.1 ≤ w1.1 := q2
            exact ai_run_cls n a2 hok1 (show k ≤ w1.1 by omega) (ai_run_cls n a1 hok hk hc)
          · cases h
theorem ai_ev_keep {scr : ai_S} {M pc : Nat} {ls : ai_L} {st : List Value} {w wf : ai_W} {r : Option Value} (h : ai_ev scr M pc ls st w = some (r, wf)) (hok : ai_ok w) : ai_ok wf ∧ w.1 ≤ wf.1 ∧ ∀ k ci, k ≤ w.1 → (∃ v vs, w.2.2 k = .inr (ci, v :: vs)) → ∃ v vs, wf.2.2 k = .inr (ci, v :: vs) := by
  obtain ⟨n, hn⟩ := ai_ev_some.mp h
  obtain ⟨h1, h2, _⟩ := ai_run_ok n hn hok
  exact ⟨h1, h2, fun k ci hk hc => ai_run_cls n hn hok hk hc⟩
