theorem ai_prim {s : State} {args : Array Value} {ty : FieldType} (h : (Cond.arrayClass ty).before args s = true) (hq : ∀ C, ty ≠ .object C) : ∃ cA, ArrOfT s cA ty ∧ va_RA s cA ty := by
  obtain ⟨cA, k, comp, h1, h2, h3⟩ := Cond.arrayClass_spec h
  refine ⟨cA, fun n z => ⟨fun k h => (by cases h), k, h2, comp, h3⟩, ?_⟩
  cases ty with
  | object C => exact absurd rfl (hq C)
  | _ => exact h1
theorem ai_K0 {s : State} {args : Array Value} (hts : ∀ x ∈ ai_wd, x.before args s = true) (hao : va_AO ai_RG s) : ∃ (D : va_G) (cT : Nat → Nat), va_K D ai_cl (ai_ty cT) s := by
  have hc : ∀ ci, ∃ q : ClassId × (Nat → Nat), ci < ai_cl.length → u_Kn s (ai_cn ci) (ai_Tf ci) (ai_nf ci) q.1 q.2 := by
    intro ci
    by_cases h : ci < ai_cl.length
    · obtain ⟨c1, c2, c3, c4, c5, c6⟩ := ai_ci_ok ci h
      obtain ⟨cC, iS, hk⟩ := u_known hts c2 (hts _ c5)
      exact ⟨(cC, iS), fun _ => hk⟩
    · exact ⟨(0, fun _ => 0), fun z => absurd z h⟩
  obtain ⟨ca, ha1, ha2⟩ := ai_prim (hts _ ai_w_ai) (fun C h => by cases h)
  obtain ⟨cz, hz1, hz2⟩ := ai_prim (hts _ ai_w_az) (fun C h => by cases h)
  obtain ⟨cj, hj1, hj2⟩ := ai_prim (hts _ ai_w_aj) (fun C h => by cases h)
  obtain ⟨comp, cg, kg, g1, -, g3, g4, g5⟩ := Cond.arrayOver_spec hao
  refine ⟨(fun ci => (Classical.choose (hc ci)).1, fun ci => (Classical.choose (hc ci)).2), fun t => match t with | 0 => ca | 1 => cz | 2 => cj | _ => cg, ?_, ?_⟩
  · intro ci q hq
    have hl : ci < ai_cl.length := (List.getElem?_eq_some_iff.mp hq).1
    have e := (ai_ci_ok ci hl).1
    rw [hq] at e
    cases e
    exact Classical.choose_spec (hc ci) hl
  · intro k q hq
    match k, hq with
    | 0, hq => cases hq; exact ⟨ha1, ha2⟩
    | 1, hq => cases hq; exact ⟨hz1, hz2⟩
    | 2, hq => cases hq; exact ⟨hj1, hj2⟩
    | 3, hq => cases hq; exact ⟨fun n z => ⟨fun k h => (by cases h), kg, g3, comp, g4⟩, kg, comp, g3, g4, g1, g5⟩
    | n + 4, hq => cases hq
theorem ai_begin {p : Program} {e : Env} {s : State} {m : MethodId} {below : List Frame} {meth : Method} {c : Code} (l : Launch) {b L : Nat} {xs : Nat → Int32} (C0 : lw_At p s m meth c b L xs) {wf : ai_W} (hrun : ai_ev (some (L, xs)) mGraphDeltasLaw_law 0 (ai_in (ai_mx mGraphDeltasLaw_law) [.ref 0]) [] ai_w0 = some (some (.int 1), wf)) (hw : wf.1 ≤ 600000 ∧ wf.2.1 ≤ 7302250) : W p l e room_1 s m #[Value.ref b] below meth c s.heap [] 0 0 (lw_Z below #[Value.ref b] s) (entryFrame m ([Value.ref b] : List Value).toArray 4) := by
  obtain ⟨hx, hb, hr, hml, hown, hts0, hX, hbl, hlocks, hgv⟩ := C0
  obtain ⟨n, hn⟩ := ai_ev_some.mp hrun
  have hts : ∀ x ∈ ai_wd, x.before #[Value.ref b] s = true := fun x h => hts0 x (List.mem_filter.mp h).1
  have hao : va_AO ai_RG s := va_AO.of (hts0 (.arrayOver (.object ai_RG)) (List.mem_of_getElem? (i := 109) (by decide +kernel)))
  have hne : ∀ q ∈ ai_ne, va_Nw (.methodLinkNest q.1 q.2.1 q.2.2.1 q.2.2.2) s := by
    have h : (ai_ne.all fun q => decide (Cond.methodLinkNest q.1 q.2.1 q.2.2.1 q.2.2.2 ∈ lw_tbl)) = true := by decide +kernel
    intro q hq
    exact va_Nw.of rfl (hts0 _ (of_decide_eq_true (List.all_eq_true.mp h q hq)))
  obtain ⟨D, cT, hK⟩ := ai_K0 hts hao
  have had : ∀ k, (fun k => if k = 0 then b else s.heap.size + (k - 1)) (k + 1) = s.heap.size + k := fun k => by simp
  have hl := lv_entry ([Value.ref b] : List Value) (n := 4) (show (1 : Nat) ≤ 4 by decide)
  rw [lg_entry_eq]
  have hl3 : lv_has ((lg_sl ([Value.ref b] : List Value) ++ List.replicate (4 - (lg_sl ([Value.ref b] : List Value)).length) Slot.unset).toArray) (ai_mx mGraphDeltasLaw_law) (ai_as (fun k => if k = 0 then b else s.heap.size + (k - 1)) 0 (ai_in (ai_mx mGraphDeltasLaw_law) [.ref 0])) := ⟨hl.1, hl.2.1, fun q hq => hl.2.2 q (ai_entry _ _ [.ref 0] 0 q hq)⟩
  refine ai_Wrun ai_facts l n (M := mGraphDeltasLaw_law) (scr := some (L, xs)) (D := D) (cT := cT) (ad := fun k => if k = 0 then b else s.heap.size + (k - 1)) (A := fun q => s.heap.size ≤ q) (w0 := ai_w0) (w := ai_w0) (base := s.heap.size) (st := [])
    ⟨⟨hx, hb, hml, hown, hts, (fun h => absurd h (by decide +kernel)), by decide +kernel, by decide +kernel⟩, hK, fun q h => h, fun q h => h, rfl, had, ?_, hao, hne⟩ hn ⟨?_, ?_, va_S.rf, fun _ _ => rfl, rfl, rfl⟩ hl3 rfl ⟨Nat.le_trans hw.1 (Nat.le_of_ble_eq_true rfl), Nat.le_trans hw.2 (Nat.le_of_ble_eq_true rfl)⟩ ?_
  · intro n f h
    cases h
    exact ⟨hX, hbl, Nat.not_le.mpr hbl⟩
  · intro k q hq
    simp [ai_cw, ai_w0] at hq
  · exact ⟨fun i j p q hp => by simp [ai_cw, ai_w0] at hp, fun k q hq => by simp [ai_cw, ai_w0] at hq⟩
  · intro pc I ls st H locs cells slots lsC hI hs hR
    have hF := ai_facts _ pc I hI
    obtain ⟨hP, hD, hS, hok, hc1, hc2⟩ := hR
    refine va_forget (fun q hq => hS.2.2 q hq) ?_
    refine W.widen (k := 600000) (n := 7302250) (by have := hw.1; simp [ai_w0] at hc1; omega) (by have := hw.2; simp [ai_w0] at hc2; omega) ?_
    obtain ⟨ins, nx, a, b', c', cv, tb⟩ := I
    cases ins
    all_goals try (exfalso; revert hs; show (none : Option ai_R) = some _ → False; intro h; cases h; done)
    all_goals try (exfalso; simp only [ai_step, ai_go, ai_inv, ai_call] at hs; (repeat' split at hs) <;> cases hs; done)
    case ireturn =>
      obtain ⟨hd, -, hq⟩ := hF
      simp only [ai_step] at hs
      split at hs
      · split at hs
        · cases hs
          exact lw_ret hx hb hr hlocks hd
        · cases hs
      · cases hs
