theorem ai_step_ok {scr : ai_S} {I : ai_I} {ls ls' : ai_L} {st st' : List Value} {w w' : ai_W} {pc' : Nat} (hs : ai_step scr I ls st w = some (.inl (pc', ls', st', w'))) (hok : ai_ok w) : ai_ok w' ∧ w.1 ≤ w'.1 ∧ w.2.1 ≤ w'.2.1 := by
  obtain ⟨ins, nx, a, b, c', cv, tb⟩ := I
  cases ins
  all_goals try (exfalso; revert hs; show (none : Option ai_R) = some _ → False; intro h; cases h; done)
  all_goals simp only [ai_step, ai_go, ai_inv] at hs
  all_goals (repeat' split at hs)
  all_goals try (cases hs; done)
  all_goals try (exact absurd hs ai_call_ne)
  all_goals try (cases hs; exact ⟨hok, Nat.le_refl _, Nat.le_refl _⟩)
  all_goals try (cases hs; exact ⟨ai_ok_add hok, Nat.le_succ _, Nat.le_add_right _ _⟩)
  all_goals (cases hs; refine ⟨ai_ok_put hok (by intro z; first | (simp_all; done) | (simp_all; omega)), Nat.le_refl _, Nat.le_refl _⟩)
theorem ai_run_ok : ∀ (n : Nat) {scr : ai_S} {M pc : Nat} {ls : ai_L} {st : List Value} {w wf : ai_W} {r : Option Value}, ai_run n scr M pc ls st w = some (r, wf) → ai_ok w → ai_ok wf ∧ w.1 ≤ wf.1 ∧ w.2.1 ≤ wf.2.1
  | 0, _, _, _, _, _, _, _, _, h, _ => by cases h
  | n + 1, scr, M, pc, ls, st, w, wf, r, h, hok => by
    have h : ai_next (ai_run n) scr M pc ls st w = some (r, wf) := h
    unfold ai_next at h
    split at h
    · cases h
    · next I hI =>
      cases hs : ai_step scr I ls st w with
      | none => rw [hs] at h; cases h
      | some z =>
        rw [hs] at h
        rcases z with q | r' | q
        · obtain ⟨pc', ls', st', w'⟩ := q
          obtain ⟨h1, h2, h3⟩ := ai_step_ok hs hok
          obtain ⟨g1, g2, g3⟩ := ai_run_ok n (show ai_run n scr M pc' ls' st' w' = some (r, wf) from h) h1
          exact ⟨g1, Nat.le_trans h2 g2, Nat.le_trans h3 g3⟩
        · cases h
          exact ⟨hok, Nat.le_refl _, Nat.le_refl _⟩
        · obtain ⟨M', as, rest, nx⟩ := q
          simp only [ai_nx] at h
          split at h
          · obtain ⟨⟨r1, w1⟩, a1, a2⟩ := Option.bind_eq_some_iff.mp h
            obtain ⟨h1, h2, h3⟩ := ai_run_ok n a1 hok
            obtain ⟨g1, g2, g3⟩ := ai_run_ok n a2 h1
            exact ⟨g1, Nat.le_trans h2 g2, Nat.le_trans h3 g3⟩
          · cases h
def ai_Pc (D : va_G) (cT ad : Nat → Nat) (base : Nat) (as : List Value) (w : ai_W) : Array Value → State → Prop := va_Pc (as.map (ai_cv ad)) (fun U => U.heap.size = base + w.1 ∧ va_P D ai_cl (ai_cw ad cT w) U.heap ∧ va_K D ai_cl (ai_ty cT) U ∧ va_D (fun _ => True) (ai_cw ad cT w) ∧ ai_Nx U)
def ai_Qc (D : va_G) (cT ad : Nat → Nat) (base : Nat) (w : ai_W) (r : Option Value) (wf : ai_W) : Array Value → State → Outcome → State → Prop := fun _ st oc t => (oc = .returned (r.map (ai_cv ad)) ∧ va_P D ai_cl (ai_cw ad cT wf) t.heap ∧ va_K D ai_cl (ai_ty cT) t ∧ va_D (va_A (ai_cw ad cT w) (base + w.1)) (ai_cw ad cT wf)) ∧ va_F (va_A (ai_cw ad cT w) (base + w.1)) st t
theorem ai_sl_len (ad : Nat → Nat) : ∀ as : List Value, (lg_sl (as.map (ai_cv ad))).length = (ai_sl as).length
  | [] => rfl
  | v :: r => by
    have ih := ai_sl_len ad r
    by_cases h : v.category = 2
    · simp [lg_sl, ai_sl, ai_cv_cat, h] at ih ⊢
      omega
    · simp [lg_sl, ai_sl, ai_cv_cat, h] at ih ⊢
      omega
theorem ai_entry (ad : Nat → Nat) (n : Nat) : ∀ (as : List Value) (i : Nat) (q : Nat × Value), q ∈ ai_as ad i (ai_sl as ++ List.replicate n none) → q ∈ lv_args i (as.map (ai_cv ad))
  | [], i, q, h => by
    obtain ⟨j, v, -, h2⟩ := (ai_as_mem ad _ i q).mp h
    simp [ai_sl, List.getElem?_replicate] at h2
  | v :: r, i, q, h => by
    by_cases hc : v.category = 2
    · simp only [ai_sl, hc, if_true, List.cons_append, ai_as, List.mem_cons] at h
      simp only [List.map_cons, lv_args, ai_cv_cat, hc, if_true, List.mem_cons]
      rcases h with h | h
      · exact Or.inl h
      · exact Or.inr (ai_entry ad n r (i + 2) q h)
    · simp only [ai_sl, hc, if_false, List.cons_append, ai_as, List.mem_cons] at h
      simp only [List.map_cons, lv_args, ai_cv_cat, hc, if_false, List.mem_cons]
      rcases h with h | h
      · exact Or.inl h
      · exact Or.inr (ai_entry ad n r (i + 1) q h)
theorem ai_call_spec {a b nx nx' M' : Nat} {st as rest : List Value} (h : ai_call a b nx st = some (.inr (.inr (M', as, rest, nx')))) : M' = a ∧ nx' = nx ∧ st = as.reverse ++ rest ∧ as.length = b ∧ ai_csum rest ≤ 8 := by
  unfold ai_call at h
  split at h
  · next hb =>
    cases h
    exact ⟨rfl, rfl, by simp, by rw [List.length_reverse, List.length_take]; exact Nat.min_eq_left hb.1, hb.2⟩
  · cases h
theorem ai_recv {n o : Nat} {st as rest t : List Value} (hst : st = as.reverse ++ rest) (hn : as.length = n + 1) (hd : st.drop n = .ref o :: t) : ∃ as', as = .ref o :: as' ∧ as'.length = n ∧ st = as'.reverse ++ .ref o :: rest := by
  cases as with
  | nil => simp at hn
  | cons v as' =>
    have hn' : as'.length = n := by simpa using hn
    have e1 : st = as'.reverse ++ v :: rest := by rw [hst]; simp
    have e2 : st.drop n = v :: rest := by rw [e1, ← hn']; simp
    rw [e2] at hd
    cases hd
    exact ⟨as', rfl, hn', e1⟩
section AIT
variable {p : Program} {l : Launch} {e : Env} {R : Room} {s : State} {m : MethodId} {args : Array Value} {below : List Frame} {meth : Method} {c : Code} {H : Heap} {locs : List Loc} {cells slots : Nat} {Q : State → Prop}
theorem ai_callk {D : va_G} {cT ad : Nat → Nat} {A : Nat → Prop} {w0 w w1 : ai_W} {base : Nat} {r1 : Option Value} {pc mc ms : Nat} {lsC : Array Slot} {rest st0 : List Value} {a : Array Value} {M : Nat} {scr : ai_S}
    (E : ai_Env M scr D cT ad A w0 base p R s m args meth c) (hR : ai_Rel D cT ad A w0 w s H locs cells slots) (hz : H.size = base + w.1) (hok1 : ai_ok w1) (hm1 : w1.1 = w.1 + mc) (hm2 : w1.2.1 = w.2.1 + ms)
    (hr : va_Run p l e R s m args below meth c H locs cells slots mc ms (F0 m pc lsC st0) rest (ai_Qc D cT ad base w r1 w1 a) (va_A (ai_cw ad cT w) (base + w.1)))
    (kk : ∀ (H1 : Heap) (locs1 : List Loc), ai_Rel D cT ad A w0 w1 s H1 locs1 (cells + mc) (slots + ms) → W p l e R s m args below meth c H1 locs1 (cells + mc) (slots + ms) Q (F0 m (pc + 3) lsC ((r1.map (ai_cv ad)).toList ++ rest))) : W p l e R s m args below meth c H locs cells slots Q (F0 m pc lsC st0) := by
  obtain ⟨-, hK, hA, hAl, hsz, had, -, -⟩ := E
  obtain ⟨hP, hD, hS, hok, hc1, hc2⟩ := hR
  have hAA : ∀ q, va_A (ai_cw ad cT w) (base + w.1) q → A q := by
    intro q hq
    rcases hq with ⟨k, x, hx⟩ | hq
    · exact hD.2 k _ hx
    · exact hA q (by omega)
  intro T hT X
  obtain ⟨v, st₀, t, T', L, h0, X', hL, e1, e2, ⟨⟨hv, hP1, hK1, hD1⟩, hz1, hk1⟩, st⟩ := hr T hT X
  cases hv
  rw [h0] at hz1 hk1
  have hH1 : T'.heap = t.heap := e1
  obtain ⟨t2, a1, b1⟩ := kk T'.heap (locs ++ L) ⟨by rw [e1]; exact hP1, hD1.weaken (fun k q _ h => hAA q.1 h), ⟨Nat.le_trans hS.1 (by rw [e1]; exact hz1), fun q g1 g2 => by rw [e1, hk1 q (Nat.lt_of_lt_of_le g1 hS.1) (fun z => g2 (hAA q z))]; exact hS.2.1 q g1 g2, fun q hq => by
      rcases List.mem_append.mp hq with h | h
      · exact hS.2.2 q h
      · exact hAA _ (hL q h)⟩, hok1, by omega, by omega⟩ T' rfl X'
  exact ⟨t2, st t2 a1, b1⟩
end AIT
set_option maxHeartbeats 4000000 in
set_option maxRecDepth 100000 in
theorem ai_Wrun (hfacts : ∀ M pc I, ai_find (ai_tab M) pc = some I → ai_Fact M pc I) (l : Launch) : ∀ (n : Nat) {p : Program} {e : Env} {R : Room} {s : State} {m : MethodId} {args : Array Value} {below : List Frame} {meth : Method} {c : Code} {H : Heap} {locs : List Loc} {cells slots : Nat} {Q : State → Prop} {M : Nat} {scr : ai_S} {D : va_G} {cT ad : Nat → Nat} {A : Nat → Prop} {w0 w wf : ai_W} {base pc : Nat} {ls : ai_L} {st : List Value} {r : Option Value} {lsC : Array Slot}
    (_ : ai_Env M scr D cT ad A w0 base p R s m args meth c) (_ : ai_run n scr M pc ls st w = some (r, wf)) (_ : ai_Rel D cT ad A w0 w s H locs cells slots) (_ : lv_has lsC (ai_mx M) (ai_as ad 0 ls)) (_ : ls.length = ai_mx M) (_ : wf.1 ≤ w0.1 + R.cells ∧ wf.2.1 ≤ w0.2.1 + R.slots)
    (_ : ∀ (pc : Nat) (I : ai_I) (ls : ai_L) (st : List Value) (H : Heap) (locs : List Loc) (cells slots : Nat) (lsC : Array Slot), ai_find (ai_tab M) pc = some I → ai_step scr I ls st wf = some (.inr (.inl r)) → ai_Rel D cT ad A w0 wf s H locs cells slots → W p l e R s m args below meth c H locs cells slots Q (F0 m pc lsC (st.map (ai_cv ad)))), W p l e R s m args below meth c H locs cells slots Q (F0 m pc lsC (st.map (ai_cv ad))) := by
  intro n
  induction n with
  | zero => intro p e R s m args below meth c H locs cells slots Q M scr D cT ad A w0 w wf base pc ls st r lsC E hrun; cases hrun
  | succ n ih =>
    intro p e R s m args below meth c H locs cells slots Q M scr D cT ad A w0 w wf base pc ls st r lsC E hrun hR hl hll hroom kr
    have hrun : ai_next (ai_run n) scr M pc ls st w = some (r, wf) := hrun
    unfold ai_next at hrun
    split at hrun
    · cases hrun
    next I hI =>
    have hok := hR.2.2.2.1
    cases hs : ai_step scr I ls st w with
    | none => rw [hs] at hrun; cases hrun
    | some z =>
      rw [hs] at hrun
      rcases z with q | r' | q
      · obtain ⟨pc', ls', st', w'⟩ := q
        have hrun : ai_run n scr M pc' ls' st' w' = some (r, wf) := hrun
        obtain ⟨h1, h2, h3⟩ := ai_step_ok hs hok
        obtain ⟨g1, g2, g3⟩ := ai_run_ok n hrun h1
        exact ai_W1 E (hfacts M pc I hI) hs hR hl hll ⟨by omega, by omega⟩ (fun H' locs' cells' slots' lsC' hR' hl' hll' => ih E hrun hR' hl' hll' hroom kr)
      · cases hrun
        exact kr pc I ls st H locs cells slots lsC hI hs hR
      · obtain ⟨M', as, rest, nx⟩ := q
        simp only [ai_nx] at hrun
        split at hrun
        next hmx =>
          obtain ⟨⟨r1, w1⟩, a1, a2⟩ := Option.bind_eq_some_iff.mp hrun
          obtain ⟨hok1, q2, q3⟩ := ai_run_ok n a1 hok
          obtain ⟨-, q4, q5⟩ := ai_run_ok n a2 hok1
          have q2 : w.1 ≤ w1.1 := q2
          have q3 : w.2.1 ≤ w1.2.1 := q3
          have q4 : w1.1 ≤ wf.1 := q4
          have q5 : w1.2.1 ≤ wf.2.1 := q5
          obtain ⟨mc, hmc⟩ := Nat.le.dest q2
          obtain ⟨ms, hms⟩ := Nat.le.dest q3
          have E0 := E
          obtain ⟨⟨hx, hb, hml, hown, hts, hnm, hfr, hlo⟩, hK, hA, hAl, hsz, had, hscr, hN⟩ := E
          have hR0 := hR
          obtain ⟨hP, hD, hS, -, hc1, hc2⟩ := hR
          -- the callee's contract
          have met : ∀ (x : Nat) (_ : ai_CF M M' x), Met l (ai_y M') (ai_ws M') { frames := ai_fr M', cells := mc, slots := ms, locals := ai_lo M' } (ai_Pc D cT ad base as w) (ai_Qc D cT ad base w r1 w1) mc ms (va_A (ai_cw ad cT w) (base + w.1)) := by
            intro x hcf
            obtain ⟨-, -, -, -, hpl⟩ := hcf
            refine Met.ofW (cc := ai_cc M') (maxL := ai_mx M') (ret := ai_ret M') hpl rfl ?_
            intro p2 e2 s2 m2 args2 below2 meth2 c2 s₁ B hml2 hv2
            obtain ⟨rfl, hsz2, hP2, hK2, hD2, hN2⟩ := hv2
            have hA2 : ∀ q, s2.heap.size ≤ q → va_A (ai_cw ad cT w) (base + w.1) q := fun q hq => Or.inr (by omega)
            have hAl2 : ∀ q, va_A (ai_cw ad cT w) (base + w.1) q → base ≤ q := by
              intro q hq
              rcases hq with ⟨k, y, hy⟩ | hq
              · obtain ⟨-, hy2⟩ := ai_cw_of hy
                have : q = ad (k + 1) := congrArg Prod.fst hy2
                rw [this, had]
                omega
              · omega
            have E2 : ai_Env M' none D cT ad (va_A (ai_cw ad cT w) (base + w.1)) w base p2 { frames := ai_fr M', cells := mc, slots := ms, locals := ai_lo M' } s2 m2 ((as.map (ai_cv ad)).toArray) meth2 c2 :=
              ⟨⟨B.exec, B.bytes, hml2, findClass_of_methodNamed B.named, fun x hx => atoms_spec (ws := ai_ws M') B.pre x (List.mem_cons_of_mem _ hx), (fun h => (name_of_methodNamed B.named B.method).1.trans h), Nat.le_refl _, Nat.le_refl _⟩, hK2, hA2, hAl2, hsz2, had, (fun _ _ h => by cases h), hN2⟩
            have hl2 := lv_entry (as.map (ai_cv ad)) (n := ai_mx M') (by rw [ai_sl_len]; exact hmx)
            rw [lg_entry_eq]
            have hl3 : lv_has ((lg_sl (as.map (ai_cv ad)) ++ List.replicate (ai_mx M' - (lg_sl (as.map (ai_cv ad))).length) Slot.unset).toArray) (ai_mx M') (ai_as ad 0 (ai_in (ai_mx M') as)) := ⟨hl2.1, hl2.2.1, fun q hq => hl2.2.2 q (ai_entry ad _ as 0 q hq)⟩
            refine ih (st := []) E2 a1 ⟨hP2, hD2.self.weaken (fun _ _ _ h => h), va_S.rf, hok, rfl, rfl⟩ hl3 (by simp [ai_in]; omega) ⟨by show w1.1 ≤ w.1 + mc; omega, by show w1.2.1 ≤ w.2.1 + ms; omega⟩ ?_
            intro pc3 I3 ls3 st3 H3 locs3 cells3 slots3 lsC3 hI3 hs3 hR3
            have hF3 := hfacts M' pc3 I3 hI3
            obtain ⟨hP3, hD3, hS3, hok3, hc31, hc32⟩ := hR3
            have ec : cells3 = mc := by omega
            have es : slots3 = ms := by omega
            subst ec
            subst es
            have hx3 := B.exec
            have hb3 := B.bytes
            have hr3 := B.returns
            have hlk3 := B.notSynchronized
            have fin : ∀ t : State, t.heap = H3 → s2.WarmedH t.vm → ai_Qc D cT ad base w r1 w1 ((as.map (ai_cv ad)).toArray) s2 (.returned (r1.map (ai_cv ad))) t := fun t ht hW => ⟨⟨rfl, by rw [ht]; exact hP3, va_K.moved hW.alike hK2, hD3⟩, hS3.F ht⟩
            obtain ⟨ins, nx3, a3, b3, c3, cv3, tb3⟩ := I3
            cases ins
            all_goals try (exfalso; revert hs3; show (none : Option ai_R) = some _ → False; intro h; cases h; done)
            all_goals try (exfalso; simp only [ai_step, ai_go, ai_inv, ai_call] at hs3; (repeat' split at hs3) <;> cases hs3; done)
            case return_ =>
              obtain ⟨hd, -, hq⟩ := hF3
              simp only [ai_step] at hs3
              split at hs3
              · cases hs3
                exact W.vret hx3 hb3 (hr3.trans hq) fin hS3.2.2 hd hlk3
              · cases hs3
            case ireturn =>
              obtain ⟨hd, -, hq⟩ := hF3
              simp only [ai_step] at hs3
              split at hs3
              · split at hs3
                · next v hv =>
                  cases hs3
                  rcases hq with ⟨rfl, hq⟩ | ⟨rfl, hq⟩
                  · exact W.iret hx3 hb3 (hr3.trans hq) fin hS3.2.2 hd hlk3
                  · exact W.zret hx3 hb3 (hr3.trans hq) (ai_fit_ok (c := 1) (ty := .boolean) (v := .int v) rfl hv ad).1 fin hS3.2.2 hd hlk3
                · cases hs3
              · cases hs3
            case lreturn =>
              obtain ⟨hd, -, hq⟩ := hF3
              simp only [ai_step] at hs3
              split at hs3
              · cases hs3
                exact W.lret hx3 hb3 (hr3.trans hq) fin hS3.2.2 hd hlk3
              · cases hs3
            case areturn =>
              obtain ⟨hd, -, rn, hq⟩ := hF3
              simp only [ai_step] at hs3
              split at hs3
              · cases hs3
                exact W.aret hx3 hb3 (hr3.trans hq) (Or.inl ⟨rn, rfl⟩) (Or.inr ⟨_, rfl⟩) fin hS3.2.2 hd hlk3
              · cases hs3
          have blind : FrameBlind (ai_Pc D cT ad base as w) := fun a U g mk q => by
            obtain ⟨q0, q1, qP, qK, qD, qN⟩ := q
            exact ⟨q0, q1, qP, va_K.moved (u := U) (U := U.calling g mk a) (Vm.Alike.refl U.vm) qK, qD, qN.1.moved (Vm.Alike.refl U.vm), fun z hz => va_Nw.same rfl rfl (qN.2 z hz)⟩
          refine ai_sized (fun hzz => ?_)
          have hHz : H.size = base + w.1 := by
            have h1 : base + w.1 ≤ H.size := by
              by_cases h0 : w.1 = 0
              · have := hS.1; omega
              · have := (hP (w.1 - 1) _ (ai_cw_at (ad := ad) (cT := cT) (by omega))).lt
                simp only [had] at this
                omega
            omega
          have pre : ∀ U : State, U.heap = H → s.WarmedH U.vm → ai_Pc D cT ad base as w ((as.map (ai_cv ad)).toArray) U := fun U hU hW => ⟨rfl, by rw [hU]; exact hHz, by rw [hU]; exact hP, va_K.moved hW.alike hK, hD.weaken (fun _ _ _ _ => trivial), hN.warm hW⟩
          have hF := hfacts M pc I hI
          obtain ⟨ins, nx', a', b', c', cv', tb'⟩ := I
          have goon : ∀ (H1 : Heap) (locs1 : List Loc), ai_Rel D cT ad A w0 w1 s H1 locs1 (cells + mc) (slots + ms) → W p l e R s m args below meth c H1 locs1 (cells + mc) (slots + ms) Q (F0 m nx lsC ((r1.map (ai_cv ad)).toList ++ rest.map (ai_cv ad))) := by
            intro H1 locs1 hR1
            have e1 : (r1.map (ai_cv ad)).toList ++ rest.map (ai_cv ad) = (r1.toList ++ rest).map (ai_cv ad) := by cases r1 <;> simp
            rw [e1]
            exact ih E0 a2 hR1 hl hll hroom kr
          have hf : cells + mc ≤ R.cells ∧ slots + ms ≤ R.slots := ⟨by omega, by omega⟩
          cases ins
          all_goals try (exfalso; revert hs; show (none : Option ai_R) = some _ → False; intro h; cases h; done)
          all_goals try (exfalso; simp only [ai_step, ai_go] at hs; (repeat' split at hs) <;> cases hs; done)
          case invokestatic q =>
            obtain ⟨hd, hnx, hq⟩ := hF
            simp only [ai_step, ai_inv] at hs
            split at hs
            · obtain ⟨rfl, rfl, hst, hlen, h8⟩ := ai_call_spec hs
              obtain ⟨hcf, hml2, hstat⟩ := hq
              have hcf0 := hcf
              obtain ⟨hcd, hini, hdd, hfr2, -⟩ := hcf
              subst hst
              subst hnx
              rcases hml2 with hlk | ⟨host, hlk⟩
              · exact ai_callk E0 hR0 hHz hok1 hmc.symm hms.symm (va_runS (As := as.map (ai_cv ad)) (rest := rest.map (ai_cv ad)) ⟨hx, hb, hml, hown, hts⟩ (met _ hcf0) ⟨callB_of b' hts (ai_good hcd) rfl rfl rfl (hts _ hini) (hts _ hlk) hdd ⟨by show ai_fr M' + 1 ≤ R.frames; omega, by show 8 + (ai_mx M' + 11) + ai_lo M' ≤ R.locals; omega⟩, hts _ hstat⟩ ⟨blind, pre⟩ rfl (by simp [hlen]) hl.1 (by simp) (lv_room (by rw [ai_csum_map]; exact h8)) hd hf) goon
              · exact ai_callk E0 hR0 hHz hok1 hmc.symm hms.symm (va_runSN (As := as.map (ai_cv ad)) (rest := rest.map (ai_cv ad)) ⟨hx, hb, hml, hown, hts⟩ (met _ hcf0) ⟨va_cnB b' hts (ai_good hcd) rfl rfl rfl (hN.2 _ hlk) (hts _ hini) hdd ⟨by show ai_fr M' + 1 ≤ R.frames; omega, by show 8 + (ai_mx M' + 11) + ai_lo M' ≤ R.locals; omega⟩, hts _ hstat, trivial⟩ ⟨blind, pre⟩ rfl (by simp [hlen]) hl.1 (by simp) (lv_room (by rw [ai_csum_map]; exact h8)) hd hf) goon
            · exact hq.elim
            · exact hq.elim
            all_goals (exfalso; (try simp only [ai_go] at hs); (repeat' split at hs) <;> cases hs; done)
          case invokevirtual q =>
            obtain ⟨hd, hnx, hq⟩ := hF
            simp only [ai_step, ai_inv] at hs
            split at hs
            · exact hq.elim
            · split at hs
              · next o t3 q3 hdr =>
                split at hs
                · next ci v3 vs3 ho =>
                  split at hs
                  · next hci =>
                    subst hci
                    obtain ⟨rfl, rfl, hst, hlen, h8⟩ := ai_call_spec hs
                    obtain ⟨n', ci', C, T, N, hb', hcf, hml2, hinst, hcv, hvc, hC, hsel⟩ := hq
                    cases hcv
                    have hcf0 := hcf
                    obtain ⟨hcd, hini, hdd, hfr2, -⟩ := hcf
                    subst hb'
                    obtain ⟨as', rfl, hlen', hst'⟩ := ai_recv hst hlen hdr
                    obtain ⟨k, rfl, hkw⟩ := ai_pl hok (o := o) (by intro z; rw [ho] at z; cases z)
                    have he := ai_cw_at (ad := ad) (cT := cT) hkw
                    rw [ho] at he
                    obtain ⟨cellB, z1, z2, z3⟩ := va_recv hK hP hvc he
                    subst hC
                    subst hst'
                    subst hnx
                    rcases hml2 with hlk | ⟨host, hlk⟩
                    · exact ai_callk E0 hR0 hHz hok1 hmc.symm hms.symm (va_runV (b := ad (k + 1)) (C := (ai_y M').cls) (As := as'.map (ai_cv ad)) (rest := rest.map (ai_cv ad)) ⟨hx, hb, hml, hown, hts⟩ (met _ hcf0) ⟨callB_of n' hts (ai_good hcd) rfl rfl rfl (hts _ hini) (hts _ hlk) hdd ⟨by show ai_fr M' + 1 ≤ R.frames; omega, by show 8 + (ai_mx M' + 11) + ai_lo M' ≤ R.locals; omega⟩, hts _ hinst, hts _ hsel⟩ ⟨blind, ⟨cellB, z1, z2, z3⟩, pre⟩ rfl (by simp [hlen']) hl.1 (by simp [ai_cv]) (lv_room (by rw [ai_csum_map]; exact h8)) hd hf) goon
                    · exact ai_callk E0 hR0 hHz hok1 hmc.symm hms.symm (va_runVN (b := ad (k + 1)) (C := (ai_y M').cls) (As := as'.map (ai_cv ad)) (rest := rest.map (ai_cv ad)) ⟨hx, hb, hml, hown, hts⟩ (met _ hcf0) ⟨va_cnB n' hts (ai_good hcd) rfl rfl rfl (hN.2 _ hlk) (hts _ hini) hdd ⟨by show ai_fr M' + 1 ≤ R.frames; omega, by show 8 + (ai_mx M' + 11) + ai_lo M' ≤ R.locals; omega⟩, hts _ hinst, hts _ hsel⟩ ⟨blind, ⟨cellB, z1, z2, z3⟩, pre⟩ rfl (by simp [hlen']) hl.1 (by simp [ai_cv]) (lv_room (by rw [ai_csum_map]; exact h8)) hd hf) goon
                  · cases hs
                · cases hs
              · cases hs
            · exact hq.elim
            all_goals (exfalso; (try simp only [ai_go] at hs); (repeat' split at hs) <;> cases hs; done)
          case invokespecial q =>
            obtain ⟨hd, hnx, hq⟩ := hF
            simp only [ai_step, ai_inv] at hs
            split at hs
            · exact hq.elim
            · exact hq.elim
            · split at hs
              · next o t3 hdr =>
                obtain ⟨rfl, rfl, hst, hlen, h8⟩ := ai_call_spec hs
                obtain ⟨n', hb', hcf, hml2, hinst, hnin, hrn⟩ := hq
                have hcf0 := hcf
                obtain ⟨hcd, hini, hdd, hfr2, -⟩ := hcf
                subst hb'
                obtain ⟨as', rfl, hlen', hst'⟩ := ai_recv hst hlen hdr
                subst hst'
                subst hnx
                have hw : ai_ws M' = Cond.code (ai_y M') (ai_cc M') (ai_mx M') none :: ai_wd := by unfold ai_ws; rw [hrn]
                rcases hml2 with hlk | ⟨host, hlk⟩
                · exact ai_callk E0 hR0 hHz hok1 hmc.symm hms.symm (va_runI (b := ad o) (As := as'.map (ai_cv ad)) (rest := rest.map (ai_cv ad)) ⟨hx, hb, hml, hown, hts⟩ (met _ hcf0) ⟨callB_of n' hts (ai_good hcd) hw rfl rfl (hts _ hini) (hts _ hlk) hdd ⟨by show ai_fr M' + 1 ≤ R.frames; omega, by show 8 + (ai_mx M' + 11) + ai_lo M' ≤ R.locals; omega⟩, hnin, hts _ hinst⟩ ⟨blind, pre⟩ rfl (by simp [hlen']) hl.1 (by simp [ai_cv]) (lv_room (by rw [ai_csum_map]; exact h8)) hd hf) goon
                · exact ai_callk E0 hR0 hHz hok1 hmc.symm hms.symm (va_runIN (b := ad o) (As := as'.map (ai_cv ad)) (rest := rest.map (ai_cv ad)) ⟨hx, hb, hml, hown, hts⟩ (met _ hcf0) ⟨va_cnB n' hts (ai_good hcd) hw rfl rfl (hN.2 _ hlk) (hts _ hini) hdd ⟨by show ai_fr M' + 1 ≤ R.frames; omega, by show 8 + (ai_mx M' + 11) + ai_lo M' ≤ R.locals; omega⟩, hnin, hts _ hinst⟩ ⟨blind, pre⟩ rfl (by simp [hlen']) hl.1 (by simp [ai_cv]) (lv_room (by rw [ai_csum_map]; exact h8)) hd hf) goon
              · cases hs
            all_goals (exfalso; (try simp only [ai_go] at hs); (repeat' split at hs) <;> cases hs; done)
        next => cases hrun
