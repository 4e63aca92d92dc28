def ai_tyf (ci : Nat) : Nat → FieldType := match ci with
  | 0 => ai_ty0
  | 1 => ai_ty1
  | 2 => ai_ty2
  | 3 => ai_ty3
  | 4 => ai_ty4
  | 5 => ai_ty5
  | 6 => ai_ty6
  | _ => ai_ty7
def ai_CI (ci : Nat) : Prop := ai_cl[ci]? = some (ai_cn ci, ai_Tf ci, ai_nf ci) ∧ (∀ x ∈ u_ws (ai_cn ci) (ai_Tf ci) (ai_nf ci), x ∈ ai_wd) ∧ (∀ k, k < ai_nf ci → parseFieldDescriptor (ai_Tf ci k).2.2.1 = some (ai_tyf ci k)) ∧ (∀ i, i < ai_nf ci → ∀ j, j < ai_nf ci → i ≠ j → (ai_Tf ci i).2.1 ≠ (ai_Tf ci j).2.1) ∧ Cond.instantiable (ai_cn ci) (ai_nf ci) ∈ ai_wd ∧ Cond.initialized (ai_cn ci) ∈ ai_wd
theorem ai_ci_ok : ∀ ci, ci < 8 → ai_CI ci
  | 0, _ => ⟨rfl, ai_lay0, ai_tyok0, ai_nm0, ai_inst0, ai_ini0⟩
  | 1, _ => ⟨rfl, ai_lay1, ai_tyok1, ai_nm1, ai_inst1, ai_ini1⟩
  | 2, _ => ⟨rfl, ai_lay2, ai_tyok2, ai_nm2, ai_inst2, ai_ini2⟩
  | 3, _ => ⟨rfl, ai_lay3, ai_tyok3, ai_nm3, ai_inst3, ai_ini3⟩
  | 4, _ => ⟨rfl, ai_lay4, ai_tyok4, ai_nm4, ai_inst4, ai_ini4⟩
  | 5, _ => ⟨rfl, ai_lay5, ai_tyok5, ai_nm5, ai_inst5, ai_ini5⟩
  | 6, _ => ⟨rfl, ai_lay6, ai_tyok6, ai_nm6, ai_inst6, ai_ini6⟩
  | 7, _ => ⟨rfl, ai_lay7, ai_tyok7, ai_nm7, ai_inst7, ai_ini7⟩
  | n + 8, h => absurd h (by omega)
def ai_tcb : Nat → FieldType → Bool
  | 0, .int => true
  | 1, .boolean => true
  | 2, .long => true
  | 3, .object _ => true
  | 3, .array _ => true
  | _, _ => false
theorem ai_tcb_ok {c : Nat} {ty : FieldType} (h : ai_tcb c ty = true) : ai_tc c ty := by
  unfold ai_tcb at h
  split at h
  · rfl
  · rfl
  · rfl
  · exact Or.inl ⟨_, rfl⟩
  · exact Or.inr ⟨_, rfl⟩
  · cases h
def ai_fk (e : Nat × Nat × Nat × Bool) : Prop := e.1 < 8 ∧ e.2.1 < ai_nf e.1 ∧ ai_tc e.2.2.1 (ai_tyf e.1 e.2.1) ∧ (ai_Tf e.1 e.2.1).2.2.2 = e.2.2.2 ∧ (ai_Tf e.1 e.2.1).1 = ai_cn e.1
theorem ai_ft_ok : ∀ e ∈ ai_ft, ai_fk e := by
  have h : (ai_ft.all fun e => (decide (e.1 < 8) && decide (e.2.1 < ai_nf e.1)) && (ai_tcb e.2.2.1 (ai_tyf e.1 e.2.1) && (decide ((ai_Tf e.1 e.2.1).2.2.2 = e.2.2.2) && decide ((ai_Tf e.1 e.2.1).1 = ai_cn e.1)))) = true := by decide +kernel
  intro e he
  have h2 := List.all_eq_true.mp h e he
  simp only [Bool.and_eq_true, decide_eq_true_eq] at h2
  exact ⟨h2.1.1, h2.1.2, ai_tcb_ok h2.2.1, h2.2.2.1, h2.2.2.2⟩
theorem ai_fl_lt : ∀ e ∈ ai_fl, e.2.2.1 < 8 ∧ e.2.2.2.1 < ai_nf e.2.2.1 := by
  have h : (ai_fl.all fun e => decide (e.2.2.1 < 8 ∧ e.2.2.2.1 < ai_nf e.2.2.1)) = true := by decide +kernel
  intro e he
  exact of_decide_eq_true (List.all_eq_true.mp h e he)
theorem ai_nq_lt : ∀ e ∈ ai_nq, e.2.2.1 < 8 := by
  have h : (ai_nq.all fun e => decide (e.2.2.1 < 8)) = true := by decide +kernel
  intro e he
  exact of_decide_eq_true (List.all_eq_true.mp h e he)
def ai_CG (a : Nat) : Prop := ai_Cd a ∧ Cond.initialized (ai_y a).cls ∈ ai_wd ∧ ((ai_y a).cls ≠ "java/lang/invoke/MethodHandle" ∧ (ai_y a).cls ≠ "java/lang/invoke/VarHandle" ∧ (parseMethodDescriptor (ai_y a).desc).map (fun d => d.parameters.length) = some (ai_na a)) ∧ plainName (ai_y a).cls = true
theorem ai_cg_ok : ∀ a ∈ ai_cal, ai_CG a := by
  have h : (ai_cal.all fun a => (ai_il.any fun e => decide (e.1 = (ai_y a).cls)) && (decide ((ai_y a).cls ≠ "java/lang/invoke/MethodHandle") && (decide ((ai_y a).cls ≠ "java/lang/invoke/VarHandle") && (decide ((parseMethodDescriptor (ai_y a).desc).map (fun d => d.parameters.length) = some (ai_na a)) && plainName (ai_y a).cls)))) = true := by decide +kernel
  intro a ha
  have h2 := List.all_eq_true.mp h a ha
  simp only [Bool.and_eq_true, decide_eq_true_eq] at h2
  obtain ⟨h3, h4, h5, h6, h7⟩ := h2
  obtain ⟨e, he, h8⟩ := List.any_eq_true.mp h3
  refine ⟨ai_cal_ok a ha, ?_, ⟨h4, h5, h6⟩, h7⟩
  rw [← of_decide_eq_true h8]
  exact ai_il_ok e he
theorem ai_vm_cl : ∀ e ∈ ai_vm, ∃ C T N, ai_cl[ai_vc e.1]? = some (C, T, N) ∧ C = (ai_y e.1).cls := by
  have h : (ai_vm.all fun e => decide (ai_vc e.1 < 8) && decide (ai_cn (ai_vc e.1) = (ai_y e.1).cls)) = true := by decide +kernel
  intro e he
  have h2 := List.all_eq_true.mp h e he
  simp only [Bool.and_eq_true, decide_eq_true_eq] at h2
  exact ⟨_, _, _, (ai_ci_ok _ h2.1).1, h2.2⟩
theorem ai_im_in : ∀ e ∈ ai_im, (ai_y e.1).name = "<init>" ∧ ai_ret e.1 = none := by
  have h : (ai_im.all fun e => decide ((ai_y e.1).name = "<init>") && decide (ai_ret e.1 = none)) = true := by decide +kernel
  intro e he
  have h2 := List.all_eq_true.mp h e he
  simp only [Bool.and_eq_true, decide_eq_true_eq] at h2
  exact h2
theorem ai_nll_ok : ∀ e ∈ ai_nll, ∃ host, (ai_nm e.1, e.2.1, ai_y e.2.2, host) ∈ ai_ne := by
  have h : (ai_nll.all fun e => ai_ne.any fun q => decide ((q.1, q.2.1, q.2.2.1) = (ai_nm e.1, e.2.1, ai_y e.2.2))) = true := by decide +kernel
  intro e he
  obtain ⟨q, hq, h2⟩ := List.any_eq_true.mp (List.all_eq_true.mp h e he)
  have h3 := of_decide_eq_true h2
  refine ⟨q.2.2.2, ?_⟩
  have e1 : q.1 = ai_nm e.1 := congrArg Prod.fst h3
  have e2 : q.2.1 = e.2.1 := congrArg (fun z => z.2.1) h3
  have e3 : q.2.2.1 = ai_y e.2.2 := congrArg (fun z => z.2.2) h3
  rw [← e1, ← e2, ← e3]
  exact hq
noncomputable def ai_rk (M a : Nat) : Bool := ai_cal.any (fun z => Nat.beq z a) && (Nat.ble (ai_fr a + 1) (ai_fr M) && Nat.ble (8 + (ai_mx a + 11) + ai_lo a) (ai_lo M))
theorem ai_rk_ok {M a : Nat} (h : ai_rk M a = true) : ai_CF M a (ai_na a) := by
  simp only [ai_rk, Bool.and_eq_true] at h
  obtain ⟨h1, h2, h3⟩ := h
  obtain ⟨z, hz, hz2⟩ := List.any_eq_true.mp h1
  have hz3 := Nat.eq_of_beq_eq_true hz2
  subst hz3
  obtain ⟨g1, g2, g3, g4⟩ := ai_cg_ok z hz
  exact ⟨g1, g2, g3, ⟨Nat.le_of_ble_eq_true h2, Nat.le_of_ble_eq_true h3⟩, g4⟩
def ai_in2 (l : List (Nat × Nat)) (a : Nat) : Bool := l.any (fun e => Nat.beq e.1 a)
theorem ai_in2_ok {l : List (Nat × Nat)} {a : Nat} (h : ai_in2 l a = true) : ∃ k, (a, k) ∈ l := by
  obtain ⟨e, he, h2⟩ := List.any_eq_true.mp h
  have := Nat.eq_of_beq_eq_true h2
  subst this
  exact ⟨e.2, he⟩
def ai_in3 (l : List (Nat × Nat × Nat)) (a : Nat) : Bool := l.any (fun e => Nat.beq e.1 a)
theorem ai_in3_ok {l : List (Nat × Nat × Nat)} {a : Nat} (h : ai_in3 l a = true) : ∃ k, (a, k) ∈ l := by
  obtain ⟨e, he, h2⟩ := List.any_eq_true.mp h
  have := Nat.eq_of_beq_eq_true h2
  subst this
  exact ⟨e.2, he⟩
noncomputable def ai_cx (M pc : Nat) (ins : Instr) (a b c : Nat) (cv : Value) (tb : List (Int32 × Nat)) : Bool := match ins with
  | .iconst n => decide (cv = .int (Int32.ofInt n))
  | .bipush n => decide (cv = .int (Int8.ofInt n).toInt32)
  | .sipush n => decide (cv = .int (Int16.ofInt n).toInt32)
  | .lconst n => decide (cv = .long (Int64.ofNat (n : Nat)))
  | .ldc q => ai_l1.any (fun e => Nat.beq e.1 (ai_ow M) && (Nat.beq e.2.1 q && decide (cv = .int e.2.2.1)))
  | .ldc2_w q => ai_l2.any (fun e => Nat.beq e.1 (ai_ow M) && (Nat.beq e.2.1 q && decide (cv = .long e.2.2.1)))
  | .iload_n q => Nat.beq q a
  | .lload_n q => Nat.beq q a
  | .aload_n q => Nat.beq q a
  | .istore_n q => Nat.beq q a
  | .lstore_n q => Nat.beq q a
  | .astore_n q => Nat.beq q a
  | .iload q => Nat.beq q a
  | .lload q => Nat.beq q a
  | .aload q => Nat.beq q a
  | .istore q => Nat.beq q a
  | .lstore q => Nat.beq q a
  | .astore q => Nat.beq q a
  | .iinc q n => Nat.beq q a && decide (cv = .int (Int32.ofInt n))
  | .goto off => decide ((pc : Int) + off = (a : Int))
  | .ifCond _ off => decide ((pc : Int) + off = (a : Int))
  | .if_icmp _ off => decide ((pc : Int) + off = (a : Int))
  | .getfield q => ai_fl.any (fun e => Nat.beq e.1 (ai_ow M) && (Nat.beq e.2.1 q && (Nat.beq e.2.2.1 a && Nat.beq e.2.2.2.1 b)))
  | .putfield q => ai_fl.any (fun e => Nat.beq e.1 (ai_ow M) && (Nat.beq e.2.1 q && (Nat.beq e.2.2.1 a && Nat.beq e.2.2.2.1 b))) && ai_ft.any (fun e => Nat.beq e.1 a && (Nat.beq e.2.1 b && (Nat.beq e.2.2.1 c && (!e.2.2.2 || (decide ((ai_y M).name = "<init>") && decide (ai_cn a = ai_nm (ai_ow M)))))))
  | .aastore => decide (a < 8) && decide (ai_cn a = ai_RG)
  | .newarray q => decide ((q = .int ∧ a = 0) ∨ (q = .boolean ∧ a = 1) ∨ (q = .long ∧ a = 2))
  | .anewarray q => ai_q2 ai_aq (ai_ow M) q
  | .new q => ai_q3 ai_nq (ai_ow M) q a && (Nat.beq tb.length (ai_nf a) && (List.range (ai_nf a)).all (fun j => decide (defaultValue (ai_tyf a j) = vp_V (tb.map (fun q => ai_dv q.2)) j)))
  | .return_ => decide (ai_ret M = none)
  | .ireturn => decide ((a = 0 ∧ ai_ret M = some .int) ∨ (a = 1 ∧ ai_ret M = some .boolean))
  | .lreturn => decide (ai_ret M = some .long)
  | .areturn => false
  | .invokestatic q => match c with
    | 0 => ai_q3 ai_ml (ai_ow M) q a && (ai_in2 ai_sm a && (ai_rk M a && Nat.beq b (ai_na a)))
    | 4 => ai_q2 ai_mm (ai_ow M) q && (Nat.ble 1 (ai_fr M) && Nat.ble 21 (ai_lo M))
    | 5 => ai_q2 ai_cp (ai_ow M) q && (Nat.ble 1 (ai_fr M) && Nat.ble 26 (ai_lo M))
    | _ => false
  | .invokevirtual q => match c with
    | 1 => ai_q3 ai_ml (ai_ow M) q a && (ai_in3 ai_vm a && (ai_rk M a && (Nat.beq b (ai_na a + 1) && decide (cv = .ref (ai_vc a)))))
    | _ => false
  | .invokespecial q => match c with
    | 2 => (ai_q3 ai_ml (ai_ow M) q a || ai_nll.any (fun e => Nat.beq e.1 (ai_ow M) && (Nat.beq e.2.1 q && Nat.beq e.2.2 a))) && (ai_in2 ai_im a && (ai_rk M a && Nat.beq b (ai_na a + 1)))
    | 3 => ai_q2 ai_oi (ai_ow M) q && (Nat.ble 1 (ai_fr M) && Nat.ble 20 (ai_lo M))
    | _ => false
  | _ => true
theorem ai_fl_get {M q a b : Nat} (ho : ai_own M = ai_nm (ai_ow M)) (h : ai_fl.any (fun e => Nat.beq e.1 (ai_ow M) && (Nat.beq e.2.1 q && (Nat.beq e.2.2.1 a && Nat.beq e.2.2.2.1 b))) = true) : ai_CI a ∧ b < ai_nf a ∧ Cond.fieldLink (ai_own M) q (ai_Tf a b).1 (ai_Tf a b).2.1 (ai_Tf a b).2.2.1 ∈ ai_wd := by
  obtain ⟨e, he, h2⟩ := List.any_eq_true.mp h
  simp only [Bool.and_eq_true, ai_beq] at h2
  obtain ⟨e1, e2, e3, e4⟩ := h2
  have h3 := ai_fl_lt e he
  have h4 := ai_fl_ok e he
  rw [e3, e4] at h3
  rw [e1, e2, e3, e4, ← ho] at h4
  exact ⟨ai_ci_ok a h3.1, h3.2, h4⟩
theorem ai_cx_ok {M pc : Nat} {ins : Instr} {a b c : Nat} {cv : Value} {tb : List (Int32 × Nat)} (ho : ai_own M = ai_nm (ai_ow M)) (h : ai_cx M pc ins a b c cv tb = true) : ai_Fx M pc ins a b c cv tb := by
  cases ins
  all_goals try exact trivial
  all_goals try (simp only [ai_cx, decide_eq_true_eq] at h; exact h; done)
  all_goals try exact Nat.eq_of_beq_eq_true h
  case ldc q =>
    obtain ⟨e, he, h2⟩ := List.any_eq_true.mp h
    simp only [Bool.and_eq_true, ai_beq, decide_eq_true_eq] at h2
    have h4 := ai_l1_ok e he
    rw [h2.1, h2.2.1, ← ho] at h4
    exact ⟨_, h2.2.2, h4⟩
  case ldc2_w q =>
    obtain ⟨e, he, h2⟩ := List.any_eq_true.mp h
    simp only [Bool.and_eq_true, ai_beq, decide_eq_true_eq] at h2
    have h4 := ai_l2_ok e he
    rw [h2.1, h2.2.1, ← ho] at h4
    exact ⟨_, h2.2.2, h4⟩
  case iinc q n =>
    simp only [ai_cx, Bool.and_eq_true, decide_eq_true_eq] at h
    exact ⟨Nat.eq_of_beq_eq_true h.1, h.2⟩
  case getfield q =>
    obtain ⟨h1, h2, h3⟩ := ai_fl_get ho h
    exact ⟨_, _, _, h1.1, h2, h1.2.1, h3⟩
  case putfield q =>
    simp only [ai_cx] at h
    rw [Bool.and_eq_true] at h
    obtain ⟨h1, h2, h3⟩ := ai_fl_get ho h.1
    obtain ⟨e, he, h4⟩ := List.any_eq_true.mp h.2
    simp only [Bool.and_eq_true, ai_beq, Bool.or_eq_true, Bool.not_eq_true', decide_eq_true_eq] at h4
    obtain ⟨e1, e2, e3, e4⟩ := h4
    obtain ⟨f1, f2, f3, f4, f5⟩ := ai_ft_ok e he
    rw [e1, e2] at f2 f3 f4 f5
    rw [e3] at f3
    refine ⟨_, _, _, h1.1, h2, h1.2.1, ai_tyf a, h1.2.2.1, h1.2.2.2.1, ai_tyf a b, h1.2.2.1 b h2, f3, ?_⟩
    rcases e4 with e4 | ⟨e4, e5⟩
    · exact Or.inl ⟨by rw [f4]; exact e4, h3⟩
    · cases hfin : (ai_Tf a b).2.2.2 with
      | false => exact Or.inl ⟨rfl, h3⟩
      | true => exact Or.inr ⟨rfl, e4, by rw [f5, e5, ← ho], h3⟩
  case aastore =>
    simp only [ai_cx, Bool.and_eq_true, decide_eq_true_eq] at h
    exact ⟨_, (ai_ci_ok a h.1).1, h.2⟩
  case newarray q =>
    have h2 : (q = .int ∧ a = 0) ∨ (q = .boolean ∧ a = 1) ∨ (q = .long ∧ a = 2) := of_decide_eq_true h
    refine ⟨?_, h2⟩
    rcases h2 with ⟨rfl, -⟩ | ⟨rfl, -⟩ | ⟨rfl, -⟩
    · exact ai_w_ai
    · exact ai_w_az
    · exact ai_w_aj
  case anewarray q =>
    obtain ⟨k, hk⟩ := ai_q2_ok h
    have h4 := ai_aq_ok _ hk
    simp only [← ho] at h4
    exact h4
  case new q =>
    simp only [ai_cx, Bool.and_eq_true] at h
    obtain ⟨h1, h2, h3⟩ := h
    obtain ⟨k, hk⟩ := ai_q3_ok h1
    have h4 := ai_nq_ok _ hk
    simp only [← ho] at h4
    obtain ⟨c1, c2, c3, c4, c5, c6⟩ := ai_ci_ok a (ai_nq_lt _ hk)
    exact ⟨_, _, _, c1, c2, _, c3, h4, c5, c6, Nat.eq_of_beq_eq_true h2, fun j hj => of_decide_eq_true (List.all_eq_true.mp h3 j (List.mem_range.mpr hj))⟩
  case areturn => cases h
  case invokestatic q =>
    simp only [ai_cx] at h
    split at h
    · simp only [Bool.and_eq_true] at h
      obtain ⟨h1, h2, h3, h4⟩ := h
      obtain ⟨k, hk⟩ := ai_q3_ok h1
      obtain ⟨k2, hk2⟩ := ai_in2_ok h2
      have h5 := ai_ml_ok _ hk
      simp only [← ho] at h5
      have h6 := Nat.eq_of_beq_eq_true h4
      subst h6
      exact ⟨ai_rk_ok h3, Or.inl h5, ai_sm_ok _ hk2⟩
    · simp only [Bool.and_eq_true] at h
      obtain ⟨h1, h2, h3⟩ := h
      obtain ⟨k, hk⟩ := ai_q2_ok h1
      have h5 := ai_mm_ok _ hk
      simp only [← ho] at h5
      exact ⟨h5, ai_w_ms, ai_w_mi, ai_w_mc, Nat.le_of_ble_eq_true h2, Nat.le_of_ble_eq_true h3⟩
    · simp only [Bool.and_eq_true] at h
      obtain ⟨h1, h2, h3⟩ := h
      obtain ⟨k, hk⟩ := ai_q2_ok h1
      have h5 := ai_cp_ok _ hk
      simp only [← ho] at h5
      exact ⟨h5, ai_w_cn, ai_w_cs, ai_w_ci, Nat.le_of_ble_eq_true h2, Nat.le_of_ble_eq_true h3⟩
    · cases h
  case invokevirtual q =>
    simp only [ai_cx] at h
    split at h
    · simp only [Bool.and_eq_true, decide_eq_true_eq] at h
      obtain ⟨h1, h2, h3, h4, h7⟩ := h
      obtain ⟨k, hk⟩ := ai_q3_ok h1
      obtain ⟨k2, hk2⟩ := ai_in3_ok h2
      have h5 := ai_ml_ok _ hk
      simp only [← ho] at h5
      obtain ⟨C, T, N, g1, g2⟩ := ai_vm_cl _ hk2
      refine ⟨ai_na a, ai_vc a, C, T, N, Nat.eq_of_beq_eq_true h4, ai_rk_ok h3, Or.inl h5, ai_vm_ok1 _ hk2, h7, g1, g2, ?_⟩
      rw [g2]
      exact ai_vm_ok2 _ hk2
    · cases h
  case invokespecial q =>
    simp only [ai_cx] at h
    split at h
    · simp only [Bool.and_eq_true, Bool.or_eq_true] at h
      obtain ⟨h1, h2, h3, h4⟩ := h
      obtain ⟨k2, hk2⟩ := ai_in2_ok h2
      obtain ⟨g1, g2⟩ := ai_im_in _ hk2
      refine ⟨ai_na a, Nat.eq_of_beq_eq_true h4, ai_rk_ok h3, ?_, ai_im_ok _ hk2, g1, g2⟩
      rcases h1 with h1 | h1
      · obtain ⟨k, hk⟩ := ai_q3_ok h1
        have h5 := ai_ml_ok _ hk
        simp only [← ho] at h5
        exact Or.inl h5
      · obtain ⟨e, he, h5⟩ := List.any_eq_true.mp h1
        simp only [Bool.and_eq_true, ai_beq] at h5
        obtain ⟨host, hh⟩ := ai_nll_ok e he
        rw [h5.1, h5.2.1, h5.2.2, ← ho] at hh
        exact Or.inr ⟨host, hh⟩
    · simp only [Bool.and_eq_true] at h
      obtain ⟨h1, h2, h3⟩ := h
      obtain ⟨k, hk⟩ := ai_q2_ok h1
      have h5 := ai_oi_ok _ hk
      simp only [← ho] at h5
      exact ⟨h5, ai_w_oi, ai_w_oc, Nat.le_of_ble_eq_true h2, Nat.le_of_ble_eq_true h3⟩
    · cases h
noncomputable def ai_ck (M : Nat) (e : Nat × ai_I) : Bool := match e with
  | (pc, ins, nx, a, b, c, cv, tb) => match ins with
    | .tableswitch .. => true
    | .lookupswitch .. => true
    | i => decide (decode (ai_cc M) pc = .ok (i, ai_len i)) && (Nat.beq nx (pc + ai_len i) && ai_cx M pc i a b c cv tb)
def ai_sws (ins : Instr) : Bool := match ins with
  | .tableswitch .. => true
  | .lookupswitch .. => true
  | _ => false
theorem ai_ck_ok {M pc : Nat} {I : ai_I} (ho : ai_own M = ai_nm (ai_ow M)) (h : ai_ck M (pc, I) = true) (hs : ai_sws I.1 = false) : ai_Fact M pc I := by
  obtain ⟨ins, nx, a, b, c, cv, tb⟩ := I
  cases ins
  case tableswitch => cases hs
  case lookupswitch => cases hs
  all_goals
    (have h2 := h
     simp only [ai_ck, Bool.and_eq_true, decide_eq_true_eq] at h2
     exact ⟨h2.1, Nat.eq_of_beq_eq_true h2.2.1, ai_cx_ok ho h2.2.2⟩)
theorem ai_find_mem : ∀ (l : List (Nat × ai_I)) {pc : Nat} {I : ai_I}, ai_find l pc = some I → (pc, I) ∈ l
  | [], _, _, h => by cases h
  | (q, J) :: l, pc, I, h => by
    unfold ai_find at h
    cases hb : Nat.beq pc q with
    | true =>
      rw [hb] at h
      have := Nat.eq_of_beq_eq_true hb
      subst this
      cases h
      exact List.mem_cons_self
    | false =>
      rw [hb] at h
      exact List.mem_cons_of_mem _ (ai_find_mem l h)
theorem ai_fact_of {M : Nat} {l : List (Nat × ai_I)} (ho : ai_own M = ai_nm (ai_ow M)) (h : l.all (ai_ck M) = true) (hs : ∀ e ∈ l.filter (fun e => ai_sws e.2.1), ai_Fact M e.1 e.2) {pc : Nat} {I : ai_I} (hf : ai_find l pc = some I) : ai_Fact M pc I := by
  have hm := ai_find_mem l hf
  cases hb : ai_sws I.1 with
  | true => exact hs (pc, I) (List.mem_filter.mpr ⟨hm, hb⟩)
  | false => exact ai_ck_ok ho (List.all_eq_true.mp h _ hm) hb
set_option maxRecDepth 100000 in
theorem ai_sw_GraphDeltas_value_48 : ai_Fact 21 48 (.lookupswitch 54 #[(1, 28), (2, 39)], 76, 102, 0, 0, .null, [(nI 1, 76), (nI 2, 87)]) := by
  refine ⟨⟨28, by decide +kernel⟩, by decide +kernel, fun x => ?_⟩
  by_cases h1 : x = nI 1
  · subst h1
    exact ⟨_, rfl, by decide +kernel⟩
  by_cases h2 : x = nI 2
  · subst h2
    exact ⟨_, rfl, by decide +kernel⟩
  refine ⟨_, rfl, ?_⟩
  rw [lv_osw h1 (show (nI 1).toInt = 1 by decide +kernel), lv_osw h2 (show (nI 2).toInt = 2 by decide +kernel)]
  simp only [ai_sw, if_neg h1, if_neg h2]
  rfl
set_option maxRecDepth 100000 in
theorem ai_sw_Delta_width_5 : ai_Fact 49 5 (.lookupswitch 31 #[(1, 27), (2, 29)], 32, 36, 0, 0, .null, [(nI 1, 32), (nI 2, 34)]) := by
  refine ⟨⟨27, by decide +kernel⟩, by decide +kernel, fun x => ?_⟩
  by_cases h1 : x = nI 1
  · subst h1
    exact ⟨_, rfl, by decide +kernel⟩
  by_cases h2 : x = nI 2
  · subst h2
    exact ⟨_, rfl, by decide +kernel⟩
  refine ⟨_, rfl, ?_⟩
  rw [lv_osw h1 (show (nI 1).toInt = 1 by decide +kernel), lv_osw h2 (show (nI 2).toInt = 2 by decide +kernel)]
  simp only [ai_sw, if_neg h1, if_neg h2]
  rfl
set_option maxRecDepth 100000 in
theorem ai_sw_Patch_operationFits_12 : ai_Fact 106 12 (.lookupswitch 80 #[(1, 28), (2, 55)], 40, 92, 0, 0, .null, [(nI 1, 40), (nI 2, 67)]) := by
  refine ⟨⟨28, by decide +kernel⟩, by decide +kernel, fun x => ?_⟩
  by_cases h1 : x = nI 1
  · subst h1
    exact ⟨_, rfl, by decide +kernel⟩
  by_cases h2 : x = nI 2
  · subst h2
    exact ⟨_, rfl, by decide +kernel⟩
  refine ⟨_, rfl, ?_⟩
  rw [lv_osw h1 (show (nI 1).toInt = 1 by decide +kernel), lv_osw h2 (show (nI 2).toInt = 2 by decide +kernel)]
  simp only [ai_sw, if_neg h1, if_neg h2]
  rfl
set_option maxRecDepth 100000 in
theorem ai_sw_Reader_readOperation_18 : ai_Fact 112 18 (.tableswitch 47 1 3 #[26, 33, 40], 44, 65, 0, 0, .null, [(nI 1, 44), (nI 2, 51), (nI 3, 58)]) := by
  refine ⟨⟨26, by decide +kernel⟩, fun x => ?_⟩
  by_cases h1 : x = nI 1
  · subst h1
    exact Or.inr ⟨by decide +kernel, by decide +kernel, _, rfl, by decide +kernel⟩
  by_cases h2 : x = nI 2
  · subst h2
    exact Or.inr ⟨by decide +kernel, by decide +kernel, _, rfl, by decide +kernel⟩
  by_cases h3 : x = nI 3
  · subst h3
    exact Or.inr ⟨by decide +kernel, by decide +kernel, _, rfl, by decide +kernel⟩
  refine Or.inl ⟨?_, ?_⟩
  · by_cases hlo : x.toInt < 1
    · exact Or.inl hlo
    · by_cases hhi : 3 < x.toInt
      · exact Or.inr hhi
      · exfalso
        have g1 := lv_neT h1 (show (nI 1).toInt = 1 by decide +kernel)
        have g2 := lv_neT h2 (show (nI 2).toInt = 2 by decide +kernel)
        have g3 := lv_neT h3 (show (nI 3).toInt = 3 by decide +kernel)
        omega
  · simp only [ai_sw, if_neg h1, if_neg h2, if_neg h3]
    decide +kernel
set_option maxRecDepth 100000 in
theorem ai_sw_GraphDeltasLaw_law_32 : ai_Fact 183 32 (.tableswitch 674 0 19 #[96, 135, 178, 221, 264, 297, 320, 354, 367, 390, 423, 456, 499, 522, 556, 579, 592, 615, 638, 651], 128, 706, 0, 0, .null, [(nI 0, 128), (nI 1, 167), (nI 2, 210), (nI 3, 253), (nI 4, 296), (nI 5, 329), (nI 6, 352), (nI 7, 386), (nI 8, 399), (nI 9, 422), (nI 10, 455), (nI 11, 488), (nI 12, 531), (nI 13, 554), (nI 14, 588), (nI 15, 611), (nI 16, 624), (nI 17, 647), (nI 18, 670), (nI 19, 683)]) := by
  refine ⟨⟨96, by decide +kernel⟩, fun x => ?_⟩
  by_cases h0 : x = nI 0
  · subst h0
    exact Or.inr ⟨by decide +kernel, by decide +kernel, _, rfl, by decide +kernel⟩
  by_cases h1 : x = nI 1
  · subst h1
    exact Or.inr ⟨by decide +kernel, by decide +kernel, _, rfl, by decide +kernel⟩
  by_cases h2 : x = nI 2
  · subst h2
    exact Or.inr ⟨by decide +kernel, by decide +kernel, _, rfl, by decide +kernel⟩
  by_cases h3 : x = nI 3
  · subst h3
    exact Or.inr ⟨by decide +kernel, by decide +kernel, _, rfl, by decide +kernel⟩
  by_cases h4 : x = nI 4
  · subst h4
    exact Or.inr ⟨by decide +kernel, by decide +kernel, _, rfl, by decide +kernel⟩
  by_cases h5 : x = nI 5
  · subst h5
    exact Or.inr ⟨by decide +kernel, by decide +kernel, _, rfl, by decide +kernel⟩
  by_cases h6 : x = nI 6
  · subst h6
    exact Or.inr ⟨by decide +kernel, by decide +kernel, _, rfl, by decide +kernel⟩
  by_cases h7 : x = nI 7
  · subst h7
    exact Or.inr ⟨by decide +kernel, by decide +kernel, _, rfl, by decide +kernel⟩
  by_cases h8 : x = nI 8
  · subst h8
    exact Or.inr ⟨by decide +kernel, by decide +kernel, _, rfl, by decide +kernel⟩
  by_cases h9 : x = nI 9
  · subst h9
    exact Or.inr ⟨by decide +kernel, by decide +kernel, _, rfl, by decide +kernel⟩
  by_cases h10 : x = nI 10
  · subst h10
    exact Or.inr ⟨by decide +kernel, by decide +kernel, _, rfl, by decide +kernel⟩
  by_cases h11 : x = nI 11
  · subst h11
    exact Or.inr ⟨by decide +kernel, by decide +kernel, _, rfl, by decide +kernel⟩
  by_cases h12 : x = nI 12
  · subst h12
    exact Or.inr ⟨by decide +kernel, by decide +kernel, _, rfl, by decide +kernel⟩
  by_cases h13 : x = nI 13
  · subst h13
    exact Or.inr ⟨by decide +kernel, by decide +kernel, _, rfl, by decide +kernel⟩
  by_cases h14 : x = nI 14
  · subst h14
    exact Or.inr ⟨by decide +kernel, by decide +kernel, _, rfl, by decide +kernel⟩
  by_cases h15 : x = nI 15
  · subst h15
    exact Or.inr ⟨by decide +kernel, by decide +kernel, _, rfl, by decide +kernel⟩
  by_cases h16 : x = nI 16
  · subst h16
    exact Or.inr ⟨by decide +kernel, by decide +kernel, _, rfl, by decide +kernel⟩
  by_cases h17 : x = nI 17
  · subst h17
    exact Or.inr ⟨by decide +kernel, by decide +kernel, _, rfl, by decide +kernel⟩
  by_cases h18 : x = nI 18
  · subst h18
    exact Or.inr ⟨by decide +kernel, by decide +kernel, _, rfl, by decide +kernel⟩
  by_cases h19 : x = nI 19
  · subst h19
    exact Or.inr ⟨by decide +kernel, by decide +kernel, _, rfl, by decide +kernel⟩
  refine Or.inl ⟨?_, ?_⟩
  · by_cases hlo : x.toInt < 0
    · exact Or.inl hlo
    · by_cases hhi : 19 < x.toInt
      · exact Or.inr hhi
      · exfalso
        have g0 := lv_neT h0 (show (nI 0).toInt = 0 by decide +kernel)
        have g1 := lv_neT h1 (show (nI 1).toInt = 1 by decide +kernel)
        have g2 := lv_neT h2 (show (nI 2).toInt = 2 by decide +kernel)
        have g3 := lv_neT h3 (show (nI 3).toInt = 3 by decide +kernel)
        have g4 := lv_neT h4 (show (nI 4).toInt = 4 by decide +kernel)
        have g5 := lv_neT h5 (show (nI 5).toInt = 5 by decide +kernel)
        have g6 := lv_neT h6 (show (nI 6).toInt = 6 by decide +kernel)
        have g7 := lv_neT h7 (show (nI 7).toInt = 7 by decide +kernel)
        have g8 := lv_neT h8 (show (nI 8).toInt = 8 by decide +kernel)
        have g9 := lv_neT h9 (show (nI 9).toInt = 9 by decide +kernel)
        have g10 := lv_neT h10 (show (nI 10).toInt = 10 by decide +kernel)
        have g11 := lv_neT h11 (show (nI 11).toInt = 11 by decide +kernel)
        have g12 := lv_neT h12 (show (nI 12).toInt = 12 by decide +kernel)
        have g13 := lv_neT h13 (show (nI 13).toInt = 13 by decide +kernel)
        have g14 := lv_neT h14 (show (nI 14).toInt = 14 by decide +kernel)
        have g15 := lv_neT h15 (show (nI 15).toInt = 15 by decide +kernel)
        have g16 := lv_neT h16 (show (nI 16).toInt = 16 by decide +kernel)
        have g17 := lv_neT h17 (show (nI 17).toInt = 17 by decide +kernel)
        have g18 := lv_neT h18 (show (nI 18).toInt = 18 by decide +kernel)
        have g19 := lv_neT h19 (show (nI 19).toInt = 19 by decide +kernel)
        omega
  · simp only [ai_sw, if_neg h0, if_neg h1, if_neg h2, if_neg h3, if_neg h4, if_neg h5, if_neg h6, if_neg h7, if_neg h8, if_neg h9, if_neg h10, if_neg h11, if_neg h12, if_neg h13, if_neg h14, if_neg h15, if_neg h16, if_neg h17, if_neg h18, if_neg h19]
    decide +kernel
set_option maxRecDepth 100000 in
theorem ai_f0 {pc : Nat} {I : ai_I} (h : ai_find kGraphDeltas_init pc = some I) : ai_Fact 0 pc I := ai_fact_of (M := 0) (by decide +kernel) (by decide +kernel) (fun e he => absurd he (by rw [show kGraphDeltas_init.filter (fun e => ai_sws e.2.1) = [] from rfl]; exact List.not_mem_nil)) h
set_option maxRecDepth 100000 in
theorem ai_f1 {pc : Nat} {I : ai_I} (h : ai_find kGraphDeltas_apply pc = some I) : ai_Fact 1 pc I := ai_fact_of (M := 1) (by decide +kernel) (by decide +kernel) (fun e he => absurd he (by rw [show kGraphDeltas_apply.filter (fun e => ai_sws e.2.1) = [] from rfl]; exact List.not_mem_nil)) h
set_option maxRecDepth 100000 in
theorem ai_f2 {pc : Nat} {I : ai_I} (h : ai_find kGraphDeltas_byteAt pc = some I) : ai_Fact 2 pc I := ai_fact_of (M := 2) (by decide +kernel) (by decide +kernel) (fun e he => absurd he (by rw [show kGraphDeltas_byteAt.filter (fun e => ai_sws e.2.1) = [] from rfl]; exact List.not_mem_nil)) h
set_option maxRecDepth 100000 in
theorem ai_f3 {pc : Nat} {I : ai_I} (h : ai_find kGraphDeltas_conflict pc = some I) : ai_Fact 3 pc I := ai_fact_of (M := 3) (by decide +kernel) (by decide +kernel) (fun e he => absurd he (by rw [show kGraphDeltas_conflict.filter (fun e => ai_sws e.2.1) = [] from rfl]; exact List.not_mem_nil)) h
set_option maxRecDepth 100000 in
theorem ai_f4 {pc : Nat} {I : ai_I} (h : ai_find kGraphDeltas_cut pc = some I) : ai_Fact 4 pc I := ai_fact_of (M := 4) (by decide +kernel) (by decide +kernel) (fun e he => absurd he (by rw [show kGraphDeltas_cut.filter (fun e => ai_sws e.2.1) = [] from rfl]; exact List.not_mem_nil)) h
set_option maxRecDepth 100000 in
theorem ai_f5 {pc : Nat} {I : ai_I} (h : ai_find kGraphDeltas_decode pc = some I) : ai_Fact 5 pc I := ai_fact_of (M := 5) (by decide +kernel) (by decide +kernel) (fun e he => absurd he (by rw [show kGraphDeltas_decode.filter (fun e => ai_sws e.2.1) = [] from rfl]; exact List.not_mem_nil)) h
set_option maxRecDepth 100000 in
theorem ai_f6 {pc : Nat} {I : ai_I} (h : ai_find kGraphDeltas_diff pc = some I) : ai_Fact 6 pc I := ai_fact_of (M := 6) (by decide +kernel) (by decide +kernel) (fun e he => absurd he (by rw [show kGraphDeltas_diff.filter (fun e => ai_sws e.2.1) = [] from rfl]; exact List.not_mem_nil)) h
set_option maxRecDepth 100000 in
theorem ai_f7 {pc : Nat} {I : ai_I} (h : ai_find kGraphDeltas_encode pc = some I) : ai_Fact 7 pc I := ai_fact_of (M := 7) (by decide +kernel) (by decide +kernel) (fun e he => absurd he (by rw [show kGraphDeltas_encode.filter (fun e => ai_sws e.2.1) = [] from rfl]; exact List.not_mem_nil)) h
set_option maxRecDepth 100000 in
theorem ai_f8 {pc : Nat} {I : ai_I} (h : ai_find kGraphDeltas_feed pc = some I) : ai_Fact 8 pc I := ai_fact_of (M := 8) (by decide +kernel) (by decide +kernel) (fun e he => absurd he (by rw [show kGraphDeltas_feed.filter (fun e => ai_sws e.2.1) = [] from rfl]; exact List.not_mem_nil)) h
set_option maxRecDepth 100000 in
theorem ai_f9 {pc : Nat} {I : ai_I} (h : ai_find kGraphDeltas_insert pc = some I) : ai_Fact 9 pc I := ai_fact_of (M := 9) (by decide +kernel) (by decide +kernel) (fun e he => absurd he (by rw [show kGraphDeltas_insert.filter (fun e => ai_sws e.2.1) = [] from rfl]; exact List.not_mem_nil)) h
set_option maxRecDepth 100000 in
theorem ai_f10 {pc : Nat} {I : ai_I} (h : ai_find kGraphDeltas_isVersion pc = some I) : ai_Fact 10 pc I := ai_fact_of (M := 10) (by decide +kernel) (by decide +kernel) (fun e he => absurd he (by rw [show kGraphDeltas_isVersion.filter (fun e => ai_sws e.2.1) = [] from rfl]; exact List.not_mem_nil)) h
set_option maxRecDepth 100000 in
theorem ai_f11 {pc : Nat} {I : ai_I} (h : ai_find kGraphDeltas_kind pc = some I) : ai_Fact 11 pc I := ai_fact_of (M := 11) (by decide +kernel) (by decide +kernel) (fun e he => absurd he (by rw [show kGraphDeltas_kind.filter (fun e => ai_sws e.2.1) = [] from rfl]; exact List.not_mem_nil)) h
set_option maxRecDepth 100000 in
theorem ai_f12 {pc : Nat} {I : ai_I} (h : ai_find kGraphDeltas_link pc = some I) : ai_Fact 12 pc I := ai_fact_of (M := 12) (by decide +kernel) (by decide +kernel) (fun e he => absurd he (by rw [show kGraphDeltas_link.filter (fun e => ai_sws e.2.1) = [] from rfl]; exact List.not_mem_nil)) h
set_option maxRecDepth 100000 in
theorem ai_f13 {pc : Nat} {I : ai_I} (h : ai_find kGraphDeltas_merge pc = some I) : ai_Fact 13 pc I := ai_fact_of (M := 13) (by decide +kernel) (by decide +kernel) (fun e he => absurd he (by rw [show kGraphDeltas_merge.filter (fun e => ai_sws e.2.1) = [] from rfl]; exact List.not_mem_nil)) h
set_option maxRecDepth 100000 in
theorem ai_f14 {pc : Nat} {I : ai_I} (h : ai_find kGraphDeltas_node pc = some I) : ai_Fact 14 pc I := ai_fact_of (M := 14) (by decide +kernel) (by decide +kernel) (fun e he => absurd he (by rw [show kGraphDeltas_node.filter (fun e => ai_sws e.2.1) = [] from rfl]; exact List.not_mem_nil)) h
set_option maxRecDepth 100000 in
theorem ai_f15 {pc : Nat} {I : ai_I} (h : ai_find kGraphDeltas_operation pc = some I) : ai_Fact 15 pc I := ai_fact_of (M := 15) (by decide +kernel) (by decide +kernel) (fun e he => absurd he (by rw [show kGraphDeltas_operation.filter (fun e => ai_sws e.2.1) = [] from rfl]; exact List.not_mem_nil)) h
set_option maxRecDepth 100000 in
theorem ai_f16 {pc : Nat} {I : ai_I} (h : ai_find kGraphDeltas_put pc = some I) : ai_Fact 16 pc I := ai_fact_of (M := 16) (by decide +kernel) (by decide +kernel) (fun e he => absurd he (by rw [show kGraphDeltas_put.filter (fun e => ai_sws e.2.1) = [] from rfl]; exact List.not_mem_nil)) h
set_option maxRecDepth 100000 in
theorem ai_f17 {pc : Nat} {I : ai_I} (h : ai_find kGraphDeltas_remove pc = some I) : ai_Fact 17 pc I := ai_fact_of (M := 17) (by decide +kernel) (by decide +kernel) (fun e he => absurd he (by rw [show kGraphDeltas_remove.filter (fun e => ai_sws e.2.1) = [] from rfl]; exact List.not_mem_nil)) h
set_option maxRecDepth 100000 in
theorem ai_f18 {pc : Nat} {I : ai_I} (h : ai_find kGraphDeltas_restore pc = some I) : ai_Fact 18 pc I := ai_fact_of (M := 18) (by decide +kernel) (by decide +kernel) (fun e he => absurd he (by rw [show kGraphDeltas_restore.filter (fun e => ai_sws e.2.1) = [] from rfl]; exact List.not_mem_nil)) h
set_option maxRecDepth 100000 in
theorem ai_f19 {pc : Nat} {I : ai_I} (h : ai_find kGraphDeltas_same pc = some I) : ai_Fact 19 pc I := ai_fact_of (M := 19) (by decide +kernel) (by decide +kernel) (fun e he => absurd he (by rw [show kGraphDeltas_same.filter (fun e => ai_sws e.2.1) = [] from rfl]; exact List.not_mem_nil)) h
set_option maxRecDepth 100000 in
theorem ai_f20 {pc : Nat} {I : ai_I} (h : ai_find kGraphDeltas_snapshot pc = some I) : ai_Fact 20 pc I := ai_fact_of (M := 20) (by decide +kernel) (by decide +kernel) (fun e he => absurd he (by rw [show kGraphDeltas_snapshot.filter (fun e => ai_sws e.2.1) = [] from rfl]; exact List.not_mem_nil)) h
set_option maxRecDepth 100000 in
theorem ai_f21 {pc : Nat} {I : ai_I} (h : ai_find kGraphDeltas_value pc = some I) : ai_Fact 21 pc I := ai_fact_of (M := 21) (by decide +kernel) (by decide +kernel) (by rw [show kGraphDeltas_value.filter (fun e => ai_sws e.2.1) = [(48, (.lookupswitch 54 #[(1, 28), (2, 39)], 76, 102, 0, 0, .null, [(nI 1, 76), (nI 2, 87)]))] from rfl]; exact List.forall_mem_cons.mpr ⟨ai_sw_GraphDeltas_value_48, fun _ h => absurd h List.not_mem_nil⟩) h
set_option maxRecDepth 100000 in
theorem ai_f22 {pc : Nat} {I : ai_I} (h : ai_find kDelta_init pc = some I) : ai_Fact 22 pc I := ai_fact_of (M := 22) (by decide +kernel) (by decide +kernel) (fun e he => absurd he (by rw [show kDelta_init.filter (fun e => ai_sws e.2.1) = [] from rfl]; exact List.not_mem_nil)) h
set_option maxRecDepth 100000 in
theorem ai_f23 {pc : Nat} {I : ai_I} (h : ai_find kDelta_add pc = some I) : ai_Fact 23 pc I := ai_fact_of (M := 23) (by decide +kernel) (by decide +kernel) (fun e he => absurd he (by rw [show kDelta_add.filter (fun e => ai_sws e.2.1) = [] from rfl]; exact List.not_mem_nil)) h
set_option maxRecDepth 100000 in
theorem ai_f24 {pc : Nat} {I : ai_I} (h : ai_find kDelta_addCreate pc = some I) : ai_Fact 24 pc I := ai_fact_of (M := 24) (by decide +kernel) (by decide +kernel) (fun e he => absurd he (by rw [show kDelta_addCreate.filter (fun e => ai_sws e.2.1) = [] from rfl]; exact List.not_mem_nil)) h
set_option maxRecDepth 100000 in
theorem ai_f25 {pc : Nat} {I : ai_I} (h : ai_find kDelta_addFrom pc = some I) : ai_Fact 25 pc I := ai_fact_of (M := 25) (by decide +kernel) (by decide +kernel) (fun e he => absurd he (by rw [show kDelta_addFrom.filter (fun e => ai_sws e.2.1) = [] from rfl]; exact List.not_mem_nil)) h
set_option maxRecDepth 100000 in
theorem ai_f26 {pc : Nat} {I : ai_I} (h : ai_find kDelta_addInserted pc = some I) : ai_Fact 26 pc I := ai_fact_of (M := 26) (by decide +kernel) (by decide +kernel) (fun e he => absurd he (by rw [show kDelta_addInserted.filter (fun e => ai_sws e.2.1) = [] from rfl]; exact List.not_mem_nil)) h
set_option maxRecDepth 100000 in
theorem ai_f27 {pc : Nat} {I : ai_I} (h : ai_find kDelta_addSet pc = some I) : ai_Fact 27 pc I := ai_fact_of (M := 27) (by decide +kernel) (by decide +kernel) (fun e he => absurd he (by rw [show kDelta_addSet.filter (fun e => ai_sws e.2.1) = [] from rfl]; exact List.not_mem_nil)) h
set_option maxRecDepth 100000 in
theorem ai_f28 {pc : Nat} {I : ai_I} (h : ai_find kDelta_addSplice pc = some I) : ai_Fact 28 pc I := ai_fact_of (M := 28) (by decide +kernel) (by decide +kernel) (fun e he => absurd he (by rw [show kDelta_addSplice.filter (fun e => ai_sws e.2.1) = [] from rfl]; exact List.not_mem_nil)) h
set_option maxRecDepth 100000 in
theorem ai_f29 {pc : Nat} {I : ai_I} (h : ai_find kDelta_cell pc = some I) : ai_Fact 29 pc I := ai_fact_of (M := 29) (by decide +kernel) (by decide +kernel) (fun e he => absurd he (by rw [show kDelta_cell.filter (fun e => ai_sws e.2.1) = [] from rfl]; exact List.not_mem_nil)) h
set_option maxRecDepth 100000 in
theorem ai_f30 {pc : Nat} {I : ai_I} (h : ai_find kDelta_clear pc = some I) : ai_Fact 30 pc I := ai_fact_of (M := 30) (by decide +kernel) (by decide +kernel) (fun e he => absurd he (by rw [show kDelta_clear.filter (fun e => ai_sws e.2.1) = [] from rfl]; exact List.not_mem_nil)) h
set_option maxRecDepth 100000 in
theorem ai_f31 {pc : Nat} {I : ai_I} (h : ai_find kDelta_code pc = some I) : ai_Fact 31 pc I := ai_fact_of (M := 31) (by decide +kernel) (by decide +kernel) (fun e he => absurd he (by rw [show kDelta_code.filter (fun e => ai_sws e.2.1) = [] from rfl]; exact List.not_mem_nil)) h
set_option maxRecDepth 100000 in
theorem ai_f32 {pc : Nat} {I : ai_I} (h : ai_find kDelta_content pc = some I) : ai_Fact 32 pc I := ai_fact_of (M := 32) (by decide +kernel) (by decide +kernel) (fun e he => absurd he (by rw [show kDelta_content.filter (fun e => ai_sws e.2.1) = [] from rfl]; exact List.not_mem_nil)) h
set_option maxRecDepth 100000 in
theorem ai_f33 {pc : Nat} {I : ai_I} (h : ai_find kDelta_createdKind pc = some I) : ai_Fact 33 pc I := ai_fact_of (M := 33) (by decide +kernel) (by decide +kernel) (fun e he => absurd he (by rw [show kDelta_createdKind.filter (fun e => ai_sws e.2.1) = [] from rfl]; exact List.not_mem_nil)) h
set_option maxRecDepth 100000 in
theorem ai_f34 {pc : Nat} {I : ai_I} (h : ai_find kDelta_deletes pc = some I) : ai_Fact 34 pc I := ai_fact_of (M := 34) (by decide +kernel) (by decide +kernel) (fun e he => absurd he (by rw [show kDelta_deletes.filter (fun e => ai_sws e.2.1) = [] from rfl]; exact List.not_mem_nil)) h
set_option maxRecDepth 100000 in
theorem ai_f35 {pc : Nat} {I : ai_I} (h : ai_find kDelta_end pc = some I) : ai_Fact 35 pc I := ai_fact_of (M := 35) (by decide +kernel) (by decide +kernel) (fun e he => absurd he (by rw [show kDelta_end.filter (fun e => ai_sws e.2.1) = [] from rfl]; exact List.not_mem_nil)) h
set_option maxRecDepth 100000 in
theorem ai_f36 {pc : Nat} {I : ai_I} (h : ai_find kDelta_endsInOrder pc = some I) : ai_Fact 36 pc I := ai_fact_of (M := 36) (by decide +kernel) (by decide +kernel) (fun e he => absurd he (by rw [show kDelta_endsInOrder.filter (fun e => ai_sws e.2.1) = [] from rfl]; exact List.not_mem_nil)) h
set_option maxRecDepth 100000 in
theorem ai_f37 {pc : Nat} {I : ai_I} (h : ai_find kDelta_follows pc = some I) : ai_Fact 37 pc I := ai_fact_of (M := 37) (by decide +kernel) (by decide +kernel) (fun e he => absurd he (by rw [show kDelta_follows.filter (fun e => ai_sws e.2.1) = [] from rfl]; exact List.not_mem_nil)) h
set_option maxRecDepth 100000 in
theorem ai_f38 {pc : Nat} {I : ai_I} (h : ai_find kDelta_hasCell pc = some I) : ai_Fact 38 pc I := ai_fact_of (M := 38) (by decide +kernel) (by decide +kernel) (fun e he => absurd he (by rw [show kDelta_hasCell.filter (fun e => ai_sws e.2.1) = [] from rfl]; exact List.not_mem_nil)) h
set_option maxRecDepth 100000 in
theorem ai_f39 {pc : Nat} {I : ai_I} (h : ai_find kDelta_inserted pc = some I) : ai_Fact 39 pc I := ai_fact_of (M := 39) (by decide +kernel) (by decide +kernel) (fun e he => absurd he (by rw [show kDelta_inserted.filter (fun e => ai_sws e.2.1) = [] from rfl]; exact List.not_mem_nil)) h
set_option maxRecDepth 100000 in
theorem ai_f40 {pc : Nat} {I : ai_I} (h : ai_find kDelta_inserts pc = some I) : ai_Fact 40 pc I := ai_fact_of (M := 40) (by decide +kernel) (by decide +kernel) (fun e he => absurd he (by rw [show kDelta_inserts.filter (fun e => ai_sws e.2.1) = [] from rfl]; exact List.not_mem_nil)) h
set_option maxRecDepth 100000 in
theorem ai_f41 {pc : Nat} {I : ai_I} (h : ai_find kDelta_isOn pc = some I) : ai_Fact 41 pc I := ai_fact_of (M := 41) (by decide +kernel) (by decide +kernel) (fun e he => absurd he (by rw [show kDelta_isOn.filter (fun e => ai_sws e.2.1) = [] from rfl]; exact List.not_mem_nil)) h
set_option maxRecDepth 100000 in
theorem ai_f42 {pc : Nat} {I : ai_I} (h : ai_find kDelta_matches pc = some I) : ai_Fact 42 pc I := ai_fact_of (M := 42) (by decide +kernel) (by decide +kernel) (fun e he => absurd he (by rw [show kDelta_matches.filter (fun e => ai_sws e.2.1) = [] from rfl]; exact List.not_mem_nil)) h
set_option maxRecDepth 100000 in
theorem ai_f43 {pc : Nat} {I : ai_I} (h : ai_find kDelta_object pc = some I) : ai_Fact 43 pc I := ai_fact_of (M := 43) (by decide +kernel) (by decide +kernel) (fun e he => absurd he (by rw [show kDelta_object.filter (fun e => ai_sws e.2.1) = [] from rfl]; exact List.not_mem_nil)) h
set_option maxRecDepth 100000 in
theorem ai_f44 {pc : Nat} {I : ai_I} (h : ai_find kDelta_place pc = some I) : ai_Fact 44 pc I := ai_fact_of (M := 44) (by decide +kernel) (by decide +kernel) (fun e he => absurd he (by rw [show kDelta_place.filter (fun e => ai_sws e.2.1) = [] from rfl]; exact List.not_mem_nil)) h
set_option maxRecDepth 100000 in
theorem ai_f45 {pc : Nat} {I : ai_I} (h : ai_find kDelta_rank pc = some I) : ai_Fact 45 pc I := ai_fact_of (M := 45) (by decide +kernel) (by decide +kernel) (fun e he => absurd he (by rw [show kDelta_rank.filter (fun e => ai_sws e.2.1) = [] from rfl]; exact List.not_mem_nil)) h
set_option maxRecDepth 100000 in
theorem ai_f46 {pc : Nat} {I : ai_I} (h : ai_find kDelta_size pc = some I) : ai_Fact 46 pc I := ai_fact_of (M := 46) (by decide +kernel) (by decide +kernel) (fun e he => absurd he (by rw [show kDelta_size.filter (fun e => ai_sws e.2.1) = [] from rfl]; exact List.not_mem_nil)) h
set_option maxRecDepth 100000 in
theorem ai_f47 {pc : Nat} {I : ai_I} (h : ai_find kDelta_suitsItsCreate pc = some I) : ai_Fact 47 pc I := ai_fact_of (M := 47) (by decide +kernel) (by decide +kernel) (fun e he => absurd he (by rw [show kDelta_suitsItsCreate.filter (fun e => ai_sws e.2.1) = [] from rfl]; exact List.not_mem_nil)) h
set_option maxRecDepth 100000 in
theorem ai_f48 {pc : Nat} {I : ai_I} (h : ai_find kDelta_tag pc = some I) : ai_Fact 48 pc I := ai_fact_of (M := 48) (by decide +kernel) (by decide +kernel) (fun e he => absurd he (by rw [show kDelta_tag.filter (fun e => ai_sws e.2.1) = [] from rfl]; exact List.not_mem_nil)) h
set_option maxRecDepth 100000 in
theorem ai_f49 {pc : Nat} {I : ai_I} (h : ai_find kDelta_width pc = some I) : ai_Fact 49 pc I := ai_fact_of (M := 49) (by decide +kernel) (by decide +kernel) (by rw [show kDelta_width.filter (fun e => ai_sws e.2.1) = [(5, (.lookupswitch 31 #[(1, 27), (2, 29)], 32, 36, 0, 0, .null, [(nI 1, 32), (nI 2, 34)]))] from rfl]; exact List.forall_mem_cons.mpr ⟨ai_sw_Delta_width_5, fun _ h => absurd h List.not_mem_nil⟩) h
set_option maxRecDepth 100000 in
theorem ai_f50 {pc : Nat} {I : ai_I} (h : ai_find kDifference_init pc = some I) : ai_Fact 50 pc I := ai_fact_of (M := 50) (by decide +kernel) (by decide +kernel) (fun e he => absurd he (by rw [show kDifference_init.filter (fun e => ai_sws e.2.1) = [] from rfl]; exact List.not_mem_nil)) h
set_option maxRecDepth 100000 in
theorem ai_f51 {pc : Nat} {I : ai_I} (h : ai_find kDifference_addGap pc = some I) : ai_Fact 51 pc I := ai_fact_of (M := 51) (by decide +kernel) (by decide +kernel) (fun e he => absurd he (by rw [show kDifference_addGap.filter (fun e => ai_sws e.2.1) = [] from rfl]; exact List.not_mem_nil)) h
set_option maxRecDepth 100000 in
theorem ai_f52 {pc : Nat} {I : ai_I} (h : ai_find kDifference_addSets pc = some I) : ai_Fact 52 pc I := ai_fact_of (M := 52) (by decide +kernel) (by decide +kernel) (fun e he => absurd he (by rw [show kDifference_addSets.filter (fun e => ai_sws e.2.1) = [] from rfl]; exact List.not_mem_nil)) h
set_option maxRecDepth 100000 in
theorem ai_f53 {pc : Nat} {I : ai_I} (h : ai_find kDifference_addSplices pc = some I) : ai_Fact 53 pc I := ai_fact_of (M := 53) (by decide +kernel) (by decide +kernel) (fun e he => absurd he (by rw [show kDifference_addSplices.filter (fun e => ai_sws e.2.1) = [] from rfl]; exact List.not_mem_nil)) h
set_option maxRecDepth 100000 in
theorem ai_f54 {pc : Nat} {I : ai_I} (h : ai_find kDifference_countPairs pc = some I) : ai_Fact 54 pc I := ai_fact_of (M := 54) (by decide +kernel) (by decide +kernel) (fun e he => absurd he (by rw [show kDifference_countPairs.filter (fun e => ai_sws e.2.1) = [] from rfl]; exact List.not_mem_nil)) h
set_option maxRecDepth 100000 in
theorem ai_f55 {pc : Nat} {I : ai_I} (h : ai_find kDifference_find pc = some I) : ai_Fact 55 pc I := ai_fact_of (M := 55) (by decide +kernel) (by decide +kernel) (fun e he => absurd he (by rw [show kDifference_find.filter (fun e => ai_sws e.2.1) = [] from rfl]; exact List.not_mem_nil)) h
set_option maxRecDepth 100000 in
theorem ai_f56 {pc : Nat} {I : ai_I} (h : ai_find kDifference_mate pc = some I) : ai_Fact 56 pc I := ai_fact_of (M := 56) (by decide +kernel) (by decide +kernel) (fun e he => absurd he (by rw [show kDifference_mate.filter (fun e => ai_sws e.2.1) = [] from rfl]; exact List.not_mem_nil)) h
set_option maxRecDepth 100000 in
theorem ai_f57 {pc : Nat} {I : ai_I} (h : ai_find kDifference_mostFrom pc = some I) : ai_Fact 57 pc I := ai_fact_of (M := 57) (by decide +kernel) (by decide +kernel) (fun e he => absurd he (by rw [show kDifference_mostFrom.filter (fun e => ai_sws e.2.1) = [] from rfl]; exact List.not_mem_nil)) h
set_option maxRecDepth 100000 in
theorem ai_f58 {pc : Nat} {I : ai_I} (h : ai_find kDifference_takeRows pc = some I) : ai_Fact 58 pc I := ai_fact_of (M := 58) (by decide +kernel) (by decide +kernel) (fun e he => absurd he (by rw [show kDifference_takeRows.filter (fun e => ai_sws e.2.1) = [] from rfl]; exact List.not_mem_nil)) h
set_option maxRecDepth 100000 in
theorem ai_f59 {pc : Nat} {I : ai_I} (h : ai_find kDraft_init pc = some I) : ai_Fact 59 pc I := ai_fact_of (M := 59) (by decide +kernel) (by decide +kernel) (fun e he => absurd he (by rw [show kDraft_init.filter (fun e => ai_sws e.2.1) = [] from rfl]; exact List.not_mem_nil)) h
set_option maxRecDepth 100000 in
theorem ai_f60 {pc : Nat} {I : ai_I} (h : ai_find kDraft_add pc = some I) : ai_Fact 60 pc I := ai_fact_of (M := 60) (by decide +kernel) (by decide +kernel) (fun e he => absurd he (by rw [show kDraft_add.filter (fun e => ai_sws e.2.1) = [] from rfl]; exact List.not_mem_nil)) h
set_option maxRecDepth 100000 in
theorem ai_f61 {pc : Nat} {I : ai_I} (h : ai_find kDraft_at pc = some I) : ai_Fact 61 pc I := ai_fact_of (M := 61) (by decide +kernel) (by decide +kernel) (fun e he => absurd he (by rw [show kDraft_at.filter (fun e => ai_sws e.2.1) = [] from rfl]; exact List.not_mem_nil)) h
set_option maxRecDepth 100000 in
theorem ai_f62 {pc : Nat} {I : ai_I} (h : ai_find kDraft_isFull pc = some I) : ai_Fact 62 pc I := ai_fact_of (M := 62) (by decide +kernel) (by decide +kernel) (fun e he => absurd he (by rw [show kDraft_isFull.filter (fun e => ai_sws e.2.1) = [] from rfl]; exact List.not_mem_nil)) h
set_option maxRecDepth 100000 in
theorem ai_f63 {pc : Nat} {I : ai_I} (h : ai_find kDraft_shorten pc = some I) : ai_Fact 63 pc I := ai_fact_of (M := 63) (by decide +kernel) (by decide +kernel) (fun e he => absurd he (by rw [show kDraft_shorten.filter (fun e => ai_sws e.2.1) = [] from rfl]; exact List.not_mem_nil)) h
set_option maxRecDepth 100000 in
theorem ai_f64 {pc : Nat} {I : ai_I} (h : ai_find kDraft_size pc = some I) : ai_Fact 64 pc I := ai_fact_of (M := 64) (by decide +kernel) (by decide +kernel) (fun e he => absurd he (by rw [show kDraft_size.filter (fun e => ai_sws e.2.1) = [] from rfl]; exact List.not_mem_nil)) h
set_option maxRecDepth 100000 in
theorem ai_f65 {pc : Nat} {I : ai_I} (h : ai_find kDraft_sum pc = some I) : ai_Fact 65 pc I := ai_fact_of (M := 65) (by decide +kernel) (by decide +kernel) (fun e he => absurd he (by rw [show kDraft_sum.filter (fun e => ai_sws e.2.1) = [] from rfl]; exact List.not_mem_nil)) h
set_option maxRecDepth 100000 in
theorem ai_f66 {pc : Nat} {I : ai_I} (h : ai_find kDraft_write pc = some I) : ai_Fact 66 pc I := ai_fact_of (M := 66) (by decide +kernel) (by decide +kernel) (fun e he => absurd he (by rw [show kDraft_write.filter (fun e => ai_sws e.2.1) = [] from rfl]; exact List.not_mem_nil)) h
set_option maxRecDepth 100000 in
theorem ai_f67 {pc : Nat} {I : ai_I} (h : ai_find kDraft_writeContent pc = some I) : ai_Fact 67 pc I := ai_fact_of (M := 67) (by decide +kernel) (by decide +kernel) (fun e he => absurd he (by rw [show kDraft_writeContent.filter (fun e => ai_sws e.2.1) = [] from rfl]; exact List.not_mem_nil)) h
set_option maxRecDepth 100000 in
theorem ai_f68 {pc : Nat} {I : ai_I} (h : ai_find kDraft_writeSplice pc = some I) : ai_Fact 68 pc I := ai_fact_of (M := 68) (by decide +kernel) (by decide +kernel) (fun e he => absurd he (by rw [show kDraft_writeSplice.filter (fun e => ai_sws e.2.1) = [] from rfl]; exact List.not_mem_nil)) h
set_option maxRecDepth 100000 in
theorem ai_f69 {pc : Nat} {I : ai_I} (h : ai_find kDraft_writeVarint pc = some I) : ai_Fact 69 pc I := ai_fact_of (M := 69) (by decide +kernel) (by decide +kernel) (fun e he => absurd he (by rw [show kDraft_writeVarint.filter (fun e => ai_sws e.2.1) = [] from rfl]; exact List.not_mem_nil)) h
set_option maxRecDepth 100000 in
theorem ai_f70 {pc : Nat} {I : ai_I} (h : ai_find kGraph_init pc = some I) : ai_Fact 70 pc I := ai_fact_of (M := 70) (by decide +kernel) (by decide +kernel) (fun e he => absurd he (by rw [show kGraph_init.filter (fun e => ai_sws e.2.1) = [] from rfl]; exact List.not_mem_nil)) h
set_option maxRecDepth 100000 in
theorem ai_f71 {pc : Nat} {I : ai_I} (h : ai_find kGraph_admit pc = some I) : ai_Fact 71 pc I := ai_fact_of (M := 71) (by decide +kernel) (by decide +kernel) (fun e he => absurd he (by rw [show kGraph_admit.filter (fun e => ai_sws e.2.1) = [] from rfl]; exact List.not_mem_nil)) h
set_option maxRecDepth 100000 in
theorem ai_f72 {pc : Nat} {I : ai_I} (h : ai_find kGraph_append pc = some I) : ai_Fact 72 pc I := ai_fact_of (M := 72) (by decide +kernel) (by decide +kernel) (fun e he => absurd he (by rw [show kGraph_append.filter (fun e => ai_sws e.2.1) = [] from rfl]; exact List.not_mem_nil)) h
set_option maxRecDepth 100000 in
theorem ai_f73 {pc : Nat} {I : ai_I} (h : ai_find kGraph_become pc = some I) : ai_Fact 73 pc I := ai_fact_of (M := 73) (by decide +kernel) (by decide +kernel) (fun e he => absurd he (by rw [show kGraph_become.filter (fun e => ai_sws e.2.1) = [] from rfl]; exact List.not_mem_nil)) h
set_option maxRecDepth 100000 in
theorem ai_f74 {pc : Nat} {I : ai_I} (h : ai_find kGraph_closeItem pc = some I) : ai_Fact 74 pc I := ai_fact_of (M := 74) (by decide +kernel) (by decide +kernel) (fun e he => absurd he (by rw [show kGraph_closeItem.filter (fun e => ai_sws e.2.1) = [] from rfl]; exact List.not_mem_nil)) h
set_option maxRecDepth 100000 in
theorem ai_f75 {pc : Nat} {I : ai_I} (h : ai_find kGraph_content pc = some I) : ai_Fact 75 pc I := ai_fact_of (M := 75) (by decide +kernel) (by decide +kernel) (fun e he => absurd he (by rw [show kGraph_content.filter (fun e => ai_sws e.2.1) = [] from rfl]; exact List.not_mem_nil)) h
set_option maxRecDepth 100000 in
theorem ai_f76 {pc : Nat} {I : ai_I} (h : ai_find kGraph_dropUnreached pc = some I) : ai_Fact 76 pc I := ai_fact_of (M := 76) (by decide +kernel) (by decide +kernel) (fun e he => absurd he (by rw [show kGraph_dropUnreached.filter (fun e => ai_sws e.2.1) = [] from rfl]; exact List.not_mem_nil)) h
set_option maxRecDepth 100000 in
theorem ai_f77 {pc : Nat} {I : ai_I} (h : ai_find kGraph_empty pc = some I) : ai_Fact 77 pc I := ai_fact_of (M := 77) (by decide +kernel) (by decide +kernel) (fun e he => absurd he (by rw [show kGraph_empty.filter (fun e => ai_sws e.2.1) = [] from rfl]; exact List.not_mem_nil)) h
set_option maxRecDepth 100000 in
theorem ai_f78 {pc : Nat} {I : ai_I} (h : ai_find kGraph_fill pc = some I) : ai_Fact 78 pc I := ai_fact_of (M := 78) (by decide +kernel) (by decide +kernel) (fun e he => absurd he (by rw [show kGraph_fill.filter (fun e => ai_sws e.2.1) = [] from rfl]; exact List.not_mem_nil)) h
set_option maxRecDepth 100000 in
theorem ai_f79 {pc : Nat} {I : ai_I} (h : ai_find kGraph_form pc = some I) : ai_Fact 79 pc I := ai_fact_of (M := 79) (by decide +kernel) (by decide +kernel) (fun e he => absurd he (by rw [show kGraph_form.filter (fun e => ai_sws e.2.1) = [] from rfl]; exact List.not_mem_nil)) h
set_option maxRecDepth 100000 in
theorem ai_f80 {pc : Nat} {I : ai_I} (h : ai_find kGraph_has pc = some I) : ai_Fact 80 pc I := ai_fact_of (M := 80) (by decide +kernel) (by decide +kernel) (fun e he => absurd he (by rw [show kGraph_has.filter (fun e => ai_sws e.2.1) = [] from rfl]; exact List.not_mem_nil)) h
set_option maxRecDepth 100000 in
theorem ai_f81 {pc : Nat} {I : ai_I} (h : ai_find kGraph_hasItem pc = some I) : ai_Fact 81 pc I := ai_fact_of (M := 81) (by decide +kernel) (by decide +kernel) (fun e he => absurd he (by rw [show kGraph_hasItem.filter (fun e => ai_sws e.2.1) = [] from rfl]; exact List.not_mem_nil)) h
set_option maxRecDepth 100000 in
theorem ai_f82 {pc : Nat} {I : ai_I} (h : ai_find kGraph_hasSlot pc = some I) : ai_Fact 82 pc I := ai_fact_of (M := 82) (by decide +kernel) (by decide +kernel) (fun e he => absurd he (by rw [show kGraph_hasSlot.filter (fun e => ai_sws e.2.1) = [] from rfl]; exact List.not_mem_nil)) h
set_option maxRecDepth 100000 in
theorem ai_f83 {pc : Nat} {I : ai_I} (h : ai_find kGraph_isList pc = some I) : ai_Fact 83 pc I := ai_fact_of (M := 83) (by decide +kernel) (by decide +kernel) (fun e he => absurd he (by rw [show kGraph_isList.filter (fun e => ai_sws e.2.1) = [] from rfl]; exact List.not_mem_nil)) h
set_option maxRecDepth 100000 in
theorem ai_f84 {pc : Nat} {I : ai_I} (h : ai_find kGraph_item pc = some I) : ai_Fact 84 pc I := ai_fact_of (M := 84) (by decide +kernel) (by decide +kernel) (fun e he => absurd he (by rw [show kGraph_item.filter (fun e => ai_sws e.2.1) = [] from rfl]; exact List.not_mem_nil)) h
set_option maxRecDepth 100000 in
theorem ai_f85 {pc : Nat} {I : ai_I} (h : ai_find kGraph_length pc = some I) : ai_Fact 85 pc I := ai_fact_of (M := 85) (by decide +kernel) (by decide +kernel) (fun e he => absurd he (by rw [show kGraph_length.filter (fun e => ai_sws e.2.1) = [] from rfl]; exact List.not_mem_nil)) h
set_option maxRecDepth 100000 in
theorem ai_f86 {pc : Nat} {I : ai_I} (h : ai_find kGraph_matches pc = some I) : ai_Fact 86 pc I := ai_fact_of (M := 86) (by decide +kernel) (by decide +kernel) (fun e he => absurd he (by rw [show kGraph_matches.filter (fun e => ai_sws e.2.1) = [] from rfl]; exact List.not_mem_nil)) h
set_option maxRecDepth 100000 in
theorem ai_f87 {pc : Nat} {I : ai_I} (h : ai_find kGraph_openItem pc = some I) : ai_Fact 87 pc I := ai_fact_of (M := 87) (by decide +kernel) (by decide +kernel) (fun e he => absurd he (by rw [show kGraph_openItem.filter (fun e => ai_sws e.2.1) = [] from rfl]; exact List.not_mem_nil)) h
set_option maxRecDepth 100000 in
theorem ai_f88 {pc : Nat} {I : ai_I} (h : ai_find kGraph_reached pc = some I) : ai_Fact 88 pc I := ai_fact_of (M := 88) (by decide +kernel) (by decide +kernel) (fun e he => absurd he (by rw [show kGraph_reached.filter (fun e => ai_sws e.2.1) = [] from rfl]; exact List.not_mem_nil)) h
set_option maxRecDepth 100000 in
theorem ai_f89 {pc : Nat} {I : ai_I} (h : ai_find kGraph_referredFrom pc = some I) : ai_Fact 89 pc I := ai_fact_of (M := 89) (by decide +kernel) (by decide +kernel) (fun e he => absurd he (by rw [show kGraph_referredFrom.filter (fun e => ai_sws e.2.1) = [] from rfl]; exact List.not_mem_nil)) h
set_option maxRecDepth 100000 in
theorem ai_f90 {pc : Nat} {I : ai_I} (h : ai_find kGraph_rowsMatch pc = some I) : ai_Fact 90 pc I := ai_fact_of (M := 90) (by decide +kernel) (by decide +kernel) (fun e he => absurd he (by rw [show kGraph_rowsMatch.filter (fun e => ai_sws e.2.1) = [] from rfl]; exact List.not_mem_nil)) h
set_option maxRecDepth 100000 in
theorem ai_f91 {pc : Nat} {I : ai_I} (h : ai_find kGraph_tag pc = some I) : ai_Fact 91 pc I := ai_fact_of (M := 91) (by decide +kernel) (by decide +kernel) (fun e he => absurd he (by rw [show kGraph_tag.filter (fun e => ai_sws e.2.1) = [] from rfl]; exact List.not_mem_nil)) h
set_option maxRecDepth 100000 in
theorem ai_f92 {pc : Nat} {I : ai_I} (h : ai_find kMerger_init pc = some I) : ai_Fact 92 pc I := ai_fact_of (M := 92) (by decide +kernel) (by decide +kernel) (fun e he => absurd he (by rw [show kMerger_init.filter (fun e => ai_sws e.2.1) = [] from rfl]; exact List.not_mem_nil)) h
set_option maxRecDepth 100000 in
theorem ai_f93 {pc : Nat} {I : ai_I} (h : ai_find kMerger_clash pc = some I) : ai_Fact 93 pc I := ai_fact_of (M := 93) (by decide +kernel) (by decide +kernel) (fun e he => absurd he (by rw [show kMerger_clash.filter (fun e => ai_sws e.2.1) = [] from rfl]; exact List.not_mem_nil)) h
set_option maxRecDepth 100000 in
theorem ai_f94 {pc : Nat} {I : ai_I} (h : ai_find kMerger_conflictAt pc = some I) : ai_Fact 94 pc I := ai_fact_of (M := 94) (by decide +kernel) (by decide +kernel) (fun e he => absurd he (by rw [show kMerger_conflictAt.filter (fun e => ai_sws e.2.1) = [] from rfl]; exact List.not_mem_nil)) h
set_option maxRecDepth 100000 in
theorem ai_f95 {pc : Nat} {I : ai_I} (h : ai_find kMerger_conflictCount pc = some I) : ai_Fact 95 pc I := ai_fact_of (M := 95) (by decide +kernel) (by decide +kernel) (fun e he => absurd he (by rw [show kMerger_conflictCount.filter (fun e => ai_sws e.2.1) = [] from rfl]; exact List.not_mem_nil)) h
set_option maxRecDepth 100000 in
theorem ai_f96 {pc : Nat} {I : ai_I} (h : ai_find kMerger_findConflicts pc = some I) : ai_Fact 96 pc I := ai_fact_of (M := 96) (by decide +kernel) (by decide +kernel) (fun e he => absurd he (by rw [show kMerger_findConflicts.filter (fun e => ai_sws e.2.1) = [] from rfl]; exact List.not_mem_nil)) h
set_option maxRecDepth 100000 in
theorem ai_f97 {pc : Nat} {I : ai_I} (h : ai_find kMerger_join pc = some I) : ai_Fact 97 pc I := ai_fact_of (M := 97) (by decide +kernel) (by decide +kernel) (fun e he => absurd he (by rw [show kMerger_join.filter (fun e => ai_sws e.2.1) = [] from rfl]; exact List.not_mem_nil)) h
set_option maxRecDepth 100000 in
theorem ai_f98 {pc : Nat} {I : ai_I} (h : ai_find kMerger_note pc = some I) : ai_Fact 98 pc I := ai_fact_of (M := 98) (by decide +kernel) (by decide +kernel) (fun e he => absurd he (by rw [show kMerger_note.filter (fun e => ai_sws e.2.1) = [] from rfl]; exact List.not_mem_nil)) h
set_option maxRecDepth 100000 in
theorem ai_f99 {pc : Nat} {I : ai_I} (h : ai_find kPatch_build pc = some I) : ai_Fact 99 pc I := ai_fact_of (M := 99) (by decide +kernel) (by decide +kernel) (fun e he => absurd he (by rw [show kPatch_build.filter (fun e => ai_sws e.2.1) = [] from rfl]; exact List.not_mem_nil)) h
set_option maxRecDepth 100000 in
theorem ai_f100 {pc : Nat} {I : ai_I} (h : ai_find kPatch_buildList pc = some I) : ai_Fact 100 pc I := ai_fact_of (M := 100) (by decide +kernel) (by decide +kernel) (fun e he => absurd he (by rw [show kPatch_buildList.filter (fun e => ai_sws e.2.1) = [] from rfl]; exact List.not_mem_nil)) h
set_option maxRecDepth 100000 in
theorem ai_f101 {pc : Nat} {I : ai_I} (h : ai_find kPatch_contentFits pc = some I) : ai_Fact 101 pc I := ai_fact_of (M := 101) (by decide +kernel) (by decide +kernel) (fun e he => absurd he (by rw [show kPatch_contentFits.filter (fun e => ai_sws e.2.1) = [] from rfl]; exact List.not_mem_nil)) h
set_option maxRecDepth 100000 in
theorem ai_f102 {pc : Nat} {I : ai_I} (h : ai_find kPatch_copyItems pc = some I) : ai_Fact 102 pc I := ai_fact_of (M := 102) (by decide +kernel) (by decide +kernel) (fun e he => absurd he (by rw [show kPatch_copyItems.filter (fun e => ai_sws e.2.1) = [] from rfl]; exact List.not_mem_nil)) h
set_option maxRecDepth 100000 in
theorem ai_f103 {pc : Nat} {I : ai_I} (h : ai_find kPatch_fits pc = some I) : ai_Fact 103 pc I := ai_fact_of (M := 103) (by decide +kernel) (by decide +kernel) (fun e he => absurd he (by rw [show kPatch_fits.filter (fun e => ai_sws e.2.1) = [] from rfl]; exact List.not_mem_nil)) h
set_option maxRecDepth 100000 in
theorem ai_f104 {pc : Nat} {I : ai_I} (h : ai_find kPatch_formThen pc = some I) : ai_Fact 104 pc I := ai_fact_of (M := 104) (by decide +kernel) (by decide +kernel) (fun e he => absurd he (by rw [show kPatch_formThen.filter (fun e => ai_sws e.2.1) = [] from rfl]; exact List.not_mem_nil)) h
set_option maxRecDepth 100000 in
theorem ai_f105 {pc : Nat} {I : ai_I} (h : ai_find kPatch_growth pc = some I) : ai_Fact 105 pc I := ai_fact_of (M := 105) (by decide +kernel) (by decide +kernel) (fun e he => absurd he (by rw [show kPatch_growth.filter (fun e => ai_sws e.2.1) = [] from rfl]; exact List.not_mem_nil)) h
set_option maxRecDepth 100000 in
theorem ai_f106 {pc : Nat} {I : ai_I} (h : ai_find kPatch_operationFits pc = some I) : ai_Fact 106 pc I := ai_fact_of (M := 106) (by decide +kernel) (by decide +kernel) (by rw [show kPatch_operationFits.filter (fun e => ai_sws e.2.1) = [(12, (.lookupswitch 80 #[(1, 28), (2, 55)], 40, 92, 0, 0, .null, [(nI 1, 40), (nI 2, 67)]))] from rfl]; exact List.forall_mem_cons.mpr ⟨ai_sw_Patch_operationFits_12, fun _ h => absurd h List.not_mem_nil⟩) h
set_option maxRecDepth 100000 in
theorem ai_f107 {pc : Nat} {I : ai_I} (h : ai_find kReader_init pc = some I) : ai_Fact 107 pc I := ai_fact_of (M := 107) (by decide +kernel) (by decide +kernel) (fun e he => absurd he (by rw [show kReader_init.filter (fun e => ai_sws e.2.1) = [] from rfl]; exact List.not_mem_nil)) h
set_option maxRecDepth 100000 in
theorem ai_f108 {pc : Nat} {I : ai_I} (h : ai_find kReader_endsRightly pc = some I) : ai_Fact 108 pc I := ai_fact_of (M := 108) (by decide +kernel) (by decide +kernel) (fun e he => absurd he (by rw [show kReader_endsRightly.filter (fun e => ai_sws e.2.1) = [] from rfl]; exact List.not_mem_nil)) h
set_option maxRecDepth 100000 in
theorem ai_f109 {pc : Nat} {I : ai_I} (h : ai_find kReader_next pc = some I) : ai_Fact 109 pc I := ai_fact_of (M := 109) (by decide +kernel) (by decide +kernel) (fun e he => absurd he (by rw [show kReader_next.filter (fun e => ai_sws e.2.1) = [] from rfl]; exact List.not_mem_nil)) h
set_option maxRecDepth 100000 in
theorem ai_f110 {pc : Nat} {I : ai_I} (h : ai_find kReader_read pc = some I) : ai_Fact 110 pc I := ai_fact_of (M := 110) (by decide +kernel) (by decide +kernel) (fun e he => absurd he (by rw [show kReader_read.filter (fun e => ai_sws e.2.1) = [] from rfl]; exact List.not_mem_nil)) h
set_option maxRecDepth 100000 in
theorem ai_f111 {pc : Nat} {I : ai_I} (h : ai_find kReader_readCreate pc = some I) : ai_Fact 111 pc I := ai_fact_of (M := 111) (by decide +kernel) (by decide +kernel) (fun e he => absurd he (by rw [show kReader_readCreate.filter (fun e => ai_sws e.2.1) = [] from rfl]; exact List.not_mem_nil)) h
set_option maxRecDepth 100000 in
theorem ai_f112 {pc : Nat} {I : ai_I} (h : ai_find kReader_readOperation pc = some I) : ai_Fact 112 pc I := ai_fact_of (M := 112) (by decide +kernel) (by decide +kernel) (by rw [show kReader_readOperation.filter (fun e => ai_sws e.2.1) = [(18, (.tableswitch 47 1 3 #[26, 33, 40], 44, 65, 0, 0, .null, [(nI 1, 44), (nI 2, 51), (nI 3, 58)]))] from rfl]; exact List.forall_mem_cons.mpr ⟨ai_sw_Reader_readOperation_18, fun _ h => absurd h List.not_mem_nil⟩) h
set_option maxRecDepth 100000 in
theorem ai_f113 {pc : Nat} {I : ai_I} (h : ai_find kReader_readReference pc = some I) : ai_Fact 113 pc I := ai_fact_of (M := 113) (by decide +kernel) (by decide +kernel) (fun e he => absurd he (by rw [show kReader_readReference.filter (fun e => ai_sws e.2.1) = [] from rfl]; exact List.not_mem_nil)) h
set_option maxRecDepth 100000 in
theorem ai_f114 {pc : Nat} {I : ai_I} (h : ai_find kReader_readSet pc = some I) : ai_Fact 114 pc I := ai_fact_of (M := 114) (by decide +kernel) (by decide +kernel) (fun e he => absurd he (by rw [show kReader_readSet.filter (fun e => ai_sws e.2.1) = [] from rfl]; exact List.not_mem_nil)) h
set_option maxRecDepth 100000 in
theorem ai_f115 {pc : Nat} {I : ai_I} (h : ai_find kReader_readSplice pc = some I) : ai_Fact 115 pc I := ai_fact_of (M := 115) (by decide +kernel) (by decide +kernel) (fun e he => absurd he (by rw [show kReader_readSplice.filter (fun e => ai_sws e.2.1) = [] from rfl]; exact List.not_mem_nil)) h
set_option maxRecDepth 100000 in
theorem ai_f116 {pc : Nat} {I : ai_I} (h : ai_find kReader_readVarint pc = some I) : ai_Fact 116 pc I := ai_fact_of (M := 116) (by decide +kernel) (by decide +kernel) (fun e he => absurd he (by rw [show kReader_readVarint.filter (fun e => ai_sws e.2.1) = [] from rfl]; exact List.not_mem_nil)) h
set_option maxRecDepth 100000 in
theorem ai_f117 {pc : Nat} {I : ai_I} (h : ai_find kReader_signed pc = some I) : ai_Fact 117 pc I := ai_fact_of (M := 117) (by decide +kernel) (by decide +kernel) (fun e he => absurd he (by rw [show kReader_signed.filter (fun e => ai_sws e.2.1) = [] from rfl]; exact List.not_mem_nil)) h
set_option maxRecDepth 100000 in
theorem ai_f118 {pc : Nat} {I : ai_I} (h : ai_find kGraphDeltasModel_init pc = some I) : ai_Fact 118 pc I := ai_fact_of (M := 118) (by decide +kernel) (by decide +kernel) (fun e he => absurd he (by rw [show kGraphDeltasModel_init.filter (fun e => ai_sws e.2.1) = [] from rfl]; exact List.not_mem_nil)) h
set_option maxRecDepth 100000 in
theorem ai_f119 {pc : Nat} {I : ai_I} (h : ai_find kGraphDeltasModel_add pc = some I) : ai_Fact 119 pc I := ai_fact_of (M := 119) (by decide +kernel) (by decide +kernel) (fun e he => absurd he (by rw [show kGraphDeltasModel_add.filter (fun e => ai_sws e.2.1) = [] from rfl]; exact List.not_mem_nil)) h
set_option maxRecDepth 100000 in
theorem ai_f120 {pc : Nat} {I : ai_I} (h : ai_find kGraphDeltasModel_addInt pc = some I) : ai_Fact 120 pc I := ai_fact_of (M := 120) (by decide +kernel) (by decide +kernel) (fun e he => absurd he (by rw [show kGraphDeltasModel_addInt.filter (fun e => ai_sws e.2.1) = [] from rfl]; exact List.not_mem_nil)) h
set_option maxRecDepth 100000 in
theorem ai_f121 {pc : Nat} {I : ai_I} (h : ai_find kGraphDeltasModel_alike pc = some I) : ai_Fact 121 pc I := ai_fact_of (M := 121) (by decide +kernel) (by decide +kernel) (fun e he => absurd he (by rw [show kGraphDeltasModel_alike.filter (fun e => ai_sws e.2.1) = [] from rfl]; exact List.not_mem_nil)) h
set_option maxRecDepth 100000 in
theorem ai_f122 {pc : Nat} {I : ai_I} (h : ai_find kGraphDeltasModel_apply pc = some I) : ai_Fact 122 pc I := ai_fact_of (M := 122) (by decide +kernel) (by decide +kernel) (fun e he => absurd he (by rw [show kGraphDeltasModel_apply.filter (fun e => ai_sws e.2.1) = [] from rfl]; exact List.not_mem_nil)) h
set_option maxRecDepth 100000 in
theorem ai_f123 {pc : Nat} {I : ai_I} (h : ai_find kGraphDeltasModel_available pc = some I) : ai_Fact 123 pc I := ai_fact_of (M := 123) (by decide +kernel) (by decide +kernel) (fun e he => absurd he (by rw [show kGraphDeltasModel_available.filter (fun e => ai_sws e.2.1) = [] from rfl]; exact List.not_mem_nil)) h
set_option maxRecDepth 100000 in
theorem ai_f124 {pc : Nat} {I : ai_I} (h : ai_find kGraphDeltasModel_byteAt pc = some I) : ai_Fact 124 pc I := ai_fact_of (M := 124) (by decide +kernel) (by decide +kernel) (fun e he => absurd he (by rw [show kGraphDeltasModel_byteAt.filter (fun e => ai_sws e.2.1) = [] from rfl]; exact List.not_mem_nil)) h
set_option maxRecDepth 100000 in
theorem ai_f125 {pc : Nat} {I : ai_I} (h : ai_find kGraphDeltasModel_clash pc = some I) : ai_Fact 125 pc I := ai_fact_of (M := 125) (by decide +kernel) (by decide +kernel) (fun e he => absurd he (by rw [show kGraphDeltasModel_clash.filter (fun e => ai_sws e.2.1) = [] from rfl]; exact List.not_mem_nil)) h
set_option maxRecDepth 100000 in
theorem ai_f126 {pc : Nat} {I : ai_I} (h : ai_find kGraphDeltasModel_clear pc = some I) : ai_Fact 126 pc I := ai_fact_of (M := 126) (by decide +kernel) (by decide +kernel) (fun e he => absurd he (by rw [show kGraphDeltasModel_clear.filter (fun e => ai_sws e.2.1) = [] from rfl]; exact List.not_mem_nil)) h
set_option maxRecDepth 100000 in
theorem ai_f127 {pc : Nat} {I : ai_I} (h : ai_find kGraphDeltasModel_conflict pc = some I) : ai_Fact 127 pc I := ai_fact_of (M := 127) (by decide +kernel) (by decide +kernel) (fun e he => absurd he (by rw [show kGraphDeltasModel_conflict.filter (fun e => ai_sws e.2.1) = [] from rfl]; exact List.not_mem_nil)) h
set_option maxRecDepth 100000 in
theorem ai_f128 {pc : Nat} {I : ai_I} (h : ai_find kGraphDeltasModel_copy pc = some I) : ai_Fact 128 pc I := ai_fact_of (M := 128) (by decide +kernel) (by decide +kernel) (fun e he => absurd he (by rw [show kGraphDeltasModel_copy.filter (fun e => ai_sws e.2.1) = [] from rfl]; exact List.not_mem_nil)) h
set_option maxRecDepth 100000 in
theorem ai_f129 {pc : Nat} {I : ai_I} (h : ai_find kGraphDeltasModel_creates pc = some I) : ai_Fact 129 pc I := ai_fact_of (M := 129) (by decide +kernel) (by decide +kernel) (fun e he => absurd he (by rw [show kGraphDeltasModel_creates.filter (fun e => ai_sws e.2.1) = [] from rfl]; exact List.not_mem_nil)) h
set_option maxRecDepth 100000 in
theorem ai_f130 {pc : Nat} {I : ai_I} (h : ai_find kGraphDeltasModel_cut pc = some I) : ai_Fact 130 pc I := ai_fact_of (M := 130) (by decide +kernel) (by decide +kernel) (fun e he => absurd he (by rw [show kGraphDeltasModel_cut.filter (fun e => ai_sws e.2.1) = [] from rfl]; exact List.not_mem_nil)) h
set_option maxRecDepth 100000 in
theorem ai_f131 {pc : Nat} {I : ai_I} (h : ai_find kGraphDeltasModel_decode pc = some I) : ai_Fact 131 pc I := ai_fact_of (M := 131) (by decide +kernel) (by decide +kernel) (fun e he => absurd he (by rw [show kGraphDeltasModel_decode.filter (fun e => ai_sws e.2.1) = [] from rfl]; exact List.not_mem_nil)) h
set_option maxRecDepth 100000 in
theorem ai_f132 {pc : Nat} {I : ai_I} (h : ai_find kGraphDeltasModel_diff pc = some I) : ai_Fact 132 pc I := ai_fact_of (M := 132) (by decide +kernel) (by decide +kernel) (fun e he => absurd he (by rw [show kGraphDeltasModel_diff.filter (fun e => ai_sws e.2.1) = [] from rfl]; exact List.not_mem_nil)) h
set_option maxRecDepth 100000 in
theorem ai_f133 {pc : Nat} {I : ai_I} (h : ai_find kGraphDeltasModel_difference pc = some I) : ai_Fact 133 pc I := ai_fact_of (M := 133) (by decide +kernel) (by decide +kernel) (fun e he => absurd he (by rw [show kGraphDeltasModel_difference.filter (fun e => ai_sws e.2.1) = [] from rfl]; exact List.not_mem_nil)) h
set_option maxRecDepth 100000 in
theorem ai_f134 {pc : Nat} {I : ai_I} (h : ai_find kGraphDeltasModel_empty pc = some I) : ai_Fact 134 pc I := ai_fact_of (M := 134) (by decide +kernel) (by decide +kernel) (fun e he => absurd he (by rw [show kGraphDeltasModel_empty.filter (fun e => ai_sws e.2.1) = [] from rfl]; exact List.not_mem_nil)) h
set_option maxRecDepth 100000 in
theorem ai_f135 {pc : Nat} {I : ai_I} (h : ai_find kGraphDeltasModel_encode pc = some I) : ai_Fact 135 pc I := ai_fact_of (M := 135) (by decide +kernel) (by decide +kernel) (fun e he => absurd he (by rw [show kGraphDeltasModel_encode.filter (fun e => ai_sws e.2.1) = [] from rfl]; exact List.not_mem_nil)) h
set_option maxRecDepth 100000 in
theorem ai_f136 {pc : Nat} {I : ai_I} (h : ai_find kGraphDeltasModel_equal pc = some I) : ai_Fact 136 pc I := ai_fact_of (M := 136) (by decide +kernel) (by decide +kernel) (fun e he => absurd he (by rw [show kGraphDeltasModel_equal.filter (fun e => ai_sws e.2.1) = [] from rfl]; exact List.not_mem_nil)) h
set_option maxRecDepth 100000 in
theorem ai_f137 {pc : Nat} {I : ai_I} (h : ai_find kGraphDeltasModel_feed pc = some I) : ai_Fact 137 pc I := ai_fact_of (M := 137) (by decide +kernel) (by decide +kernel) (fun e he => absurd he (by rw [show kGraphDeltasModel_feed.filter (fun e => ai_sws e.2.1) = [] from rfl]; exact List.not_mem_nil)) h
set_option maxRecDepth 100000 in
theorem ai_f138 {pc : Nat} {I : ai_I} (h : ai_find kGraphDeltasModel_findConflicts pc = some I) : ai_Fact 138 pc I := ai_fact_of (M := 138) (by decide +kernel) (by decide +kernel) (fun e he => absurd he (by rw [show kGraphDeltasModel_findConflicts.filter (fun e => ai_sws e.2.1) = [] from rfl]; exact List.not_mem_nil)) h
set_option maxRecDepth 100000 in
theorem ai_f139 {pc : Nat} {I : ai_I} (h : ai_find kGraphDeltasModel_fits pc = some I) : ai_Fact 139 pc I := ai_fact_of (M := 139) (by decide +kernel) (by decide +kernel) (fun e he => absurd he (by rw [show kGraphDeltasModel_fits.filter (fun e => ai_sws e.2.1) = [] from rfl]; exact List.not_mem_nil)) h
set_option maxRecDepth 100000 in
theorem ai_f140 {pc : Nat} {I : ai_I} (h : ai_find kGraphDeltasModel_follows pc = some I) : ai_Fact 140 pc I := ai_fact_of (M := 140) (by decide +kernel) (by decide +kernel) (fun e he => absurd he (by rw [show kGraphDeltasModel_follows.filter (fun e => ai_sws e.2.1) = [] from rfl]; exact List.not_mem_nil)) h
set_option maxRecDepth 100000 in
theorem ai_f141 {pc : Nat} {I : ai_I} (h : ai_find kGraphDeltasModel_formed pc = some I) : ai_Fact 141 pc I := ai_fact_of (M := 141) (by decide +kernel) (by decide +kernel) (fun e he => absurd he (by rw [show kGraphDeltasModel_formed.filter (fun e => ai_sws e.2.1) = [] from rfl]; exact List.not_mem_nil)) h
set_option maxRecDepth 100000 in
theorem ai_f142 {pc : Nat} {I : ai_I} (h : ai_find kGraphDeltasModel_inTheEnd pc = some I) : ai_Fact 142 pc I := ai_fact_of (M := 142) (by decide +kernel) (by decide +kernel) (fun e he => absurd he (by rw [show kGraphDeltasModel_inTheEnd.filter (fun e => ai_sws e.2.1) = [] from rfl]; exact List.not_mem_nil)) h
set_option maxRecDepth 100000 in
theorem ai_f143 {pc : Nat} {I : ai_I} (h : ai_find kGraphDeltasModel_insert pc = some I) : ai_Fact 143 pc I := ai_fact_of (M := 143) (by decide +kernel) (by decide +kernel) (fun e he => absurd he (by rw [show kGraphDeltasModel_insert.filter (fun e => ai_sws e.2.1) = [] from rfl]; exact List.not_mem_nil)) h
set_option maxRecDepth 100000 in
theorem ai_f144 {pc : Nat} {I : ai_I} (h : ai_find kGraphDeltasModel_isObject pc = some I) : ai_Fact 144 pc I := ai_fact_of (M := 144) (by decide +kernel) (by decide +kernel) (fun e he => absurd he (by rw [show kGraphDeltasModel_isObject.filter (fun e => ai_sws e.2.1) = [] from rfl]; exact List.not_mem_nil)) h
set_option maxRecDepth 100000 in
theorem ai_f145 {pc : Nat} {I : ai_I} (h : ai_find kGraphDeltasModel_isVersion pc = some I) : ai_Fact 145 pc I := ai_fact_of (M := 145) (by decide +kernel) (by decide +kernel) (fun e he => absurd he (by rw [show kGraphDeltasModel_isVersion.filter (fun e => ai_sws e.2.1) = [] from rfl]; exact List.not_mem_nil)) h
set_option maxRecDepth 100000 in
theorem ai_f146 {pc : Nat} {I : ai_I} (h : ai_find kGraphDeltasModel_items pc = some I) : ai_Fact 146 pc I := ai_fact_of (M := 146) (by decide +kernel) (by decide +kernel) (fun e he => absurd he (by rw [show kGraphDeltasModel_items.filter (fun e => ai_sws e.2.1) = [] from rfl]; exact List.not_mem_nil)) h
set_option maxRecDepth 100000 in
theorem ai_f147 {pc : Nat} {I : ai_I} (h : ai_find kGraphDeltasModel_join pc = some I) : ai_Fact 147 pc I := ai_fact_of (M := 147) (by decide +kernel) (by decide +kernel) (fun e he => absurd he (by rw [show kGraphDeltasModel_join.filter (fun e => ai_sws e.2.1) = [] from rfl]; exact List.not_mem_nil)) h
set_option maxRecDepth 100000 in
theorem ai_f148 {pc : Nat} {I : ai_I} (h : ai_find kGraphDeltasModel_kept pc = some I) : ai_Fact 148 pc I := ai_fact_of (M := 148) (by decide +kernel) (by decide +kernel) (fun e he => absurd he (by rw [show kGraphDeltasModel_kept.filter (fun e => ai_sws e.2.1) = [] from rfl]; exact List.not_mem_nil)) h
set_option maxRecDepth 100000 in
theorem ai_f149 {pc : Nat} {I : ai_I} (h : ai_find kGraphDeltasModel_kind pc = some I) : ai_Fact 149 pc I := ai_fact_of (M := 149) (by decide +kernel) (by decide +kernel) (fun e he => absurd he (by rw [show kGraphDeltasModel_kind.filter (fun e => ai_sws e.2.1) = [] from rfl]; exact List.not_mem_nil)) h
set_option maxRecDepth 100000 in
theorem ai_f150 {pc : Nat} {I : ai_I} (h : ai_find kGraphDeltasModel_link pc = some I) : ai_Fact 150 pc I := ai_fact_of (M := 150) (by decide +kernel) (by decide +kernel) (fun e he => absurd he (by rw [show kGraphDeltasModel_link.filter (fun e => ai_sws e.2.1) = [] from rfl]; exact List.not_mem_nil)) h
set_option maxRecDepth 100000 in
theorem ai_f151 {pc : Nat} {I : ai_I} (h : ai_find kGraphDeltasModel_live pc = some I) : ai_Fact 151 pc I := ai_fact_of (M := 151) (by decide +kernel) (by decide +kernel) (fun e he => absurd he (by rw [show kGraphDeltasModel_live.filter (fun e => ai_sws e.2.1) = [] from rfl]; exact List.not_mem_nil)) h
set_option maxRecDepth 100000 in
theorem ai_f152 {pc : Nat} {I : ai_I} (h : ai_find kGraphDeltasModel_merge pc = some I) : ai_Fact 152 pc I := ai_fact_of (M := 152) (by decide +kernel) (by decide +kernel) (fun e he => absurd he (by rw [show kGraphDeltasModel_merge.filter (fun e => ai_sws e.2.1) = [] from rfl]; exact List.not_mem_nil)) h
set_option maxRecDepth 100000 in
theorem ai_f153 {pc : Nat} {I : ai_I} (h : ai_find kGraphDeltasModel_next pc = some I) : ai_Fact 153 pc I := ai_fact_of (M := 153) (by decide +kernel) (by decide +kernel) (fun e he => absurd he (by rw [show kGraphDeltasModel_next.filter (fun e => ai_sws e.2.1) = [] from rfl]; exact List.not_mem_nil)) h
set_option maxRecDepth 100000 in
theorem ai_f154 {pc : Nat} {I : ai_I} (h : ai_find kGraphDeltasModel_nextVarint pc = some I) : ai_Fact 154 pc I := ai_fact_of (M := 154) (by decide +kernel) (by decide +kernel) (fun e he => absurd he (by rw [show kGraphDeltasModel_nextVarint.filter (fun e => ai_sws e.2.1) = [] from rfl]; exact List.not_mem_nil)) h
set_option maxRecDepth 100000 in
theorem ai_f155 {pc : Nat} {I : ai_I} (h : ai_find kGraphDeltasModel_node pc = some I) : ai_Fact 155 pc I := ai_fact_of (M := 155) (by decide +kernel) (by decide +kernel) (fun e he => absurd he (by rw [show kGraphDeltasModel_node.filter (fun e => ai_sws e.2.1) = [] from rfl]; exact List.not_mem_nil)) h
set_option maxRecDepth 100000 in
theorem ai_f156 {pc : Nat} {I : ai_I} (h : ai_find kGraphDeltasModel_operation pc = some I) : ai_Fact 156 pc I := ai_fact_of (M := 156) (by decide +kernel) (by decide +kernel) (fun e he => absurd he (by rw [show kGraphDeltasModel_operation.filter (fun e => ai_sws e.2.1) = [] from rfl]; exact List.not_mem_nil)) h
set_option maxRecDepth 100000 in
theorem ai_f157 {pc : Nat} {I : ai_I} (h : ai_find kGraphDeltasModel_operationFits pc = some I) : ai_Fact 157 pc I := ai_fact_of (M := 157) (by decide +kernel) (by decide +kernel) (fun e he => absurd he (by rw [show kGraphDeltasModel_operationFits.filter (fun e => ai_sws e.2.1) = [] from rfl]; exact List.not_mem_nil)) h
set_option maxRecDepth 100000 in
theorem ai_f158 {pc : Nat} {I : ai_I} (h : ai_find kGraphDeltasModel_prune pc = some I) : ai_Fact 158 pc I := ai_fact_of (M := 158) (by decide +kernel) (by decide +kernel) (fun e he => absurd he (by rw [show kGraphDeltasModel_prune.filter (fun e => ai_sws e.2.1) = [] from rfl]; exact List.not_mem_nil)) h
set_option maxRecDepth 100000 in
theorem ai_f159 {pc : Nat} {I : ai_I} (h : ai_find kGraphDeltasModel_put pc = some I) : ai_Fact 159 pc I := ai_fact_of (M := 159) (by decide +kernel) (by decide +kernel) (fun e he => absurd he (by rw [show kGraphDeltasModel_put.filter (fun e => ai_sws e.2.1) = [] from rfl]; exact List.not_mem_nil)) h
set_option maxRecDepth 100000 in
theorem ai_f160 {pc : Nat} {I : ai_I} (h : ai_find kGraphDeltasModel_rank pc = some I) : ai_Fact 160 pc I := ai_fact_of (M := 160) (by decide +kernel) (by decide +kernel) (fun e he => absurd he (by rw [show kGraphDeltasModel_rank.filter (fun e => ai_sws e.2.1) = [] from rfl]; exact List.not_mem_nil)) h
set_option maxRecDepth 100000 in
theorem ai_f161 {pc : Nat} {I : ai_I} (h : ai_find kGraphDeltasModel_readDelta pc = some I) : ai_Fact 161 pc I := ai_fact_of (M := 161) (by decide +kernel) (by decide +kernel) (fun e he => absurd he (by rw [show kGraphDeltasModel_readDelta.filter (fun e => ai_sws e.2.1) = [] from rfl]; exact List.not_mem_nil)) h
set_option maxRecDepth 100000 in
theorem ai_f162 {pc : Nat} {I : ai_I} (h : ai_find kGraphDeltasModel_readOperation pc = some I) : ai_Fact 162 pc I := ai_fact_of (M := 162) (by decide +kernel) (by decide +kernel) (fun e he => absurd he (by rw [show kGraphDeltasModel_readOperation.filter (fun e => ai_sws e.2.1) = [] from rfl]; exact List.not_mem_nil)) h
set_option maxRecDepth 100000 in
theorem ai_f163 {pc : Nat} {I : ai_I} (h : ai_find kGraphDeltasModel_rebuild pc = some I) : ai_Fact 163 pc I := ai_fact_of (M := 163) (by decide +kernel) (by decide +kernel) (fun e he => absurd he (by rw [show kGraphDeltasModel_rebuild.filter (fun e => ai_sws e.2.1) = [] from rfl]; exact List.not_mem_nil)) h
set_option maxRecDepth 100000 in
theorem ai_f164 {pc : Nat} {I : ai_I} (h : ai_find kGraphDeltasModel_remove pc = some I) : ai_Fact 164 pc I := ai_fact_of (M := 164) (by decide +kernel) (by decide +kernel) (fun e he => absurd he (by rw [show kGraphDeltasModel_remove.filter (fun e => ai_sws e.2.1) = [] from rfl]; exact List.not_mem_nil)) h
set_option maxRecDepth 100000 in
theorem ai_f165 {pc : Nat} {I : ai_I} (h : ai_find kGraphDeltasModel_restore pc = some I) : ai_Fact 165 pc I := ai_fact_of (M := 165) (by decide +kernel) (by decide +kernel) (fun e he => absurd he (by rw [show kGraphDeltasModel_restore.filter (fun e => ai_sws e.2.1) = [] from rfl]; exact List.not_mem_nil)) h
set_option maxRecDepth 100000 in
theorem ai_f166 {pc : Nat} {I : ai_I} (h : ai_find kGraphDeltasModel_same pc = some I) : ai_Fact 166 pc I := ai_fact_of (M := 166) (by decide +kernel) (by decide +kernel) (fun e he => absurd he (by rw [show kGraphDeltasModel_same.filter (fun e => ai_sws e.2.1) = [] from rfl]; exact List.not_mem_nil)) h
set_option maxRecDepth 100000 in
theorem ai_f167 {pc : Nat} {I : ai_I} (h : ai_find kGraphDeltasModel_sets pc = some I) : ai_Fact 167 pc I := ai_fact_of (M := 167) (by decide +kernel) (by decide +kernel) (fun e he => absurd he (by rw [show kGraphDeltasModel_sets.filter (fun e => ai_sws e.2.1) = [] from rfl]; exact List.not_mem_nil)) h
set_option maxRecDepth 100000 in
theorem ai_f168 {pc : Nat} {I : ai_I} (h : ai_find kGraphDeltasModel_size pc = some I) : ai_Fact 168 pc I := ai_fact_of (M := 168) (by decide +kernel) (by decide +kernel) (fun e he => absurd he (by rw [show kGraphDeltasModel_size.filter (fun e => ai_sws e.2.1) = [] from rfl]; exact List.not_mem_nil)) h
set_option maxRecDepth 100000 in
theorem ai_f169 {pc : Nat} {I : ai_I} (h : ai_find kGraphDeltasModel_slot pc = some I) : ai_Fact 169 pc I := ai_fact_of (M := 169) (by decide +kernel) (by decide +kernel) (fun e he => absurd he (by rw [show kGraphDeltasModel_slot.filter (fun e => ai_sws e.2.1) = [] from rfl]; exact List.not_mem_nil)) h
set_option maxRecDepth 100000 in
theorem ai_f170 {pc : Nat} {I : ai_I} (h : ai_find kGraphDeltasModel_snapshot pc = some I) : ai_Fact 170 pc I := ai_fact_of (M := 170) (by decide +kernel) (by decide +kernel) (fun e he => absurd he (by rw [show kGraphDeltasModel_snapshot.filter (fun e => ai_sws e.2.1) = [] from rfl]; exact List.not_mem_nil)) h
set_option maxRecDepth 100000 in
theorem ai_f171 {pc : Nat} {I : ai_I} (h : ai_find kGraphDeltasModel_splice pc = some I) : ai_Fact 171 pc I := ai_fact_of (M := 171) (by decide +kernel) (by decide +kernel) (fun e he => absurd he (by rw [show kGraphDeltasModel_splice.filter (fun e => ai_sws e.2.1) = [] from rfl]; exact List.not_mem_nil)) h
set_option maxRecDepth 100000 in
theorem ai_f172 {pc : Nat} {I : ai_I} (h : ai_find kGraphDeltasModel_spliceAt pc = some I) : ai_Fact 172 pc I := ai_fact_of (M := 172) (by decide +kernel) (by decide +kernel) (fun e he => absurd he (by rw [show kGraphDeltasModel_spliceAt.filter (fun e => ai_sws e.2.1) = [] from rfl]; exact List.not_mem_nil)) h
set_option maxRecDepth 100000 in
theorem ai_f173 {pc : Nat} {I : ai_I} (h : ai_find kGraphDeltasModel_splices pc = some I) : ai_Fact 173 pc I := ai_fact_of (M := 173) (by decide +kernel) (by decide +kernel) (fun e he => absurd he (by rw [show kGraphDeltasModel_splices.filter (fun e => ai_sws e.2.1) = [] from rfl]; exact List.not_mem_nil)) h
set_option maxRecDepth 100000 in
theorem ai_f174 {pc : Nat} {I : ai_I} (h : ai_find kGraphDeltasModel_stands pc = some I) : ai_Fact 174 pc I := ai_fact_of (M := 174) (by decide +kernel) (by decide +kernel) (fun e he => absurd he (by rw [show kGraphDeltasModel_stands.filter (fun e => ai_sws e.2.1) = [] from rfl]; exact List.not_mem_nil)) h
set_option maxRecDepth 100000 in
theorem ai_f175 {pc : Nat} {I : ai_I} (h : ai_find kGraphDeltasModel_take pc = some I) : ai_Fact 175 pc I := ai_fact_of (M := 175) (by decide +kernel) (by decide +kernel) (fun e he => absurd he (by rw [show kGraphDeltasModel_take.filter (fun e => ai_sws e.2.1) = [] from rfl]; exact List.not_mem_nil)) h
set_option maxRecDepth 100000 in
theorem ai_f176 {pc : Nat} {I : ai_I} (h : ai_find kGraphDeltasModel_value pc = some I) : ai_Fact 176 pc I := ai_fact_of (M := 176) (by decide +kernel) (by decide +kernel) (fun e he => absurd he (by rw [show kGraphDeltasModel_value.filter (fun e => ai_sws e.2.1) = [] from rfl]; exact List.not_mem_nil)) h
set_option maxRecDepth 100000 in
theorem ai_f177 {pc : Nat} {I : ai_I} (h : ai_find kGraphDeltasModel_write pc = some I) : ai_Fact 177 pc I := ai_fact_of (M := 177) (by decide +kernel) (by decide +kernel) (fun e he => absurd he (by rw [show kGraphDeltasModel_write.filter (fun e => ai_sws e.2.1) = [] from rfl]; exact List.not_mem_nil)) h
set_option maxRecDepth 100000 in
theorem ai_f178 {pc : Nat} {I : ai_I} (h : ai_find kGraphDeltasModel_writeDelta pc = some I) : ai_Fact 178 pc I := ai_fact_of (M := 178) (by decide +kernel) (by decide +kernel) (fun e he => absurd he (by rw [show kGraphDeltasModel_writeDelta.filter (fun e => ai_sws e.2.1) = [] from rfl]; exact List.not_mem_nil)) h
set_option maxRecDepth 100000 in
theorem ai_f179 {pc : Nat} {I : ai_I} (h : ai_find kGraphDeltasModel_writeVarint pc = some I) : ai_Fact 179 pc I := ai_fact_of (M := 179) (by decide +kernel) (by decide +kernel) (fun e he => absurd he (by rw [show kGraphDeltasModel_writeVarint.filter (fun e => ai_sws e.2.1) = [] from rfl]; exact List.not_mem_nil)) h
set_option maxRecDepth 100000 in
theorem ai_f180 {pc : Nat} {I : ai_I} (h : ai_find kArrays_fill_2 pc = some I) : ai_Fact 180 pc I := ai_fact_of (M := 180) (by decide +kernel) (by decide +kernel) (fun e he => absurd he (by rw [show kArrays_fill_2.filter (fun e => ai_sws e.2.1) = [] from rfl]; exact List.not_mem_nil)) h
set_option maxRecDepth 100000 in
theorem ai_f181 {pc : Nat} {I : ai_I} (h : ai_find kArrays_fill_4 pc = some I) : ai_Fact 181 pc I := ai_fact_of (M := 181) (by decide +kernel) (by decide +kernel) (fun e he => absurd he (by rw [show kArrays_fill_4.filter (fun e => ai_sws e.2.1) = [] from rfl]; exact List.not_mem_nil)) h
set_option maxRecDepth 100000 in
theorem ai_f182 {pc : Nat} {I : ai_I} (h : ai_find kArrays_rangeCheck pc = some I) : ai_Fact 182 pc I := ai_fact_of (M := 182) (by decide +kernel) (by decide +kernel) (fun e he => absurd he (by rw [show kArrays_rangeCheck.filter (fun e => ai_sws e.2.1) = [] from rfl]; exact List.not_mem_nil)) h
set_option maxRecDepth 100000 in
theorem ai_f183 {pc : Nat} {I : ai_I} (h : ai_find kGraphDeltasLaw_law pc = some I) : ai_Fact 183 pc I := ai_fact_of (M := 183) (by decide +kernel) (by decide +kernel) (by rw [show kGraphDeltasLaw_law.filter (fun e => ai_sws e.2.1) = [(32, (.tableswitch 674 0 19 #[96, 135, 178, 221, 264, 297, 320, 354, 367, 390, 423, 456, 499, 522, 556, 579, 592, 615, 638, 651], 128, 706, 0, 0, .null, [(nI 0, 128), (nI 1, 167), (nI 2, 210), (nI 3, 253), (nI 4, 296), (nI 5, 329), (nI 6, 352), (nI 7, 386), (nI 8, 399), (nI 9, 422), (nI 10, 455), (nI 11, 488), (nI 12, 531), (nI 13, 554), (nI 14, 588), (nI 15, 611), (nI 16, 624), (nI 17, 647), (nI 18, 670), (nI 19, 683)]))] from rfl]; exact List.forall_mem_cons.mpr ⟨ai_sw_GraphDeltasLaw_law_32, fun _ h => absurd h List.not_mem_nil⟩) h
theorem ai_tab_out {M : Nat} (h : ¬ M ≤ 183) : ai_tab M = [] := by
  have e : Nat.ble M 183 = false := by
    cases hb : Nat.ble M 183 with
    | false => rfl
    | true => exact absurd (Nat.le_of_ble_eq_true hb) h
  unfold ai_tab
  rw [e]
  rfl
def ai_All (P : Nat → Prop) : Nat → Prop
  | 0 => True
  | n + 1 => P n ∧ ai_All P n
theorem ai_All_at {P : Nat → Prop} : ∀ (n : Nat), ai_All P n → ∀ M, M < n → P M
  | 0, _, _, h => absurd h (Nat.not_lt_zero _)
  | n + 1, h, M, hM => by
    by_cases e : M = n
    · rw [e]; exact h.1
    · exact ai_All_at n h.2 M (by omega)
def ai_FM (M : Nat) : Prop := ∀ pc I, ai_find (ai_tab M) pc = some I → ai_Fact M pc I
set_option maxRecDepth 100000 in
theorem ai_FA23 : ai_All ai_FM 23 := And.intro (fun _ _ h => ai_f22 h) (And.intro (fun _ _ h => ai_f21 h) (And.intro (fun _ _ h => ai_f20 h) (And.intro (fun _ _ h => ai_f19 h) (And.intro (fun _ _ h => ai_f18 h) (And.intro (fun _ _ h => ai_f17 h) (And.intro (fun _ _ h => ai_f16 h) (And.intro (fun _ _ h => ai_f15 h) (And.intro (fun _ _ h => ai_f14 h) (And.intro (fun _ _ h => ai_f13 h) (And.intro (fun _ _ h => ai_f12 h) (And.intro (fun _ _ h => ai_f11 h) (And.intro (fun _ _ h => ai_f10 h) (And.intro (fun _ _ h => ai_f9 h) (And.intro (fun _ _ h => ai_f8 h) (And.intro (fun _ _ h => ai_f7 h) (And.intro (fun _ _ h => ai_f6 h) (And.intro (fun _ _ h => ai_f5 h) (And.intro (fun _ _ h => ai_f4 h) (And.intro (fun _ _ h => ai_f3 h) (And.intro (fun _ _ h => ai_f2 h) (And.intro (fun _ _ h => ai_f1 h) (And.intro (fun _ _ h => ai_f0 h) (trivial)))))))))))))))))))))))
set_option maxRecDepth 100000 in
theorem ai_FA46 : ai_All ai_FM 46 := And.intro (fun _ _ h => ai_f45 h) (And.intro (fun _ _ h => ai_f44 h) (And.intro (fun _ _ h => ai_f43 h) (And.intro (fun _ _ h => ai_f42 h) (And.intro (fun _ _ h => ai_f41 h) (And.intro (fun _ _ h => ai_f40 h) (And.intro (fun _ _ h => ai_f39 h) (And.intro (fun _ _ h => ai_f38 h) (And.intro (fun _ _ h => ai_f37 h) (And.intro (fun _ _ h => ai_f36 h) (And.intro (fun _ _ h => ai_f35 h) (And.intro (fun _ _ h => ai_f34 h) (And.intro (fun _ _ h => ai_f33 h) (And.intro (fun _ _ h => ai_f32 h) (And.intro (fun _ _ h => ai_f31 h) (And.intro (fun _ _ h => ai_f30 h) (And.intro (fun _ _ h => ai_f29 h) (And.intro (fun _ _ h => ai_f28 h) (And.intro (fun _ _ h => ai_f27 h) (And.intro (fun _ _ h => ai_f26 h) (And.intro (fun _ _ h => ai_f25 h) (And.intro (fun _ _ h => ai_f24 h) (And.intro (fun _ _ h => ai_f23 h) (ai_FA23)))))))))))))))))))))))
set_option maxRecDepth 100000 in
theorem ai_FA69 : ai_All ai_FM 69 := And.intro (fun _ _ h => ai_f68 h) (And.intro (fun _ _ h => ai_f67 h) (And.intro (fun _ _ h => ai_f66 h) (And.intro (fun _ _ h => ai_f65 h) (And.intro (fun _ _ h => ai_f64 h) (And.intro (fun _ _ h => ai_f63 h) (And.intro (fun _ _ h => ai_f62 h) (And.intro (fun _ _ h => ai_f61 h) (And.intro (fun _ _ h => ai_f60 h) (And.intro (fun _ _ h => ai_f59 h) (And.intro (fun _ _ h => ai_f58 h) (And.intro (fun _ _ h => ai_f57 h) (And.intro (fun _ _ h => ai_f56 h) (And.intro (fun _ _ h => ai_f55 h) (And.intro (fun _ _ h => ai_f54 h) (And.intro (fun _ _ h => ai_f53 h) (And.intro (fun _ _ h => ai_f52 h) (And.intro (fun _ _ h => ai_f51 h) (And.intro (fun _ _ h => ai_f50 h) (And.intro (fun _ _ h => ai_f49 h) (And.intro (fun _ _ h => ai_f48 h) (And.intro (fun _ _ h => ai_f47 h) (And.intro (fun _ _ h => ai_f46 h) (ai_FA46)))))))))))))))))))))))
set_option maxRecDepth 100000 in
theorem ai_FA92 : ai_All ai_FM 92 := And.intro (fun _ _ h => ai_f91 h) (And.intro (fun _ _ h => ai_f90 h) (And.intro (fun _ _ h => ai_f89 h) (And.intro (fun _ _ h => ai_f88 h) (And.intro (fun _ _ h => ai_f87 h) (And.intro (fun _ _ h => ai_f86 h) (And.intro (fun _ _ h => ai_f85 h) (And.intro (fun _ _ h => ai_f84 h) (And.intro (fun _ _ h => ai_f83 h) (And.intro (fun _ _ h => ai_f82 h) (And.intro (fun _ _ h => ai_f81 h) (And.intro (fun _ _ h => ai_f80 h) (And.intro (fun _ _ h => ai_f79 h) (And.intro (fun _ _ h => ai_f78 h) (And.intro (fun _ _ h => ai_f77 h) (And.intro (fun _ _ h => ai_f76 h) (And.intro (fun _ _ h => ai_f75 h) (And.intro (fun _ _ h => ai_f74 h) (And.intro (fun _ _ h => ai_f73 h) (And.intro (fun _ _ h => ai_f72 h) (And.intro (fun _ _ h => ai_f71 h) (And.intro (fun _ _ h => ai_f70 h) (And.intro (fun _ _ h => ai_f69 h) (ai_FA69)))))))))))))))))))))))
set_option maxRecDepth 100000 in
theorem ai_FA115 : ai_All ai_FM 115 := And.intro (fun _ _ h => ai_f114 h) (And.intro (fun _ _ h => ai_f113 h) (And.intro (fun _ _ h => ai_f112 h) (And.intro (fun _ _ h => ai_f111 h) (And.intro (fun _ _ h => ai_f110 h) (And.intro (fun _ _ h => ai_f109 h) (And.intro (fun _ _ h => ai_f108 h) (And.intro (fun _ _ h => ai_f107 h) (And.intro (fun _ _ h => ai_f106 h) (And.intro (fun _ _ h => ai_f105 h) (And.intro (fun _ _ h => ai_f104 h) (And.intro (fun _ _ h => ai_f103 h) (And.intro (fun _ _ h => ai_f102 h) (And.intro (fun _ _ h => ai_f101 h) (And.intro (fun _ _ h => ai_f100 h) (And.intro (fun _ _ h => ai_f99 h) (And.intro (fun _ _ h => ai_f98 h) (And.intro (fun _ _ h => ai_f97 h) (And.intro (fun _ _ h => ai_f96 h) (And.intro (fun _ _ h => ai_f95 h) (And.intro (fun _ _ h => ai_f94 h) (And.intro (fun _ _ h => ai_f93 h) (And.intro (fun _ _ h => ai_f92 h) (ai_FA92)))))))))))))))))))))))
set_option maxRecDepth 100000 in
theorem ai_FA138 : ai_All ai_FM 138 := And.intro (fun _ _ h => ai_f137 h) (And.intro (fun _ _ h => ai_f136 h) (And.intro (fun _ _ h => ai_f135 h) (And.intro (fun _ _ h => ai_f134 h) (And.intro (fun _ _ h => ai_f133 h) (And.intro (fun _ _ h => ai_f132 h) (And.intro (fun _ _ h => ai_f131 h) (And.intro (fun _ _ h => ai_f130 h) (And.intro (fun _ _ h => ai_f129 h) (And.intro (fun _ _ h => ai_f128 h) (And.intro (fun _ _ h => ai_f127 h) (And.intro (fun _ _ h => ai_f126 h) (And.intro (fun _ _ h => ai_f125 h) (And.intro (fun _ _ h => ai_f124 h) (And.intro (fun _ _ h => ai_f123 h) (And.intro (fun _ _ h => ai_f122 h) (And.intro (fun _ _ h => ai_f121 h) (And.intro (fun _ _ h => ai_f120 h) (And.intro (fun _ _ h => ai_f119 h) (And.intro (fun _ _ h => ai_f118 h) (And.intro (fun _ _ h => ai_f117 h) (And.intro (fun _ _ h => ai_f116 h) (And.intro (fun _ _ h => ai_f115 h) (ai_FA115)))))))))))))))))))))))
set_option maxRecDepth 100000 in
theorem ai_FA161 : ai_All ai_FM 161 := And.intro (fun _ _ h => ai_f160 h) (And.intro (fun _ _ h => ai_f159 h) (And.intro (fun _ _ h => ai_f158 h) (And.intro (fun _ _ h => ai_f157 h) (And.intro (fun _ _ h => ai_f156 h) (And.intro (fun _ _ h => ai_f155 h) (And.intro (fun _ _ h => ai_f154 h) (And.intro (fun _ _ h => ai_f153 h) (And.intro (fun _ _ h => ai_f152 h) (And.intro (fun _ _ h => ai_f151 h) (And.intro (fun _ _ h => ai_f150 h) (And.intro (fun _ _ h => ai_f149 h) (And.intro (fun _ _ h => ai_f148 h) (And.intro (fun _ _ h => ai_f147 h) (And.intro (fun _ _ h => ai_f146 h) (And.intro (fun _ _ h => ai_f145 h) (And.intro (fun _ _ h => ai_f144 h) (And.intro (fun _ _ h => ai_f143 h) (And.intro (fun _ _ h => ai_f142 h) (And.intro (fun _ _ h => ai_f141 h) (And.intro (fun _ _ h => ai_f140 h) (And.intro (fun _ _ h => ai_f139 h) (And.intro (fun _ _ h => ai_f138 h) (ai_FA138)))))))))))))))))))))))
set_option maxRecDepth 100000 in
theorem ai_FA184 : ai_All ai_FM 184 := And.intro (fun _ _ h => ai_f183 h) (And.intro (fun _ _ h => ai_f182 h) (And.intro (fun _ _ h => ai_f181 h) (And.intro (fun _ _ h => ai_f180 h) (And.intro (fun _ _ h => ai_f179 h) (And.intro (fun _ _ h => ai_f178 h) (And.intro (fun _ _ h => ai_f177 h) (And.intro (fun _ _ h => ai_f176 h) (And.intro (fun _ _ h => ai_f175 h) (And.intro (fun _ _ h => ai_f174 h) (And.intro (fun _ _ h => ai_f173 h) (And.intro (fun _ _ h => ai_f172 h) (And.intro (fun _ _ h => ai_f171 h) (And.intro (fun _ _ h => ai_f170 h) (And.intro (fun _ _ h => ai_f169 h) (And.intro (fun _ _ h => ai_f168 h) (And.intro (fun _ _ h => ai_f167 h) (And.intro (fun _ _ h => ai_f166 h) (And.intro (fun _ _ h => ai_f165 h) (And.intro (fun _ _ h => ai_f164 h) (And.intro (fun _ _ h => ai_f163 h) (And.intro (fun _ _ h => ai_f162 h) (And.intro (fun _ _ h => ai_f161 h) (ai_FA161)))))))))))))))))))))))
theorem ai_facts : ∀ M pc I, ai_find (ai_tab M) pc = some I → ai_Fact M pc I := by
  intro M pc I h
  by_cases hM : M ≤ 183
  · exact ai_All_at (P := ai_FM) 184 ai_FA184 M (by omega) pc I h
  · rw [ai_tab_out hM] at h; cases h
