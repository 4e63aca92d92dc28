def ai_cv (ad : Nat → Nat) : Value → Value
  | .ref k => .ref (ad k)
  | v => v
theorem ai_cv_cat (ad : Nat → Nat) (v : Value) : (ai_cv ad v).category = v.category := by cases v <;> rfl
theorem ai_cv_rf (ad : Nat → Nat) (r : Option Nat) : ai_cv ad (va_rf r) = va_rf (r.map ad) := by cases r <;> rfl
theorem ai_cv_dv (ad : Nat → Nat) (n : Nat) : ai_cv ad (ai_dv n) = ai_dv n := by
  unfold ai_dv
  split <;> rfl
def ai_ca (ad : Nat → Nat) (a : vp_A) : vp_A := (a.1, match a.2 with
  | .inr (.inr (.inr (.inr f))) => .inr (.inr (.inr (.inr (fun j => (f j).map ad))))
  | z => z)
def ai_ce (ad cT : Nat → Nat) : va_E → va_E
  | .inl (t, a) => .inl (cT t, ai_ca ad a)
  | .inr (ci, fs) => .inr (ci, fs.map (ai_cv ad))
def ai_cw (ad cT : Nat → Nat) (w : ai_W) : va_W := (List.range w.1).map (fun k => (ad (k + 1), ai_ce ad cT (w.2.2 (k + 1))))
def ai_ok (w : ai_W) : Prop := ∀ k : Nat, (k = 0 ∨ w.1 < k) → w.2.2 k = .inr (0, [])
def ai_as (ad : Nat → Nat) : Nat → ai_L → List (Nat × Value)
  | _, [] => []
  | i, none :: r => ai_as ad (i + 1) r
  | i, some v :: r => (i, ai_cv ad v) :: ai_as ad (i + 1) r
theorem ai_as_mem (ad : Nat → Nat) : ∀ (ls : ai_L) (i : Nat) (q : Nat × Value), q ∈ ai_as ad i ls ↔ ∃ (j : Nat) (v : Value), q = (i + j, ai_cv ad v) ∧ ls[j]? = some (some v)
  | [], i, q => by simp [ai_as]
  | o :: r, i, q => by
    have ih := ai_as_mem ad r (i + 1) q
    have tail : (∃ (j : Nat) (v : Value), q = (i + 1 + j, ai_cv ad v) ∧ r[j]? = some (some v)) ↔ ∃ (j : Nat) (v : Value), q = (i + (j + 1), ai_cv ad v) ∧ (o :: r)[j + 1]? = some (some v) := by
      constructor
      · rintro ⟨j, v, h1, h2⟩
        exact ⟨j, v, by rw [h1]; congr 1; omega, by simpa using h2⟩
      · rintro ⟨j, v, h1, h2⟩
        exact ⟨j, v, by rw [h1]; congr 1; omega, by simpa using h2⟩
    cases o with
    | none =>
      show q ∈ ai_as ad (i + 1) r ↔ _
      rw [ih, tail]
      constructor
      · rintro ⟨j, v, h1, h2⟩; exact ⟨j + 1, v, h1, h2⟩
      · rintro ⟨j, v, h1, h2⟩
        cases j with
        | zero => simp at h2
        | succ j => exact ⟨j, v, h1, h2⟩
    | some u =>
      show q ∈ (i, ai_cv ad u) :: ai_as ad (i + 1) r ↔ _
      rw [List.mem_cons, ih, tail]
      constructor
      · rintro (h | ⟨j, v, h1, h2⟩)
        · exact ⟨0, u, by simpa using h, by simp⟩
        · exact ⟨j + 1, v, h1, h2⟩
      · rintro ⟨j, v, h1, h2⟩
        cases j with
        | zero =>
          simp at h2
          subst h2
          exact Or.inl (by simpa using h1)
        | succ j => exact Or.inr ⟨j, v, h1, h2⟩
theorem ai_lget {ad : Nat → Nat} {lsC : Array Slot} {n a : Nat} {ls : ai_L} {v : Value} (h : lv_has lsC n (ai_as ad 0 ls)) (hv : ls[a]? = some (some v)) : lsC[a]? = some (.val (ai_cv ad v)) := by
  have := h.2.2 (0 + a, ai_cv ad v) ((ai_as_mem ad ls 0 _).mpr ⟨a, v, rfl, hv⟩)
  simpa using this
theorem ai_cl1_len : ∀ (ls : ai_L) (k : Nat), (ai_cl1 ls k).length = ls.length
  | [], _ => rfl
  | l :: r, 0 => rfl
  | l :: r, 1 => rfl
  | l :: r, k + 2 => by
    have ih := ai_cl1_len r (k + 1)
    simp only [ai_cl1, List.length_cons, ih]
theorem ai_cl1_at : ∀ (ls : ai_L) (k j : Nat) (v : Value), (ai_cl1 ls k)[j]? = some (some v) → ls[j]? = some (some v) ∧ (j + 1 = k → ¬ v.category = 2)
  | [], _, j, v, h => by simp [ai_cl1] at h
  | l :: r, 0, j, v, h => ⟨h, fun e => by omega⟩
  | l :: r, 1, 0, v, h => by
    simp only [ai_cl1, List.getElem?_cons_zero, Option.some.injEq] at h
    cases l with
    | none => simp [ai_nl] at h
    | some u =>
      simp only [ai_nl] at h
      split at h
      · cases h
      · next hc => cases h; exact ⟨rfl, fun _ => hc⟩
  | l :: r, 1, j + 1, v, h => by
    simp only [ai_cl1, List.getElem?_cons_succ] at h
    exact ⟨by simpa using h, fun e => by omega⟩
  | l :: r, k + 2, 0, v, h => by
    simp only [ai_cl1, List.getElem?_cons_zero] at h
    exact ⟨by simpa using h, fun e => by omega⟩
  | l :: r, k + 2, j + 1, v, h => by
    simp only [ai_cl1, List.getElem?_cons_succ] at h
    obtain ⟨h1, h2⟩ := ai_cl1_at r (k + 1) j v h
    exact ⟨by simpa using h1, fun e => h2 (by omega)⟩
theorem ai_lset1 {ad : Nat → Nat} {lsC : Array Slot} {n k : Nat} {ls ls' : ai_L} {v : Value} (hs : ai_sto ls k v = some ls') (hc : v.category = 1) (h : lv_has lsC n ((k, ai_cv ad v) :: (ai_as ad 0 ls).filter (fun q => !(q.1 == k) && !(q.1 + 1 == k && q.2.category == 2)))) : lv_has lsC n (ai_as ad 0 ls') := by
  unfold ai_sto at hs
  rw [if_neg (by omega)] at hs
  by_cases hk : k < ls.length
  · rw [if_pos hk] at hs
    cases hs
    refine ⟨h.1, h.2.1, fun q hq => h.2.2 q ?_⟩
    obtain ⟨j, u, h1, h2⟩ := (ai_as_mem ad _ 0 q).mp hq
    subst h1
    by_cases hj : k = j
    · subst hj
      rw [List.getElem?_set_self (by rw [ai_cl1_len]; exact hk)] at h2
      cases h2
      simp
    · rw [List.getElem?_set_ne hj] at h2
      obtain ⟨h3, h4⟩ := ai_cl1_at ls k j u h2
      refine List.mem_cons_of_mem _ (List.mem_filter.mpr ⟨(ai_as_mem ad ls 0 _).mpr ⟨j, u, rfl, h3⟩, ?_⟩)
      simp only [Nat.zero_add, ai_cv_cat, Bool.and_eq_true, Bool.not_eq_true', beq_eq_false_iff_ne, ne_eq, Bool.and_eq_false_iff]
      refine ⟨fun z => hj z.symm, ?_⟩
      by_cases h5 : j + 1 = k
      · exact Or.inr (h4 h5)
      · exact Or.inl h5
  · rw [if_neg hk] at hs; cases hs
theorem ai_lset2 {ad : Nat → Nat} {lsC : Array Slot} {n k : Nat} {ls ls' : ai_L} {v : Value} (hs : ai_sto ls k v = some ls') (hc : v.category = 2) (h : lv_has lsC n ((k, ai_cv ad v) :: (ai_as ad 0 ls).filter (fun q => !(q.1 == k) && (!(q.1 == k + 1) && !(q.1 + 1 == k && q.2.category == 2))))) : lv_has lsC n (ai_as ad 0 ls') := by
  unfold ai_sto at hs
  rw [if_pos hc] at hs
  by_cases hk : k + 1 < ls.length
  · rw [if_pos hk] at hs
    cases hs
    refine ⟨h.1, h.2.1, fun q hq => h.2.2 q ?_⟩
    obtain ⟨j, u, h1, h2⟩ := (ai_as_mem ad _ 0 q).mp hq
    subst h1
    by_cases hj1 : k + 1 = j
    · subst hj1
      rw [List.getElem?_set_self (by simp [ai_cl1_len]; exact hk)] at h2
      cases h2
    · rw [List.getElem?_set_ne hj1] at h2
      by_cases hj : k = j
      · subst hj
        rw [List.getElem?_set_self (by rw [ai_cl1_len]; omega)] at h2
        cases h2
        simp
      · rw [List.getElem?_set_ne hj] at h2
        obtain ⟨h3, h4⟩ := ai_cl1_at ls k j u h2
        refine List.mem_cons_of_mem _ (List.mem_filter.mpr ⟨(ai_as_mem ad ls 0 _).mpr ⟨j, u, rfl, h3⟩, ?_⟩)
        simp only [Nat.zero_add, ai_cv_cat, Bool.and_eq_true, Bool.not_eq_true', beq_eq_false_iff_ne, ne_eq, Bool.and_eq_false_iff]
        refine ⟨fun z => hj z.symm, fun z => hj1 z.symm, ?_⟩
        by_cases h5 : j + 1 = k
        · exact Or.inr (h4 h5)
        · exact Or.inl h5
  · rw [if_neg hk] at hs; cases hs
theorem ai_sto_len {ls ls' : ai_L} {k : Nat} {v : Value} (hs : ai_sto ls k v = some ls') : ls'.length = ls.length ∧ k < ls.length ∧ (v.category = 2 → k + 1 < ls.length) := by
  unfold ai_sto at hs
  split at hs
  · split at hs
    · next h => cases hs; exact ⟨by simp [ai_cl1_len], by omega, fun _ => h⟩
    · cases hs
  · split at hs
    · next h1 h => cases hs; exact ⟨by simp [ai_cl1_len], h, fun z => absurd z h1⟩
    · cases hs
section AIC
variable {ad cT : Nat → Nat} {w : ai_W}
theorem ai_cw_at {k : Nat} (h : k < w.1) : (ai_cw ad cT w)[k]? = some (ad (k + 1), ai_ce ad cT (w.2.2 (k + 1))) := by
  unfold ai_cw
  rw [List.getElem?_map, List.getElem?_range h]
  rfl
theorem ai_cw_of {k : Nat} {q : Nat × va_E} (h : (ai_cw ad cT w)[k]? = some q) : k < w.1 ∧ q = (ad (k + 1), ai_ce ad cT (w.2.2 (k + 1))) := by
  have hl : k < (ai_cw ad cT w).length := (List.getElem?_eq_some_iff.mp h).1
  have hk : k < w.1 := by simpa [ai_cw] using hl
  refine ⟨hk, ?_⟩
  rw [ai_cw_at hk] at h
  exact (Option.some.inj h).symm
theorem ai_pl (hj : ai_ok w) {o : Nat} (ho : ¬ w.2.2 o = .inr (0, [])) : ∃ k, o = k + 1 ∧ k < w.1 := by
  by_cases h0 : o = 0 ∨ w.1 < o
  · exact absurd (hj o h0) ho
  · exact ⟨o - 1, by omega, by omega⟩
theorem ai_cw_put {k : Nat} {e : va_E} (h : k < w.1) : ai_cw ad cT (ai_put w (k + 1) e) = (ai_cw ad cT w).set k (ad (k + 1), ai_ce ad cT e) := by
  apply List.ext_getElem?
  intro j
  by_cases hkj : k = j
  · subst hkj
    rw [List.getElem?_set_self (by simpa [ai_cw] using h), ai_cw_at (w := ai_put w (k + 1) e) h]
    simp [ai_put]
  · rw [List.getElem?_set_ne hkj]
    by_cases hj : j < w.1
    · rw [ai_cw_at (w := ai_put w (k + 1) e) hj, ai_cw_at hj]
      have : ¬ j = k := by omega
      simp [ai_put, this]
    · rw [List.getElem?_eq_none (by simp [ai_cw, ai_put]; omega), List.getElem?_eq_none (by simp [ai_cw]; omega)]
theorem ai_cw_add {n : Nat} {e : va_E} : ai_cw ad cT (ai_add w n e) = ai_cw ad cT w ++ [(ad (w.1 + 1), ai_ce ad cT e)] := by
  unfold ai_cw
  show (List.range (w.1 + 1)).map _ = _
  rw [List.range_succ, List.map_append]
  congr 1
  · apply List.map_congr_left
    intro k hk
    have hk := List.mem_range.mp hk
    have : ¬ k = w.1 := by omega
    simp [ai_add, this]
  · simp [ai_add]
theorem ai_ok_put {o : Nat} {e : va_E} (hj : ai_ok w) (ho : ¬ w.2.2 o = .inr (0, [])) : ai_ok (ai_put w o e) := by
  obtain ⟨k, rfl, hk⟩ := ai_pl hj ho
  intro q hq
  have hq' : q = 0 ∨ w.1 < q := hq
  show (if q = k + 1 then e else w.2.2 q) = _
  rw [if_neg (by omega)]
  exact hj q hq'
theorem ai_ok_add {n : Nat} {e : va_E} (hj : ai_ok w) : ai_ok (ai_add w n e) := by
  intro q hq
  have hq' : q = 0 ∨ w.1 + 1 < q := hq
  show (if q = w.1 + 1 then e else w.2.2 q) = _
  rw [if_neg (by omega)]
  exact hj q (by omega)
end AIC
def ai_len : Instr → Nat
  | .bipush _ => 2
  | .sipush _ => 3
  | .ldc _ => 2
  | .ldc2_w _ => 3
  | .iload _ => 2
  | .lload _ => 2
  | .aload _ => 2
  | .istore _ => 2
  | .lstore _ => 2
  | .astore _ => 2
  | .iinc _ _ => 3
  | .ifCond _ _ => 3
  | .if_icmp _ _ => 3
  | .goto _ => 3
  | .getfield _ => 3
  | .putfield _ => 3
  | .invokestatic _ => 3
  | .invokevirtual _ => 3
  | .invokespecial _ => 3
  | .new _ => 3
  | .newarray _ => 2
  | .anewarray _ => 3
  | _ => 1
def ai_tc : Nat → FieldType → Prop
  | 0, ty => ty = .int
  | 1, ty => ty = .boolean
  | 2, ty => ty = .long
  | 3, ty => (∃ n, ty = .object n) ∨ ∃ t, ty = .array t
  | _, _ => False
noncomputable def ai_wd : List Cond := lw_tbl.filter goodWord
noncomputable def ai_ws (M : Nat) : List Cond := Cond.code (ai_y M) (ai_cc M) (ai_mx M) (ai_ret M) :: ai_wd
def ai_own (M : Nat) : String := (ai_y M).cls
def ai_Nx (U : State) : Prop := va_AO ai_RG U ∧ ∀ q ∈ ai_ne, va_Nw (.methodLinkNest q.1 q.2.1 q.2.2.1 q.2.2.2) U
theorem ai_Nx.warm {s U : State} (hW : s.WarmedH U.vm) (h : ai_Nx s) : ai_Nx U := ⟨h.1.moved hW.alike, fun q hq => va_Nw.warmM hW (h.2 q hq)⟩
theorem ai_good {y : MethodName} {cc : ByteArray} {n : Nat} {r : Option FieldType} (h : Cond.code y cc n r ∈ ai_wd) : GoodIn ai_wd (Cond.code y cc n r :: ai_wd) := by
  intro x hx
  have hx2 : x ∈ ai_wd := by
    rcases List.mem_cons.mp hx with rfl | h1
    · exact h
    · exact h1
  exact ⟨hx2, good_of_word (List.mem_filter.mp hx2).2⟩
theorem ai_mem {x : Cond} (i : Nat) (h : lw_tbl[i]? = some x) (hg : goodWord x = true) : x ∈ ai_wd := List.mem_filter.mpr ⟨List.mem_of_getElem? h, hg⟩
def ai_CF (M a n : Nat) : Prop :=
  Cond.code (ai_y a) (ai_cc a) (ai_mx a) (ai_ret a) ∈ ai_wd ∧ Cond.initialized (ai_y a).cls ∈ ai_wd ∧
  ((ai_y a).cls ≠ "java/lang/invoke/MethodHandle" ∧ (ai_y a).cls ≠ "java/lang/invoke/VarHandle" ∧ (parseMethodDescriptor (ai_y a).desc).map (fun d => d.parameters.length) = some n) ∧
  (ai_fr a + 1 ≤ ai_fr M ∧ 8 + (ai_mx a + 11) + ai_lo a ≤ ai_lo M) ∧ plainName (ai_y a).cls = true
def ai_ML (M q a : Nat) : Prop := (Cond.methodLink (ai_own M) q (ai_y a) ∈ ai_wd) ∨ ∃ host, (ai_own M, q, ai_y a, host) ∈ ai_ne
def ai_Fx (M pc : Nat) (ins : Instr) (a b c : Nat) (cv : Value) (tb : List (Int32 × Nat)) : Prop := match ins with
  | .iconst n => cv = .int (Int32.ofInt n)
  | .bipush n => cv = .int (Int8.ofInt n).toInt32
  | .sipush n => cv = .int (Int16.ofInt n).toInt32
  | .lconst n => cv = .long (Int64.ofNat (n : Nat))
  | .ldc q => ∃ v, cv = .int v ∧ Cond.constant (ai_own M) q v ∈ ai_wd
  | .ldc2_w q => ∃ v, cv = .long v ∧ Cond.constantLong (ai_own M) q v ∈ ai_wd
  | .iload_n q => (q : Nat) = a
  | .lload_n q => (q : Nat) = a
  | .aload_n q => (q : Nat) = a
  | .istore_n q => (q : Nat) = a
  | .lstore_n q => (q : Nat) = a
  | .astore_n q => (q : Nat) = a
  | .iload q => q = a
  | .lload q => q = a
  | .aload q => q = a
  | .istore q => q = a
  | .lstore q => q = a
  | .astore q => q = a
  | .iinc q n => q = a ∧ cv = .int (Int32.ofInt n)
  | .goto off => (pc : Int) + off = (a : Int)
  | .ifCond _ off => (pc : Int) + off = (a : Int)
  | .if_icmp _ off => (pc : Int) + off = (a : Int)
  | .getfield q => ∃ C T N, ai_cl[a]? = some (C, T, N) ∧ b < N ∧ (∀ x ∈ u_ws C T N, x ∈ ai_wd) ∧ Cond.fieldLink (ai_own M) q (T b).1 (T b).2.1 (T b).2.2.1 ∈ ai_wd
  | .putfield q => ∃ C T N, ai_cl[a]? = some (C, T, N) ∧ b < N ∧ (∀ x ∈ u_ws C T N, x ∈ ai_wd) ∧ ∃ ty0 : Nat → FieldType, (∀ k, k < N → parseFieldDescriptor (T k).2.2.1 = some (ty0 k)) ∧ (∀ i, i < N → ∀ j, j < N → i ≠ j → (T i).2.1 ≠ (T j).2.1) ∧ ∃ ty, parseFieldDescriptor (T b).2.2.1 = some ty ∧ ai_tc c ty ∧
      (((T b).2.2.2 = false ∧ Cond.fieldLink (ai_own M) q (T b).1 (T b).2.1 (T b).2.2.1 ∈ ai_wd) ∨ ((T b).2.2.2 = true ∧ (ai_y M).name = "<init>" ∧ (T b).1 = ai_own M ∧ Cond.fieldLink (ai_own M) q (T b).1 (T b).2.1 (T b).2.2.1 ∈ ai_wd))
  | .aastore => ∃ r : vw_C, ai_cl[a]? = some r ∧ r.1 = ai_RG
  | .newarray q => Cond.arrayClass (newarray.typeOf q) ∈ ai_wd ∧ ((q = .int ∧ a = 0) ∨ (q = .boolean ∧ a = 1) ∨ (q = .long ∧ a = 2))
  | .anewarray q => Cond.classLink (ai_own M) q ai_RG ∈ ai_wd
  | .new q => ∃ C T N, ai_cl[a]? = some (C, T, N) ∧ (∀ x ∈ u_ws C T N, x ∈ ai_wd) ∧ ∃ ty0 : Nat → FieldType, (∀ k, k < N → parseFieldDescriptor (T k).2.2.1 = some (ty0 k)) ∧ Cond.classLink (ai_own M) q C ∈ ai_wd ∧ Cond.instantiable C N ∈ ai_wd ∧ Cond.initialized C ∈ ai_wd ∧ tb.length = N ∧ ∀ j, j < N → defaultValue (ty0 j) = vp_V (tb.map (fun q => ai_dv q.2)) j
  | .return_ => ai_ret M = none
  | .ireturn => (a = 0 ∧ ai_ret M = some .int) ∨ (a = 1 ∧ ai_ret M = some .boolean)
  | .lreturn => ai_ret M = some .long
  | .areturn => ∃ n, ai_ret M = some (.object n)
  | .invokestatic q => match c with
    | 0 => ai_CF M a b ∧ ai_ML M q a ∧ Cond.static (ai_y a) ∈ ai_wd
    | 4 => Cond.methodLink (ai_own M) q Lib.Math.max.name ∈ ai_wd ∧ Cond.static Lib.Math.max.name ∈ ai_wd ∧ Cond.initialized "java/lang/Math" ∈ ai_wd ∧ Cond.code Lib.Math.max.name Lib.Math.max.code 2 (some .int) ∈ ai_wd ∧ 1 ≤ ai_fr M ∧ 21 ≤ ai_lo M
    | 5 => Cond.methodLink (ai_own M) q arraycopyName ∈ ai_wd ∧ Cond.native arraycopyName ∈ ai_wd ∧ Cond.static arraycopyName ∈ ai_wd ∧ Cond.initialized "java/lang/System" ∈ ai_wd ∧ 1 ≤ ai_fr M ∧ 8 + (nativeFrameWords "java/lang/System" "arraycopy" 5 + 11) ≤ ai_lo M
    | _ => False
  | .invokevirtual q => match c with
    | 1 => ∃ n ci C T N, b = n + 1 ∧ ai_CF M a n ∧ ai_ML M q a ∧ Cond.instanceMethod (ai_y a) ∈ ai_wd ∧ cv = .ref ci ∧ ai_cl[ci]? = some (C, T, N) ∧ C = (ai_y a).cls ∧ Cond.selects C (ai_y a) (ai_y a) ∈ ai_wd
    | _ => False
  | .invokespecial q => match c with
    | 2 => ∃ n, b = n + 1 ∧ ai_CF M a n ∧ ai_ML M q a ∧ Cond.instanceMethod (ai_y a) ∈ ai_wd ∧ (ai_y a).name = "<init>" ∧ ai_ret a = none
    | 3 => Cond.methodLink (ai_own M) q objectInit ∈ ai_wd ∧ Cond.instanceMethod objectInit ∈ ai_wd ∧ Cond.code objectInit ⟨#[0xb1]⟩ 1 none ∈ ai_wd ∧ 1 ≤ ai_fr M ∧ 20 ≤ ai_lo M
    | _ => False
  | _ => True
def ai_Fact (M pc : Nat) (I : ai_I) : Prop :=
  match I with
  | (ins, nx, a, b, c, cv, tb) =>
    match ins with
    | .tableswitch d lo hi offs => (∃ len, decode (ai_cc M) pc = .ok (.tableswitch d lo hi offs, len)) ∧ ∀ x : Int32, ((x.toInt < lo ∨ hi < x.toInt) ∧ (pc : Int) + d = (ai_sw tb a x : Int)) ∨ (¬ x.toInt < lo ∧ ¬ hi < x.toInt ∧ ∃ off, offs[(x.toInt - lo).toNat]? = some off ∧ (pc : Int) + off = (ai_sw tb a x : Int))
    | .lookupswitch d ps => (∃ len, decode (ai_cc M) pc = .ok (.lookupswitch d ps, len)) ∧ (ps.toList.zip (ps.toList.drop 1)).all (fun (a, next) => a.1 < next.1) = true ∧ ∀ x : Int32, ∃ off, Op.lookupswitch.offset ps.toList d x.toInt = off ∧ (pc : Int) + off = (ai_sw tb a x : Int)
    | _ => decode (ai_cc M) pc = .ok (ins, ai_len ins) ∧ nx = pc + ai_len ins ∧ ai_Fx M pc ins a b c cv tb
def ai_ty (cT : Nat → Nat) : List (ClassId × FieldType) := [(cT 0, .int), (cT 1, .boolean), (cT 2, .long), (cT 3, .object ai_RG)]
theorem ai_tyx (cT : Nat → Nat) : ∀ (t : Nat), t < 4 → ∃ ty, (ai_ty cT)[t]? = some (cT t, ty)
  | 0, _ => ⟨_, rfl⟩
  | 1, _ => ⟨_, rfl⟩
  | 2, _ => ⟨_, rfl⟩
  | 3, _ => ⟨_, rfl⟩
  | n + 4, h => absurd h (by omega)
def ai_Rel (D : va_G) (cT ad : Nat → Nat) (A : Nat → Prop) (w0 w : ai_W) (s : State) (H : Heap) (locs : List Loc) (cells slots : Nat) : Prop :=
  va_P D ai_cl (ai_cw ad cT w) H ∧ va_D A (ai_cw ad cT w) ∧ va_S A s.heap H locs ∧ ai_ok w ∧ w.1 = w0.1 + cells ∧ w.2.1 = w0.2.1 + slots
def ai_Env (M : Nat) (scr : ai_S) (D : va_G) (cT ad : Nat → Nat) (A : Nat → Prop) (w0 : ai_W) (base : Nat) (p : Program) (R : Room) (s : State) (m : MethodId) (args : Array Value) (meth : Method) (c : Code) : Prop :=
  (p.tables.exec = Jvm.exec ∧ c.code = ai_cc M ∧ c.maxLocals = ai_mx M ∧ s.vm.findClass (ai_own M) = some m.cls ∧ (∀ x ∈ ai_wd, x.before args s = true) ∧ ((ai_y M).name = "<init>" → meth.name = "<init>") ∧ ai_fr M ≤ R.frames ∧ ai_lo M ≤ R.locals) ∧
  va_K D ai_cl (ai_ty cT) s ∧ (∀ q, s.heap.size ≤ q → A q) ∧ (∀ q, A q → base ≤ q) ∧ s.heap.size = base + w0.1 ∧ (∀ k, ad (k + 1) = base + k) ∧
  (∀ n f, scr = some (n, f) → va_X (ad 0) n f s s.heap ∧ ad 0 < s.heap.size ∧ ¬ A (ad 0)) ∧ ai_Nx s
theorem ai_csum_map (ad : Nat → Nat) (r : List Value) : ((r.map (ai_cv ad)).map fun v => v.category).sum = ai_csum r := by
  unfold ai_csum
  rw [List.map_map]
  congr 1
  apply List.map_congr_left
  intro v _
  exact ai_cv_cat ad v
theorem ai_call_ne {a b nx : Nat} {st : List Value} {q : Nat × ai_L × List Value × ai_W} : ¬ ai_call a b nx st = some (.inl q) := by
  unfold ai_call
  split <;> intro h <;> cases h
theorem ai_sameA {D : va_G} {cT : Nat → Nat} {cA : ClassId} {ty : FieldType} {s : State} (h1 : va_K D ai_cl (ai_ty cT ++ [(cA, ty)]) s) (h0 : va_K D ai_cl (ai_ty cT) s) (t : Nat) (ht : (ai_ty cT)[t]? = some (cT t, ty)) : cA = cT t := by
  have e1 := (h1.2 4 (cA, ty) rfl).2
  have e0 := (h0.2 t _ ht).2
  cases ty with
  | object C =>
    obtain ⟨_, _, _, _, _, z1⟩ := e1
    obtain ⟨_, _, _, _, _, z0⟩ := e0
    exact Option.some.inj (z1.symm.trans z0)
  | _ => exact Option.some.inj (Eq.trans (Eq.symm e1) e0)
theorem ai_fit_ok {c : Nat} {ty : FieldType} {v : Value} (h : ai_tc c ty) (hf : ai_fit c v = true) (ad : Nat → Nat) : narrow ty (ai_cv ad v) = ai_cv ad v ∧ fits ty (ai_cv ad v) = true := by
  unfold ai_fit at hf
  split at hf
  · cases h; exact ⟨rfl, rfl⟩
  · cases h
    rcases of_decide_eq_true hf with rfl | rfl <;> exact ⟨rfl, rfl⟩
  · cases h; exact ⟨rfl, rfl⟩
  · rcases h with ⟨n, rfl⟩ | ⟨n, rfl⟩ <;> exact ⟨rfl, rfl⟩
  · cases hf
section AIS
variable {p : Program} {l : Launch} {e : Env} {R : Room} {s : State} {m : MethodId} {args : Array Value} {below : List Frame} {meth : Method} {c : Code} {H : Heap} {locs : List Loc} {cells slots : Nat} {Q : State → Prop}
theorem ai_sized {g : JFrame} (k : H.size ≤ s.heap.size + cells → W p l e R s m args below meth c H locs cells slots Q g) : W p l e R s m args below meth c H locs cells slots Q g := fun T hT X => k (by rw [← hT]; exact X.heapSize) T hT X
variable {M : Nat} {scr : ai_S} {D : va_G} {cT ad : Nat → Nat} {A : Nat → Prop} {w0 w w' : ai_W} {base : Nat}
theorem ai_fresh (E : ai_Env M scr D cT ad A w0 base p R s m args meth c) {q : Nat} {x : va_E} {H1 : Heap} (hw : w.1 = w0.1 + cells) (hP : va_P D ai_cl (ai_cw ad cT w ++ [(q, x)]) H1) (hD : va_D A (ai_cw ad cT w ++ [(q, x)])) (hz : H1.size ≤ s.heap.size + (cells + 1)) : q = ad (w.1 + 1) := by
  obtain ⟨-, -, hA, hAl, hb, had, -, -⟩ := E
  have hlen : (ai_cw ad cT w).length = w.1 := by simp [ai_cw]
  have hq : (ai_cw ad cT w ++ [(q, x)])[w.1]? = some (q, x) := by rw [List.getElem?_append_right (by omega), hlen]; simp
  have h1 : q < H1.size := (hP _ _ hq).lt
  have h2 : base ≤ q := hAl q (hD.2 _ _ hq)
  have h3 : ∀ k, k < w.1 → ¬ q = base + k := by
    intro k hk he
    have hk1 : (ai_cw ad cT w ++ [(q, x)])[k]? = some (ad (k + 1), ai_ce ad cT (w.2.2 (k + 1))) := by rw [List.getElem?_append_left (by omega)]; exact ai_cw_at hk
    have := hD.1 _ _ _ _ hk1 hq (by show ad (k + 1) = q; rw [had, he])
    omega
  rw [had]
  by_cases h4 : q = base + w.1
  · exact h4
  · exact absurd (show q = base + (q - base) by omega) (h3 (q - base) (by omega))

set_option maxHeartbeats 4000000 in
set_option maxRecDepth 100000 in
theorem ai_W1 (E : ai_Env M scr D cT ad A w0 base p R s m args meth c) {pc pc' : Nat} {I : ai_I} (hF : ai_Fact M pc I) {ls ls' : ai_L} {st st' : List Value} (hs : ai_step scr I ls st w = some (.inl (pc', ls', st', w'))) (hR : ai_Rel D cT ad A w0 w s H locs cells slots) {lsC : Array Slot} (hl : lv_has lsC (ai_mx M) (ai_as ad 0 ls)) (hll : ls.length = ai_mx M) (hroom : w'.1 ≤ w0.1 + R.cells ∧ w'.2.1 ≤ w0.2.1 + R.slots)
    (kk : ∀ (H' : Heap) (locs' : List Loc) (cells' slots' : Nat) (lsC' : Array Slot), ai_Rel D cT ad A w0 w' s H' locs' cells' slots' → lv_has lsC' (ai_mx M) (ai_as ad 0 ls') → ls'.length = ai_mx M → W p l e R s m args below meth c H' locs' cells' slots' Q (F0 m pc' lsC' (st'.map (ai_cv ad)))) : W p l e R s m args below meth c H locs cells slots Q (F0 m pc lsC (st.map (ai_cv ad))) := by
  have E0 := E
  obtain ⟨⟨hx, hb, hml, hown, hts, hnm, hfr, hlo⟩, hK, hA, hAl, hsz, had, hscr, hN⟩ := E
  obtain ⟨hP, hD, hS, hok, hc1, hc2⟩ := hR
  have hR : ai_Rel D cT ad A w0 w s H locs cells slots := ⟨hP, hD, hS, hok, hc1, hc2⟩
  obtain ⟨ins, nx, a, b, c', cv, tb⟩ := I
  cases ins
  all_goals try (exfalso; revert hs; show (none : Option ai_R) = some _ → False; intro h; cases h; done)
  case iconst q =>
    obtain ⟨hd, rfl, rfl⟩ := hF
    simp only [ai_step, ai_go] at hs
    cases hs
    exact lv_iconst hx hb hd rfl (kk _ _ _ _ _ hR hl hll)
  case bipush q =>
    obtain ⟨hd, rfl, rfl⟩ := hF
    simp only [ai_step, ai_go] at hs
    cases hs
    exact lv_bipush hx hb hd rfl (kk _ _ _ _ _ hR hl hll)
  case sipush q =>
    obtain ⟨hd, rfl, rfl⟩ := hF
    simp only [ai_step, ai_go] at hs
    cases hs
    exact lv_sipush hx hb hd rfl (kk _ _ _ _ _ hR hl hll)
  case lconst q =>
    obtain ⟨hd, rfl, rfl⟩ := hF
    simp only [ai_step, ai_go] at hs
    cases hs
    exact lv_lconst hx hb hd rfl (kk _ _ _ _ _ hR hl hll)
  case ldc q =>
    obtain ⟨hd, rfl, v, rfl, hv⟩ := hF
    simp only [ai_step, ai_go] at hs
    cases hs
    exact lv_ldc hx hb hown (hts _ hv) hd (kk _ _ _ _ _ hR hl hll)
  case ldc2_w q =>
    obtain ⟨hd, rfl, v, rfl, hv⟩ := hF
    simp only [ai_step, ai_go] at hs
    cases hs
    exact lv_ldc2 hx hb hown (hts _ hv) hd (kk _ _ _ _ _ hR hl hll)
  case iload_n q =>
    obtain ⟨hd, rfl, hq⟩ := hF
    simp only [ai_step, ai_go] at hs
    split at hs
    · next x hv =>
      cases hs
      exact lv_iload_n hx hb hd hq (ai_lget hl hv) (kk _ _ _ _ _ hR hl hll)
    · cases hs
  case iload q =>
    obtain ⟨hd, rfl, hq⟩ := hF
    simp only [ai_step, ai_go] at hs
    subst hq
    split at hs
    · next x hv =>
      cases hs
      exact lv_iload hx hb hd (ai_lget hl hv) (kk _ _ _ _ _ hR hl hll)
    · cases hs
  case istore_n q =>
    obtain ⟨hd, rfl, hq⟩ := hF
    simp only [ai_step, ai_go] at hs
    split at hs
    · next x r =>
      split at hs
      · next ls2 hv =>
        cases hs
        have z := ai_sto_len hv
        exact lv_istore_n hx hb hd hq hl (by have := z.2.1; omega) rfl (fun lsC' hl' => kk _ _ _ _ _ hR (ai_lset1 hv rfl hl') (by rw [z.1]; exact hll))
      · cases hs
    · cases hs
  case istore q =>
    obtain ⟨hd, rfl, hq⟩ := hF
    simp only [ai_step, ai_go] at hs
    subst hq
    split at hs
    · next x r =>
      split at hs
      · next ls2 hv =>
        cases hs
        have z := ai_sto_len hv
        exact lv_istore hx hb hd hl (by have := z.2.1; omega) rfl (fun lsC' hl' => kk _ _ _ _ _ hR (ai_lset1 hv rfl hl') (by rw [z.1]; exact hll))
      · cases hs
    · cases hs
  case lload_n q =>
    obtain ⟨hd, rfl, hq⟩ := hF
    simp only [ai_step, ai_go] at hs
    split at hs
    · next x hv =>
      cases hs
      exact lv_lload_n hx hb hd hq (ai_lget hl hv) (kk _ _ _ _ _ hR hl hll)
    · cases hs
  case lload q =>
    obtain ⟨hd, rfl, hq⟩ := hF
    simp only [ai_step, ai_go] at hs
    subst hq
    split at hs
    · next x hv =>
      cases hs
      exact lv_lload hx hb hd (ai_lget hl hv) (kk _ _ _ _ _ hR hl hll)
    · cases hs
  case lstore_n q =>
    obtain ⟨hd, rfl, hq⟩ := hF
    simp only [ai_step, ai_go] at hs
    split at hs
    · next x r =>
      split at hs
      · next ls2 hv =>
        cases hs
        have z := ai_sto_len hv
        exact lv_lstore_n hx hb hd hq hl (by have := z.2.2 rfl; omega) rfl (fun lsC' hl' => kk _ _ _ _ _ hR (ai_lset2 hv rfl hl') (by rw [z.1]; exact hll))
      · cases hs
    · cases hs
  case lstore q =>
    obtain ⟨hd, rfl, hq⟩ := hF
    simp only [ai_step, ai_go] at hs
    subst hq
    split at hs
    · next x r =>
      split at hs
      · next ls2 hv =>
        cases hs
        have z := ai_sto_len hv
        exact lv_lstore hx hb hd hl (by have := z.2.2 rfl; omega) rfl (fun lsC' hl' => kk _ _ _ _ _ hR (ai_lset2 hv rfl hl') (by rw [z.1]; exact hll))
      · cases hs
    · cases hs
  case aload_n q =>
    obtain ⟨hd, rfl, hq⟩ := hF
    simp only [ai_step, ai_go] at hs
    split at hs
    · next x hv =>
      cases hs
      exact lv_aload_n hx hb hd hq (ai_lget hl hv) (kk _ _ _ _ _ hR hl hll)
    · cases hs
  case aload q =>
    obtain ⟨hd, rfl, hq⟩ := hF
    simp only [ai_step, ai_go] at hs
    subst hq
    split at hs
    · next x hv =>
      cases hs
      exact lv_aload hx hb hd (ai_lget hl hv) (kk _ _ _ _ _ hR hl hll)
    · cases hs
  case astore_n q =>
    obtain ⟨hd, rfl, hq⟩ := hF
    simp only [ai_step, ai_go] at hs
    split at hs
    · next x r =>
      split at hs
      · next ls2 hv =>
        cases hs
        have z := ai_sto_len hv
        exact lv_astore_n hx hb hd hq hl (by have := z.2.1; omega) rfl (fun lsC' hl' => kk _ _ _ _ _ hR (ai_lset1 hv rfl hl') (by rw [z.1]; exact hll))
      · cases hs
    · cases hs
  case astore q =>
    obtain ⟨hd, rfl, hq⟩ := hF
    simp only [ai_step, ai_go] at hs
    subst hq
    split at hs
    · next x r =>
      split at hs
      · next ls2 hv =>
        cases hs
        have z := ai_sto_len hv
        exact lv_astore hx hb hd hl (by have := z.2.1; omega) rfl (fun lsC' hl' => kk _ _ _ _ _ hR (ai_lset1 hv rfl hl') (by rw [z.1]; exact hll))
      · cases hs
    · cases hs
  case iinc q q2 =>
    obtain ⟨hd, rfl, hq, rfl⟩ := hF
    subst hq
    simp only [ai_step, ai_go] at hs
    split at hs
    · next x d hv hd2 =>
      split at hs
      · next ls2 hv2 =>
        cases hs
        cases hd2
        have z := ai_sto_len hv2
        obtain ⟨k, hk⟩ := List.getElem?_of_mem ((ai_as_mem ad ls 0 (q, .int x)).mpr ⟨q, .int x, by simp [ai_cv], hv⟩)
        exact lv_iinc hx hb hd hl hk rfl (by have := z.2.1; omega) rfl (fun lsC' hl' => kk _ _ _ _ _ hR (ai_lset1 hv2 rfl hl') (by rw [z.1]; exact hll))
      · cases hs
    · cases hs
  case iadd =>
    obtain ⟨hd, rfl, -⟩ := hF
    simp only [ai_step, ai_go] at hs
    split at hs
    · cases hs
      exact lv_iadd hx hb hd (kk _ _ _ _ _ hR hl hll)
    · cases hs
  case isub =>
    obtain ⟨hd, rfl, -⟩ := hF
    simp only [ai_step, ai_go] at hs
    split at hs
    · cases hs
      exact lv_isub hx hb hd (kk _ _ _ _ _ hR hl hll)
    · cases hs
  case imul =>
    obtain ⟨hd, rfl, -⟩ := hF
    simp only [ai_step, ai_go] at hs
    split at hs
    · cases hs
      exact lv_imul hx hb hd (kk _ _ _ _ _ hR hl hll)
    · cases hs
  case iand =>
    obtain ⟨hd, rfl, -⟩ := hF
    simp only [ai_step, ai_go] at hs
    split at hs
    · cases hs
      exact lv_iand hx hb hd (kk _ _ _ _ _ hR hl hll)
    · cases hs
  case ior =>
    obtain ⟨hd, rfl, -⟩ := hF
    simp only [ai_step, ai_go] at hs
    split at hs
    · cases hs
      exact lv_ior hx hb hd (kk _ _ _ _ _ hR hl hll)
    · cases hs
  case ixor =>
    obtain ⟨hd, rfl, -⟩ := hF
    simp only [ai_step, ai_go] at hs
    split at hs
    · cases hs
      exact lv_ixor hx hb hd (kk _ _ _ _ _ hR hl hll)
    · cases hs
  case ishl =>
    obtain ⟨hd, rfl, -⟩ := hF
    simp only [ai_step, ai_go] at hs
    split at hs
    · cases hs
      exact lv_ishl hx hb hd (kk _ _ _ _ _ hR hl hll)
    · cases hs
  case ishr =>
    obtain ⟨hd, rfl, -⟩ := hF
    simp only [ai_step, ai_go] at hs
    split at hs
    · cases hs
      exact lv_ishr hx hb hd (kk _ _ _ _ _ hR hl hll)
    · cases hs
  case ladd =>
    obtain ⟨hd, rfl, -⟩ := hF
    simp only [ai_step, ai_go] at hs
    split at hs
    · cases hs
      exact lv_ladd hx hb hd (kk _ _ _ _ _ hR hl hll)
    · cases hs
  case lsub =>
    obtain ⟨hd, rfl, -⟩ := hF
    simp only [ai_step, ai_go] at hs
    split at hs
    · cases hs
      exact lv_lsub hx hb hd (kk _ _ _ _ _ hR hl hll)
    · cases hs
  case lmul =>
    obtain ⟨hd, rfl, -⟩ := hF
    simp only [ai_step, ai_go] at hs
    split at hs
    · cases hs
      exact lv_lmul hx hb hd (kk _ _ _ _ _ hR hl hll)
    · cases hs
  case land =>
    obtain ⟨hd, rfl, -⟩ := hF
    simp only [ai_step, ai_go] at hs
    split at hs
    · cases hs
      exact lv_land hx hb hd (kk _ _ _ _ _ hR hl hll)
    · cases hs
  case lor =>
    obtain ⟨hd, rfl, -⟩ := hF
    simp only [ai_step, ai_go] at hs
    split at hs
    · cases hs
      exact lv_lor hx hb hd (kk _ _ _ _ _ hR hl hll)
    · cases hs
  case ineg =>
    obtain ⟨hd, rfl, -⟩ := hF
    simp only [ai_step, ai_go] at hs
    split at hs
    · cases hs
      exact lv_ineg hx hb hd (kk _ _ _ _ _ hR hl hll)
    · cases hs
  case lneg =>
    obtain ⟨hd, rfl, -⟩ := hF
    simp only [ai_step, ai_go] at hs
    split at hs
    · cases hs
      exact lv_lneg hx hb hd (kk _ _ _ _ _ hR hl hll)
    · cases hs
  case irem =>
    obtain ⟨hd, rfl, -⟩ := hF
    simp only [ai_step, ai_go] at hs
    split at hs
    · split at hs
      · cases hs
      · next h0 =>
        cases hs
        exact lv_irem hx hb hd h0 (kk _ _ _ _ _ hR hl hll)
    · cases hs
  case ldiv =>
    obtain ⟨hd, rfl, -⟩ := hF
    simp only [ai_step, ai_go] at hs
    split at hs
    · split at hs
      · cases hs
      · next h0 =>
        cases hs
        exact lv_ldiv hx hb hd h0 (kk _ _ _ _ _ hR hl hll)
    · cases hs
  case lrem =>
    obtain ⟨hd, rfl, -⟩ := hF
    simp only [ai_step, ai_go] at hs
    split at hs
    · split at hs
      · cases hs
      · next h0 =>
        cases hs
        exact lv_lrem hx hb hd h0 (kk _ _ _ _ _ hR hl hll)
    · cases hs
  case lshl =>
    obtain ⟨hd, rfl, -⟩ := hF
    simp only [ai_step, ai_go] at hs
    split at hs
    · cases hs
      exact lv_lshl hx hb hd rfl (kk _ _ _ _ _ hR hl hll)
    · cases hs
  case lshr =>
    obtain ⟨hd, rfl, -⟩ := hF
    simp only [ai_step, ai_go] at hs
    split at hs
    · cases hs
      exact lv_lshr hx hb hd rfl (kk _ _ _ _ _ hR hl hll)
    · cases hs
  case i2l =>
    obtain ⟨hd, rfl, -⟩ := hF
    simp only [ai_step, ai_go] at hs
    split at hs
    · cases hs
      exact lv_i2l hx hb hd rfl (kk _ _ _ _ _ hR hl hll)
    · cases hs
  case l2i =>
    obtain ⟨hd, rfl, -⟩ := hF
    simp only [ai_step, ai_go] at hs
    split at hs
    · cases hs
      exact lv_l2i hx hb hd rfl (kk _ _ _ _ _ hR hl hll)
    · cases hs
  case lcmp =>
    obtain ⟨hd, rfl, -⟩ := hF
    simp only [ai_step, ai_go] at hs
    split at hs
    · cases hs
      exact W.lcmp hx hb hd (kk _ _ _ _ _ hR hl hll)
    · cases hs
  case dup =>
    obtain ⟨hd, rfl, -⟩ := hF
    simp only [ai_step, ai_go] at hs
    split at hs
    · split at hs
      · next h1 =>
        cases hs
        exact lv_dup hx hb hd (by rw [ai_cv_cat]; exact h1) (kk _ _ _ _ _ hR hl hll)
      · cases hs
    · cases hs
  case pop =>
    obtain ⟨hd, rfl, -⟩ := hF
    simp only [ai_step, ai_go] at hs
    split at hs
    · split at hs
      · next h1 =>
        cases hs
        exact lv_pop hx hb hd (by rw [ai_cv_cat]; exact h1) (kk _ _ _ _ _ hR hl hll)
      · cases hs
    · cases hs
  case dup_x1 =>
    obtain ⟨hd, rfl, -⟩ := hF
    simp only [ai_step, ai_go] at hs
    split at hs
    · split at hs
      · next h1 =>
        cases hs
        exact lv_dup_x1 hx hb hd (by rw [ai_cv_cat]; exact h1.1) (by rw [ai_cv_cat]; exact h1.2) (kk _ _ _ _ _ hR hl hll)
      · cases hs
    · cases hs
  case dup2 =>
    obtain ⟨hd, rfl, -⟩ := hF
    simp only [ai_step, ai_go] at hs
    split at hs
    · split at hs
      · next h1 =>
        cases hs
        exact lv_dup2_11 hx hb hd (by rw [ai_cv_cat]; exact h1.1) (by rw [ai_cv_cat]; exact h1.2) (kk _ _ _ _ _ hR hl hll)
      · cases hs
    · cases hs
  case goto q =>
    obtain ⟨hd, rfl, hq⟩ := hF
    simp only [ai_step, ai_go] at hs
    cases hs
    exact lv_goto hx hb hd hq (kk _ _ _ _ _ hR hl hll)
  case ifCond q q2 =>
    obtain ⟨hd, rfl, hq⟩ := hF
    simp only [ai_step, ai_go] at hs
    split at hs
    · next x r =>
      cases q
      · cases hD : ai_czD .eq x with
        | isTrue h =>
          rw [hD] at hs
          cases hs
          exact lv_if_eq hx hb hd hq (fun _ => kk _ _ _ _ _ hR hl hll) (fun h2 => absurd h h2)
        | isFalse h =>
          rw [hD] at hs
          cases hs
          exact lv_if_eq hx hb hd hq (fun h2 => absurd h2 h) (fun _ => kk _ _ _ _ _ hR hl hll)
      · cases hD : ai_czD .ne x with
        | isTrue h =>
          rw [hD] at hs
          cases hs
          exact lv_if_ne hx hb hd hq (fun _ => kk _ _ _ _ _ hR hl hll) (fun h2 => absurd h (fun z => z h2))
        | isFalse h =>
          rw [hD] at hs
          cases hs
          exact lv_if_ne hx hb hd hq (fun h2 => absurd h2 h) (fun _ => kk _ _ _ _ _ hR hl hll)
      · cases hD : ai_czD .lt x with
        | isTrue h =>
          rw [hD] at hs
          cases hs
          exact lv_if_lt hx hb hd hq (fun _ => kk _ _ _ _ _ hR hl hll) (fun h2 => absurd h h2)
        | isFalse h =>
          rw [hD] at hs
          cases hs
          exact lv_if_lt hx hb hd hq (fun h2 => absurd h2 h) (fun _ => kk _ _ _ _ _ hR hl hll)
      · cases hD : ai_czD .ge x with
        | isTrue h =>
          rw [hD] at hs
          cases hs
          exact lv_if_ge hx hb hd hq (fun _ => kk _ _ _ _ _ hR hl hll) (fun h2 => absurd h h2)
        | isFalse h =>
          rw [hD] at hs
          cases hs
          exact lv_if_ge hx hb hd hq (fun h2 => absurd h2 h) (fun _ => kk _ _ _ _ _ hR hl hll)
      · cases hD : ai_czD .gt x with
        | isTrue h =>
          rw [hD] at hs
          cases hs
          exact lv_if_gt hx hb hd hq (fun _ => kk _ _ _ _ _ hR hl hll) (fun h2 => absurd h h2)
        | isFalse h =>
          rw [hD] at hs
          cases hs
          exact lv_if_gt hx hb hd hq (fun h2 => absurd h2 h) (fun _ => kk _ _ _ _ _ hR hl hll)
      · cases hD : ai_czD .le x with
        | isTrue h =>
          rw [hD] at hs
          cases hs
          exact lv_if_le hx hb hd hq (fun _ => kk _ _ _ _ _ hR hl hll) (fun h2 => absurd h h2)
        | isFalse h =>
          rw [hD] at hs
          cases hs
          exact lv_if_le hx hb hd hq (fun h2 => absurd h2 h) (fun _ => kk _ _ _ _ _ hR hl hll)
    · cases hs
  case if_icmp q q2 =>
    obtain ⟨hd, rfl, hq⟩ := hF
    simp only [ai_step, ai_go] at hs
    split at hs
    · next y x r =>
      cases q
      · cases hD : ai_ciD .eq x y with
        | isTrue h =>
          rw [hD] at hs
          cases hs
          exact lv_icmp_eq hx hb hd hq (fun _ => kk _ _ _ _ _ hR hl hll) (fun h2 => absurd h h2)
        | isFalse h =>
          rw [hD] at hs
          cases hs
          exact lv_icmp_eq hx hb hd hq (fun h2 => absurd h2 h) (fun _ => kk _ _ _ _ _ hR hl hll)
      · cases hD : ai_ciD .ne x y with
        | isTrue h =>
          rw [hD] at hs
          cases hs
          exact lv_icmp_ne hx hb hd hq (fun _ => kk _ _ _ _ _ hR hl hll) (fun h2 => absurd h (fun z => z h2))
        | isFalse h =>
          rw [hD] at hs
          cases hs
          exact lv_icmp_ne hx hb hd hq (fun h2 => absurd h2 h) (fun _ => kk _ _ _ _ _ hR hl hll)
      · cases hD : ai_ciD .lt x y with
        | isTrue h =>
          rw [hD] at hs
          cases hs
          exact lv_icmp_lt hx hb hd hq (fun _ => kk _ _ _ _ _ hR hl hll) (fun h2 => absurd h h2)
        | isFalse h =>
          rw [hD] at hs
          cases hs
          exact lv_icmp_lt hx hb hd hq (fun h2 => absurd h2 h) (fun _ => kk _ _ _ _ _ hR hl hll)
      · cases hD : ai_ciD .ge x y with
        | isTrue h =>
          rw [hD] at hs
          cases hs
          exact lv_icmp_ge hx hb hd hq (fun _ => kk _ _ _ _ _ hR hl hll) (fun h2 => absurd h h2)
        | isFalse h =>
          rw [hD] at hs
          cases hs
          exact lv_icmp_ge hx hb hd hq (fun h2 => absurd h2 h) (fun _ => kk _ _ _ _ _ hR hl hll)
      · cases hD : ai_ciD .gt x y with
        | isTrue h =>
          rw [hD] at hs
          cases hs
          exact lv_icmp_gt hx hb hd hq (fun _ => kk _ _ _ _ _ hR hl hll) (fun h2 => absurd h h2)
        | isFalse h =>
          rw [hD] at hs
          cases hs
          exact lv_icmp_gt hx hb hd hq (fun h2 => absurd h2 h) (fun _ => kk _ _ _ _ _ hR hl hll)
      · cases hD : ai_ciD .le x y with
        | isTrue h =>
          rw [hD] at hs
          cases hs
          exact lv_icmp_le hx hb hd hq (fun _ => kk _ _ _ _ _ hR hl hll) (fun h2 => absurd h h2)
        | isFalse h =>
          rw [hD] at hs
          cases hs
          exact lv_icmp_le hx hb hd hq (fun h2 => absurd h2 h) (fun _ => kk _ _ _ _ _ hR hl hll)
    · cases hs
  case tableswitch q1 q2 q3 q4 =>
    obtain ⟨⟨len, hd⟩, hT⟩ := hF
    simp only [ai_step, ai_go] at hs
    split at hs
    · next x r =>
      cases hs
      rcases hT x with ⟨h1, h2⟩ | ⟨h1, h2, off, h3, h4⟩
      · exact lv_tableOut hx hb hd h1 h2 (kk _ _ _ _ _ hR hl hll)
      · exact lv_tableIn hx hb hd h1 h2 h3 h4 (kk _ _ _ _ _ hR hl hll)
    · cases hs
  case lookupswitch q1 q2 =>
    obtain ⟨⟨len, hd⟩, hp, hT⟩ := hF
    simp only [ai_step, ai_go] at hs
    split at hs
    · next x r =>
      cases hs
      obtain ⟨off, h3, h4⟩ := hT x
      exact lv_lookup hx hb hd hp h3 h4 (kk _ _ _ _ _ hR hl hll)
    · cases hs
  case getfield q =>
    obtain ⟨hd, rfl, C, T, N, hc, hk, hin, hlk⟩ := hF
    simp only [ai_step, ai_go] at hs
    split at hs
    · next o r =>
      split at hs
      · next ci fs ho =>
        split at hs
        · next hci =>
          subst hci
          split at hs
          · next v hv =>
            cases hs
            obtain ⟨k, rfl, hkw⟩ := ai_pl hok (o := o) (by intro z; rw [ho] at z; cases z; simp at hv)
            have he := ai_cw_at (ad := ad) (cT := cT) hkw
            rw [ho] at he
            have hv2 : (fs.map (ai_cv ad))[b]? = some (ai_cv ad v) := by rw [List.getElem?_map, hv]; rfl
            exact va_get hx hb hts hin hown hK hP k he hc b hk (hts _ hlk) (fun _ h9 => h9) hv2 hd (kk _ _ _ _ _ hR hl hll)
          · cases hs
        · cases hs
      · cases hs
    · cases hs
  case putfield q =>
    obtain ⟨hd, rfl, C, T, N, hc, hk, hin, ty0, hty, hnm0, ty, hpd, htc, hlk⟩ := hF
    simp only [ai_step, ai_go] at hs
    split at hs
    · next v o r =>
      split at hs
      · next ci fs ho =>
        split at hs
        · next hci =>
          obtain ⟨rfl, hbl, hfit⟩ := hci
          cases hs
          have hne : ¬ w.2.2 o = .inr (0, []) := by intro z; rw [ho] at z; cases z; simp at hbl
          have hok2 := ai_ok_put (e := .inr (ci, fs.set b v)) hok hne
          obtain ⟨k, rfl, hkw⟩ := ai_pl hok hne
          have he := ai_cw_at (ad := ad) (cT := cT) hkw
          rw [ho] at he
          have hst : (ai_cw ad cT w).set k (ad (k + 1), .inr (ci, (fs.map (ai_cv ad)).set b (ai_cv ad v))) = ai_cw ad cT (ai_put w (k + 1) (.inr (ci, fs.set b v))) := by
            rw [ai_cw_put hkw]
            simp [ai_ce]
          have hfl : b < (fs.map (ai_cv ad)).length := by simpa using hbl
          obtain ⟨hn, hf2⟩ := ai_fit_ok htc hfit ad
          have k2 : ∀ (H1 : Heap) (locs1 : List Loc), va_P D ai_cl ((ai_cw ad cT w).set k (ad (k + 1), .inr (ci, (fs.map (ai_cv ad)).set b (ai_cv ad v)))) H1 → va_D A ((ai_cw ad cT w).set k (ad (k + 1), .inr (ci, (fs.map (ai_cv ad)).set b (ai_cv ad v)))) → va_S A s.heap H1 locs1 → W p l e R s m args below meth c H1 locs1 cells slots Q (F0 m (pc + 3) lsC (st'.map (ai_cv ad))) := by
            intro H1 locs1 g1 g2 g3
            rw [hst] at g1 g2
            exact kk _ _ _ _ _ ⟨g1, g2, g3, hok2, hc1, hc2⟩ hl hll
          rcases hlk with ⟨hf, hlk⟩ | ⟨hf, hini, hdecl, hlk⟩
          · exact va_put hx hb hts hin ty0 hty hnm0 hown hK hP hD hS k he hc b hk (hts _ hlk) (fun _ h9 => h9) hf hpd hn hf2 hfl hd k2
          · exact va_putF hx hb hts hin ty0 hty hnm0 hown hK hP hD hS k he hc b hk (hts _ hlk) (fun _ h9 => h9) hf (hnm hini) hdecl hpd hn hf2 hfl hd k2
        · cases hs
      · cases hs
    · cases hs
  case baload =>
    obtain ⟨hd, rfl, -⟩ := hF
    simp only [ai_step, ai_go] at hs
    split at hs
    · next i o r =>
      split at hs
      · next n f ho =>
        split at hs
        · cases hs
        · next hin =>
          cases hs
          obtain ⟨k, rfl, hkw⟩ := ai_pl hok (o := o) (by intro z; rw [ho] at z; cases z)
          have he := ai_cw_at (ad := ad) (cT := cT) hkw
          rw [ho] at he
          exact va_zald hx hb hK hP k 1 he rfl hin hd (kk _ _ _ _ _ hR hl hll)
      · cases hs
    · cases hs
  case laload =>
    obtain ⟨hd, rfl, -⟩ := hF
    simp only [ai_step, ai_go] at hs
    split at hs
    · next i o r =>
      split at hs
      · next n f ho =>
        split at hs
        · cases hs
        · next hin =>
          cases hs
          obtain ⟨k, rfl, hkw⟩ := ai_pl hok (o := o) (by intro z; rw [ho] at z; cases z)
          have he := ai_cw_at (ad := ad) (cT := cT) hkw
          rw [ho] at he
          exact va_lald hx hb hK hP k 2 he rfl hin hd (kk _ _ _ _ _ hR hl hll)
      · cases hs
    · cases hs
  case iaload =>
    obtain ⟨hd, rfl, -⟩ := hF
    simp only [ai_step, ai_go] at hs
    split at hs
    · next i o r =>
      split at hs
      · next n f ho =>
        split at hs
        · cases hs
        · next hin =>
          cases hs
          obtain ⟨k, rfl, hkw⟩ := ai_pl hok (o := o) (by intro z; rw [ho] at z; cases z)
          have he := ai_cw_at (ad := ad) (cT := cT) hkw
          rw [ho] at he
          exact va_iald hx hb hK hP k 0 he rfl hin hd (kk _ _ _ _ _ hR hl hll)
      · split at hs
        · next n f =>
          split at hs
          · cases hs
          · next hin =>
            cases hs
            have ho : o = 0 := Classical.not_not.mp (fun z => hin (Or.inr (Or.inr z)))
            subst ho
            obtain ⟨x1, x2, x3⟩ := hscr n f rfl
            exact va_sld hx hb x1 x2 x3 hS (fun z => hin (z.elim Or.inl (fun y => Or.inr (Or.inl y)))) hd (kk _ _ _ _ _ hR hl hll)
        · cases hs
      · cases hs
    · cases hs
  case aaload =>
    obtain ⟨hd, rfl, -⟩ := hF
    simp only [ai_step, ai_go] at hs
    split at hs
    · next i o r =>
      split at hs
      · next n f ho =>
        split at hs
        · cases hs
        · next hin =>
          cases hs
          obtain ⟨k, rfl, hkw⟩ := ai_pl hok (o := o) (by intro z; rw [ho] at z; cases z)
          have he := ai_cw_at (ad := ad) (cT := cT) hkw
          rw [ho] at he
          refine va_aldq hx hb hK hP k 3 he rfl hin hd ?_
          rw [← ai_cv_rf]
          exact kk _ _ _ _ _ hR hl hll
      · cases hs
    · cases hs
  case iastore =>
    obtain ⟨hd, rfl, -⟩ := hF
    simp only [ai_step, ai_go] at hs
    split at hs
    · next x i o r =>
      split at hs
      · next n f ho =>
        split at hs
        · cases hs
        · next hin =>
          cases hs
          have hne : ¬ w.2.2 o = .inr (0, []) := by intro z; rw [ho] at z; cases z
          have hok2 := ai_ok_put (e := .inl (0, n, .inl (upd f i.toNatClampNeg x))) hok hne
          obtain ⟨k, rfl, hkw⟩ := ai_pl hok hne
          have he := ai_cw_at (ad := ad) (cT := cT) hkw
          rw [ho] at he
          refine va_iast hx hb hK hP hD hS k 0 he rfl hin hd (fun H1 locs1 g1 g2 g3 => kk _ _ _ _ _ ⟨?_, ?_, g3, hok2, hc1, hc2⟩ hl hll)
          · rw [ai_cw_put hkw]; exact g1
          · rw [ai_cw_put hkw]; exact g2
      · cases hs
    · cases hs
  case bastore =>
    obtain ⟨hd, rfl, -⟩ := hF
    simp only [ai_step, ai_go] at hs
    split at hs
    · next x i o r =>
      split at hs
      · next n f ho =>
        split at hs
        · cases hs
        · next hin =>
          cases hs
          have hne : ¬ w.2.2 o = .inr (0, []) := by intro z; rw [ho] at z; cases z
          have hok2 := ai_ok_put (e := .inl (1, n, .inl (upd f i.toNatClampNeg (vp_nar .boolean x)))) hok hne
          obtain ⟨k, rfl, hkw⟩ := ai_pl hok hne
          have he := ai_cw_at (ad := ad) (cT := cT) hkw
          rw [ho] at he
          refine va_zast hx hb hK hP hD hS k 1 he rfl hin hd (fun H1 locs1 g1 g2 g3 => kk _ _ _ _ _ ⟨?_, ?_, g3, hok2, hc1, hc2⟩ hl hll)
          · rw [ai_cw_put hkw]; exact g1
          · rw [ai_cw_put hkw]; exact g2
      · cases hs
    · cases hs
  case lastore =>
    obtain ⟨hd, rfl, -⟩ := hF
    simp only [ai_step, ai_go] at hs
    split at hs
    · next x i o r =>
      split at hs
      · next n f ho =>
        split at hs
        · cases hs
        · next hin =>
          cases hs
          have hne : ¬ w.2.2 o = .inr (0, []) := by intro z; rw [ho] at z; cases z
          have hok2 := ai_ok_put (e := .inl (2, n, .inr (.inl (vp_updL f i.toNatClampNeg x)))) hok hne
          obtain ⟨k, rfl, hkw⟩ := ai_pl hok hne
          have he := ai_cw_at (ad := ad) (cT := cT) hkw
          rw [ho] at he
          refine va_last hx hb hK hP hD hS k 2 he rfl hin hd (fun H1 locs1 g1 g2 g3 => kk _ _ _ _ _ ⟨?_, ?_, g3, hok2, hc1, hc2⟩ hl hll)
          · rw [ai_cw_put hkw]; exact g1
          · rw [ai_cw_put hkw]; exact g2
      · cases hs
    · cases hs
  case aastore =>
    obtain ⟨hd, rfl, rc, hrc, hrn⟩ := hF
    simp only [ai_step, ai_go] at hs
    split at hs
    · next x i o r =>
      split at hs
      · next n f ci v vs ho hxo =>
        split at hs
        · cases hs
        · next hin =>
          cases hs
          have hci : ci = a := Classical.not_not.mp (fun z => hin (Or.inr (Or.inr z)))
          subst hci
          have hne : ¬ w.2.2 o = .inr (0, []) := by intro z; rw [ho] at z; cases z
          have hok2 := ai_ok_put (e := .inl (3, n, .inr (.inr (.inr (.inr (va_up f i.toNatClampNeg (some x))))))) hok hne
          obtain ⟨k, rfl, hkw⟩ := ai_pl hok hne
          obtain ⟨k2, rfl, hkw2⟩ := ai_pl hok (o := x) (by intro z; rw [hxo] at z; cases z)
          have he := ai_cw_at (ad := ad) (cT := cT) hkw
          rw [ho] at he
          have he2 := ai_cw_at (ad := ad) (cT := cT) hkw2
          rw [hxo] at he2
          have hup : (va_up (fun j => (f j).map ad) i.toNatClampNeg (some (ad (k2 + 1)))) = fun j => (va_up f i.toNatClampNeg (some (k2 + 1)) j).map ad := by
            funext j
            by_cases hj : j = i.toNatClampNeg <;> simp [va_up, hj]
          refine va_astq hx hb hK hP hD hS k 3 k2 ci (r := rc) he (by rw [hrn]; rfl) he2 hrc (fun z => hin (z.elim Or.inl (fun y => Or.inr (Or.inl y)))) hd (fun H1 locs1 g1 g2 g3 => kk _ _ _ _ _ ⟨?_, ?_, g3, hok2, hc1, hc2⟩ hl hll)
          · rw [ai_cw_put hkw]; rw [hup] at g1; exact g1
          · rw [ai_cw_put hkw]; rw [hup] at g2; exact g2
      · cases hs
    · cases hs
  case arraylength =>
    obtain ⟨hd, rfl, -⟩ := hF
    simp only [ai_step, ai_go] at hs
    split at hs
    · next o r =>
      split at hs
      · next t n z ho =>
        split at hs
        · next ht =>
          cases hs
          obtain ⟨k, rfl, hkw⟩ := ai_pl hok (o := o) (by intro y; rw [ho] at y; cases y)
          have he := ai_cw_at (ad := ad) (cT := cT) hkw
          rw [ho] at he
          obtain ⟨ty, hty⟩ := ai_tyx cT t ht
          exact va_alen hx hb hK hP k t he hty rfl hd (kk _ _ _ _ _ hR hl hll)
        · cases hs
      · split at hs
        · next n f =>
          split at hs
          · next h0 =>
            subst h0
            cases hs
            obtain ⟨x1, x2, x3⟩ := hscr n f rfl
            exact va_slen hx hb x1 x2 x3 hS hd (kk _ _ _ _ _ hR hl hll)
          · cases hs
        · cases hs
      · cases hs
    · cases hs
  case newarray q =>
    obtain ⟨hd, rfl, hac, hq⟩ := hF
    simp only [ai_step, ai_go] at hs
    split at hs
    · next n r =>
      split at hs
      · cases hs
      next hin =>
      rcases hq with hq | hq | hq
      · obtain ⟨rfl, rfl⟩ := hq
        cases hs
        refine va_newa (a0 := (n.toNatClampNeg, .inl (fun _ => 0))) hx hb (hts _ hac) rfl hK hP hD hS hA (fun cA => rfl) (fun z => hin (Or.inl z)) rfl (by have : ¬ 100000 < n.toNatClampNeg := fun z => hin (Or.inr z); simp [componentBytes, newarray.typeOf]; omega) (by have := hroom.1; simp only [ai_add] at this; omega) (by have := hroom.2; simp only [ai_add] at this; omega) hd (fun q cA H1 hK1 g1 g2 g3 => ?_)
        have hcA : cA = cT 0 := ai_sameA hK1 hK 0 rfl
        subst hcA
        refine ai_sized (fun hz => ?_)
        have hqa := ai_fresh E0 hc1 g1 g2 hz
        subst hqa
        refine kk _ _ _ _ _ ⟨?_, ?_, g3, ai_ok_add hok, by simp only [ai_add]; omega, by simp only [ai_add]; omega⟩ hl hll
        · rw [ai_cw_add]; exact g1
        · rw [ai_cw_add]; exact g2
      · obtain ⟨rfl, rfl⟩ := hq
        cases hs
        refine va_newa (a0 := (n.toNatClampNeg, .inl (fun _ => 0))) hx hb (hts _ hac) rfl hK hP hD hS hA (fun cA => rfl) (fun z => hin (Or.inl z)) rfl (by have : ¬ 100000 < n.toNatClampNeg := fun z => hin (Or.inr z); simp [componentBytes, newarray.typeOf]; omega) (by have := hroom.1; simp only [ai_add] at this; omega) (by have := hroom.2; simp only [ai_add] at this; omega) hd (fun q cA H1 hK1 g1 g2 g3 => ?_)
        have hcA : cA = cT 1 := ai_sameA hK1 hK 1 rfl
        subst hcA
        refine ai_sized (fun hz => ?_)
        have hqa := ai_fresh E0 hc1 g1 g2 hz
        subst hqa
        refine kk _ _ _ _ _ ⟨?_, ?_, g3, ai_ok_add hok, by simp only [ai_add]; omega, by simp only [ai_add]; omega⟩ hl hll
        · rw [ai_cw_add]; exact g1
        · rw [ai_cw_add]; exact g2
      · obtain ⟨rfl, rfl⟩ := hq
        cases hs
        refine va_newa (a0 := (n.toNatClampNeg, .inr (.inl (fun _ => 0)))) hx hb (hts _ hac) rfl hK hP hD hS hA (fun cA => rfl) (fun z => hin (Or.inl z)) rfl (by have : ¬ 100000 < n.toNatClampNeg := fun z => hin (Or.inr z); simp [componentBytes, newarray.typeOf]; omega) (by have := hroom.1; simp only [ai_add] at this; omega) (by have := hroom.2; simp only [ai_add] at this; omega) hd (fun q cA H1 hK1 g1 g2 g3 => ?_)
        have hcA : cA = cT 2 := ai_sameA hK1 hK 2 rfl
        subst hcA
        refine ai_sized (fun hz => ?_)
        have hqa := ai_fresh E0 hc1 g1 g2 hz
        subst hqa
        refine kk _ _ _ _ _ ⟨?_, ?_, g3, ai_ok_add hok, by simp only [ai_add]; omega, by simp only [ai_add]; omega⟩ hl hll
        · rw [ai_cw_add]; exact g1
        · rw [ai_cw_add]; exact g2
    · cases hs
  case anewarray q =>
    obtain ⟨hd, rfl, hcl⟩ := hF
    simp only [ai_step, ai_go] at hs
    split at hs
    · next n r =>
      split at hs
      · cases hs
      next hin =>
      cases hs
      refine va_newq hx hb hown (hts _ hcl) hN.1 hK hP hD hS hA (fun z => hin (Or.inl z)) rfl (by have : ¬ 100000 < n.toNatClampNeg := fun z => hin (Or.inr z); omega) (by have := hroom.1; simp only [ai_add] at this; omega) (by have := hroom.2; simp only [ai_add] at this; omega) hd (fun q cA H1 hK1 g1 g2 g3 => ?_)
      have hcA : cA = cT 3 := ai_sameA hK1 hK 3 rfl
      subst hcA
      refine ai_sized (fun hz => ?_)
      have hqa := ai_fresh E0 hc1 g1 g2 hz
      subst hqa
      refine kk _ _ _ _ _ ⟨?_, ?_, g3, ai_ok_add hok, by simp only [ai_add]; omega, by simp only [ai_add]; omega⟩ hl hll
      · rw [ai_cw_add]; exact g1
      · rw [ai_cw_add]; exact g2
    · cases hs
  case new q =>
    obtain ⟨hd, rfl, C, T, N, hc, hin, ty0, hty, hcl, hinst, hini, hN, hdf⟩ := hF
    simp only [ai_step, ai_go] at hs
    cases hs
    have hdm : (tb.map (fun q => ai_dv q.2)).map (ai_cv ad) = tb.map (fun q => ai_dv q.2) := by
      rw [List.map_map]
      apply List.map_congr_left
      intro z _
      exact ai_cv_dv ad z.2
    refine va_new hx hb hts hin ty0 hty hown (hts _ hcl) (hts _ hinst) (hts _ hini) hK hP hD hS hA hc hdf (by have := hroom.1; simp only [ai_add] at this; omega) (by have := hroom.2; simp only [ai_add] at this; omega) hd (fun q H1 g1 g2 g3 => ?_)
    refine ai_sized (fun hz => ?_)
    have hqa := ai_fresh E0 hc1 g1 g2 hz
    subst hqa
    refine kk _ _ _ _ _ ⟨?_, ?_, g3, ai_ok_add hok, by simp only [ai_add]; omega, by simp only [ai_add]; omega⟩ hl hll
    · rw [ai_cw_add]; simp only [ai_ce]; rw [hdm]; exact g1
    · rw [ai_cw_add]; simp only [ai_ce]; rw [hdm]; exact g2
  case invokestatic q =>
    obtain ⟨hd, rfl, hq⟩ := hF
    simp only [ai_step, ai_inv] at hs
    split at hs
    · exact absurd hs ai_call_ne
    · split at hs
      · split at hs
        · split at hs
          · exact absurd hs ai_call_ne
          · cases hs
        · cases hs
      · cases hs
    · split at hs
      · exact absurd hs ai_call_ne
      · cases hs
    · exact hq.elim
    · split at hs
      · next y x r =>
        split at hs
        · next h8 =>
          simp only [ai_go] at hs
          cases hs
          obtain ⟨g1, g2, g3, g4, g5, g6⟩ := hq
          exact va_mmax hx hb (by rw [hml]; exact hl.1.symm) hown (hts _ g1) (hts _ g2) (hts _ g3) (hts _ g4) (by omega) (by have := ai_csum_map ad r; simp only [ai_csum] at h8 this; omega) (by have := hroom.1; omega) (by have := hroom.2; omega) hd (kk _ _ _ _ _ hR hl hll)
        · cases hs
      · cases hs
    · split at hs
      · next n dp d sp s0 r =>
        split at hs
        · next n0 f n1 g hs0 hd0 =>
          split at hs
          · next hcnd =>
            obtain ⟨h8, q1, q2, q3, q4, q5⟩ := hcnd
            simp only [ai_go] at hs
            cases hs
            obtain ⟨g1, g2, g3, g4, g5, g6⟩ := hq
            have hne : ¬ w.2.2 d = .inr (0, []) := by intro z; rw [hd0] at z; cases z
            have hok2 := ai_ok_put (e := .inl (0, n1, .inl (va_cpy f g sp.toNatClampNeg dp.toNatClampNeg n.toNatClampNeg))) hok hne
            obtain ⟨k, rfl, hkw⟩ := ai_pl hok hne
            obtain ⟨k2, rfl, hkw2⟩ := ai_pl hok (o := s0) (by intro z; rw [hs0] at z; cases z)
            have he := ai_cw_at (ad := ad) (cT := cT) hkw
            rw [hd0] at he
            have he2 := ai_cw_at (ad := ad) (cT := cT) hkw2
            rw [hs0] at he2
            refine va_copyi hx hb (by rw [hml]; exact hl.1.symm) hown (hts _ g1) (hts _ g2) (hts _ g3) (hts _ g4) hK hP hD hS k2 k 0 0 he2 he rfl rfl rfl q1 q2 q3 q4 q5 (fun _ _ => rfl) (by omega) (by have := ai_csum_map ad st'; simp only [ai_csum] at h8 this; omega) hd (fun H1 locs1 z1 z2 z3 => kk _ _ _ _ _ ⟨?_, ?_, z3, hok2, hc1, hc2⟩ hl hll)
            · rw [ai_cw_put hkw]; exact z1
            · rw [ai_cw_put hkw]; exact z2
          · cases hs
        · cases hs
      · cases hs
    · cases hs
  case invokespecial q =>
    obtain ⟨hd, rfl, hq⟩ := hF
    simp only [ai_step, ai_inv] at hs
    split at hs
    · exact absurd hs ai_call_ne
    · split at hs
      · split at hs
        · split at hs
          · exact absurd hs ai_call_ne
          · cases hs
        · cases hs
      · cases hs
    · split at hs
      · exact absurd hs ai_call_ne
      · cases hs
    · split at hs
      · next o r =>
        split at hs
        · next h8 =>
          simp only [ai_go] at hs
          cases hs
          obtain ⟨g1, g2, g3, g4, g5⟩ := hq
          exact W.objInit hx hb hown (hts _ g1) (hts _ g2) (hts _ g3) rfl (by rw [hml]; exact hl.1) rfl hd (by omega) (by have := ai_csum_map ad st'; simp only [ai_csum] at h8 this; show 2 * 0 + _ + 12 ≤ _; omega) (kk _ _ _ _ _ hR hl hll)
        · cases hs
      · cases hs
    · exact hq.elim
    · exact hq.elim
    · cases hs
  case invokevirtual q =>
    obtain ⟨hd, rfl, hq⟩ := hF
    simp only [ai_step, ai_inv] at hs
    split at hs
    · exact absurd hs ai_call_ne
    · split at hs
      · split at hs
        · split at hs
          · exact absurd hs ai_call_ne
          · cases hs
        · cases hs
      · cases hs
    · split at hs
      · exact absurd hs ai_call_ne
      · cases hs
    · exact hq.elim
    · exact hq.elim
    · exact hq.elim
    · cases hs
  case return_ =>
    simp only [ai_step, ai_go] at hs
    split at hs
    · cases hs
    · cases hs
  case ireturn =>
    simp only [ai_step, ai_go] at hs
    split at hs
    · split at hs
      · cases hs
      · cases hs
    · cases hs
  case lreturn =>
    simp only [ai_step, ai_go] at hs
    split at hs
    · cases hs
    · cases hs
  case areturn =>
    simp only [ai_step, ai_go] at hs
    split at hs
    · cases hs
    · cases hs
end AIS
