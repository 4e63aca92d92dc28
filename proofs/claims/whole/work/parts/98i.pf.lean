theorem rT_bs {ta dr : Nat → Int32} {tn dn : Int32} (h : rT ta tn dn dr) : ∃ bs : List Nat, bs.length ≤ 1200 ∧ tn = nI bs.length ∧ dn = nI bs.length ∧ pre ta bs ∧ pre dr bs ∧ ∀ b, b ∈ bs → b < 256 := by
  obtain ⟨n, h1, h2, h3, h4⟩ := h
  have hl : ((List.range n).map (fun k => (ta k).toNatClampNeg)).length = n := by simp
  have hg : ∀ k x, ((List.range n).map (fun k => (ta k).toNatClampNeg))[k]? = some x → k < n ∧ x = (ta k).toNatClampNeg := by
    intro k x hx
    have hk := (List.getElem?_eq_some_iff.mp hx).1
    rw [hl] at hk
    refine ⟨hk, ?_⟩
    rw [List.getElem?_map, List.getElem?_range hk] at hx
    exact (Option.some.inj hx).symm
  refine ⟨(List.range n).map (fun k => (ta k).toNatClampNeg), by rw [hl]; exact h1, by rw [hl]; exact h2, by rw [hl]; exact h3, fun k x hx => ?_, fun k x hx => ?_, fun b hb => ?_⟩
  · obtain ⟨hk, rfl⟩ := hg k x hx
    obtain ⟨_, b, hb, e⟩ := h4 k hk
    rw [e, nI_clamp (by omega)]
  · obtain ⟨hk, rfl⟩ := hg k x hx
    obtain ⟨e2, b, hb, e⟩ := h4 k hk
    rw [← e2, e, nI_clamp (by omega)]
  · obtain ⟨k, hk, rfl⟩ := List.mem_map.mp hb
    have hk2 := List.mem_range.mp hk
    obtain ⟨_, b, hb, e⟩ := h4 k hk2
    show (ta k).toNatClampNeg < 256
    rw [e, nI_clamp (by omega)]
    omega
theorem vb_s {c u : Nat} (h : u < 128) : vb c u = [u] := by
  cases c with
  | zero => rfl
  | succ c => exact if_pos h
theorem vb_b {c u : Nat} (h : ¬ u < 128) : vb (c + 1) u = (u % 128 + 128) :: vb c (u / 128) := if_neg h
theorem vb_pf : ∀ (c u u' : Nat) (r r' : List Nat), u < 128 ^ (c + 1) → u' < 128 ^ (c + 1) → vb c u ++ r = vb c u' ++ r' → u = u' ∧ r = r'
  | 0, u, u', r, r', _, _, h => by
    have h : u :: r = u' :: r' := h
    exact ⟨(List.cons.inj h).1, (List.cons.inj h).2⟩
  | c + 1, u, u', r, r', h1, h2, h => by
    by_cases a : u < 128
    · by_cases b : u' < 128
      · rw [vb_s a, vb_s b] at h
        have h : u :: r = u' :: r' := h
        exact ⟨(List.cons.inj h).1, (List.cons.inj h).2⟩
      · rw [vb_s a, vb_b b] at h
        have h : u :: r = (u' % 128 + 128) :: (vb c (u' / 128) ++ r') := h
        have := (List.cons.inj h).1
        omega
    · by_cases b : u' < 128
      · rw [vb_b a, vb_s b] at h
        have h : (u % 128 + 128) :: (vb c (u / 128) ++ r) = u' :: r' := h
        have := (List.cons.inj h).1
        omega
      · rw [vb_b a, vb_b b] at h
        have h : (u % 128 + 128) :: (vb c (u / 128) ++ r) = (u' % 128 + 128) :: (vb c (u' / 128) ++ r') := h
        obtain ⟨h3, h4⟩ := List.cons.inj h
        rw [Nat.pow_succ] at h1 h2
        obtain ⟨h5, h6⟩ := vb_pf c (u / 128) (u' / 128) r r' (Nat.div_lt_of_lt_mul (by rw [Nat.mul_comm]; exact h1)) (Nat.div_lt_of_lt_mul (by rw [Nat.mul_comm]; exact h2)) h4
        exact ⟨by omega, h6⟩
def zag (u : Nat) : Int32 := Int32.ofInt (if u % 2 = 0 then ((u / 2 : Nat) : Int) else -(((u + 1) / 2 : Nat) : Int))
theorem zag_i {u : Nat} (h : u < 2 ^ 32) : (zag u).toInt = if u % 2 = 0 then ((u / 2 : Nat) : Int) else -(((u + 1) / 2 : Nat) : Int) := by
  unfold zag
  apply Int32.toInt_ofInt_of_le
  · split <;> omega
  · split <;> omega
theorem zig_zag {u : Nat} (h : u < 2 ^ 32) : zig (zag u) = u := by
  have h1 := zag_i h
  unfold zig
  by_cases h2 : u % 2 = 0
  · rw [if_pos h2] at h1
    have h3 : ¬ zag u < 0 := fun z => by
      rw [Int32.lt_iff_toInt_lt, Int32.toInt_zero, h1] at z
      omega
    rw [if_neg h3, h1]
    omega
  · rw [if_neg h2] at h1
    have h3 : zag u < 0 := by
      rw [Int32.lt_iff_toInt_lt, Int32.toInt_zero, h1]
      omega
    rw [if_pos h3, h1]
    omega
theorem zag_zig (v : Int32) : zag (zig v) = v := by
  have h1 := Int32.toInt_lt v
  have h2 := Int32.le_toInt v
  apply Int32.toInt_inj.mp
  rw [zag_i (zig_lt v)]
  unfold zig
  by_cases h : v < 0
  · have h3 : v.toInt < 0 := by
      rw [Int32.lt_iff_toInt_lt, Int32.toInt_zero] at h
      exact h
    rw [if_pos h]
    rw [if_neg (by omega)]
    omega
  · have h3 : ¬ v.toInt < 0 := fun z => h (by rw [Int32.lt_iff_toInt_lt, Int32.toInt_zero]; exact z)
    rw [if_neg h]
    rw [if_pos (by omega)]
    omega
theorem zig_inj {v v' : Int32} (h : zig v = zig v') : v = v' := by
  rw [← zag_zig v, ← zag_zig v', h]
theorem zvb_pf {v v' : Int32} {r r' : List Nat} (h : vb 4 (zig v) ++ r = vb 4 (zig v') ++ r') : v = v' ∧ r = r' := by
  have h1 := zig_lt v
  have h2 := zig_lt v'
  obtain ⟨a, b⟩ := vb_pf 4 (zig v) (zig v') r r' (by omega) (by omega) h
  exact ⟨zig_inj a, b⟩
theorem vbs_pf : ∀ (s s' : List Int32) (r r' : List Nat), s.length = s'.length → vbs s ++ r = vbs s' ++ r' → s = s' ∧ r = r'
  | [], [], r, r', _, h => ⟨rfl, h⟩
  | [], _ :: _, _, _, h, _ => absurd h (by simp)
  | _ :: _, [], _, _, h, _ => absurd h (by simp)
  | x :: s, y :: s', r, r', hl, h => by
    have h : vb 4 (zig x) ++ vbs s ++ r = vb 4 (zig y) ++ vbs s' ++ r' := h
    rw [List.append_assoc, List.append_assoc] at h
    obtain ⟨a, b⟩ := zvb_pf h
    obtain ⟨c, d⟩ := vbs_pf s s' r r' (by simpa using hl) b
    exact ⟨by rw [a, c], d⟩
theorem obytes_pf {q q' : op} {r r' : List Nat} (hq : ov q) (hq' : ov q') (h : obytes q ++ r = obytes q' ++ r') : q = q' ∧ r = r' := by
  obtain ⟨p1, p2, p3, p4, p5, p6⟩ := q
  obtain ⟨q1, q2, q3, q4, q5, q6⟩ := q'
  obtain ⟨_, hq⟩ := hq
  obtain ⟨_, hq'⟩ := hq'
  unfold obytes cont at h
  simp only [List.cons_append] at h hq hq'
  obtain ⟨h1, ha⟩ := List.cons.inj h
  obtain ⟨h2, hb⟩ := List.cons.inj ha
  obtain ⟨h3, hc⟩ := List.cons.inj hb
  clear h ha hb
  subst h1
  subst h2
  subst h3
  rcases hq with ⟨z, _, _, a4, a5, a6⟩ | ⟨z, _, a6, a4⟩ | ⟨z, _, a5, a4, _⟩
  · subst z
    rcases hq' with ⟨_, _, _, b4, b5, b6⟩ | ⟨z, _⟩ | ⟨z, _⟩
    · rw [if_neg (by decide), if_neg (by decide), if_neg (by decide), if_neg (by decide)] at hc
      rw [a4, a5, a6, b4, b5, b6]
      exact ⟨rfl, hc⟩
    · omega
    · omega
  · subst z
    rcases hq' with ⟨z, _⟩ | ⟨_, _, b6, b4⟩ | ⟨z, _⟩
    · omega
    · rw [if_pos rfl, if_pos rfl, List.cons_append, List.cons_append] at hc
      obtain ⟨h4, hd⟩ := List.cons.inj hc
      clear hc
      subst h4
      rw [a6, b6]
      rcases a4 with ⟨c1, c2⟩ | c1 | ⟨c1, x, hx, c2⟩
      · subst c1
        rw [if_neg (by decide), if_neg (by decide), if_neg (by decide), if_neg (by decide)] at hd
        rcases b4 with ⟨_, d2⟩ | d1 | ⟨d1, _⟩
        · rw [c2, d2]
          exact ⟨rfl, hd⟩
        · omega
        · omega
      · subst c1
        rw [if_pos rfl, if_pos rfl] at hd
        obtain ⟨e1, e2⟩ := zvb_pf hd
        rw [e1]
        exact ⟨rfl, e2⟩
      · subst c1
        rw [if_neg (by decide), if_pos rfl, if_neg (by decide), if_pos rfl] at hd
        rcases b4 with ⟨d1, _⟩ | d1 | ⟨_, y, hy, d2⟩
        · omega
        · omega
        · rw [c2, d2, nI_clamp (by omega), nI_clamp (by omega)] at hd
          obtain ⟨e1, e2⟩ := List.cons.inj hd
          rw [c2, d2, e1]
          exact ⟨rfl, e2⟩
    · omega
  · subst z
    rcases hq' with ⟨z, _⟩ | ⟨z, _⟩ | ⟨_, _, b5, b4, _⟩
    · omega
    · omega
    · rw [if_neg (by decide), if_pos rfl, if_neg (by decide), if_pos rfl, List.cons_append, List.cons_append, List.cons_append, List.cons_append] at hc
      obtain ⟨h4, hd⟩ := List.cons.inj hc
      obtain ⟨h5, he⟩ := List.cons.inj hd
      obtain ⟨e1, e2⟩ := vbs_pf _ _ _ _ h5 he
      rw [h4, a4, b4, e1]
      exact ⟨rfl, e2⟩
def obs (l : List op) : List Nat := (l.map obytes).flatten
theorem eb_obs {l : List op} : eb l = 68 :: obs l := rfl
theorem obs_c {q : op} {l : List op} : obs (q :: l) = obytes q ++ obs l := by simp [obs]
theorem obs_app {l k : List op} : obs (l ++ k) = obs l ++ obs k := by simp [obs]
theorem eb_snoc2 {l : List op} {q : op} : eb (l ++ [q]) = eb l ++ obytes q := by
  rw [eb_obs, eb_obs, obs_app, obs_c, List.cons_append]
  show _ = 68 :: (obs l ++ obytes q)
  rw [show obs ([] : List op) = [] from rfl, List.append_nil]
theorem obs_pf : ∀ (l l' : List op) (r e : List Nat), (∀ q, q ∈ l → ov q) → (∀ q, q ∈ l' → ov q) → obs l' ++ 0 :: e = obs l ++ r → ∃ l2, l' = l ++ l2 ∧ r = obs l2 ++ 0 :: e
  | [], l', r, e, _, _, h => ⟨l', rfl, h.symm⟩
  | q :: l, [], r, e, h1, _, h => by
    rw [obs_c] at h
    have h : 0 :: e = obytes q ++ obs l ++ r := h
    unfold obytes at h
    have h0 : (0 : Nat) = q.1 := (List.cons.inj h).1
    have := (ov_c (h1 q List.mem_cons_self)).2
    omega
  | q :: l, p :: l', r, e, h1, h2, h => by
    rw [obs_c, obs_c, List.append_assoc, List.append_assoc] at h
    obtain ⟨a, b⟩ := obytes_pf (h2 p List.mem_cons_self) (h1 q List.mem_cons_self) h
    subst a
    obtain ⟨l2, c, d⟩ := obs_pf l l' r e (fun x hx => h1 x (List.mem_cons_of_mem _ hx)) (fun x hx => h2 x (List.mem_cons_of_mem _ hx)) b
    exact ⟨l2, by rw [c]; rfl, d⟩
theorem ef_pf {l l' : List op} {r : List Nat} (h1 : ∀ q, q ∈ l → ov q) (h2 : ∀ q, q ∈ l' → ov q) (h : ef l' = eb l ++ r) : ∃ l2, l' = l ++ l2 ∧ r = obs l2 ++ 0 :: [sm (eb l' ++ [0])] := by
  unfold ef at h
  rw [eb_obs, eb_obs, List.append_assoc, List.cons_append, List.cons_append] at h
  obtain ⟨_, h⟩ := List.cons.inj h
  exact obs_pf l l' r _ h1 h2 h
