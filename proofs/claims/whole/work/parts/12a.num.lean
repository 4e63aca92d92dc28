theorem az_z : (0 : Int32) = nI 0 := nI_0.symm
theorem az_o : (1 : Int32) = nI 1 := rfl
theorem az_e0 {n : Nat} (h : n < 2 ^ 31) : (nI n = 0) = (n = 0) := by
  rw [← nI_0]
  exact propext (nI_eq h (by decide))
theorem az_l0 {n : Nat} (h : n < 2 ^ 31) : (nI n < 0) = False := eq_false (nI_pos h)
theorem az_g0 {n : Nat} (h : n < 2 ^ 31) : (0 ≤ nI n) = True := eq_true (nI_pos' h)
theorem az_p0 {n : Nat} (h : n < 2 ^ 31) : (0 < nI n) = (0 < n) := by
  rw [← nI_0]
  exact propext (nI_ltI (by decide) h)
theorem az_q0 {n : Nat} (h : n < 2 ^ 31) : (nI n ≤ 0) = (n = 0) := by
  rw [← nI_0, propext (nI_leI h (by decide))]
  exact propext ⟨fun h => by omega, fun h => by omega⟩
theorem az_eq {a b : Nat} (ha : a < 2 ^ 31) (hb : b < 2 ^ 31) : (nI a = nI b) = (a = b) := propext (nI_eq ha hb)
theorem az_lt {a b : Nat} (ha : a < 2 ^ 31) (hb : b < 2 ^ 31) : (nI a < nI b) = (a < b) := propext (nI_ltI ha hb)
theorem az_le {a b : Nat} (ha : a < 2 ^ 31) (hb : b < 2 ^ 31) : (nI a ≤ nI b) = (a ≤ b) := propext (nI_leI ha hb)
theorem az_m1 {n : Nat} (h : n < 2 ^ 31) : (nI n = -1) = False := by
  apply eq_false
  intro e
  have h1 := congrArg Int32.toInt e
  rw [nI_toInt h] at h1
  have h2 : (-1 : Int32).toInt = -1 := by decide
  rw [h2] at h1
  omega
theorem az_m2 {n : Nat} (h : n < 2 ^ 31) : (-1 = nI n) = False := eq_false (fun e => by
  have h1 := e.symm
  rw [az_m1 h] at h1
  exact h1)
theorem az_m3 {n : Nat} (h : n < 2 ^ 31) : (nI n < -1) = False := by
  apply eq_false
  rw [Int32.lt_iff_toInt_lt, nI_toInt h, show (-1 : Int32).toInt = -1 by decide]
  omega
theorem az_m4 : ((-1 : Int32) < 0) = True := eq_true (by decide)
theorem az_m5 : ((0 : Int32) ≤ -1) = False := eq_false (by decide)
theorem az_m6 : ((-1 : Int32) = 0) = False := eq_false (by decide)
theorem az_m7 {n : Nat} (h : n < 2 ^ 31) : (-1 < nI n) = True := by
  apply eq_true
  rw [Int32.lt_iff_toInt_lt, nI_toInt h, show (-1 : Int32).toInt = -1 by decide]
  omega
theorem az_m8 {n : Nat} (h : n < 2 ^ 31) : (nI n ≤ -1) = False := by
  apply eq_false
  rw [Int32.le_iff_toInt_le, nI_toInt h, show (-1 : Int32).toInt = -1 by decide]
  omega
theorem az_dec {n : Nat} (h : 0 < n) : nI n + -1 = nI (n - 1) := by
  obtain ⟨k, rfl⟩ : ∃ k, n = k + 1 := ⟨n - 1, by omega⟩
  exact pk_m1 k
theorem az_ge {x : Int32} {n : Nat} (hn : n < 2 ^ 31) (h : nI n ≤ x) : ∃ j : Nat, n ≤ j ∧ j < 2 ^ 31 ∧ x = nI j := by
  have h0 : ¬ x < 0 := by
    intro h1
    rw [Int32.lt_iff_toInt_lt, Int32.toInt_zero] at h1
    rw [Int32.le_iff_toInt_le, nI_toInt hn] at h
    omega
  obtain ⟨j, hj, rfl⟩ := nI_of h0
  exact ⟨j, (nI_leI hn hj).mp h, hj, rfl⟩
/-- an int is below 0, or a natural below n, or one that isn't -/
theorem az_ix (x : Int32) (n : Nat) : x < 0 ∨ (∃ j : Nat, j < n ∧ j < 2 ^ 31 ∧ x = nI j) ∨ ∃ j : Nat, n ≤ j ∧ j < 2 ^ 31 ∧ x = nI j := by
  by_cases h : x < 0
  · exact Or.inl h
  · obtain ⟨j, hj, rfl⟩ := nI_of h
    by_cases h2 : j < n
    · exact Or.inr (Or.inl ⟨j, h2, hj, rfl⟩)
    · exact Or.inr (Or.inr ⟨j, by omega, hj, rfl⟩)
theorem az_neg {x : Int32} (h : x < 0) : (0 ≤ x) = False := by
  apply eq_false
  rw [Int32.le_iff_toInt_le]
  rw [Int32.lt_iff_toInt_lt] at h
  omega
theorem ai_loop {α : Type} (f : Nat → α) (n : Nat) (h : ∀ i, i < n → f i = f (i + 1)) : f 0 = f n := by
  induction n with
  | zero => rfl
  | succ n ih => rw [ih (fun i hi => h i (by omega)), h n (by omega)]
theorem ai_loopF {α : Type} (f : Nat → α) (a b : Nat) (hab : a ≤ b) (h : ∀ i, a ≤ i → i < b → f i = f (i + 1)) : f a = f b := by
  obtain ⟨d, rfl⟩ := Nat.le.dest hab
  induction d with
  | zero => rfl
  | succ d ih => rw [ih (by omega) (fun i h1 h2 => h i h1 (by omega))]; exact h (a + d) (by omega) (by omega)
theorem ai_down {α : Type} (f : Nat → α) (a b : Nat) (hab : a ≤ b) (h : ∀ i, a ≤ i → i < b → f (i + 1) = f i) : f b = f a := by
  obtain ⟨d, rfl⟩ := Nat.le.dest hab
  induction d with
  | zero => rfl
  | succ d ih => rw [← ih (by omega) (fun i h1 h2 => h i h1 (by omega))]; exact h (a + d) (by omega) (by omega)
section AW
variable {w : ai_W} {a b n k : Nat} {e e2 : va_E}
theorem aw_p1 : (ai_put w a e).1 = w.1 := rfl
theorem aw_p2 : (ai_put w a e).2.1 = w.2.1 := rfl
theorem aw_a1 : (ai_add w n e).1 = w.1 + 1 := rfl
theorem aw_a2 : (ai_add w n e).2.1 = w.2.1 + n := rfl
theorem aw_an : (ai_add w n e).2.2 (w.1 + 1) = e := if_pos rfl
theorem aw_ao (h : ¬ k = w.1 + 1) : (ai_add w n e).2.2 k = w.2.2 k := if_neg h
theorem aw_ext {w w' : ai_W} (h1 : w.1 = w'.1) (h2 : w.2.1 = w'.2.1) (h3 : ∀ k, w.2.2 k = w'.2.2 k) : w = w' := by
  obtain ⟨x1, x2, x3⟩ := w
  obtain ⟨y1, y2, y3⟩ := w'
  have h3' : x3 = y3 := funext h3
  cases h1
  cases h2
  cases h3'
  rfl
theorem aw_pp : ai_put (ai_put w a e) a e2 = ai_put w a e2 := by
  refine aw_ext rfl rfl (fun k => ?_)
  by_cases h : k = a <;> simp [ai_put, h]
theorem aw_self (h : w.2.2 a = e) : ai_put w a e = w := by
  refine aw_ext rfl rfl (fun k => ?_)
  by_cases h2 : k = a
  · subst h2; simp [ai_put, h]
  · simp [ai_put, h2]
theorem ai_nl_i {x : Int32} : ai_nl (some (.int x)) = some (.int x) := rfl
theorem ai_nl_r {x : Nat} : ai_nl (some (.ref x)) = some (.ref x) := rfl
theorem ai_nl_l {x : Int64} : ai_nl (some (.long x)) = none := rfl
theorem ai_nl_n : ai_nl none = none := rfl
end AW
theorem ud_s {f : Nat → Int32} {k : Nat} {x : Int32} : upd f k x k = x := if_pos rfl
theorem ud_n {f : Nat → Int32} {k j : Nat} {x : Int32} (h : ¬ j = k) : upd f k x j = f j := if_neg h
theorem ud_at (f : Nat → Int32) (k j : Nat) (x : Int32) : upd f k x j = if j = k then x else f j := rfl
theorem ud_self {f : Nat → Int32} {k : Nat} : upd f k (f k) = f := by
  funext j
  rw [ud_at]
  split
  · next h => rw [h]
  · rfl
theorem az_b0 {q : Bool} : (ai_bI q = 0) = (q = false) := by
  cases q
  · exact eq_true nI_0 |>.trans (eq_true rfl).symm
  · apply propext
    constructor
    · intro h; exact absurd h (by decide +kernel)
    · intro h; cases h
theorem az_bd {p : Prop} {dp : Decidable p} : (ai_bI (decide p) = 0) = ¬ p := by
  rw [az_b0, decide_eq_false_iff_not]
theorem az_bt : ai_bI true = nI 1 := rfl
theorem az_bf : ai_bI false = nI 0 := rfl
theorem az_or {a b : Nat} (ha : a < 2 ^ 31) (hb : b < 2 ^ 31) : nI a ||| nI b = nI (a ||| b) := by
  apply Int32.toBitVec_inj.mp
  apply BitVec.eq_of_toNat_eq
  have h : a ||| b < 2 ^ 31 := Nat.or_lt_two_pow ha hb
  rw [Int32.toBitVec_or, BitVec.toNat_or, pk_tn (by omega), pk_tn (by omega), pk_tn (by omega)]
theorem az_sh : ∀ p, p < 32 → ((nI p &&& 31).toBitVec.smod 32).toNat = p := by decide +kernel
theorem az_1l : ∀ p, p < 31 → nI 1 <<< (nI p &&& 31) = nI (2 ^ p) := by decide +kernel
theorem az_bit {r o : Nat} (hr : r < 2 ^ 31) (ho : o < 32) : (nI r >>> (nI o &&& 31)) &&& nI 1 = ai_bI (r.testBit o) := by
  rw [pk_shrN hr _ o (az_sh o ho), pk_andN (n := r / 2 ^ o) (Nat.lt_of_le_of_lt (Nat.div_le_self _ _) (by omega)) (m := nI 1) 1 (by decide +kernel), Nat.testBit_eq_decide_div_mod_eq]
  by_cases h : r / 2 ^ o % 2 = 1
  · rw [decide_eq_true h, show r / 2 ^ o % 2 ^ 1 = 1 from h]
    rfl
  · have h0 : r / 2 ^ o % 2 = 0 := by omega
    rw [decide_eq_false h, show r / 2 ^ o % 2 ^ 1 = 0 from h0]
    rfl
theorem dn_leT {a b : Nat} (h : a ≤ b) : (a ≤ b) = True := eq_true h
theorem dn_leF {a b : Nat} (h : b < a) : (a ≤ b) = False := eq_false (by omega)
theorem dn_ltT {a b : Nat} (h : a < b) : (a < b) = True := eq_true h
theorem dn_ltF {a b : Nat} (h : b ≤ a) : (a < b) = False := eq_false (by omega)
theorem dn_eqT {a b : Nat} (h : a = b) : (a = b) = True := eq_true h
theorem dn_eqF {a b : Nat} (h : a < b ∨ b < a) : (a = b) = False := eq_false (by omega)
def ar_f (f : Nat → Int32) (a b : Nat) (v : Int32) : Nat → Int32 := fun k => if a ≤ k ∧ k < b then v else f k
theorem ar_f_s {f : Nat → Int32} {a b : Nat} {v : Int32} (h : a ≤ b) : upd (ar_f f a b v) b v = ar_f f a (b + 1) v := by
  funext k
  rw [ud_at]
  unfold ar_f
  by_cases h1 : k = b
  · rw [if_pos h1, if_pos (by omega)]
  · rw [if_neg h1]
    by_cases h2 : a ≤ k ∧ k < b
    · rw [if_pos h2, if_pos (by omega)]
    · rw [if_neg h2, if_neg (by omega)]
theorem ar_f_0 {f : Nat → Int32} {a : Nat} {v : Int32} : ar_f f a a v = f := by
  funext k
  unfold ar_f
  rw [if_neg (by omega)]
theorem ar_f_in {f : Nat → Int32} {a b k : Nat} {v : Int32} (h : a ≤ k) (h2 : k < b) : ar_f f a b v k = v := if_pos ⟨h, h2⟩
theorem ar_f_out {f : Nat → Int32} {a b k : Nat} {v : Int32} (h : k < a ∨ b ≤ k) : ar_f f a b v k = f k := if_neg (by omega)
theorem ud_ud {f : Nat → Int32} {k : Nat} {x y : Int32} : upd (upd f k x) k y = upd f k y := by
  funext j
  simp only [ud_at]
  split <;> rfl
