theorem zig_p {v : Int32} (h : ¬ v < 0) : (2 : Int64) * v.toInt64 = lN (zig v) := by
  obtain ⟨a, ha, rfl⟩ := nI_of h
  have e : zig (nI a) = 2 * a := by
    unfold zig
    rw [if_neg h, nI_toInt ha]
    omega
  rw [e, nI_l ha, show (2 : Int64) = lN 2 from rfl, lN_mul]
theorem zig_n {v : Int32} (h : v < 0) : (-2 : Int64) * v.toInt64 - 1 = lN (zig v) := by
  have h1 := Int32.toInt_lt v
  have h2 := Int32.le_toInt v
  have h3 : v.toInt < 0 := by
    rw [Int32.lt_iff_toInt_lt, Int32.toInt_zero] at h
    exact h
  have hz := zig_lt v
  have e : (zig v : Int) = -2 * v.toInt - 1 := by
    unfold zig
    rw [if_pos h]
    omega
  apply Int64.toInt_inj.mp
  rw [Int64.toInt_sub, Int64.toInt_mul, Int32.toInt_toInt64, pk_lT (by omega), e, show (-2 : Int64).toInt = -2 by decide, show (1 : Int64).toInt = 1 by decide]
  rw [Int.bmod_eq_of_le (n := -2 * v.toInt) (by omega) (by omega), Int.bmod_eq_of_le (by omega) (by omega)]
def vb : Nat → Nat → List Nat
  | 0, u => [u]
  | c + 1, u => if u < 128 then [u] else (u % 128 + 128) :: vb c (u / 128)
