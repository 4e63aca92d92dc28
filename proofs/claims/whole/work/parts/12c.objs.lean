def gw (w : ai_W) (a : Nat) (A : Nat → Int32) (B : Nat → Int32) (C : Nat → Int32) (D : Nat → Int32) : ai_W := (w.1, w.2.1, fun k => if k = a then .inr (4, [.ref (a + 1), .ref (a + 2), .ref (a + 3), .ref (a + 4)]) else if k = a + 1 then .inl (0, 16, .inl A) else if k = a + 2 then .inl (0, 16, .inl B) else if k = a + 3 then .inl (0, 48, .inl C) else if k = a + 4 then .inl (0, 96, .inl D) else w.2.2 k)
section OB_g
variable {w : ai_W} {a k : Nat} {e : va_E} {A : Nat → Int32} {B : Nat → Int32} {C : Nat → Int32} {D : Nat → Int32}
theorem gw_1 : (gw w a A B C D).1 = w.1 := rfl
theorem gw_2 : (gw w a A B C D).2.1 = w.2.1 := rfl
theorem gw_g0 : (gw w a A B C D).2.2 a = .inr (4, [.ref (a + 1), .ref (a + 2), .ref (a + 3), .ref (a + 4)]) := if_pos rfl
theorem gw_g1 : (gw w a A B C D).2.2 (a + 1) = .inl (0, 16, .inl A) := by simp [gw]
theorem gw_g2 : (gw w a A B C D).2.2 (a + 2) = .inl (0, 16, .inl B) := by simp [gw]
theorem gw_g3 : (gw w a A B C D).2.2 (a + 3) = .inl (0, 48, .inl C) := by simp [gw]
theorem gw_g4 : (gw w a A B C D).2.2 (a + 4) = .inl (0, 96, .inl D) := by simp [gw]
theorem gw_go (h : k < a ∨ a + 4 < k) : (gw w a A B C D).2.2 k = w.2.2 k := by
  have n0 : ¬ k = a := by omega
  have n1 : ¬ k = a + 1 := by omega
  have n2 : ¬ k = a + 2 := by omega
  have n3 : ¬ k = a + 3 := by omega
  have n4 : ¬ k = a + 4 := by omega
  simp only [gw, if_neg n0, if_neg n1, if_neg n2, if_neg n3, if_neg n4]
theorem gw_p1 {x' : Nat → Int32} : ai_put (gw w a A B C D) (a + 1) (.inl (0, 16, .inl x')) = gw w a x' B C D := by
  refine aw_ext rfl rfl (fun k => ?_)
  by_cases hk : k = a + 1
  · subst hk; simp [ai_put, gw]
  · simp only [ai_put, gw, if_neg hk]
theorem gw_p2 {x' : Nat → Int32} : ai_put (gw w a A B C D) (a + 2) (.inl (0, 16, .inl x')) = gw w a A x' C D := by
  refine aw_ext rfl rfl (fun k => ?_)
  by_cases hk : k = a + 2
  · subst hk; simp [ai_put, gw]
  · simp only [ai_put, gw, if_neg hk]
theorem gw_p3 {x' : Nat → Int32} : ai_put (gw w a A B C D) (a + 3) (.inl (0, 48, .inl x')) = gw w a A B x' D := by
  refine aw_ext rfl rfl (fun k => ?_)
  by_cases hk : k = a + 3
  · subst hk; simp [ai_put, gw]
  · simp only [ai_put, gw, if_neg hk]
theorem gw_p4 {x' : Nat → Int32} : ai_put (gw w a A B C D) (a + 4) (.inl (0, 96, .inl x')) = gw w a A B C x' := by
  refine aw_ext rfl rfl (fun k => ?_)
  by_cases hk : k = a + 4
  · subst hk; simp [ai_put, gw]
  · simp only [ai_put, gw, if_neg hk]
theorem gw_w {A' : Nat → Int32} {B' : Nat → Int32} {C' : Nat → Int32} {D' : Nat → Int32} : gw (gw w a A B C D) a A' B' C' D' = gw w a A' B' C' D' := by
  refine aw_ext rfl rfl (fun k => ?_)
  by_cases h0 : k = a
  · simp only [gw, if_pos h0]
  by_cases h1 : k = a + 1
  · simp only [gw, if_pos h1]
  by_cases h2 : k = a + 2
  · simp only [gw, if_pos h2]
  by_cases h3 : k = a + 3
  · simp only [gw, if_pos h3]
  by_cases h4 : k = a + 4
  · simp only [gw, if_pos h4]
  simp only [gw, if_neg h0, if_neg h1, if_neg h2, if_neg h3, if_neg h4]
theorem gw_po (h : k < a ∨ a + 4 < k) : ai_put (gw w a A B C D) k e = gw (ai_put w k e) a A B C D := by
  have n0 : ¬ k = a := by omega
  have n1 : ¬ k = a + 1 := by omega
  have n2 : ¬ k = a + 2 := by omega
  have n3 : ¬ k = a + 3 := by omega
  have n4 : ¬ k = a + 4 := by omega
  refine aw_ext rfl rfl (fun j => ?_)
  by_cases hj : j = k
  · subst hj
    simp only [ai_put, gw, if_true, if_neg n0, if_neg n1, if_neg n2, if_neg n3, if_neg n4]
  · simp only [ai_put, gw, if_neg hj]
theorem gw_at (h : gw w a A B C D = w) : w.2.2 a = .inr (4, [.ref (a + 1), .ref (a + 2), .ref (a + 3), .ref (a + 4)]) := by rw [← h]; exact gw_g0
theorem gw_at1 (h : gw w a A B C D = w) : w.2.2 (a + 1) = .inl (0, 16, .inl A) := by rw [← h]; exact gw_g1
theorem gw_at2 (h : gw w a A B C D = w) : w.2.2 (a + 2) = .inl (0, 16, .inl B) := by rw [← h]; exact gw_g2
theorem gw_at3 (h : gw w a A B C D = w) : w.2.2 (a + 3) = .inl (0, 48, .inl C) := by rw [← h]; exact gw_g3
theorem gw_at4 (h : gw w a A B C D = w) : w.2.2 (a + 4) = .inl (0, 96, .inl D) := by rw [← h]; exact gw_g4
theorem gw_of (h0 : w.2.2 a = .inr (4, [.ref (a + 1), .ref (a + 2), .ref (a + 3), .ref (a + 4)])) (h1 : w.2.2 (a + 1) = .inl (0, 16, .inl A)) (h2 : w.2.2 (a + 2) = .inl (0, 16, .inl B)) (h3 : w.2.2 (a + 3) = .inl (0, 48, .inl C)) (h4 : w.2.2 (a + 4) = .inl (0, 96, .inl D)) : gw w a A B C D = w := by
  refine aw_ext rfl rfl (fun k => ?_)
  by_cases g0 : k = a
  · subst g0; rw [gw_g0, h0]
  by_cases g1 : k = a + 1
  · subst g1; rw [gw_g1, h1]
  by_cases g2 : k = a + 2
  · subst g2; rw [gw_g2, h2]
  by_cases g3 : k = a + 3
  · subst g3; rw [gw_g3, h3]
  by_cases g4 : k = a + 4
  · subst g4; rw [gw_g4, h4]
  simp only [gw, if_neg g0, if_neg g1, if_neg g2, if_neg g3, if_neg g4]
theorem gw_fr {w2 : ai_W} (h : gw w a A B C D = w) (g : ∀ k, a ≤ k → k ≤ a + 4 → w2.2.2 k = w.2.2 k) : gw w2 a A B C D = w2 := gw_of ((g _ (by omega) (by omega)).trans (gw_at h)) ((g _ (by omega) (by omega)).trans (gw_at1 h)) ((g _ (by omega) (by omega)).trans (gw_at2 h)) ((g _ (by omega) (by omega)).trans (gw_at3 h)) ((g _ (by omega) (by omega)).trans (gw_at4 h))
end OB_g
def dw (w : ai_W) (a : Nat) (A : Nat → Int32) (n : Int32) : ai_W := (w.1, w.2.1, fun k => if k = a then .inr (1, [.ref (a + 1), .int n]) else if k = a + 1 then .inl (0, 1397, .inl A) else w.2.2 k)
section OB_d
variable {w : ai_W} {a k : Nat} {e : va_E} {A : Nat → Int32} {n : Int32}
theorem dw_1 : (dw w a A n).1 = w.1 := rfl
theorem dw_2 : (dw w a A n).2.1 = w.2.1 := rfl
theorem dw_g0 : (dw w a A n).2.2 a = .inr (1, [.ref (a + 1), .int n]) := if_pos rfl
theorem dw_g1 : (dw w a A n).2.2 (a + 1) = .inl (0, 1397, .inl A) := by simp [dw]
theorem dw_go (h : k < a ∨ a + 1 < k) : (dw w a A n).2.2 k = w.2.2 k := by
  have n0 : ¬ k = a := by omega
  have n1 : ¬ k = a + 1 := by omega
  simp only [dw, if_neg n0, if_neg n1]
theorem dw_p0 {n' : Int32} : ai_put (dw w a A n) a (.inr (1, [.ref (a + 1), .int n'])) = dw w a A n' := by
  refine aw_ext rfl rfl (fun k => ?_)
  by_cases hk : k = a
  · subst hk; simp [ai_put, dw]
  · simp only [ai_put, dw, if_neg hk]
theorem dw_p1 {x' : Nat → Int32} : ai_put (dw w a A n) (a + 1) (.inl (0, 1397, .inl x')) = dw w a x' n := by
  refine aw_ext rfl rfl (fun k => ?_)
  by_cases hk : k = a + 1
  · subst hk; simp [ai_put, dw]
  · simp only [ai_put, dw, if_neg hk]
theorem dw_w {A' : Nat → Int32} {n' : Int32} : dw (dw w a A n) a A' n' = dw w a A' n' := by
  refine aw_ext rfl rfl (fun k => ?_)
  by_cases h0 : k = a
  · simp only [dw, if_pos h0]
  by_cases h1 : k = a + 1
  · simp only [dw, if_pos h1]
  simp only [dw, if_neg h0, if_neg h1]
theorem dw_po (h : k < a ∨ a + 1 < k) : ai_put (dw w a A n) k e = dw (ai_put w k e) a A n := by
  have n0 : ¬ k = a := by omega
  have n1 : ¬ k = a + 1 := by omega
  refine aw_ext rfl rfl (fun j => ?_)
  by_cases hj : j = k
  · subst hj
    simp only [ai_put, dw, if_true, if_neg n0, if_neg n1]
  · simp only [ai_put, dw, if_neg hj]
theorem dw_at (h : dw w a A n = w) : w.2.2 a = .inr (1, [.ref (a + 1), .int n]) := by rw [← h]; exact dw_g0
theorem dw_at1 (h : dw w a A n = w) : w.2.2 (a + 1) = .inl (0, 1397, .inl A) := by rw [← h]; exact dw_g1
theorem dw_of (h0 : w.2.2 a = .inr (1, [.ref (a + 1), .int n])) (h1 : w.2.2 (a + 1) = .inl (0, 1397, .inl A)) : dw w a A n = w := by
  refine aw_ext rfl rfl (fun k => ?_)
  by_cases g0 : k = a
  · subst g0; rw [dw_g0, h0]
  by_cases g1 : k = a + 1
  · subst g1; rw [dw_g1, h1]
  simp only [dw, if_neg g0, if_neg g1]
theorem dw_fr {w2 : ai_W} (h : dw w a A n = w) (g : ∀ k, a ≤ k → k ≤ a + 1 → w2.2.2 k = w.2.2 k) : dw w2 a A n = w2 := dw_of ((g _ (by omega) (by omega)).trans (dw_at h)) ((g _ (by omega) (by omega)).trans (dw_at1 h))
end OB_d
def fw (w : ai_W) (a : Nat) (A : Nat → Int32) (B : Nat → Int32) (p : Int32) (q : Int32) (C : Nat → Int32) : ai_W := (w.1, w.2.1, fun k => if k = a then .inr (2, [.ref (a + 1), .ref (a + 2), .int p, .int q, .ref (a + 3)]) else if k = a + 1 then .inl (0, 6, .inl A) else if k = a + 2 then .inl (0, 6, .inl B) else if k = a + 3 then .inl (0, 49, .inl C) else w.2.2 k)
section OB_f
variable {w : ai_W} {a k : Nat} {e : va_E} {A : Nat → Int32} {B : Nat → Int32} {p : Int32} {q : Int32} {C : Nat → Int32}
theorem fw_1 : (fw w a A B p q C).1 = w.1 := rfl
theorem fw_2 : (fw w a A B p q C).2.1 = w.2.1 := rfl
theorem fw_g0 : (fw w a A B p q C).2.2 a = .inr (2, [.ref (a + 1), .ref (a + 2), .int p, .int q, .ref (a + 3)]) := if_pos rfl
theorem fw_g1 : (fw w a A B p q C).2.2 (a + 1) = .inl (0, 6, .inl A) := by simp [fw]
theorem fw_g2 : (fw w a A B p q C).2.2 (a + 2) = .inl (0, 6, .inl B) := by simp [fw]
theorem fw_g3 : (fw w a A B p q C).2.2 (a + 3) = .inl (0, 49, .inl C) := by simp [fw]
theorem fw_go (h : k < a ∨ a + 3 < k) : (fw w a A B p q C).2.2 k = w.2.2 k := by
  have n0 : ¬ k = a := by omega
  have n1 : ¬ k = a + 1 := by omega
  have n2 : ¬ k = a + 2 := by omega
  have n3 : ¬ k = a + 3 := by omega
  simp only [fw, if_neg n0, if_neg n1, if_neg n2, if_neg n3]
theorem fw_p0 {p' : Int32} {q' : Int32} : ai_put (fw w a A B p q C) a (.inr (2, [.ref (a + 1), .ref (a + 2), .int p', .int q', .ref (a + 3)])) = fw w a A B p' q' C := by
  refine aw_ext rfl rfl (fun k => ?_)
  by_cases hk : k = a
  · subst hk; simp [ai_put, fw]
  · simp only [ai_put, fw, if_neg hk]
theorem fw_p1 {x' : Nat → Int32} : ai_put (fw w a A B p q C) (a + 1) (.inl (0, 6, .inl x')) = fw w a x' B p q C := by
  refine aw_ext rfl rfl (fun k => ?_)
  by_cases hk : k = a + 1
  · subst hk; simp [ai_put, fw]
  · simp only [ai_put, fw, if_neg hk]
theorem fw_p2 {x' : Nat → Int32} : ai_put (fw w a A B p q C) (a + 2) (.inl (0, 6, .inl x')) = fw w a A x' p q C := by
  refine aw_ext rfl rfl (fun k => ?_)
  by_cases hk : k = a + 2
  · subst hk; simp [ai_put, fw]
  · simp only [ai_put, fw, if_neg hk]
theorem fw_p3 {x' : Nat → Int32} : ai_put (fw w a A B p q C) (a + 3) (.inl (0, 49, .inl x')) = fw w a A B p q x' := by
  refine aw_ext rfl rfl (fun k => ?_)
  by_cases hk : k = a + 3
  · subst hk; simp [ai_put, fw]
  · simp only [ai_put, fw, if_neg hk]
theorem fw_w {A' : Nat → Int32} {B' : Nat → Int32} {p' : Int32} {q' : Int32} {C' : Nat → Int32} : fw (fw w a A B p q C) a A' B' p' q' C' = fw w a A' B' p' q' C' := by
  refine aw_ext rfl rfl (fun k => ?_)
  by_cases h0 : k = a
  · simp only [fw, if_pos h0]
  by_cases h1 : k = a + 1
  · simp only [fw, if_pos h1]
  by_cases h2 : k = a + 2
  · simp only [fw, if_pos h2]
  by_cases h3 : k = a + 3
  · simp only [fw, if_pos h3]
  simp only [fw, if_neg h0, if_neg h1, if_neg h2, if_neg h3]
theorem fw_po (h : k < a ∨ a + 3 < k) : ai_put (fw w a A B p q C) k e = fw (ai_put w k e) a A B p q C := by
  have n0 : ¬ k = a := by omega
  have n1 : ¬ k = a + 1 := by omega
  have n2 : ¬ k = a + 2 := by omega
  have n3 : ¬ k = a + 3 := by omega
  refine aw_ext rfl rfl (fun j => ?_)
  by_cases hj : j = k
  · subst hj
    simp only [ai_put, fw, if_true, if_neg n0, if_neg n1, if_neg n2, if_neg n3]
  · simp only [ai_put, fw, if_neg hj]
theorem fw_at (h : fw w a A B p q C = w) : w.2.2 a = .inr (2, [.ref (a + 1), .ref (a + 2), .int p, .int q, .ref (a + 3)]) := by rw [← h]; exact fw_g0
theorem fw_at1 (h : fw w a A B p q C = w) : w.2.2 (a + 1) = .inl (0, 6, .inl A) := by rw [← h]; exact fw_g1
theorem fw_at2 (h : fw w a A B p q C = w) : w.2.2 (a + 2) = .inl (0, 6, .inl B) := by rw [← h]; exact fw_g2
theorem fw_at3 (h : fw w a A B p q C = w) : w.2.2 (a + 3) = .inl (0, 49, .inl C) := by rw [← h]; exact fw_g3
theorem fw_of (h0 : w.2.2 a = .inr (2, [.ref (a + 1), .ref (a + 2), .int p, .int q, .ref (a + 3)])) (h1 : w.2.2 (a + 1) = .inl (0, 6, .inl A)) (h2 : w.2.2 (a + 2) = .inl (0, 6, .inl B)) (h3 : w.2.2 (a + 3) = .inl (0, 49, .inl C)) : fw w a A B p q C = w := by
  refine aw_ext rfl rfl (fun k => ?_)
  by_cases g0 : k = a
  · subst g0; rw [fw_g0, h0]
  by_cases g1 : k = a + 1
  · subst g1; rw [fw_g1, h1]
  by_cases g2 : k = a + 2
  · subst g2; rw [fw_g2, h2]
  by_cases g3 : k = a + 3
  · subst g3; rw [fw_g3, h3]
  simp only [fw, if_neg g0, if_neg g1, if_neg g2, if_neg g3]
theorem fw_fr {w2 : ai_W} (h : fw w a A B p q C = w) (g : ∀ k, a ≤ k → k ≤ a + 3 → w2.2.2 k = w.2.2 k) : fw w2 a A B p q C = w2 := fw_of ((g _ (by omega) (by omega)).trans (fw_at h)) ((g _ (by omega) (by omega)).trans (fw_at1 h)) ((g _ (by omega) (by omega)).trans (fw_at2 h)) ((g _ (by omega) (by omega)).trans (fw_at3 h))
end OB_f
def ew (w : ai_W) (a : Nat) (A : Nat → Int32) (n : Int32) : ai_W := (w.1, w.2.1, fun k => if k = a then .inr (5, [.ref (a + 1), .ref (a + 3), .ref (a + 5), .int n]) else if k = a + 5 then .inl (0, 48, .inl A) else w.2.2 k)
section OB_e
variable {w : ai_W} {a k : Nat} {e : va_E} {A : Nat → Int32} {n : Int32}
theorem ew_1 : (ew w a A n).1 = w.1 := rfl
theorem ew_2 : (ew w a A n).2.1 = w.2.1 := rfl
theorem ew_g0 : (ew w a A n).2.2 a = .inr (5, [.ref (a + 1), .ref (a + 3), .ref (a + 5), .int n]) := if_pos rfl
theorem ew_g5 : (ew w a A n).2.2 (a + 5) = .inl (0, 48, .inl A) := by simp [ew]
theorem ew_go (h0 : ¬ k = a) (h5 : ¬ k = a + 5) : (ew w a A n).2.2 k = w.2.2 k := by
  have n0 : ¬ k = a := by omega
  have n5 : ¬ k = a + 5 := by omega
  simp only [ew, if_neg n0, if_neg n5]
theorem ew_p0 {n' : Int32} : ai_put (ew w a A n) a (.inr (5, [.ref (a + 1), .ref (a + 3), .ref (a + 5), .int n'])) = ew w a A n' := by
  refine aw_ext rfl rfl (fun k => ?_)
  by_cases hk : k = a
  · subst hk; simp [ai_put, ew]
  · simp only [ai_put, ew, if_neg hk]
theorem ew_p5 {x' : Nat → Int32} : ai_put (ew w a A n) (a + 5) (.inl (0, 48, .inl x')) = ew w a x' n := by
  refine aw_ext rfl rfl (fun k => ?_)
  by_cases hk : k = a + 5
  · subst hk; simp [ai_put, ew]
  · simp only [ai_put, ew, if_neg hk]
theorem ew_w {A' : Nat → Int32} {n' : Int32} : ew (ew w a A n) a A' n' = ew w a A' n' := by
  refine aw_ext rfl rfl (fun k => ?_)
  by_cases h0 : k = a
  · simp only [ew, if_pos h0]
  by_cases h5 : k = a + 5
  · simp only [ew, if_pos h5]
  simp only [ew, if_neg h0, if_neg h5]
theorem ew_po (h0 : ¬ k = a) (h5 : ¬ k = a + 5) : ai_put (ew w a A n) k e = ew (ai_put w k e) a A n := by
  have n0 : ¬ k = a := by omega
  have n5 : ¬ k = a + 5 := by omega
  refine aw_ext rfl rfl (fun j => ?_)
  by_cases hj : j = k
  · subst hj
    simp only [ai_put, ew, if_true, if_neg n0, if_neg n5]
  · simp only [ai_put, ew, if_neg hj]
theorem ew_at (h : ew w a A n = w) : w.2.2 a = .inr (5, [.ref (a + 1), .ref (a + 3), .ref (a + 5), .int n]) := by rw [← h]; exact ew_g0
theorem ew_at5 (h : ew w a A n = w) : w.2.2 (a + 5) = .inl (0, 48, .inl A) := by rw [← h]; exact ew_g5
theorem ew_of (h0 : w.2.2 a = .inr (5, [.ref (a + 1), .ref (a + 3), .ref (a + 5), .int n])) (h5 : w.2.2 (a + 5) = .inl (0, 48, .inl A)) : ew w a A n = w := by
  refine aw_ext rfl rfl (fun k => ?_)
  by_cases g0 : k = a
  · subst g0; rw [ew_g0, h0]
  by_cases g5 : k = a + 5
  · subst g5; rw [ew_g5, h5]
  simp only [ew, if_neg g0, if_neg g5]
theorem ew_fr {w2 : ai_W} (h : ew w a A n = w) (g0 : w2.2.2 a = w.2.2 a) (g5 : w2.2.2 (a + 5) = w.2.2 (a + 5)) : ew w2 a A n = w2 := ew_of (g0.trans (ew_at h)) (g5.trans (ew_at5 h))
end OB_e
def tw (w : ai_W) (a : Nat) (A : Nat → Int32) (n : Int32) : ai_W := (w.1, w.2.1, fun k => if k = a then .inr (3, [.ref (a + 1), .int n]) else if k = a + 1 then .inl (0, 1200, .inl A) else w.2.2 k)
section OB_t
variable {w : ai_W} {a k : Nat} {e : va_E} {A : Nat → Int32} {n : Int32}
theorem tw_1 : (tw w a A n).1 = w.1 := rfl
theorem tw_2 : (tw w a A n).2.1 = w.2.1 := rfl
theorem tw_g0 : (tw w a A n).2.2 a = .inr (3, [.ref (a + 1), .int n]) := if_pos rfl
theorem tw_g1 : (tw w a A n).2.2 (a + 1) = .inl (0, 1200, .inl A) := by simp [tw]
theorem tw_go (h : k < a ∨ a + 1 < k) : (tw w a A n).2.2 k = w.2.2 k := by
  have n0 : ¬ k = a := by omega
  have n1 : ¬ k = a + 1 := by omega
  simp only [tw, if_neg n0, if_neg n1]
theorem tw_p0 {n' : Int32} : ai_put (tw w a A n) a (.inr (3, [.ref (a + 1), .int n'])) = tw w a A n' := by
  refine aw_ext rfl rfl (fun k => ?_)
  by_cases hk : k = a
  · subst hk; simp [ai_put, tw]
  · simp only [ai_put, tw, if_neg hk]
theorem tw_p1 {x' : Nat → Int32} : ai_put (tw w a A n) (a + 1) (.inl (0, 1200, .inl x')) = tw w a x' n := by
  refine aw_ext rfl rfl (fun k => ?_)
  by_cases hk : k = a + 1
  · subst hk; simp [ai_put, tw]
  · simp only [ai_put, tw, if_neg hk]
theorem tw_w {A' : Nat → Int32} {n' : Int32} : tw (tw w a A n) a A' n' = tw w a A' n' := by
  refine aw_ext rfl rfl (fun k => ?_)
  by_cases h0 : k = a
  · simp only [tw, if_pos h0]
  by_cases h1 : k = a + 1
  · simp only [tw, if_pos h1]
  simp only [tw, if_neg h0, if_neg h1]
theorem tw_po (h : k < a ∨ a + 1 < k) : ai_put (tw w a A n) k e = tw (ai_put w k e) a A n := by
  have n0 : ¬ k = a := by omega
  have n1 : ¬ k = a + 1 := by omega
  refine aw_ext rfl rfl (fun j => ?_)
  by_cases hj : j = k
  · subst hj
    simp only [ai_put, tw, if_true, if_neg n0, if_neg n1]
  · simp only [ai_put, tw, if_neg hj]
theorem tw_at (h : tw w a A n = w) : w.2.2 a = .inr (3, [.ref (a + 1), .int n]) := by rw [← h]; exact tw_g0
theorem tw_at1 (h : tw w a A n = w) : w.2.2 (a + 1) = .inl (0, 1200, .inl A) := by rw [← h]; exact tw_g1
theorem tw_of (h0 : w.2.2 a = .inr (3, [.ref (a + 1), .int n])) (h1 : w.2.2 (a + 1) = .inl (0, 1200, .inl A)) : tw w a A n = w := by
  refine aw_ext rfl rfl (fun k => ?_)
  by_cases g0 : k = a
  · subst g0; rw [tw_g0, h0]
  by_cases g1 : k = a + 1
  · subst g1; rw [tw_g1, h1]
  simp only [tw, if_neg g0, if_neg g1]
theorem tw_fr {w2 : ai_W} (h : tw w a A n = w) (g : ∀ k, a ≤ k → k ≤ a + 1 → w2.2.2 k = w.2.2 k) : tw w2 a A n = w2 := tw_of ((g _ (by omega) (by omega)).trans (tw_at h)) ((g _ (by omega) (by omega)).trans (tw_at1 h))
end OB_t
def uw (w : ai_W) (a : Nat) (dr : Nat) (n : Int32) : ai_W := (w.1, w.2.1, fun k => if k = a then .inr (6, [.ref dr, .int n]) else w.2.2 k)
section OB_u
variable {w : ai_W} {a k : Nat} {e : va_E} {dr : Nat} {n : Int32}
theorem uw_1 : (uw w a dr n).1 = w.1 := rfl
theorem uw_2 : (uw w a dr n).2.1 = w.2.1 := rfl
theorem uw_g0 : (uw w a dr n).2.2 a = .inr (6, [.ref dr, .int n]) := if_pos rfl
theorem uw_go (h : ¬ k = a) : (uw w a dr n).2.2 k = w.2.2 k := by
  have n0 : ¬ k = a := by omega
  simp only [uw, if_neg n0]
theorem uw_p0 {dr' : Nat} {n' : Int32} : ai_put (uw w a dr n) a (.inr (6, [.ref dr', .int n'])) = uw w a dr' n' := by
  refine aw_ext rfl rfl (fun k => ?_)
  by_cases hk : k = a
  · subst hk; simp [ai_put, uw]
  · simp only [ai_put, uw, if_neg hk]
theorem uw_w {dr' : Nat} {n' : Int32} : uw (uw w a dr n) a dr' n' = uw w a dr' n' := by
  refine aw_ext rfl rfl (fun k => ?_)
  by_cases h0 : k = a
  · simp only [uw, if_pos h0]
  simp only [uw, if_neg h0]
theorem uw_po (h : ¬ k = a) : ai_put (uw w a dr n) k e = uw (ai_put w k e) a dr n := by
  have n0 : ¬ k = a := by omega
  refine aw_ext rfl rfl (fun j => ?_)
  by_cases hj : j = k
  · subst hj
    simp only [ai_put, uw, if_true, if_neg n0]
  · simp only [ai_put, uw, if_neg hj]
theorem uw_at (h : uw w a dr n = w) : w.2.2 a = .inr (6, [.ref dr, .int n]) := by rw [← h]; exact uw_g0
theorem uw_of (h0 : w.2.2 a = .inr (6, [.ref dr, .int n]))  : uw w a dr n = w := by
  refine aw_ext rfl rfl (fun k => ?_)
  by_cases g0 : k = a
  · subst g0; rw [uw_g0, h0]
  simp only [uw, if_neg g0]
theorem uw_fr {w2 : ai_W} (h : uw w a dr n = w) (g : ∀ k, a ≤ k → k ≤ a + 0 → w2.2.2 k = w.2.2 k) : uw w2 a dr n = w2 := uw_of ((g _ (by omega) (by omega)).trans (uw_at h))
end OB_u
def xw (w : ai_W) (a : Nat) (K : Nat → Int32) (mk : Int32) (V : Nat → Option Nat) (vc : Int32) (dl : Nat) (sp : Nat) : ai_W := (w.1, w.2.1, fun k => if k = a then .inr (0, [.ref (a + 1), .int mk, .ref (a + 2), .ref (a + 7), .int vc, .ref dl, .ref sp, .ref (a + 12), .ref (a + 16), .ref (a + 22)]) else if k = a + 1 then .inl (0, 16, .inl K) else if k = a + 7 then .inl (3, 8, .inr (.inr (.inr (.inr V)))) else w.2.2 k)
section OB_x
variable {w : ai_W} {a k : Nat} {e : va_E} {K : Nat → Int32} {mk : Int32} {V : Nat → Option Nat} {vc : Int32} {dl : Nat} {sp : Nat}
theorem xw_1 : (xw w a K mk V vc dl sp).1 = w.1 := rfl
theorem xw_2 : (xw w a K mk V vc dl sp).2.1 = w.2.1 := rfl
theorem xw_g0 : (xw w a K mk V vc dl sp).2.2 a = .inr (0, [.ref (a + 1), .int mk, .ref (a + 2), .ref (a + 7), .int vc, .ref dl, .ref sp, .ref (a + 12), .ref (a + 16), .ref (a + 22)]) := if_pos rfl
theorem xw_g1 : (xw w a K mk V vc dl sp).2.2 (a + 1) = .inl (0, 16, .inl K) := by simp [xw]
theorem xw_g7 : (xw w a K mk V vc dl sp).2.2 (a + 7) = .inl (3, 8, .inr (.inr (.inr (.inr V)))) := by simp [xw]
theorem xw_go (h0 : ¬ k = a) (h1 : ¬ k = a + 1) (h7 : ¬ k = a + 7) : (xw w a K mk V vc dl sp).2.2 k = w.2.2 k := by
  have n0 : ¬ k = a := by omega
  have n1 : ¬ k = a + 1 := by omega
  have n7 : ¬ k = a + 7 := by omega
  simp only [xw, if_neg n0, if_neg n1, if_neg n7]
theorem xw_p0 {mk' : Int32} {vc' : Int32} {dl' : Nat} {sp' : Nat} : ai_put (xw w a K mk V vc dl sp) a (.inr (0, [.ref (a + 1), .int mk', .ref (a + 2), .ref (a + 7), .int vc', .ref dl', .ref sp', .ref (a + 12), .ref (a + 16), .ref (a + 22)])) = xw w a K mk' V vc' dl' sp' := by
  refine aw_ext rfl rfl (fun k => ?_)
  by_cases hk : k = a
  · subst hk; simp [ai_put, xw]
  · simp only [ai_put, xw, if_neg hk]
theorem xw_p1 {x' : Nat → Int32} : ai_put (xw w a K mk V vc dl sp) (a + 1) (.inl (0, 16, .inl x')) = xw w a x' mk V vc dl sp := by
  refine aw_ext rfl rfl (fun k => ?_)
  by_cases hk : k = a + 1
  · subst hk; simp [ai_put, xw]
  · simp only [ai_put, xw, if_neg hk]
theorem xw_p7 {x' : Nat → Option Nat} : ai_put (xw w a K mk V vc dl sp) (a + 7) (.inl (3, 8, .inr (.inr (.inr (.inr x'))))) = xw w a K mk x' vc dl sp := by
  refine aw_ext rfl rfl (fun k => ?_)
  by_cases hk : k = a + 7
  · subst hk; simp [ai_put, xw]
  · simp only [ai_put, xw, if_neg hk]
theorem xw_w {K' : Nat → Int32} {mk' : Int32} {V' : Nat → Option Nat} {vc' : Int32} {dl' : Nat} {sp' : Nat} : xw (xw w a K mk V vc dl sp) a K' mk' V' vc' dl' sp' = xw w a K' mk' V' vc' dl' sp' := by
  refine aw_ext rfl rfl (fun k => ?_)
  by_cases h0 : k = a
  · simp only [xw, if_pos h0]
  by_cases h1 : k = a + 1
  · simp only [xw, if_pos h1]
  by_cases h7 : k = a + 7
  · simp only [xw, if_pos h7]
  simp only [xw, if_neg h0, if_neg h1, if_neg h7]
theorem xw_po (h0 : ¬ k = a) (h1 : ¬ k = a + 1) (h7 : ¬ k = a + 7) : ai_put (xw w a K mk V vc dl sp) k e = xw (ai_put w k e) a K mk V vc dl sp := by
  have n0 : ¬ k = a := by omega
  have n1 : ¬ k = a + 1 := by omega
  have n7 : ¬ k = a + 7 := by omega
  refine aw_ext rfl rfl (fun j => ?_)
  by_cases hj : j = k
  · subst hj
    simp only [ai_put, xw, if_true, if_neg n0, if_neg n1, if_neg n7]
  · simp only [ai_put, xw, if_neg hj]
theorem xw_at (h : xw w a K mk V vc dl sp = w) : w.2.2 a = .inr (0, [.ref (a + 1), .int mk, .ref (a + 2), .ref (a + 7), .int vc, .ref dl, .ref sp, .ref (a + 12), .ref (a + 16), .ref (a + 22)]) := by rw [← h]; exact xw_g0
theorem xw_at1 (h : xw w a K mk V vc dl sp = w) : w.2.2 (a + 1) = .inl (0, 16, .inl K) := by rw [← h]; exact xw_g1
theorem xw_at7 (h : xw w a K mk V vc dl sp = w) : w.2.2 (a + 7) = .inl (3, 8, .inr (.inr (.inr (.inr V)))) := by rw [← h]; exact xw_g7
theorem xw_of (h0 : w.2.2 a = .inr (0, [.ref (a + 1), .int mk, .ref (a + 2), .ref (a + 7), .int vc, .ref dl, .ref sp, .ref (a + 12), .ref (a + 16), .ref (a + 22)])) (h1 : w.2.2 (a + 1) = .inl (0, 16, .inl K)) (h7 : w.2.2 (a + 7) = .inl (3, 8, .inr (.inr (.inr (.inr V))))) : xw w a K mk V vc dl sp = w := by
  refine aw_ext rfl rfl (fun k => ?_)
  by_cases g0 : k = a
  · subst g0; rw [xw_g0, h0]
  by_cases g1 : k = a + 1
  · subst g1; rw [xw_g1, h1]
  by_cases g7 : k = a + 7
  · subst g7; rw [xw_g7, h7]
  simp only [xw, if_neg g0, if_neg g1, if_neg g7]
theorem xw_fr {w2 : ai_W} (h : xw w a K mk V vc dl sp = w) (g0 : w2.2.2 a = w.2.2 a) (g1 : w2.2.2 (a + 1) = w.2.2 (a + 1)) (g7 : w2.2.2 (a + 7) = w.2.2 (a + 7)) : xw w2 a K mk V vc dl sp = w2 := xw_of (g0.trans (xw_at h)) (g1.trans (xw_at1 h)) (g7.trans (xw_at7 h))
end OB_x
def mw (w : ai_W) (a : Nat) (mk : Int32) (li : Nat → Int32) (vs : Int32) (ha : Nat → Int32) (le : Nat → Int32) (ce : Nat → Int64) (re : Nat → Int32) (co : Nat → Int32) (cd : Nat → Int32) (ob : Nat → Int32) (sn : Nat → Int32) (th : Nat → Int32) (fo : Nat → Int64) (fr : Nat → Int32) (po : Nat → Int32) (is : Nat → Int32) (cs : Int32) (cf : Nat → Int32) (dn : Int32) (dr : Nat → Int32) (wn : Int32) (ou : Nat → Int32) (pa : Int32) (gd : Int32) : ai_W := (w.1, w.2.1, fun k => if k = a then .inr (7, [.int mk, .ref (a + 1), .int vs, .ref (a + 2), .ref (a + 3), .ref (a + 4), .ref (a + 5), .ref (a + 6), .ref (a + 7), .ref (a + 8), .ref (a + 9), .ref (a + 10), .ref (a + 11), .ref (a + 12), .ref (a + 13), .ref (a + 14), .int cs, .ref (a + 15), .int dn, .ref (a + 16), .int wn, .ref (a + 17), .int pa, .int gd]) else if k = a + 1 then .inl (1, 16, .inl li) else if k = a + 2 then .inl (1, 160, .inl ha) else if k = a + 3 then .inl (0, 160, .inl le) else if k = a + 4 then .inl (2, 960, .inr (.inl ce)) else if k = a + 5 then .inl (1, 16, .inl re) else if k = a + 6 then .inl (0, 4, .inl co) else if k = a + 7 then .inl (0, 520, .inl cd) else if k = a + 8 then .inl (0, 520, .inl ob) else if k = a + 9 then .inl (0, 520, .inl sn) else if k = a + 10 then .inl (0, 520, .inl th) else if k = a + 11 then .inl (2, 520, .inr (.inl fo)) else if k = a + 12 then .inl (0, 520, .inl fr) else if k = a + 13 then .inl (0, 4, .inl po) else if k = a + 14 then .inl (0, 5200, .inl is) else if k = a + 15 then .inl (0, 64, .inl cf) else if k = a + 16 then .inl (0, 1200, .inl dr) else if k = a + 17 then .inl (0, 1200, .inl ou) else w.2.2 k)
section OB_m
variable {w : ai_W} {a k : Nat} {e : va_E} {mk : Int32} {li : Nat → Int32} {vs : Int32} {ha : Nat → Int32} {le : Nat → Int32} {ce : Nat → Int64} {re : Nat → Int32} {co : Nat → Int32} {cd : Nat → Int32} {ob : Nat → Int32} {sn : Nat → Int32} {th : Nat → Int32} {fo : Nat → Int64} {fr : Nat → Int32} {po : Nat → Int32} {is : Nat → Int32} {cs : Int32} {cf : Nat → Int32} {dn : Int32} {dr : Nat → Int32} {wn : Int32} {ou : Nat → Int32} {pa : Int32} {gd : Int32}
theorem mw_1 : (mw w a mk li vs ha le ce re co cd ob sn th fo fr po is cs cf dn dr wn ou pa gd).1 = w.1 := rfl
theorem mw_2 : (mw w a mk li vs ha le ce re co cd ob sn th fo fr po is cs cf dn dr wn ou pa gd).2.1 = w.2.1 := rfl
theorem mw_g0 : (mw w a mk li vs ha le ce re co cd ob sn th fo fr po is cs cf dn dr wn ou pa gd).2.2 a = .inr (7, [.int mk, .ref (a + 1), .int vs, .ref (a + 2), .ref (a + 3), .ref (a + 4), .ref (a + 5), .ref (a + 6), .ref (a + 7), .ref (a + 8), .ref (a + 9), .ref (a + 10), .ref (a + 11), .ref (a + 12), .ref (a + 13), .ref (a + 14), .int cs, .ref (a + 15), .int dn, .ref (a + 16), .int wn, .ref (a + 17), .int pa, .int gd]) := if_pos rfl
theorem mw_g1 : (mw w a mk li vs ha le ce re co cd ob sn th fo fr po is cs cf dn dr wn ou pa gd).2.2 (a + 1) = .inl (1, 16, .inl li) := by simp [mw]
theorem mw_g2 : (mw w a mk li vs ha le ce re co cd ob sn th fo fr po is cs cf dn dr wn ou pa gd).2.2 (a + 2) = .inl (1, 160, .inl ha) := by simp [mw]
theorem mw_g3 : (mw w a mk li vs ha le ce re co cd ob sn th fo fr po is cs cf dn dr wn ou pa gd).2.2 (a + 3) = .inl (0, 160, .inl le) := by simp [mw]
theorem mw_g4 : (mw w a mk li vs ha le ce re co cd ob sn th fo fr po is cs cf dn dr wn ou pa gd).2.2 (a + 4) = .inl (2, 960, .inr (.inl ce)) := by simp [mw]
theorem mw_g5 : (mw w a mk li vs ha le ce re co cd ob sn th fo fr po is cs cf dn dr wn ou pa gd).2.2 (a + 5) = .inl (1, 16, .inl re) := by simp [mw]
theorem mw_g6 : (mw w a mk li vs ha le ce re co cd ob sn th fo fr po is cs cf dn dr wn ou pa gd).2.2 (a + 6) = .inl (0, 4, .inl co) := by simp [mw]
theorem mw_g7 : (mw w a mk li vs ha le ce re co cd ob sn th fo fr po is cs cf dn dr wn ou pa gd).2.2 (a + 7) = .inl (0, 520, .inl cd) := by simp [mw]
theorem mw_g8 : (mw w a mk li vs ha le ce re co cd ob sn th fo fr po is cs cf dn dr wn ou pa gd).2.2 (a + 8) = .inl (0, 520, .inl ob) := by simp [mw]
theorem mw_g9 : (mw w a mk li vs ha le ce re co cd ob sn th fo fr po is cs cf dn dr wn ou pa gd).2.2 (a + 9) = .inl (0, 520, .inl sn) := by simp [mw]
theorem mw_g10 : (mw w a mk li vs ha le ce re co cd ob sn th fo fr po is cs cf dn dr wn ou pa gd).2.2 (a + 10) = .inl (0, 520, .inl th) := by simp [mw]
theorem mw_g11 : (mw w a mk li vs ha le ce re co cd ob sn th fo fr po is cs cf dn dr wn ou pa gd).2.2 (a + 11) = .inl (2, 520, .inr (.inl fo)) := by simp [mw]
theorem mw_g12 : (mw w a mk li vs ha le ce re co cd ob sn th fo fr po is cs cf dn dr wn ou pa gd).2.2 (a + 12) = .inl (0, 520, .inl fr) := by simp [mw]
theorem mw_g13 : (mw w a mk li vs ha le ce re co cd ob sn th fo fr po is cs cf dn dr wn ou pa gd).2.2 (a + 13) = .inl (0, 4, .inl po) := by simp [mw]
theorem mw_g14 : (mw w a mk li vs ha le ce re co cd ob sn th fo fr po is cs cf dn dr wn ou pa gd).2.2 (a + 14) = .inl (0, 5200, .inl is) := by simp [mw]
theorem mw_g15 : (mw w a mk li vs ha le ce re co cd ob sn th fo fr po is cs cf dn dr wn ou pa gd).2.2 (a + 15) = .inl (0, 64, .inl cf) := by simp [mw]
theorem mw_g16 : (mw w a mk li vs ha le ce re co cd ob sn th fo fr po is cs cf dn dr wn ou pa gd).2.2 (a + 16) = .inl (0, 1200, .inl dr) := by simp [mw]
theorem mw_g17 : (mw w a mk li vs ha le ce re co cd ob sn th fo fr po is cs cf dn dr wn ou pa gd).2.2 (a + 17) = .inl (0, 1200, .inl ou) := by simp [mw]
theorem mw_go (h : k < a ∨ a + 17 < k) : (mw w a mk li vs ha le ce re co cd ob sn th fo fr po is cs cf dn dr wn ou pa gd).2.2 k = w.2.2 k := by
  have n0 : ¬ k = a := by omega
  have n1 : ¬ k = a + 1 := by omega
  have n2 : ¬ k = a + 2 := by omega
  have n3 : ¬ k = a + 3 := by omega
  have n4 : ¬ k = a + 4 := by omega
  have n5 : ¬ k = a + 5 := by omega
  have n6 : ¬ k = a + 6 := by omega
  have n7 : ¬ k = a + 7 := by omega
  have n8 : ¬ k = a + 8 := by omega
  have n9 : ¬ k = a + 9 := by omega
  have n10 : ¬ k = a + 10 := by omega
  have n11 : ¬ k = a + 11 := by omega
  have n12 : ¬ k = a + 12 := by omega
  have n13 : ¬ k = a + 13 := by omega
  have n14 : ¬ k = a + 14 := by omega
  have n15 : ¬ k = a + 15 := by omega
  have n16 : ¬ k = a + 16 := by omega
  have n17 : ¬ k = a + 17 := by omega
  simp only [mw, if_neg n0, if_neg n1, if_neg n2, if_neg n3, if_neg n4, if_neg n5, if_neg n6, if_neg n7, if_neg n8, if_neg n9, if_neg n10, if_neg n11, if_neg n12, if_neg n13, if_neg n14, if_neg n15, if_neg n16, if_neg n17]
theorem mw_p0 {mk' : Int32} {vs' : Int32} {cs' : Int32} {dn' : Int32} {wn' : Int32} {pa' : Int32} {gd' : Int32} : ai_put (mw w a mk li vs ha le ce re co cd ob sn th fo fr po is cs cf dn dr wn ou pa gd) a (.inr (7, [.int mk', .ref (a + 1), .int vs', .ref (a + 2), .ref (a + 3), .ref (a + 4), .ref (a + 5), .ref (a + 6), .ref (a + 7), .ref (a + 8), .ref (a + 9), .ref (a + 10), .ref (a + 11), .ref (a + 12), .ref (a + 13), .ref (a + 14), .int cs', .ref (a + 15), .int dn', .ref (a + 16), .int wn', .ref (a + 17), .int pa', .int gd'])) = mw w a mk' li vs' ha le ce re co cd ob sn th fo fr po is cs' cf dn' dr wn' ou pa' gd' := by
  refine aw_ext rfl rfl (fun k => ?_)
  by_cases hk : k = a
  · subst hk; simp [ai_put, mw]
  · simp only [ai_put, mw, if_neg hk]
theorem mw_p1 {x' : Nat → Int32} : ai_put (mw w a mk li vs ha le ce re co cd ob sn th fo fr po is cs cf dn dr wn ou pa gd) (a + 1) (.inl (1, 16, .inl x')) = mw w a mk x' vs ha le ce re co cd ob sn th fo fr po is cs cf dn dr wn ou pa gd := by
  refine aw_ext rfl rfl (fun k => ?_)
  by_cases hk : k = a + 1
  · subst hk; simp [ai_put, mw]
  · simp only [ai_put, mw, if_neg hk]
theorem mw_p2 {x' : Nat → Int32} : ai_put (mw w a mk li vs ha le ce re co cd ob sn th fo fr po is cs cf dn dr wn ou pa gd) (a + 2) (.inl (1, 160, .inl x')) = mw w a mk li vs x' le ce re co cd ob sn th fo fr po is cs cf dn dr wn ou pa gd := by
  refine aw_ext rfl rfl (fun k => ?_)
  by_cases hk : k = a + 2
  · subst hk; simp [ai_put, mw]
  · simp only [ai_put, mw, if_neg hk]
theorem mw_p3 {x' : Nat → Int32} : ai_put (mw w a mk li vs ha le ce re co cd ob sn th fo fr po is cs cf dn dr wn ou pa gd) (a + 3) (.inl (0, 160, .inl x')) = mw w a mk li vs ha x' ce re co cd ob sn th fo fr po is cs cf dn dr wn ou pa gd := by
  refine aw_ext rfl rfl (fun k => ?_)
  by_cases hk : k = a + 3
  · subst hk; simp [ai_put, mw]
  · simp only [ai_put, mw, if_neg hk]
theorem mw_p4 {x' : Nat → Int64} : ai_put (mw w a mk li vs ha le ce re co cd ob sn th fo fr po is cs cf dn dr wn ou pa gd) (a + 4) (.inl (2, 960, .inr (.inl x'))) = mw w a mk li vs ha le x' re co cd ob sn th fo fr po is cs cf dn dr wn ou pa gd := by
  refine aw_ext rfl rfl (fun k => ?_)
  by_cases hk : k = a + 4
  · subst hk; simp [ai_put, mw]
  · simp only [ai_put, mw, if_neg hk]
theorem mw_p5 {x' : Nat → Int32} : ai_put (mw w a mk li vs ha le ce re co cd ob sn th fo fr po is cs cf dn dr wn ou pa gd) (a + 5) (.inl (1, 16, .inl x')) = mw w a mk li vs ha le ce x' co cd ob sn th fo fr po is cs cf dn dr wn ou pa gd := by
  refine aw_ext rfl rfl (fun k => ?_)
  by_cases hk : k = a + 5
  · subst hk; simp [ai_put, mw]
  · simp only [ai_put, mw, if_neg hk]
theorem mw_p6 {x' : Nat → Int32} : ai_put (mw w a mk li vs ha le ce re co cd ob sn th fo fr po is cs cf dn dr wn ou pa gd) (a + 6) (.inl (0, 4, .inl x')) = mw w a mk li vs ha le ce re x' cd ob sn th fo fr po is cs cf dn dr wn ou pa gd := by
  refine aw_ext rfl rfl (fun k => ?_)
  by_cases hk : k = a + 6
  · subst hk; simp [ai_put, mw]
  · simp only [ai_put, mw, if_neg hk]
theorem mw_p7 {x' : Nat → Int32} : ai_put (mw w a mk li vs ha le ce re co cd ob sn th fo fr po is cs cf dn dr wn ou pa gd) (a + 7) (.inl (0, 520, .inl x')) = mw w a mk li vs ha le ce re co x' ob sn th fo fr po is cs cf dn dr wn ou pa gd := by
  refine aw_ext rfl rfl (fun k => ?_)
  by_cases hk : k = a + 7
  · subst hk; simp [ai_put, mw]
  · simp only [ai_put, mw, if_neg hk]
theorem mw_p8 {x' : Nat → Int32} : ai_put (mw w a mk li vs ha le ce re co cd ob sn th fo fr po is cs cf dn dr wn ou pa gd) (a + 8) (.inl (0, 520, .inl x')) = mw w a mk li vs ha le ce re co cd x' sn th fo fr po is cs cf dn dr wn ou pa gd := by
  refine aw_ext rfl rfl (fun k => ?_)
  by_cases hk : k = a + 8
  · subst hk; simp [ai_put, mw]
  · simp only [ai_put, mw, if_neg hk]
theorem mw_p9 {x' : Nat → Int32} : ai_put (mw w a mk li vs ha le ce re co cd ob sn th fo fr po is cs cf dn dr wn ou pa gd) (a + 9) (.inl (0, 520, .inl x')) = mw w a mk li vs ha le ce re co cd ob x' th fo fr po is cs cf dn dr wn ou pa gd := by
  refine aw_ext rfl rfl (fun k => ?_)
  by_cases hk : k = a + 9
  · subst hk; simp [ai_put, mw]
  · simp only [ai_put, mw, if_neg hk]
theorem mw_p10 {x' : Nat → Int32} : ai_put (mw w a mk li vs ha le ce re co cd ob sn th fo fr po is cs cf dn dr wn ou pa gd) (a + 10) (.inl (0, 520, .inl x')) = mw w a mk li vs ha le ce re co cd ob sn x' fo fr po is cs cf dn dr wn ou pa gd := by
  refine aw_ext rfl rfl (fun k => ?_)
  by_cases hk : k = a + 10
  · subst hk; simp [ai_put, mw]
  · simp only [ai_put, mw, if_neg hk]
theorem mw_p11 {x' : Nat → Int64} : ai_put (mw w a mk li vs ha le ce re co cd ob sn th fo fr po is cs cf dn dr wn ou pa gd) (a + 11) (.inl (2, 520, .inr (.inl x'))) = mw w a mk li vs ha le ce re co cd ob sn th x' fr po is cs cf dn dr wn ou pa gd := by
  refine aw_ext rfl rfl (fun k => ?_)
  by_cases hk : k = a + 11
  · subst hk; simp [ai_put, mw]
  · simp only [ai_put, mw, if_neg hk]
theorem mw_p12 {x' : Nat → Int32} : ai_put (mw w a mk li vs ha le ce re co cd ob sn th fo fr po is cs cf dn dr wn ou pa gd) (a + 12) (.inl (0, 520, .inl x')) = mw w a mk li vs ha le ce re co cd ob sn th fo x' po is cs cf dn dr wn ou pa gd := by
  refine aw_ext rfl rfl (fun k => ?_)
  by_cases hk : k = a + 12
  · subst hk; simp [ai_put, mw]
  · simp only [ai_put, mw, if_neg hk]
theorem mw_p13 {x' : Nat → Int32} : ai_put (mw w a mk li vs ha le ce re co cd ob sn th fo fr po is cs cf dn dr wn ou pa gd) (a + 13) (.inl (0, 4, .inl x')) = mw w a mk li vs ha le ce re co cd ob sn th fo fr x' is cs cf dn dr wn ou pa gd := by
  refine aw_ext rfl rfl (fun k => ?_)
  by_cases hk : k = a + 13
  · subst hk; simp [ai_put, mw]
  · simp only [ai_put, mw, if_neg hk]
theorem mw_p14 {x' : Nat → Int32} : ai_put (mw w a mk li vs ha le ce re co cd ob sn th fo fr po is cs cf dn dr wn ou pa gd) (a + 14) (.inl (0, 5200, .inl x')) = mw w a mk li vs ha le ce re co cd ob sn th fo fr po x' cs cf dn dr wn ou pa gd := by
  refine aw_ext rfl rfl (fun k => ?_)
  by_cases hk : k = a + 14
  · subst hk; simp [ai_put, mw]
  · simp only [ai_put, mw, if_neg hk]
theorem mw_p15 {x' : Nat → Int32} : ai_put (mw w a mk li vs ha le ce re co cd ob sn th fo fr po is cs cf dn dr wn ou pa gd) (a + 15) (.inl (0, 64, .inl x')) = mw w a mk li vs ha le ce re co cd ob sn th fo fr po is cs x' dn dr wn ou pa gd := by
  refine aw_ext rfl rfl (fun k => ?_)
  by_cases hk : k = a + 15
  · subst hk; simp [ai_put, mw]
  · simp only [ai_put, mw, if_neg hk]
theorem mw_p16 {x' : Nat → Int32} : ai_put (mw w a mk li vs ha le ce re co cd ob sn th fo fr po is cs cf dn dr wn ou pa gd) (a + 16) (.inl (0, 1200, .inl x')) = mw w a mk li vs ha le ce re co cd ob sn th fo fr po is cs cf dn x' wn ou pa gd := by
  refine aw_ext rfl rfl (fun k => ?_)
  by_cases hk : k = a + 16
  · subst hk; simp [ai_put, mw]
  · simp only [ai_put, mw, if_neg hk]
theorem mw_p17 {x' : Nat → Int32} : ai_put (mw w a mk li vs ha le ce re co cd ob sn th fo fr po is cs cf dn dr wn ou pa gd) (a + 17) (.inl (0, 1200, .inl x')) = mw w a mk li vs ha le ce re co cd ob sn th fo fr po is cs cf dn dr wn x' pa gd := by
  refine aw_ext rfl rfl (fun k => ?_)
  by_cases hk : k = a + 17
  · subst hk; simp [ai_put, mw]
  · simp only [ai_put, mw, if_neg hk]
theorem mw_w {mk' : Int32} {li' : Nat → Int32} {vs' : Int32} {ha' : Nat → Int32} {le' : Nat → Int32} {ce' : Nat → Int64} {re' : Nat → Int32} {co' : Nat → Int32} {cd' : Nat → Int32} {ob' : Nat → Int32} {sn' : Nat → Int32} {th' : Nat → Int32} {fo' : Nat → Int64} {fr' : Nat → Int32} {po' : Nat → Int32} {is' : Nat → Int32} {cs' : Int32} {cf' : Nat → Int32} {dn' : Int32} {dr' : Nat → Int32} {wn' : Int32} {ou' : Nat → Int32} {pa' : Int32} {gd' : Int32} : mw (mw w a mk li vs ha le ce re co cd ob sn th fo fr po is cs cf dn dr wn ou pa gd) a mk' li' vs' ha' le' ce' re' co' cd' ob' sn' th' fo' fr' po' is' cs' cf' dn' dr' wn' ou' pa' gd' = mw w a mk' li' vs' ha' le' ce' re' co' cd' ob' sn' th' fo' fr' po' is' cs' cf' dn' dr' wn' ou' pa' gd' := by
  refine aw_ext rfl rfl (fun k => ?_)
  by_cases h0 : k = a
  · simp only [mw, if_pos h0]
  by_cases h1 : k = a + 1
  · simp only [mw, if_pos h1]
  by_cases h2 : k = a + 2
  · simp only [mw, if_pos h2]
  by_cases h3 : k = a + 3
  · simp only [mw, if_pos h3]
  by_cases h4 : k = a + 4
  · simp only [mw, if_pos h4]
  by_cases h5 : k = a + 5
  · simp only [mw, if_pos h5]
  by_cases h6 : k = a + 6
  · simp only [mw, if_pos h6]
  by_cases h7 : k = a + 7
  · simp only [mw, if_pos h7]
  by_cases h8 : k = a + 8
  · simp only [mw, if_pos h8]
  by_cases h9 : k = a + 9
  · simp only [mw, if_pos h9]
  by_cases h10 : k = a + 10
  · simp only [mw, if_pos h10]
  by_cases h11 : k = a + 11
  · simp only [mw, if_pos h11]
  by_cases h12 : k = a + 12
  · simp only [mw, if_pos h12]
  by_cases h13 : k = a + 13
  · simp only [mw, if_pos h13]
  by_cases h14 : k = a + 14
  · simp only [mw, if_pos h14]
  by_cases h15 : k = a + 15
  · simp only [mw, if_pos h15]
  by_cases h16 : k = a + 16
  · simp only [mw, if_pos h16]
  by_cases h17 : k = a + 17
  · simp only [mw, if_pos h17]
  simp only [mw, if_neg h0, if_neg h1, if_neg h2, if_neg h3, if_neg h4, if_neg h5, if_neg h6, if_neg h7, if_neg h8, if_neg h9, if_neg h10, if_neg h11, if_neg h12, if_neg h13, if_neg h14, if_neg h15, if_neg h16, if_neg h17]
theorem mw_po (h : k < a ∨ a + 17 < k) : ai_put (mw w a mk li vs ha le ce re co cd ob sn th fo fr po is cs cf dn dr wn ou pa gd) k e = mw (ai_put w k e) a mk li vs ha le ce re co cd ob sn th fo fr po is cs cf dn dr wn ou pa gd := by
  have n0 : ¬ k = a := by omega
  have n1 : ¬ k = a + 1 := by omega
  have n2 : ¬ k = a + 2 := by omega
  have n3 : ¬ k = a + 3 := by omega
  have n4 : ¬ k = a + 4 := by omega
  have n5 : ¬ k = a + 5 := by omega
  have n6 : ¬ k = a + 6 := by omega
  have n7 : ¬ k = a + 7 := by omega
  have n8 : ¬ k = a + 8 := by omega
  have n9 : ¬ k = a + 9 := by omega
  have n10 : ¬ k = a + 10 := by omega
  have n11 : ¬ k = a + 11 := by omega
  have n12 : ¬ k = a + 12 := by omega
  have n13 : ¬ k = a + 13 := by omega
  have n14 : ¬ k = a + 14 := by omega
  have n15 : ¬ k = a + 15 := by omega
  have n16 : ¬ k = a + 16 := by omega
  have n17 : ¬ k = a + 17 := by omega
  refine aw_ext rfl rfl (fun j => ?_)
  by_cases hj : j = k
  · subst hj
    simp only [ai_put, mw, if_true, if_neg n0, if_neg n1, if_neg n2, if_neg n3, if_neg n4, if_neg n5, if_neg n6, if_neg n7, if_neg n8, if_neg n9, if_neg n10, if_neg n11, if_neg n12, if_neg n13, if_neg n14, if_neg n15, if_neg n16, if_neg n17]
  · simp only [ai_put, mw, if_neg hj]
theorem mw_at (h : mw w a mk li vs ha le ce re co cd ob sn th fo fr po is cs cf dn dr wn ou pa gd = w) : w.2.2 a = .inr (7, [.int mk, .ref (a + 1), .int vs, .ref (a + 2), .ref (a + 3), .ref (a + 4), .ref (a + 5), .ref (a + 6), .ref (a + 7), .ref (a + 8), .ref (a + 9), .ref (a + 10), .ref (a + 11), .ref (a + 12), .ref (a + 13), .ref (a + 14), .int cs, .ref (a + 15), .int dn, .ref (a + 16), .int wn, .ref (a + 17), .int pa, .int gd]) := by rw [← h]; exact mw_g0
theorem mw_at1 (h : mw w a mk li vs ha le ce re co cd ob sn th fo fr po is cs cf dn dr wn ou pa gd = w) : w.2.2 (a + 1) = .inl (1, 16, .inl li) := by rw [← h]; exact mw_g1
theorem mw_at2 (h : mw w a mk li vs ha le ce re co cd ob sn th fo fr po is cs cf dn dr wn ou pa gd = w) : w.2.2 (a + 2) = .inl (1, 160, .inl ha) := by rw [← h]; exact mw_g2
theorem mw_at3 (h : mw w a mk li vs ha le ce re co cd ob sn th fo fr po is cs cf dn dr wn ou pa gd = w) : w.2.2 (a + 3) = .inl (0, 160, .inl le) := by rw [← h]; exact mw_g3
theorem mw_at4 (h : mw w a mk li vs ha le ce re co cd ob sn th fo fr po is cs cf dn dr wn ou pa gd = w) : w.2.2 (a + 4) = .inl (2, 960, .inr (.inl ce)) := by rw [← h]; exact mw_g4
theorem mw_at5 (h : mw w a mk li vs ha le ce re co cd ob sn th fo fr po is cs cf dn dr wn ou pa gd = w) : w.2.2 (a + 5) = .inl (1, 16, .inl re) := by rw [← h]; exact mw_g5
theorem mw_at6 (h : mw w a mk li vs ha le ce re co cd ob sn th fo fr po is cs cf dn dr wn ou pa gd = w) : w.2.2 (a + 6) = .inl (0, 4, .inl co) := by rw [← h]; exact mw_g6
theorem mw_at7 (h : mw w a mk li vs ha le ce re co cd ob sn th fo fr po is cs cf dn dr wn ou pa gd = w) : w.2.2 (a + 7) = .inl (0, 520, .inl cd) := by rw [← h]; exact mw_g7
theorem mw_at8 (h : mw w a mk li vs ha le ce re co cd ob sn th fo fr po is cs cf dn dr wn ou pa gd = w) : w.2.2 (a + 8) = .inl (0, 520, .inl ob) := by rw [← h]; exact mw_g8
theorem mw_at9 (h : mw w a mk li vs ha le ce re co cd ob sn th fo fr po is cs cf dn dr wn ou pa gd = w) : w.2.2 (a + 9) = .inl (0, 520, .inl sn) := by rw [← h]; exact mw_g9
theorem mw_at10 (h : mw w a mk li vs ha le ce re co cd ob sn th fo fr po is cs cf dn dr wn ou pa gd = w) : w.2.2 (a + 10) = .inl (0, 520, .inl th) := by rw [← h]; exact mw_g10
theorem mw_at11 (h : mw w a mk li vs ha le ce re co cd ob sn th fo fr po is cs cf dn dr wn ou pa gd = w) : w.2.2 (a + 11) = .inl (2, 520, .inr (.inl fo)) := by rw [← h]; exact mw_g11
theorem mw_at12 (h : mw w a mk li vs ha le ce re co cd ob sn th fo fr po is cs cf dn dr wn ou pa gd = w) : w.2.2 (a + 12) = .inl (0, 520, .inl fr) := by rw [← h]; exact mw_g12
theorem mw_at13 (h : mw w a mk li vs ha le ce re co cd ob sn th fo fr po is cs cf dn dr wn ou pa gd = w) : w.2.2 (a + 13) = .inl (0, 4, .inl po) := by rw [← h]; exact mw_g13
theorem mw_at14 (h : mw w a mk li vs ha le ce re co cd ob sn th fo fr po is cs cf dn dr wn ou pa gd = w) : w.2.2 (a + 14) = .inl (0, 5200, .inl is) := by rw [← h]; exact mw_g14
theorem mw_at15 (h : mw w a mk li vs ha le ce re co cd ob sn th fo fr po is cs cf dn dr wn ou pa gd = w) : w.2.2 (a + 15) = .inl (0, 64, .inl cf) := by rw [← h]; exact mw_g15
theorem mw_at16 (h : mw w a mk li vs ha le ce re co cd ob sn th fo fr po is cs cf dn dr wn ou pa gd = w) : w.2.2 (a + 16) = .inl (0, 1200, .inl dr) := by rw [← h]; exact mw_g16
theorem mw_at17 (h : mw w a mk li vs ha le ce re co cd ob sn th fo fr po is cs cf dn dr wn ou pa gd = w) : w.2.2 (a + 17) = .inl (0, 1200, .inl ou) := by rw [← h]; exact mw_g17
theorem mw_of (h0 : w.2.2 a = .inr (7, [.int mk, .ref (a + 1), .int vs, .ref (a + 2), .ref (a + 3), .ref (a + 4), .ref (a + 5), .ref (a + 6), .ref (a + 7), .ref (a + 8), .ref (a + 9), .ref (a + 10), .ref (a + 11), .ref (a + 12), .ref (a + 13), .ref (a + 14), .int cs, .ref (a + 15), .int dn, .ref (a + 16), .int wn, .ref (a + 17), .int pa, .int gd])) (h1 : w.2.2 (a + 1) = .inl (1, 16, .inl li)) (h2 : w.2.2 (a + 2) = .inl (1, 160, .inl ha)) (h3 : w.2.2 (a + 3) = .inl (0, 160, .inl le)) (h4 : w.2.2 (a + 4) = .inl (2, 960, .inr (.inl ce))) (h5 : w.2.2 (a + 5) = .inl (1, 16, .inl re)) (h6 : w.2.2 (a + 6) = .inl (0, 4, .inl co)) (h7 : w.2.2 (a + 7) = .inl (0, 520, .inl cd)) (h8 : w.2.2 (a + 8) = .inl (0, 520, .inl ob)) (h9 : w.2.2 (a + 9) = .inl (0, 520, .inl sn)) (h10 : w.2.2 (a + 10) = .inl (0, 520, .inl th)) (h11 : w.2.2 (a + 11) = .inl (2, 520, .inr (.inl fo))) (h12 : w.2.2 (a + 12) = .inl (0, 520, .inl fr)) (h13 : w.2.2 (a + 13) = .inl (0, 4, .inl po)) (h14 : w.2.2 (a + 14) = .inl (0, 5200, .inl is)) (h15 : w.2.2 (a + 15) = .inl (0, 64, .inl cf)) (h16 : w.2.2 (a + 16) = .inl (0, 1200, .inl dr)) (h17 : w.2.2 (a + 17) = .inl (0, 1200, .inl ou)) : mw w a mk li vs ha le ce re co cd ob sn th fo fr po is cs cf dn dr wn ou pa gd = w := by
  refine aw_ext rfl rfl (fun k => ?_)
  by_cases g0 : k = a
  · subst g0; rw [mw_g0, h0]
  by_cases g1 : k = a + 1
  · subst g1; rw [mw_g1, h1]
  by_cases g2 : k = a + 2
  · subst g2; rw [mw_g2, h2]
  by_cases g3 : k = a + 3
  · subst g3; rw [mw_g3, h3]
  by_cases g4 : k = a + 4
  · subst g4; rw [mw_g4, h4]
  by_cases g5 : k = a + 5
  · subst g5; rw [mw_g5, h5]
  by_cases g6 : k = a + 6
  · subst g6; rw [mw_g6, h6]
  by_cases g7 : k = a + 7
  · subst g7; rw [mw_g7, h7]
  by_cases g8 : k = a + 8
  · subst g8; rw [mw_g8, h8]
  by_cases g9 : k = a + 9
  · subst g9; rw [mw_g9, h9]
  by_cases g10 : k = a + 10
  · subst g10; rw [mw_g10, h10]
  by_cases g11 : k = a + 11
  · subst g11; rw [mw_g11, h11]
  by_cases g12 : k = a + 12
  · subst g12; rw [mw_g12, h12]
  by_cases g13 : k = a + 13
  · subst g13; rw [mw_g13, h13]
  by_cases g14 : k = a + 14
  · subst g14; rw [mw_g14, h14]
  by_cases g15 : k = a + 15
  · subst g15; rw [mw_g15, h15]
  by_cases g16 : k = a + 16
  · subst g16; rw [mw_g16, h16]
  by_cases g17 : k = a + 17
  · subst g17; rw [mw_g17, h17]
  simp only [mw, if_neg g0, if_neg g1, if_neg g2, if_neg g3, if_neg g4, if_neg g5, if_neg g6, if_neg g7, if_neg g8, if_neg g9, if_neg g10, if_neg g11, if_neg g12, if_neg g13, if_neg g14, if_neg g15, if_neg g16, if_neg g17]
theorem mw_fr {w2 : ai_W} (h : mw w a mk li vs ha le ce re co cd ob sn th fo fr po is cs cf dn dr wn ou pa gd = w) (g : ∀ k, a ≤ k → k ≤ a + 17 → w2.2.2 k = w.2.2 k) : mw w2 a mk li vs ha le ce re co cd ob sn th fo fr po is cs cf dn dr wn ou pa gd = w2 := mw_of ((g _ (by omega) (by omega)).trans (mw_at h)) ((g _ (by omega) (by omega)).trans (mw_at1 h)) ((g _ (by omega) (by omega)).trans (mw_at2 h)) ((g _ (by omega) (by omega)).trans (mw_at3 h)) ((g _ (by omega) (by omega)).trans (mw_at4 h)) ((g _ (by omega) (by omega)).trans (mw_at5 h)) ((g _ (by omega) (by omega)).trans (mw_at6 h)) ((g _ (by omega) (by omega)).trans (mw_at7 h)) ((g _ (by omega) (by omega)).trans (mw_at8 h)) ((g _ (by omega) (by omega)).trans (mw_at9 h)) ((g _ (by omega) (by omega)).trans (mw_at10 h)) ((g _ (by omega) (by omega)).trans (mw_at11 h)) ((g _ (by omega) (by omega)).trans (mw_at12 h)) ((g _ (by omega) (by omega)).trans (mw_at13 h)) ((g _ (by omega) (by omega)).trans (mw_at14 h)) ((g _ (by omega) (by omega)).trans (mw_at15 h)) ((g _ (by omega) (by omega)).trans (mw_at16 h)) ((g _ (by omega) (by omega)).trans (mw_at17 h))
end OB_m
