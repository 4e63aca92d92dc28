abbrev ai_W : Type := Nat × Nat × (Nat → va_E)
abbrev ai_L : Type := List (Option Value)
abbrev ai_I : Type := Instr × Nat × Nat × Nat × Nat × Value × List (Int32 × Nat)
abbrev ai_R : Type := (Nat × ai_L × List Value × ai_W) ⊕ Option Value ⊕ (Nat × List Value × List Value × Nat)
abbrev ai_S : Type := Option (Nat × (Nat → Int32))
def ai_put (w : ai_W) (a : Nat) (e : va_E) : ai_W := (w.1, w.2.1, fun k => if k = a then e else w.2.2 k)
def ai_add (w : ai_W) (n : Nat) (e : va_E) : ai_W := (w.1 + 1, w.2.1 + n, fun k => if k = w.1 + 1 then e else w.2.2 k)
def ai_w0 : ai_W := (0, 0, fun _ => .inr (0, []))
def ai_go (nx : Nat) (ls : ai_L) (st : List Value) (w : ai_W) : Option ai_R := some (.inl (nx, ls, st, w))
def ai_nl : Option Value → Option Value
  | some v => if v.category = 2 then none else some v
  | none => none
def ai_cl1 : ai_L → Nat → ai_L
  | [], _ => []
  | l :: r, 0 => l :: r
  | l :: r, 1 => ai_nl l :: r
  | l :: r, k + 2 => l :: ai_cl1 r (k + 1)
def ai_sto (ls : ai_L) (k : Nat) (v : Value) : Option ai_L :=
  if v.category = 2 then (if k + 1 < ls.length then some (((ai_cl1 ls k).set k (some v)).set (k + 1) none) else none)
  else if k < ls.length then some ((ai_cl1 ls k).set k (some v)) else none
def ai_sl : List Value → ai_L
  | [] => []
  | v :: r => if v.category = 2 then some v :: none :: ai_sl r else some v :: ai_sl r
def ai_in (n : Nat) (args : List Value) : ai_L := ai_sl args ++ List.replicate (n - (ai_sl args).length) none
def ai_cz (c : ClassFile.Cond) (x : Int32) : Prop := match c with
  | .eq => x = 0
  | .ne => ¬ x = 0
  | .lt => x < 0
  | .ge => 0 ≤ x
  | .gt => 0 < x
  | .le => x ≤ 0
def ai_ci (c : ClassFile.Cond) (x y : Int32) : Prop := match c with
  | .eq => x = y
  | .ne => ¬ x = y
  | .lt => x < y
  | .ge => y ≤ x
  | .gt => y < x
  | .le => x ≤ y
def ai_czD (c : ClassFile.Cond) (x : Int32) : Decidable (ai_cz c x) := match c with
  | .eq => (inferInstance : Decidable (x = 0))
  | .ne => (inferInstance : Decidable (¬ x = 0))
  | .lt => (inferInstance : Decidable (x < 0))
  | .ge => (inferInstance : Decidable (0 ≤ x))
  | .gt => (inferInstance : Decidable (0 < x))
  | .le => (inferInstance : Decidable (x ≤ 0))
def ai_ciD (c : ClassFile.Cond) (x y : Int32) : Decidable (ai_ci c x y) := match c with
  | .eq => (inferInstance : Decidable (x = y))
  | .ne => (inferInstance : Decidable (¬ x = y))
  | .lt => (inferInstance : Decidable (x < y))
  | .ge => (inferInstance : Decidable (y ≤ x))
  | .gt => (inferInstance : Decidable (y < x))
  | .le => (inferInstance : Decidable (x ≤ y))
def ai_sw : List (Int32 × Nat) → Nat → Int32 → Nat
  | [], d, _ => d
  | (k, t) :: l, d, x => if x = k then t else ai_sw l d x
def ai_fit : Nat → Value → Bool
  | 0, .int _ => true
  | 1, .int x => decide (x = 0 ∨ x = 1)
  | 2, .long _ => true
  | 3, .ref _ => true
  | _, _ => false
def ai_dv : Nat → Value
  | 0 => .int 0
  | 1 => .int 0
  | 2 => .long 0
  | _ => .null
def ai_csum (st : List Value) : Nat := (st.map fun v => v.category).sum
def ai_call (a b nx : Nat) (st : List Value) : Option ai_R :=
  if b ≤ st.length ∧ ai_csum (st.drop b) ≤ 8 then some (.inr (.inr (a, (st.take b).reverse, st.drop b, nx))) else none
def ai_inv (a b c nx : Nat) (cv : Value) (ls : ai_L) (st : List Value) (w : ai_W) : Option ai_R :=
  match c with
  | 0 => ai_call a b nx st
  | 1 => match st.drop (b - 1), cv with
    | .ref o :: _, .ref q => match w.2.2 o with
      | .inr (ci, _ :: _) => if ci = q then ai_call a b nx st else none
      | _ => none
    | _, _ => none
  | 2 => match st.drop (b - 1) with
    | .ref _ :: _ => ai_call a b nx st
    | _ => none
  | 3 => match st with
    | .ref _ :: r => if ai_csum r ≤ 8 then ai_go nx ls r w else none
    | _ => none
  | 4 => match st with
    | .int y :: .int x :: r => if ai_csum r ≤ 8 then ai_go nx ls (.int (if x < y then y else x) :: r) w else none
    | _ => none
  | 5 => match st with
    | .int n :: .int dp :: .ref d :: .int sp :: .ref s0 :: r =>
      match w.2.2 s0, w.2.2 d with
      | .inl (0, n0, .inl f), .inl (0, n1, .inl g) =>
        if ai_csum r ≤ 8 ∧ ¬ sp < 0 ∧ ¬ dp < 0 ∧ ¬ n < 0 ∧ sp.toNatClampNeg + n.toNatClampNeg ≤ n0 ∧ dp.toNatClampNeg + n.toNatClampNeg ≤ n1 then
          ai_go nx ls r (ai_put w d (.inl (0, n1, .inl (va_cpy f g sp.toNatClampNeg dp.toNatClampNeg n.toNatClampNeg))))
        else none
      | _, _ => none
    | _ => none
  | _ => none
def ai_step (scr : ai_S) (I : ai_I) (ls : ai_L) (st : List Value) (w : ai_W) : Option ai_R :=
  match I with
  | (ins, nx, a, b, c, cv, tb) =>
    match ins with
    | .iconst _ => ai_go nx ls (cv :: st) w
    | .bipush _ => ai_go nx ls (cv :: st) w
    | .sipush _ => ai_go nx ls (cv :: st) w
    | .lconst _ => ai_go nx ls (cv :: st) w
    | .ldc _ => ai_go nx ls (cv :: st) w
    | .ldc2_w _ => ai_go nx ls (cv :: st) w
    | .iload_n _ => match ls[a]? with
      | some (some (.int x)) => ai_go nx ls (.int x :: st) w
      | _ => none
    | .iload _ => match ls[a]? with
      | some (some (.int x)) => ai_go nx ls (.int x :: st) w
      | _ => none
    | .lload_n _ => match ls[a]? with
      | some (some (.long x)) => ai_go nx ls (.long x :: st) w
      | _ => none
    | .lload _ => match ls[a]? with
      | some (some (.long x)) => ai_go nx ls (.long x :: st) w
      | _ => none
    | .aload_n _ => match ls[a]? with
      | some (some (.ref x)) => ai_go nx ls (.ref x :: st) w
      | _ => none
    | .aload _ => match ls[a]? with
      | some (some (.ref x)) => ai_go nx ls (.ref x :: st) w
      | _ => none
    | .istore_n _ => match st with
      | .int x :: r => match ai_sto ls a (.int x) with
        | some ls' => ai_go nx ls' r w
        | none => none
      | _ => none
    | .istore _ => match st with
      | .int x :: r => match ai_sto ls a (.int x) with
        | some ls' => ai_go nx ls' r w
        | none => none
      | _ => none
    | .lstore_n _ => match st with
      | .long x :: r => match ai_sto ls a (.long x) with
        | some ls' => ai_go nx ls' r w
        | none => none
      | _ => none
    | .lstore _ => match st with
      | .long x :: r => match ai_sto ls a (.long x) with
        | some ls' => ai_go nx ls' r w
        | none => none
      | _ => none
    | .astore_n _ => match st with
      | .ref x :: r => match ai_sto ls a (.ref x) with
        | some ls' => ai_go nx ls' r w
        | none => none
      | _ => none
    | .astore _ => match st with
      | .ref x :: r => match ai_sto ls a (.ref x) with
        | some ls' => ai_go nx ls' r w
        | none => none
      | _ => none
    | .iinc _ _ => match ls[a]?, cv with
      | some (some (.int x)), .int d => match ai_sto ls a (.int (x + d)) with
        | some ls' => ai_go nx ls' st w
        | none => none
      | _, _ => none
    | .iadd => match st with
      | .int y :: .int x :: r => ai_go nx ls (.int (x + y) :: r) w
      | _ => none
    | .isub => match st with
      | .int y :: .int x :: r => ai_go nx ls (.int (x - y) :: r) w
      | _ => none
    | .imul => match st with
      | .int y :: .int x :: r => ai_go nx ls (.int (x * y) :: r) w
      | _ => none
    | .iand => match st with
      | .int y :: .int x :: r => ai_go nx ls (.int (x &&& y) :: r) w
      | _ => none
    | .ior => match st with
      | .int y :: .int x :: r => ai_go nx ls (.int (x ||| y) :: r) w
      | _ => none
    | .ixor => match st with
      | .int y :: .int x :: r => ai_go nx ls (.int (x ^^^ y) :: r) w
      | _ => none
    | .ishl => match st with
      | .int y :: .int x :: r => ai_go nx ls (.int (x <<< (y &&& 31)) :: r) w
      | _ => none
    | .ishr => match st with
      | .int y :: .int x :: r => ai_go nx ls (.int (x >>> (y &&& 31)) :: r) w
      | _ => none
    | .ineg => match st with
      | .int x :: r => ai_go nx ls (.int (-x) :: r) w
      | _ => none
    | .irem => match st with
      | .int y :: .int x :: r => if y = 0 then none else ai_go nx ls (.int (x - x / y * y) :: r) w
      | _ => none
    | .ladd => match st with
      | .long y :: .long x :: r => ai_go nx ls (.long (x + y) :: r) w
      | _ => none
    | .lsub => match st with
      | .long y :: .long x :: r => ai_go nx ls (.long (x - y) :: r) w
      | _ => none
    | .lmul => match st with
      | .long y :: .long x :: r => ai_go nx ls (.long (x * y) :: r) w
      | _ => none
    | .land => match st with
      | .long y :: .long x :: r => ai_go nx ls (.long (x &&& y) :: r) w
      | _ => none
    | .lor => match st with
      | .long y :: .long x :: r => ai_go nx ls (.long (x ||| y) :: r) w
      | _ => none
    | .ldiv => match st with
      | .long y :: .long x :: r => if y = 0 then none else ai_go nx ls (.long (x / y) :: r) w
      | _ => none
    | .lrem => match st with
      | .long y :: .long x :: r => if y = 0 then none else ai_go nx ls (.long (x - x / y * y) :: r) w
      | _ => none
    | .lneg => match st with
      | .long x :: r => ai_go nx ls (.long (-x) :: r) w
      | _ => none
    | .lshl => match st with
      | .int y :: .long x :: r => ai_go nx ls (.long (x <<< (y.toInt64 &&& 63)) :: r) w
      | _ => none
    | .lshr => match st with
      | .int y :: .long x :: r => ai_go nx ls (.long (x >>> (y.toInt64 &&& 63)) :: r) w
      | _ => none
    | .lcmp => match st with
      | .long y :: .long x :: r => ai_go nx ls (.int (lg_cmp x y) :: r) w
      | _ => none
    | .i2l => match st with
      | .int x :: r => ai_go nx ls (.long x.toInt64 :: r) w
      | _ => none
    | .l2i => match st with
      | .long x :: r => ai_go nx ls (.int x.toInt32 :: r) w
      | _ => none
    | .dup => match st with
      | v :: r => if v.category = 1 then ai_go nx ls (v :: v :: r) w else none
      | _ => none
    | .pop => match st with
      | v :: r => if v.category = 1 then ai_go nx ls r w else none
      | _ => none
    | .dup_x1 => match st with
      | v :: u :: r => if v.category = 1 ∧ u.category = 1 then ai_go nx ls (v :: u :: v :: r) w else none
      | _ => none
    | .dup2 => match st with
      | v :: u :: r => if v.category = 1 ∧ u.category = 1 then ai_go nx ls (v :: u :: v :: u :: r) w else none
      | _ => none
    | .goto _ => ai_go a ls st w
    | .ifCond q _ => match st with
      | .int x :: r => match ai_czD q x with
        | .isTrue _ => ai_go a ls r w
        | .isFalse _ => ai_go nx ls r w
      | _ => none
    | .if_icmp q _ => match st with
      | .int y :: .int x :: r => match ai_ciD q x y with
        | .isTrue _ => ai_go a ls r w
        | .isFalse _ => ai_go nx ls r w
      | _ => none
    | .tableswitch .. => match st with
      | .int x :: r => ai_go (ai_sw tb a x) ls r w
      | _ => none
    | .lookupswitch .. => match st with
      | .int x :: r => ai_go (ai_sw tb a x) ls r w
      | _ => none
    | .getfield _ => match st with
      | .ref o :: r => match w.2.2 o with
        | .inr (ci, fs) => if ci = a then (match fs[b]? with
          | some v => ai_go nx ls (v :: r) w
          | none => none) else none
        | _ => none
      | _ => none
    | .putfield _ => match st with
      | v :: .ref o :: r => match w.2.2 o with
        | .inr (ci, fs) => if ci = a ∧ b < fs.length ∧ ai_fit c v = true then ai_go nx ls r (ai_put w o (.inr (ci, fs.set b v))) else none
        | _ => none
      | _ => none
    | .iaload => match st with
      | .int i :: .ref o :: r => match w.2.2 o with
        | .inl (0, n, .inl f) => if i < 0 ∨ n ≤ i.toNatClampNeg then none else ai_go nx ls (.int (f i.toNatClampNeg) :: r) w
        | .inr (0, []) => match scr with
          | some (n, f) => if i < 0 ∨ n ≤ i.toNatClampNeg ∨ ¬ o = 0 then none else ai_go nx ls (.int (f i.toNatClampNeg) :: r) w
          | none => none
        | _ => none
      | _ => none
    | .baload => match st with
      | .int i :: .ref o :: r => match w.2.2 o with
        | .inl (1, n, .inl f) => if i < 0 ∨ n ≤ i.toNatClampNeg then none else ai_go nx ls (.int (f i.toNatClampNeg) :: r) w
        | _ => none
      | _ => none
    | .laload => match st with
      | .int i :: .ref o :: r => match w.2.2 o with
        | .inl (2, n, .inr (.inl f)) => if i < 0 ∨ n ≤ i.toNatClampNeg then none else ai_go nx ls (.long (f i.toNatClampNeg) :: r) w
        | _ => none
      | _ => none
    | .aaload => match st with
      | .int i :: .ref o :: r => match w.2.2 o with
        | .inl (3, n, .inr (.inr (.inr (.inr f)))) => if i < 0 ∨ n ≤ i.toNatClampNeg then none else ai_go nx ls (va_rf (f i.toNatClampNeg) :: r) w
        | _ => none
      | _ => none
    | .iastore => match st with
      | .int x :: .int i :: .ref o :: r => match w.2.2 o with
        | .inl (0, n, .inl f) => if i < 0 ∨ n ≤ i.toNatClampNeg then none else ai_go nx ls r (ai_put w o (.inl (0, n, .inl (upd f i.toNatClampNeg x))))
        | _ => none
      | _ => none
    | .bastore => match st with
      | .int x :: .int i :: .ref o :: r => match w.2.2 o with
        | .inl (1, n, .inl f) => if i < 0 ∨ n ≤ i.toNatClampNeg then none else ai_go nx ls r (ai_put w o (.inl (1, n, .inl (upd f i.toNatClampNeg (vp_nar .boolean x)))))
        | _ => none
      | _ => none
    | .lastore => match st with
      | .long x :: .int i :: .ref o :: r => match w.2.2 o with
        | .inl (2, n, .inr (.inl f)) => if i < 0 ∨ n ≤ i.toNatClampNeg then none else ai_go nx ls r (ai_put w o (.inl (2, n, .inr (.inl (vp_updL f i.toNatClampNeg x)))))
        | _ => none
      | _ => none
    | .aastore => match st with
      | .ref x :: .int i :: .ref o :: r => match w.2.2 o, w.2.2 x with
        | .inl (3, n, .inr (.inr (.inr (.inr f)))), .inr (ci, _ :: _) => if i < 0 ∨ n ≤ i.toNatClampNeg ∨ ¬ ci = a then none else ai_go nx ls r (ai_put w o (.inl (3, n, .inr (.inr (.inr (.inr (va_up f i.toNatClampNeg (some x))))))))
        | _, _ => none
      | _ => none
    | .arraylength => match st with
      | .ref o :: r => match w.2.2 o with
        | .inl (t, n, _) => if t < 4 then ai_go nx ls (.int (Int32.ofNat n) :: r) w else none
        | .inr (0, []) => match scr with
          | some (n, _) => if o = 0 then ai_go nx ls (.int (Int32.ofNat n) :: r) w else none
          | none => none
        | _ => none
      | _ => none
    | .newarray _ => match st with
      | .int n :: r => if n < 0 ∨ 100000 < n.toNatClampNeg then none else match a with
        | 0 => ai_go nx ls (.ref (w.1 + 1) :: r) (ai_add w n.toNatClampNeg (.inl (0, n.toNatClampNeg, .inl (fun _ => 0))))
        | 1 => ai_go nx ls (.ref (w.1 + 1) :: r) (ai_add w n.toNatClampNeg (.inl (1, n.toNatClampNeg, .inl (fun _ => 0))))
        | 2 => ai_go nx ls (.ref (w.1 + 1) :: r) (ai_add w n.toNatClampNeg (.inl (2, n.toNatClampNeg, .inr (.inl (fun _ => 0)))))
        | _ => none
      | _ => none
    | .anewarray _ => match st with
      | .int n :: r => if n < 0 ∨ 100000 < n.toNatClampNeg then none else
          ai_go nx ls (.ref (w.1 + 1) :: r) (ai_add w n.toNatClampNeg (.inl (3, n.toNatClampNeg, .inr (.inr (.inr (.inr (fun _ => none)))))))
      | _ => none
    | .new _ => ai_go nx ls (.ref (w.1 + 1) :: st) (ai_add w tb.length (.inr (a, tb.map (fun q => ai_dv q.2))))
    | .return_ => match st with
      | [] => some (.inr (.inl none))
      | _ => none
    | .ireturn => match st with
      | [.int v] => if ai_fit a (.int v) = true then some (.inr (.inl (some (.int v)))) else none
      | _ => none
    | .lreturn => match st with
      | [.long v] => some (.inr (.inl (some (.long v))))
      | _ => none
    | .areturn => match st with
      | [.ref v] => some (.inr (.inl (some (.ref v))))
      | _ => none
    | .invokestatic _ => ai_inv a b c nx cv ls st w
    | .invokevirtual _ => ai_inv a b c nx cv ls st w
    | .invokespecial _ => ai_inv a b c nx cv ls st w
    | _ => none
def ai_find : List (Nat × ai_I) → Nat → Option ai_I
  | [], _ => none
  | (q, I) :: l, k => bif Nat.beq k q then some I else ai_find l k
