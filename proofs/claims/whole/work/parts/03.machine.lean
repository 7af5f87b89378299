/-! A SMALL MACHINE OF MY OWN: one method at a time, cells by number of their kind, fuel. Pure: nothing of the JVM's state stands in it. -/
abbrev am_C : Type := Nat × List Value
abbrev am_H : Type := (Nat → Option am_C) × Nat × Nat
abbrev am_L : Type := List (Option Value)
abbrev am_S : Type := Nat × Nat × am_L × List Value × am_H
abbrev am_R : Type := am_H × Option Value
abbrev am_O : Type := Option (am_S ⊕ ((Nat × List Value × am_S) ⊕ am_R))
def am_set (h : am_H) (a : Nat) (c : am_C) : am_H := (fun q => if q = a then some c else h.1 q, h.2)
def am_new (h : am_H) (c : am_C) (n : Nat) : am_H := (fun q => if q = h.2.1 then some c else h.1 q, h.2.1 + 1, h.2.2 + n)
def am_ld (L : am_L) (k : Nat) : Option Value := match L[k]? with
  | some v => v
  | none => none
def am_cat2 : Option Value → Bool
  | some v => v.category == 2
  | none => false
/-- the place ahead of k holds no value of two places -/
def am_free (L : am_L) : Nat → Bool
  | 0 => true
  | k + 1 => !(am_cat2 (am_ld L k))
def am_st1 (L : am_L) (k : Nat) (v : Value) : Option am_L := if (decide (k < L.length) && am_free L k) = true then some (L.set k (some v)) else none
def am_st2 (L : am_L) (k : Nat) (v : Value) : Option am_L := if (decide (k + 1 < L.length) && am_free L k) = true then some ((L.set k (some v)).set (k + 1) none) else none
/-- a method's places at its entry -/
def am_sl (vs : List Value) : am_L := vs.flatMap fun v => if v.category = 2 then [some v, none] else [some v]
def am_ent (vs : List Value) (n : Nat) : am_L := am_sl vs ++ List.replicate (n - (am_sl vs).length) none
def am_go (x : am_S) : am_O := some (.inl x)
def am_ret (h : am_H) (v : Option Value) : am_O := some (.inr (.inr (h, v)))
/-- the kinds of arrays: 99 the script, 100 + t an array of am_ty[t] -/
def am_arr (ty : FieldType) (a : Nat) (h : am_H) : Option (List Value) := match h.1 a with
  | some (k, vs) => if k = 99 then (if ty = .int then some vs else none) else if k < 100 then none else if am_ty[k - 100]? = some ty then some vs else none
  | none => none
def am_fit (ty : FieldType) (v : Value) : Bool := match ty, v with
  | .int, .int _ => true
  | .long, .long _ => true
  | .boolean, .int x => x == 0 || x == 1
  | .object _, .ref _ => true
  | .object _, .null => true
  | .array _, .ref _ => true
  | .array _, .null => true
  | _, _ => false
def am_icmp (c : ClassFile.Cond) (x y : Int32) (A B : am_O) : am_O := match c with
  | .eq => if x = y then A else B
  | .ne => if ¬ x = y then A else B
  | .lt => if x < y then A else B
  | .ge => if y ≤ x then A else B
  | .gt => if y < x then A else B
  | .le => if x ≤ y then A else B
def am_bin (f : Int32 → Int32 → Int32) (mi pc : Nat) (L : am_L) (st : List Value) (h : am_H) : am_O := match st with
  | .int y :: .int x :: r => am_go (mi, pc, L, .int (f x y) :: r, h)
  | _ => none
def am_binL (f : Int64 → Int64 → Int64) (mi pc : Nat) (L : am_L) (st : List Value) (h : am_H) : am_O := match st with
  | .long y :: .long x :: r => am_go (mi, pc, L, .long (f x y) :: r, h)
  | _ => none
/-- one instruction: a, b, k are its operands, made out beforehand (am_okq says what they are) -/
def am_do (i : Instr) (a b : Nat) (k : Value) (mi pc : Nat) (L : am_L) (st : List Value) (h : am_H) : am_O :=
  match i with
  | .iconst _ => am_go (mi, pc + 1, L, k :: st, h)
  | .lconst _ => am_go (mi, pc + 1, L, k :: st, h)
  | .bipush _ => am_go (mi, pc + 2, L, k :: st, h)
  | .ldc _ => am_go (mi, pc + 2, L, k :: st, h)
  | .sipush _ => am_go (mi, pc + 3, L, k :: st, h)
  | .ldc2_w _ => am_go (mi, pc + 3, L, k :: st, h)
  | .aconst_null => am_go (mi, pc + 1, L, .null :: st, h)
  | .iload_n _ => match am_ld L a with
    | some (.int v) => am_go (mi, pc + 1, L, .int v :: st, h)
    | _ => none
  | .iload _ => match am_ld L a with
    | some (.int v) => am_go (mi, pc + 2, L, .int v :: st, h)
    | _ => none
  | .lload_n _ => match am_ld L a with
    | some (.long v) => am_go (mi, pc + 1, L, .long v :: st, h)
    | _ => none
  | .lload _ => match am_ld L a with
    | some (.long v) => am_go (mi, pc + 2, L, .long v :: st, h)
    | _ => none
  | .aload_n _ => match am_ld L a with
    | some (.ref v) => am_go (mi, pc + 1, L, .ref v :: st, h)
    | some .null => am_go (mi, pc + 1, L, .null :: st, h)
    | _ => none
  | .aload _ => match am_ld L a with
    | some (.ref v) => am_go (mi, pc + 2, L, .ref v :: st, h)
    | some .null => am_go (mi, pc + 2, L, .null :: st, h)
    | _ => none
  | .istore_n _ => match st with
    | .int v :: r => (match am_st1 L a (.int v) with
      | some L' => am_go (mi, pc + 1, L', r, h)
      | none => none)
    | _ => none
  | .istore _ => match st with
    | .int v :: r => (match am_st1 L a (.int v) with
      | some L' => am_go (mi, pc + 2, L', r, h)
      | none => none)
    | _ => none
  | .lstore_n _ => match st with
    | .long v :: r => (match am_st2 L a (.long v) with
      | some L' => am_go (mi, pc + 1, L', r, h)
      | none => none)
    | _ => none
  | .lstore _ => match st with
    | .long v :: r => (match am_st2 L a (.long v) with
      | some L' => am_go (mi, pc + 2, L', r, h)
      | none => none)
    | _ => none
  | .astore_n _ => match st with
    | .ref v :: r => (match am_st1 L a (.ref v) with
      | some L' => am_go (mi, pc + 1, L', r, h)
      | none => none)
    | .null :: r => (match am_st1 L a .null with
      | some L' => am_go (mi, pc + 1, L', r, h)
      | none => none)
    | _ => none
  | .astore _ => match st with
    | .ref v :: r => (match am_st1 L a (.ref v) with
      | some L' => am_go (mi, pc + 2, L', r, h)
      | none => none)
    | .null :: r => (match am_st1 L a .null with
      | some L' => am_go (mi, pc + 2, L', r, h)
      | none => none)
    | _ => none
  | .iinc _ _ => match am_ld L a, k with
    | some (.int x), .int n => (match am_st1 L a (.int (x + n)) with
      | some L' => am_go (mi, pc + 3, L', st, h)
      | none => none)
    | _, _ => none
  | .iadd => am_bin (fun x y => x + y) mi (pc + 1) L st h
  | .isub => am_bin (fun x y => x - y) mi (pc + 1) L st h
  | .imul => am_bin (fun x y => x * y) mi (pc + 1) L st h
  | .iand => am_bin (fun x y => x &&& y) mi (pc + 1) L st h
  | .ior => am_bin (fun x y => x ||| y) mi (pc + 1) L st h
  | .ladd => am_binL (fun x y => x + y) mi (pc + 1) L st h
  | .lsub => am_binL (fun x y => x - y) mi (pc + 1) L st h
  | .land => am_binL (fun x y => x &&& y) mi (pc + 1) L st h
  | .lor => am_binL (fun x y => x ||| y) mi (pc + 1) L st h
  | .i2l => match st with
    | .int x :: r => am_go (mi, pc + 1, L, .long x.toInt64 :: r, h)
    | _ => none
  | .lshl => match st with
    | .int y :: .long x :: r => am_go (mi, pc + 1, L, .long (x <<< (y.toInt64 &&& 63)) :: r, h)
    | _ => none
  | .lcmp => match st with
    | .long y :: .long x :: r => am_go (mi, pc + 1, L, .int (lg_cmp x y) :: r, h)
    | _ => none
  | .dup => match st with
    | v :: r => if v.category = 1 then am_go (mi, pc + 1, L, v :: v :: r, h) else none
    | _ => none
  | .dup_x1 => match st with
    | v :: w :: r => if v.category = 1 ∧ w.category = 1 then am_go (mi, pc + 1, L, v :: w :: v :: r, h) else none
    | _ => none
  | .dup2 => match st with
    | v :: w :: r => if v.category = 1 ∧ w.category = 1 then am_go (mi, pc + 1, L, v :: w :: v :: w :: r, h) else none
    | _ => none
  | .pop => match st with
    | v :: r => if v.category = 1 then am_go (mi, pc + 1, L, r, h) else none
    | _ => none
  | .goto _ => am_go (mi, a, L, st, h)
  | .if_icmp c _ => match st with
    | .int y :: .int x :: r => am_icmp c x y (am_go (mi, a, L, r, h)) (am_go (mi, pc + 3, L, r, h))
    | _ => none
  | .ifCond c _ => match st with
    | .int x :: r => am_icmp c x 0 (am_go (mi, a, L, r, h)) (am_go (mi, pc + 3, L, r, h))
    | _ => none
  | .ifnull _ => match st with
    | .null :: r => am_go (mi, a, L, r, h)
    | .ref _ :: r => am_go (mi, pc + 3, L, r, h)
    | _ => none
  | .ifnonnull _ => match st with
    | .null :: r => am_go (mi, pc + 3, L, r, h)
    | .ref _ :: r => am_go (mi, a, L, r, h)
    | _ => none
  | .tableswitch d lo hi offs => match st with
    | .int x :: r => if x.toInt < lo ∨ hi < x.toInt then am_go (mi, ((pc : Int) + d).toNat, L, r, h) else
      (match offs[(x.toInt - lo).toNat]? with
      | some o => if 0 ≤ (pc : Int) + o then am_go (mi, ((pc : Int) + o).toNat, L, r, h) else none
      | none => none)
    | _ => none
  | .getfield _ => match st with
    | .ref q :: r => (match h.1 q with
      | some (ck, vs) => if ck = a then (match vs[b]? with
        | some v => am_go (mi, pc + 3, L, v :: r, h)
        | none => none) else none
      | none => none)
    | _ => none
  | .putfield _ => match st with
    | v :: .ref q :: r => (match h.1 q with
      | some (ck, vs) => if (decide (ck = a) && decide (b < vs.length) && am_fit (am_fty a b) v) = true then am_go (mi, pc + 3, L, r, am_set h q (ck, vs.set b v)) else none
      | none => none)
    | _ => none
  | .iaload => match st with
    | .int j :: .ref q :: r => (match am_arr .int q h with
      | some vs => if j < 0 then none else (match vs[j.toNatClampNeg]? with
        | some v => am_go (mi, pc + 1, L, v :: r, h)
        | none => none)
      | none => none)
    | _ => none
  | .laload => match st with
    | .int j :: .ref q :: r => (match am_arr .long q h with
      | some vs => if j < 0 then none else (match vs[j.toNatClampNeg]? with
        | some v => am_go (mi, pc + 1, L, v :: r, h)
        | none => none)
      | none => none)
    | _ => none
  | .aaload => match st with
    | .int j :: .ref q :: r => (match h.1 q with
      | some (ck, vs) => if ck < 100 ∨ j < 0 ∨ am_refk ck = false then none else (match vs[j.toNatClampNeg]? with
        | some v => am_go (mi, pc + 1, L, v :: r, h)
        | none => none)
      | none => none)
    | _ => none
  | .iastore => match st with
    | .int x :: .int j :: .ref q :: r => (match h.1 q with
      | some (ck, vs) => if ck < 100 ∨ j < 0 ∨ vs.length ≤ j.toNatClampNeg ∨ ¬ am_ty[ck - 100]? = some .int then none else am_go (mi, pc + 1, L, r, am_set h q (ck, vs.set j.toNatClampNeg (.int x)))
      | none => none)
    | _ => none
  | .lastore => match st with
    | .long x :: .int j :: .ref q :: r => (match h.1 q with
      | some (ck, vs) => if ck < 100 ∨ j < 0 ∨ vs.length ≤ j.toNatClampNeg ∨ ¬ am_ty[ck - 100]? = some .long then none else am_go (mi, pc + 1, L, r, am_set h q (ck, vs.set j.toNatClampNeg (.long x)))
      | none => none)
    | _ => none
  | .aastore => match st with
    | .ref x :: .int j :: .ref q :: r => (match h.1 q, h.1 x with
      | some (ck, vs), some (ek, _) => if ck < 100 ∨ 99 ≤ ek ∨ j < 0 ∨ vs.length ≤ j.toNatClampNeg ∨ ¬ am_ty[ck - 100]? = some (am_oty ek) then none else am_go (mi, pc + 1, L, r, am_set h q (ck, vs.set j.toNatClampNeg (.ref x)))
      | _, _ => none)
    | _ => none
  | .arraylength => match st with
    | .ref q :: r => (match h.1 q with
      | some (ck, vs) => if ck < 99 then none else am_go (mi, pc + 1, L, .int (Int32.ofNat vs.length) :: r, h)
      | none => none)
    | _ => none
  | .new _ => am_go (mi, pc + 3, L, .ref h.2.1 :: st, am_new h (a, am_dfs a) (am_dfs a).length)
  | .newarray _ => match st with
    | .int n :: r => if n < 0 ∨ 65536 < n.toNatClampNeg then none else am_go (mi, pc + 2, L, .ref h.2.1 :: r, am_new h (a, List.replicate n.toNatClampNeg (am_df a)) n.toNatClampNeg)
    | _ => none
  | .anewarray _ => match st with
    | .int n :: r => if n < 0 ∨ 65536 < n.toNatClampNeg then none else am_go (mi, pc + 3, L, .ref h.2.1 :: r, am_new h (a, List.replicate n.toNatClampNeg .null) n.toNatClampNeg)
    | _ => none
  | .invokestatic _ => if st.length < b ∨ 8 < ((st.drop b).map fun v => v.category).sum then none else some (.inr (.inl (a, (st.take b).reverse, (mi, pc + 3, L, st.drop b, h))))
  | .invokevirtual _ => match st.drop b with
    | .ref q :: r => (match h.1 q with
      | some (ck, _) => if 8 < (r.map fun v => v.category).sum ∨ ¬ ck = am_mcl a then none else some (.inr (.inl (a, .ref q :: (st.take b).reverse, (mi, pc + 3, L, r, h))))
      | none => none)
    | _ => none
  | .invokespecial _ => match st.drop b with
    | .ref q :: r => if 8 < (r.map fun v => v.category).sum then none else if a = 999 then am_go (mi, pc + 3, L, r, h) else some (.inr (.inl (a, .ref q :: (st.take b).reverse, (mi, pc + 3, L, r, h))))
    | _ => none
  | .ireturn => match st with
    | [.int v] => if (am_rfit mi (.int v)) = true then am_ret h (some (.int v)) else none
    | _ => none
  | .areturn => match st with
    | [.ref v] => am_ret h (some (.ref v))
    | [.null] => am_ret h (some .null)
    | _ => none
  | .return_ => match st with
    | [] => am_ret h none
    | _ => none
  | _ => none
def am_step (x : am_S) : am_O := match am_ins x.1 x.2.1 with
  | some (i, a, b, k) => am_do i a b k x.1 x.2.1 x.2.2.1 x.2.2.2.1 x.2.2.2.2
  | none => none
def am_in (mi : Nat) (vs : List Value) (h : am_H) : am_S := (mi, 0, am_ent vs (am_mL mi), [], h)
/-- behind a call: the answer on the stack -/
def am_bk (y : am_S) (h : am_H) (r : Option Value) : am_S := (y.1, y.2.1, y.2.2.1, r.toList ++ y.2.2.2.1, h)
def am_ex : Nat → am_S → Option am_R
  | 0, _ => none
  | f + 1, x => match am_step x with
    | none => none
    | some (.inl y) => am_ex f y
    | some (.inr (.inl (mj, vs, y))) => if (am_sl vs).length ≤ am_mL mj then (match am_ex f (am_in mj vs x.2.2.2.2) with
      | none => none
      | some (h1, r) => am_ex f (am_bk y h1 r)) else none
    | some (.inr (.inr z)) => some z
theorem am_fuel1 : ∀ (f : Nat) (x : am_S) (z : am_R), am_ex f x = some z → am_ex (f + 1) x = some z := by
  intro f
  induction f with
  | zero => intro x z h; cases h
  | succ f ih =>
    intro x z h
    rw [am_ex] at h
    rw [am_ex]
    generalize am_step x = o at h ⊢
    match o, h with
    | none, h => cases h
    | some (.inl y), h => exact ih y z h
    | some (.inr (.inr w)), h => exact h
    | some (.inr (.inl (mj, vs, y))), h =>
      dsimp only at h ⊢
      split at h
      · rename_i hl
        rw [if_pos hl]
        generalize hg : am_ex f (am_in mj vs x.2.2.2.2) = g at h
        match g, h with
        | none, h => cases h
        | some (h1, r), h =>
          rw [ih _ _ hg]
          exact ih _ _ h
      · cases h
theorem am_fuel {f : Nat} {x : am_S} {z : am_R} (h : am_ex f x = some z) : ∀ k, am_ex (f + k) x = some z
  | 0 => h
  | k + 1 => am_fuel1 (f + k) x z (am_fuel h k)
/-- from x on the machine comes to an end, with Q of what it leaves -/
def am_Run (x : am_S) (Q : am_H → Option Value → Prop) : Prop := ∃ (f : Nat) (h : am_H) (r : Option Value), am_ex f x = some (h, r) ∧ Q h r
theorem am_Run.go {x y : am_S} {Q : am_H → Option Value → Prop} (h : am_step x = some (.inl y)) (k : am_Run y Q) : am_Run x Q := by
  obtain ⟨f, h1, r, e, q⟩ := k
  refine ⟨f + 1, h1, r, ?_, q⟩
  rw [am_ex, h]
  exact e
theorem am_Run.ret {x : am_S} {Q : am_H → Option Value → Prop} {h1 : am_H} {r : Option Value} (h : am_step x = some (.inr (.inr (h1, r)))) (k : Q h1 r) : am_Run x Q := by
  refine ⟨1, h1, r, ?_, k⟩
  rw [am_ex, h]
theorem am_Run.call {x y : am_S} {Q : am_H → Option Value → Prop} {mj : Nat} {vs : List Value} (h : am_step x = some (.inr (.inl (mj, vs, y)))) (hl : (am_sl vs).length ≤ am_mL mj)
    (k : am_Run (am_in mj vs x.2.2.2.2) (fun h1 r => am_Run (am_bk y h1 r) Q)) : am_Run x Q := by
  obtain ⟨f, h1, r, e, f2, h2, r2, e2, q⟩ := k
  refine ⟨(f + f2) + 1, h2, r2, ?_, q⟩
  rw [am_ex, h]
  dsimp only
  rw [if_pos hl, am_fuel e f2]
  dsimp only
  rw [Nat.add_comm f f2]
  exact am_fuel e2 f
theorem am_Run.mono {x : am_S} {Q Q' : am_H → Option Value → Prop} (h : am_Run x Q) (k : ∀ h r, Q h r → Q' h r) : am_Run x Q' := by
  obtain ⟨f, h1, r, e, q⟩ := h
  exact ⟨f, h1, r, e, k _ _ q⟩
