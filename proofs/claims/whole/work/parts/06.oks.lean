/-! THE SMALL MACHINE'S END IS THE JVM'S END. -/
def am_len (i : Instr) (b : Nat) : Nat := match i with
  | .iconst _ => 1 | .lconst _ => 1 | .aconst_null => 1 | .iload_n _ => 1 | .lload_n _ => 1 | .aload_n _ => 1 | .istore_n _ => 1 | .lstore_n _ => 1 | .astore_n _ => 1
  | .iadd => 1 | .isub => 1 | .imul => 1 | .iand => 1 | .ior => 1 | .ladd => 1 | .lsub => 1 | .land => 1 | .lor => 1 | .i2l => 1 | .lshl => 1 | .lcmp => 1 | .dup => 1 | .dup_x1 => 1 | .dup2 => 1 | .pop => 1
  | .iaload => 1 | .laload => 1 | .aaload => 1 | .iastore => 1 | .lastore => 1 | .aastore => 1 | .arraylength => 1 | .ireturn => 1 | .areturn => 1 | .return_ => 1
  | .bipush _ => 2 | .ldc _ => 2 | .iload _ => 2 | .lload _ => 2 | .aload _ => 2 | .istore _ => 2 | .lstore _ => 2 | .astore _ => 2 | .newarray _ => 2
  | .tableswitch _ _ _ _ => b
  | _ => 3
def am_call (M M' : am_M) (idx b : Nat) : Prop := Cond.methodLink M.1.cls idx M'.1 ∈ am_G ∧ (parseMethodDescriptor M'.1.desc).map (fun d => d.parameters.length) = some b ∧ M'.2.2.2.2.1 + 1 ≤ M.2.2.2.2.1 ∧ 8 + (M'.2.2.1 + 11) + M'.2.2.2.2.2 ≤ M.2.2.2.2.2
def am_mok (M : am_M) : Prop := Cond.code M.1 M.2.1 M.2.2.1 M.2.2.2.1 ∈ am_G ∧ Cond.initialized M.1.cls ∈ am_G ∧ (M.1.cls ≠ "java/lang/invoke/MethodHandle" ∧ M.1.cls ≠ "java/lang/invoke/VarHandle") ∧ plainName M.1.cls = true
def am_oko (M : am_M) (pc : Nat) (i : Instr) (a b : Nat) (k : Value) : Prop := match i with
  | .iconst n => ∃ v, k = .int v ∧ Int32.ofInt n = v
  | .bipush n => ∃ v, k = .int v ∧ (Int8.ofInt n).toInt32 = v
  | .sipush n => ∃ v, k = .int v ∧ (Int16.ofInt n).toInt32 = v
  | .lconst n => ∃ v, k = .long v ∧ Int64.ofNat (n : Nat) = v
  | .ldc n => ∃ v, k = .int v ∧ Cond.constant M.1.cls n v ∈ am_G
  | .ldc2_w n => ∃ v, k = .long v ∧ Cond.constantLong M.1.cls n v ∈ am_G
  | .iload_n n => (n : Nat) = a
  | .lload_n n => (n : Nat) = a
  | .aload_n n => (n : Nat) = a
  | .istore_n n => (n : Nat) = a
  | .lstore_n n => (n : Nat) = a
  | .astore_n n => (n : Nat) = a
  | .iload n => n = a
  | .lload n => n = a
  | .aload n => n = a
  | .istore n => n = a
  | .lstore n => n = a
  | .astore n => n = a
  | .iinc n v => n = a ∧ ∃ w, k = .int w ∧ Int32.ofInt v = w
  | .goto o => (pc : Int) + o = (a : Int)
  | .if_icmp _ o => (pc : Int) + o = (a : Int)
  | .ifCond _ o => (pc : Int) + o = (a : Int)
  | .ifnull o => (pc : Int) + o = (a : Int)
  | .ifnonnull o => (pc : Int) + o = (a : Int)
  | .tableswitch d _ _ _ => 0 ≤ (pc : Int) + d
  | .getfield idx => ∃ (C : String) (F : u_T) (N : Nat), am_cl[a]? = some (C, F, N) ∧ b < N ∧ (F b).1 = C ∧ Cond.fieldLink M.1.cls idx C (F b).2.1 (F b).2.2.1 ∈ am_G
  | .putfield idx => ∃ (C : String) (F : u_T) (N : Nat), am_cl[a]? = some (C, F, N) ∧ b < N ∧ (F b).1 = C ∧ Cond.fieldLink M.1.cls idx C (F b).2.1 (F b).2.2.1 ∈ am_G ∧ ((F b).2.2.2 = false ∨ (M.1.name = "<init>" ∧ M.1.cls = C))
  | .new idx => ∃ (C : String) (F : u_T) (N : Nat), am_cl[a]? = some (C, F, N) ∧ Cond.classLink M.1.cls idx C ∈ am_G ∧ Cond.instantiable C N ∈ am_G ∧ Cond.initialized C ∈ am_G
  | .newarray t => 100 ≤ a ∧ am_ty[a - 100]? = some (newarray.typeOf t) ∧ Cond.arrayClass (newarray.typeOf t) ∈ am_G ∧ am_df a = defaultValue (newarray.typeOf t)
  | .anewarray idx => 100 ≤ a ∧ ∃ C : String, am_ty[a - 100]? = some (.object C) ∧ Cond.classLink M.1.cls idx C ∈ am_G
  | .invokestatic idx => ∃ M' : am_M, am_m[a]? = some M' ∧ am_call M M' idx b ∧ am_mok M' ∧ Cond.static M'.1 ∈ am_G
  | .invokevirtual idx => ∃ M' : am_M, am_m[a]? = some M' ∧ am_call M M' idx b ∧ am_mok M' ∧ Cond.instanceMethod M'.1 ∈ am_G ∧ Cond.selects M'.1.cls M'.1 M'.1 ∈ am_G ∧ ∃ (F : u_T) (N : Nat), am_cl[am_mcl a]? = some (M'.1.cls, F, N)
  | .invokespecial idx => (a = 999 ∧ b = 0 ∧ Cond.methodLink M.1.cls idx Lib.objectInit ∈ am_G ∧ Cond.instanceMethod Lib.objectInit ∈ am_G ∧ Cond.code Lib.objectInit ⟨#[0xb1]⟩ 1 none ∈ am_G ∧ 1 ≤ M.2.2.2.2.1 ∧ 20 ≤ M.2.2.2.2.2) ∨ (¬ a = 999 ∧ ∃ M' : am_M, am_m[a]? = some M' ∧ am_call M M' idx b ∧ am_mok M' ∧ M'.1.name = "<init>" ∧ Cond.instanceMethod M'.1 ∈ am_G ∧ M'.2.2.2.1 = none)
  | .ireturn => M.2.2.2.1 = some .int ∨ M.2.2.2.1 = some .boolean
  | .areturn => ∃ rt, M.2.2.2.1 = some rt ∧ ((∃ n, rt = .object n) ∨ ∃ t, rt = .array t)
  | .return_ => M.2.2.2.1 = none
  | _ => True
/-- a row of the table of instructions is right -/
def am_okq (M : am_M) (pc : Nat) (q : am_I) : Prop := decode M.2.1 pc = .ok (q.1, am_len q.1 q.2.2.1) ∧ am_oko M pc q.1 q.2.1 q.2.2.1 q.2.2.2
theorem am_fit_ok {ty : FieldType} {v : Value} (h : am_fit ty v = true) : narrow ty v = v ∧ fits ty v = true := by
  unfold am_fit at h
  split at h
  · exact ⟨rfl, rfl⟩
  · exact ⟨rfl, rfl⟩
  · rename_i x
    simp only [Bool.or_eq_true, beq_iff_eq] at h
    rcases h with rfl | rfl <;> exact ⟨rfl, rfl⟩
  · exact ⟨rfl, rfl⟩
  · exact ⟨rfl, rfl⟩
  · exact ⟨rfl, rfl⟩
  · exact ⟨rfl, rfl⟩
  · cases h
