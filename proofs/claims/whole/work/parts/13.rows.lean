/-! ROWS OF RUNS: goal first, an instruction a row. -/
def am_gi (h : am_H) (q k b : Nat) (v : Int32) : Prop := ∃ vs, h.1 q = some (k, vs) ∧ vs[b]? = some (.int v)
def am_gl (h : am_H) (q k b : Nat) (v : Int64) : Prop := ∃ vs, h.1 q = some (k, vs) ∧ vs[b]? = some (.long v)
def am_gr (h : am_H) (q k b : Nat) (v : Nat) : Prop := ∃ vs, h.1 q = some (k, vs) ∧ vs[b]? = some (.ref v)
def am_gn (h : am_H) (q k b : Nat) : Prop := ∃ vs, h.1 q = some (k, vs) ∧ vs[b]? = some .null
def am_ai (h : am_H) (q : Nat) (j v : Int32) : Prop := ∃ vs, am_arr .int q h = some vs ∧ ¬ j < 0 ∧ vs[j.toNatClampNeg]? = some (.int v)
def am_al (h : am_H) (q : Nat) (j : Int32) (v : Int64) : Prop := ∃ vs, am_arr .long q h = some vs ∧ ¬ j < 0 ∧ vs[j.toNatClampNeg]? = some (.long v)
def am_ar (h : am_H) (q : Nat) (j : Int32) (v : Nat) : Prop := ∃ ck vs, h.1 q = some (ck, vs) ∧ ¬ (ck < 100 ∨ j < 0 ∨ am_refk ck = false) ∧ vs[j.toNatClampNeg]? = some (.ref v)
def am_wf (h : am_H) (q k b : Nat) (v : Value) (K : am_H → Prop) : Prop := ∃ vs, h.1 q = some (k, vs) ∧ b < vs.length ∧ K (am_set h q (k, vs.set b v))
def am_wi (h : am_H) (q : Nat) (j x : Int32) (K : am_H → Prop) : Prop := ∃ vs, h.1 q = some (100, vs) ∧ ¬ j < 0 ∧ j.toNatClampNeg < vs.length ∧ K (am_set h q (100, vs.set j.toNatClampNeg (.int x)))
def am_wl (h : am_H) (q : Nat) (j : Int32) (x : Int64) (K : am_H → Prop) : Prop := ∃ vs, h.1 q = some (101, vs) ∧ ¬ j < 0 ∧ j.toNatClampNeg < vs.length ∧ K (am_set h q (101, vs.set j.toNatClampNeg (.long x)))
def am_wr (h : am_H) (q : Nat) (j : Int32) (x : Nat) (K : am_H → Prop) : Prop := ∃ ck vs ek ws, h.1 q = some (ck, vs) ∧ h.1 x = some (ek, ws) ∧ ¬ (ck < 100 ∨ 99 ≤ ek ∨ j < 0 ∨ vs.length ≤ j.toNatClampNeg ∨ ¬ am_ty[ck - 100]? = some (am_oty ek)) ∧ K (am_set h q (ck, vs.set j.toNatClampNeg (.ref x)))
def am_ln (h : am_H) (q n : Nat) : Prop := ∃ ck vs, h.1 q = some (ck, vs) ∧ ¬ ck < 99 ∧ n = vs.length
def am_is (h : am_H) (q k : Nat) : Prop := ∃ vs, h.1 q = some (k, vs)
section AmRows
variable {mi pc a b : Nat} {k : Value} {L L' : am_L} {st r : List Value} {h : am_H} {Q : am_H → Option Value → Prop}
theorem am_st {i : Instr} (hi : am_ins mi pc = some (i, a, b, k)) : am_step (mi, pc, L, st, h) = am_do i a b k mi pc L st h := by
  unfold am_step
  rw [hi]
theorem ar_iconst {n : Int} (hi : am_ins mi pc = some (.iconst n, a, b, k)) (kk : am_Run (mi, pc + 1, L, k :: st, h) Q) : am_Run (mi, pc, L, st, h) Q := am_Run.go (by rw [am_st hi]; rfl) kk
theorem ar_bipush {n : Int} (hi : am_ins mi pc = some (.bipush n, a, b, k)) (kk : am_Run (mi, pc + 2, L, k :: st, h) Q) : am_Run (mi, pc, L, st, h) Q := am_Run.go (by rw [am_st hi]; rfl) kk
theorem ar_sipush {n : Int} (hi : am_ins mi pc = some (.sipush n, a, b, k)) (kk : am_Run (mi, pc + 3, L, k :: st, h) Q) : am_Run (mi, pc, L, st, h) Q := am_Run.go (by rw [am_st hi]; rfl) kk
theorem ar_lconst {n : Fin 2} (hi : am_ins mi pc = some (.lconst n, a, b, k)) (kk : am_Run (mi, pc + 1, L, k :: st, h) Q) : am_Run (mi, pc, L, st, h) Q := am_Run.go (by rw [am_st hi]; rfl) kk
theorem ar_ldc2_w {n : Nat} (hi : am_ins mi pc = some (.ldc2_w n, a, b, k)) (kk : am_Run (mi, pc + 3, L, k :: st, h) Q) : am_Run (mi, pc, L, st, h) Q := am_Run.go (by rw [am_st hi]; rfl) kk
theorem ar_aconst_null (hi : am_ins mi pc = some (.aconst_null, a, b, k)) (kk : am_Run (mi, pc + 1, L, .null :: st, h) Q) : am_Run (mi, pc, L, st, h) Q := am_Run.go (by rw [am_st hi]; rfl) kk
theorem ar_iload_n {n : Fin 4} {v : Int32} (hi : am_ins mi pc = some (.iload_n n, a, b, k)) (hl : am_ld L a = some (.int v)) (kk : am_Run (mi, pc + 1, L, .int v :: st, h) Q) : am_Run (mi, pc, L, st, h) Q := am_Run.go (by rw [am_st hi]; simp only [am_do, hl]; rfl) kk
theorem ar_iload {n : Nat} {v : Int32} (hi : am_ins mi pc = some (.iload n, a, b, k)) (hl : am_ld L a = some (.int v)) (kk : am_Run (mi, pc + 2, L, .int v :: st, h) Q) : am_Run (mi, pc, L, st, h) Q := am_Run.go (by rw [am_st hi]; simp only [am_do, hl]; rfl) kk
theorem ar_lload_n {n : Fin 4} {v : Int64} (hi : am_ins mi pc = some (.lload_n n, a, b, k)) (hl : am_ld L a = some (.long v)) (kk : am_Run (mi, pc + 1, L, .long v :: st, h) Q) : am_Run (mi, pc, L, st, h) Q := am_Run.go (by rw [am_st hi]; simp only [am_do, hl]; rfl) kk
theorem ar_lload {n : Nat} {v : Int64} (hi : am_ins mi pc = some (.lload n, a, b, k)) (hl : am_ld L a = some (.long v)) (kk : am_Run (mi, pc + 2, L, .long v :: st, h) Q) : am_Run (mi, pc, L, st, h) Q := am_Run.go (by rw [am_st hi]; simp only [am_do, hl]; rfl) kk
theorem ar_aload_n {n : Fin 4} {v : Nat} (hi : am_ins mi pc = some (.aload_n n, a, b, k)) (hl : am_ld L a = some (.ref v)) (kk : am_Run (mi, pc + 1, L, .ref v :: st, h) Q) : am_Run (mi, pc, L, st, h) Q := am_Run.go (by rw [am_st hi]; simp only [am_do, hl]; rfl) kk
theorem ar_aload {n : Nat} {v : Nat} (hi : am_ins mi pc = some (.aload n, a, b, k)) (hl : am_ld L a = some (.ref v)) (kk : am_Run (mi, pc + 2, L, .ref v :: st, h) Q) : am_Run (mi, pc, L, st, h) Q := am_Run.go (by rw [am_st hi]; simp only [am_do, hl]; rfl) kk
theorem ar_aload_nN {n : Fin 4} (hi : am_ins mi pc = some (.aload_n n, a, b, k)) (hl : am_ld L a = some .null) (kk : am_Run (mi, pc + 1, L, .null :: st, h) Q) : am_Run (mi, pc, L, st, h) Q := am_Run.go (by rw [am_st hi]; simp only [am_do, hl]; rfl) kk
theorem ar_aloadN {n : Nat} (hi : am_ins mi pc = some (.aload n, a, b, k)) (hl : am_ld L a = some .null) (kk : am_Run (mi, pc + 2, L, .null :: st, h) Q) : am_Run (mi, pc, L, st, h) Q := am_Run.go (by rw [am_st hi]; simp only [am_do, hl]; rfl) kk
theorem ar_istore_n {n : Fin 4} {v : Int32} (hi : am_ins mi pc = some (.istore_n n, a, b, k)) (hl : am_st1 L a (.int v) = some L') (kk : am_Run (mi, pc + 1, L', st, h) Q) : am_Run (mi, pc, L, .int v :: st, h) Q := am_Run.go (by rw [am_st hi]; simp only [am_do, hl]; rfl) kk
theorem ar_istore {n : Nat} {v : Int32} (hi : am_ins mi pc = some (.istore n, a, b, k)) (hl : am_st1 L a (.int v) = some L') (kk : am_Run (mi, pc + 2, L', st, h) Q) : am_Run (mi, pc, L, .int v :: st, h) Q := am_Run.go (by rw [am_st hi]; simp only [am_do, hl]; rfl) kk
theorem ar_lstore_n {n : Fin 4} {v : Int64} (hi : am_ins mi pc = some (.lstore_n n, a, b, k)) (hl : am_st2 L a (.long v) = some L') (kk : am_Run (mi, pc + 1, L', st, h) Q) : am_Run (mi, pc, L, .long v :: st, h) Q := am_Run.go (by rw [am_st hi]; simp only [am_do, hl]; rfl) kk
theorem ar_lstore {n : Nat} {v : Int64} (hi : am_ins mi pc = some (.lstore n, a, b, k)) (hl : am_st2 L a (.long v) = some L') (kk : am_Run (mi, pc + 2, L', st, h) Q) : am_Run (mi, pc, L, .long v :: st, h) Q := am_Run.go (by rw [am_st hi]; simp only [am_do, hl]; rfl) kk
theorem ar_astore_n {n : Fin 4} {v : Nat} (hi : am_ins mi pc = some (.astore_n n, a, b, k)) (hl : am_st1 L a (.ref v) = some L') (kk : am_Run (mi, pc + 1, L', st, h) Q) : am_Run (mi, pc, L, .ref v :: st, h) Q := am_Run.go (by rw [am_st hi]; simp only [am_do, hl]; rfl) kk
theorem ar_astore {n : Nat} {v : Nat} (hi : am_ins mi pc = some (.astore n, a, b, k)) (hl : am_st1 L a (.ref v) = some L') (kk : am_Run (mi, pc + 2, L', st, h) Q) : am_Run (mi, pc, L, .ref v :: st, h) Q := am_Run.go (by rw [am_st hi]; simp only [am_do, hl]; rfl) kk
theorem ar_astore_nN {n : Fin 4} (hi : am_ins mi pc = some (.astore_n n, a, b, k)) (hl : am_st1 L a .null = some L') (kk : am_Run (mi, pc + 1, L', st, h) Q) : am_Run (mi, pc, L, .null :: st, h) Q := am_Run.go (by rw [am_st hi]; simp only [am_do, hl]; rfl) kk
theorem ar_astoreN {n : Nat} (hi : am_ins mi pc = some (.astore n, a, b, k)) (hl : am_st1 L a .null = some L') (kk : am_Run (mi, pc + 2, L', st, h) Q) : am_Run (mi, pc, L, .null :: st, h) Q := am_Run.go (by rw [am_st hi]; simp only [am_do, hl]; rfl) kk
theorem ar_iinc {n : Nat} {z : Int} {x w : Int32} (hi : am_ins mi pc = some (.iinc n z, a, b, .int w)) (hx : am_ld L a = some (.int x)) (hl : am_st1 L a (.int (x + w)) = some L') (kk : am_Run (mi, pc + 3, L', st, h) Q) : am_Run (mi, pc, L, st, h) Q := am_Run.go (by rw [am_st hi]; simp only [am_do, hx, hl]; rfl) kk
theorem ar_iadd {x y : Int32} (hi : am_ins mi pc = some (.iadd, a, b, k)) (kk : am_Run (mi, pc + 1, L, .int (x + y) :: st, h) Q) : am_Run (mi, pc, L, .int y :: .int x :: st, h) Q := am_Run.go (by rw [am_st hi]; rfl) kk
theorem ar_isub {x y : Int32} (hi : am_ins mi pc = some (.isub, a, b, k)) (kk : am_Run (mi, pc + 1, L, .int (x - y) :: st, h) Q) : am_Run (mi, pc, L, .int y :: .int x :: st, h) Q := am_Run.go (by rw [am_st hi]; rfl) kk
theorem ar_imul {x y : Int32} (hi : am_ins mi pc = some (.imul, a, b, k)) (kk : am_Run (mi, pc + 1, L, .int (x * y) :: st, h) Q) : am_Run (mi, pc, L, .int y :: .int x :: st, h) Q := am_Run.go (by rw [am_st hi]; rfl) kk
theorem ar_iand {x y : Int32} (hi : am_ins mi pc = some (.iand, a, b, k)) (kk : am_Run (mi, pc + 1, L, .int (x &&& y) :: st, h) Q) : am_Run (mi, pc, L, .int y :: .int x :: st, h) Q := am_Run.go (by rw [am_st hi]; rfl) kk
theorem ar_ior {x y : Int32} (hi : am_ins mi pc = some (.ior, a, b, k)) (kk : am_Run (mi, pc + 1, L, .int (x ||| y) :: st, h) Q) : am_Run (mi, pc, L, .int y :: .int x :: st, h) Q := am_Run.go (by rw [am_st hi]; rfl) kk
theorem ar_ladd {x y : Int64} (hi : am_ins mi pc = some (.ladd, a, b, k)) (kk : am_Run (mi, pc + 1, L, .long (x + y) :: st, h) Q) : am_Run (mi, pc, L, .long y :: .long x :: st, h) Q := am_Run.go (by rw [am_st hi]; rfl) kk
theorem ar_lsub {x y : Int64} (hi : am_ins mi pc = some (.lsub, a, b, k)) (kk : am_Run (mi, pc + 1, L, .long (x - y) :: st, h) Q) : am_Run (mi, pc, L, .long y :: .long x :: st, h) Q := am_Run.go (by rw [am_st hi]; rfl) kk
theorem ar_land {x y : Int64} (hi : am_ins mi pc = some (.land, a, b, k)) (kk : am_Run (mi, pc + 1, L, .long (x &&& y) :: st, h) Q) : am_Run (mi, pc, L, .long y :: .long x :: st, h) Q := am_Run.go (by rw [am_st hi]; rfl) kk
theorem ar_lor {x y : Int64} (hi : am_ins mi pc = some (.lor, a, b, k)) (kk : am_Run (mi, pc + 1, L, .long (x ||| y) :: st, h) Q) : am_Run (mi, pc, L, .long y :: .long x :: st, h) Q := am_Run.go (by rw [am_st hi]; rfl) kk
theorem ar_i2l {x : Int32} (hi : am_ins mi pc = some (.i2l, a, b, k)) (kk : am_Run (mi, pc + 1, L, .long x.toInt64 :: st, h) Q) : am_Run (mi, pc, L, .int x :: st, h) Q := am_Run.go (by rw [am_st hi]; rfl) kk
theorem ar_lshl {x : Int64} {y : Int32} (hi : am_ins mi pc = some (.lshl, a, b, k)) (kk : am_Run (mi, pc + 1, L, .long (x <<< (y.toInt64 &&& 63)) :: st, h) Q) : am_Run (mi, pc, L, .int y :: .long x :: st, h) Q := am_Run.go (by rw [am_st hi]; rfl) kk
theorem ar_lcmp {x y : Int64} (hi : am_ins mi pc = some (.lcmp, a, b, k)) (kk : am_Run (mi, pc + 1, L, .int (lg_cmp x y) :: st, h) Q) : am_Run (mi, pc, L, .long y :: .long x :: st, h) Q := am_Run.go (by rw [am_st hi]; rfl) kk
theorem ar_dup {v : Value} (hi : am_ins mi pc = some (.dup, a, b, k)) (hv : v.category = 1) (kk : am_Run (mi, pc + 1, L, v :: v :: st, h) Q) : am_Run (mi, pc, L, v :: st, h) Q := am_Run.go (by rw [am_st hi]; simp only [am_do, hv, if_true]; rfl) kk
theorem ar_pop {v : Value} (hi : am_ins mi pc = some (.pop, a, b, k)) (hv : v.category = 1) (kk : am_Run (mi, pc + 1, L, st, h) Q) : am_Run (mi, pc, L, v :: st, h) Q := am_Run.go (by rw [am_st hi]; simp only [am_do, hv, if_true]; rfl) kk
theorem ar_dup2 {v w : Value} (hi : am_ins mi pc = some (.dup2, a, b, k)) (hv : v.category = 1) (hw : w.category = 1) (kk : am_Run (mi, pc + 1, L, v :: w :: v :: w :: st, h) Q) : am_Run (mi, pc, L, v :: w :: st, h) Q := am_Run.go (by rw [am_st hi]; simp only [am_do, hv, hw, and_self, if_true]; rfl) kk
theorem ar_goto {z : Int} (hi : am_ins mi pc = some (.goto z, a, b, k)) (kk : am_Run (mi, a, L, st, h) Q) : am_Run (mi, pc, L, st, h) Q := am_Run.go (by rw [am_st hi]; rfl) kk
theorem ar_ifnullN {z : Int} (hi : am_ins mi pc = some (.ifnull z, a, b, k)) (kk : am_Run (mi, a, L, st, h) Q) : am_Run (mi, pc, L, .null :: st, h) Q := am_Run.go (by rw [am_st hi]; rfl) kk
theorem ar_ifnull {z : Int} {x : Nat} (hi : am_ins mi pc = some (.ifnull z, a, b, k)) (kk : am_Run (mi, pc + 3, L, st, h) Q) : am_Run (mi, pc, L, .ref x :: st, h) Q := am_Run.go (by rw [am_st hi]; rfl) kk
theorem ar_ifnonnullN {z : Int} (hi : am_ins mi pc = some (.ifnonnull z, a, b, k)) (kk : am_Run (mi, pc + 3, L, st, h) Q) : am_Run (mi, pc, L, .null :: st, h) Q := am_Run.go (by rw [am_st hi]; rfl) kk
theorem ar_ifnonnull {z : Int} {x : Nat} (hi : am_ins mi pc = some (.ifnonnull z, a, b, k)) (kk : am_Run (mi, a, L, st, h) Q) : am_Run (mi, pc, L, .ref x :: st, h) Q := am_Run.go (by rw [am_st hi]; rfl) kk
theorem ar_icmp_eq {z : Int} {x y : Int32} (hi : am_ins mi pc = some (.if_icmp .eq z, a, b, k)) (kt : x = y → am_Run (mi, a, L, st, h) Q) (kf : ¬ x = y → am_Run (mi, pc + 3, L, st, h) Q) : am_Run (mi, pc, L, .int y :: .int x :: st, h) Q := by
  by_cases q : x = y
  · exact am_Run.go (by rw [am_st hi]; simp only [am_do, am_icmp, if_pos q]; rfl) (kt q)
  · exact am_Run.go (by rw [am_st hi]; simp only [am_do, am_icmp, if_neg q]; rfl) (kf q)
theorem ar_if_eq {z : Int} {x : Int32} (hi : am_ins mi pc = some (.ifCond .eq z, a, b, k)) (kt : x = 0 → am_Run (mi, a, L, st, h) Q) (kf : ¬ x = 0 → am_Run (mi, pc + 3, L, st, h) Q) : am_Run (mi, pc, L, .int x :: st, h) Q := by
  by_cases q : x = 0
  · exact am_Run.go (by rw [am_st hi]; simp only [am_do, am_icmp, if_pos q]; rfl) (kt q)
  · exact am_Run.go (by rw [am_st hi]; simp only [am_do, am_icmp, if_neg q]; rfl) (kf q)
theorem ar_icmp_ne {z : Int} {x y : Int32} (hi : am_ins mi pc = some (.if_icmp .ne z, a, b, k)) (kt : ¬ x = y → am_Run (mi, a, L, st, h) Q) (kf : x = y → am_Run (mi, pc + 3, L, st, h) Q) : am_Run (mi, pc, L, .int y :: .int x :: st, h) Q := by
  by_cases q : x = y
  · exact am_Run.go (by rw [am_st hi]; simp only [am_do, am_icmp, q, not_true, if_false]; rfl) (kf q)
  · exact am_Run.go (by rw [am_st hi]; simp only [am_do, am_icmp, q, not_false_eq_true, if_true]; rfl) (kt q)
theorem ar_if_ne {z : Int} {x : Int32} (hi : am_ins mi pc = some (.ifCond .ne z, a, b, k)) (kt : ¬ x = 0 → am_Run (mi, a, L, st, h) Q) (kf : x = 0 → am_Run (mi, pc + 3, L, st, h) Q) : am_Run (mi, pc, L, .int x :: st, h) Q := by
  by_cases q : x = 0
  · exact am_Run.go (by rw [am_st hi]; simp only [am_do, am_icmp, q, not_true, if_false]; rfl) (kf q)
  · exact am_Run.go (by rw [am_st hi]; simp only [am_do, am_icmp, q, not_false_eq_true, if_true]; rfl) (kt q)
theorem ar_icmp_lt {z : Int} {x y : Int32} (hi : am_ins mi pc = some (.if_icmp .lt z, a, b, k)) (kt : x < y → am_Run (mi, a, L, st, h) Q) (kf : ¬ x < y → am_Run (mi, pc + 3, L, st, h) Q) : am_Run (mi, pc, L, .int y :: .int x :: st, h) Q := by
  by_cases q : x < y
  · exact am_Run.go (by rw [am_st hi]; simp only [am_do, am_icmp, if_pos q]; rfl) (kt q)
  · exact am_Run.go (by rw [am_st hi]; simp only [am_do, am_icmp, if_neg q]; rfl) (kf q)
theorem ar_if_lt {z : Int} {x : Int32} (hi : am_ins mi pc = some (.ifCond .lt z, a, b, k)) (kt : x < 0 → am_Run (mi, a, L, st, h) Q) (kf : ¬ x < 0 → am_Run (mi, pc + 3, L, st, h) Q) : am_Run (mi, pc, L, .int x :: st, h) Q := by
  by_cases q : x < 0
  · exact am_Run.go (by rw [am_st hi]; simp only [am_do, am_icmp, if_pos q]; rfl) (kt q)
  · exact am_Run.go (by rw [am_st hi]; simp only [am_do, am_icmp, if_neg q]; rfl) (kf q)
theorem ar_icmp_ge {z : Int} {x y : Int32} (hi : am_ins mi pc = some (.if_icmp .ge z, a, b, k)) (kt : y ≤ x → am_Run (mi, a, L, st, h) Q) (kf : ¬ y ≤ x → am_Run (mi, pc + 3, L, st, h) Q) : am_Run (mi, pc, L, .int y :: .int x :: st, h) Q := by
  by_cases q : y ≤ x
  · exact am_Run.go (by rw [am_st hi]; simp only [am_do, am_icmp, if_pos q]; rfl) (kt q)
  · exact am_Run.go (by rw [am_st hi]; simp only [am_do, am_icmp, if_neg q]; rfl) (kf q)
theorem ar_if_ge {z : Int} {x : Int32} (hi : am_ins mi pc = some (.ifCond .ge z, a, b, k)) (kt : 0 ≤ x → am_Run (mi, a, L, st, h) Q) (kf : ¬ 0 ≤ x → am_Run (mi, pc + 3, L, st, h) Q) : am_Run (mi, pc, L, .int x :: st, h) Q := by
  by_cases q : 0 ≤ x
  · exact am_Run.go (by rw [am_st hi]; simp only [am_do, am_icmp, if_pos q]; rfl) (kt q)
  · exact am_Run.go (by rw [am_st hi]; simp only [am_do, am_icmp, if_neg q]; rfl) (kf q)
theorem ar_icmp_gt {z : Int} {x y : Int32} (hi : am_ins mi pc = some (.if_icmp .gt z, a, b, k)) (kt : y < x → am_Run (mi, a, L, st, h) Q) (kf : ¬ y < x → am_Run (mi, pc + 3, L, st, h) Q) : am_Run (mi, pc, L, .int y :: .int x :: st, h) Q := by
  by_cases q : y < x
  · exact am_Run.go (by rw [am_st hi]; simp only [am_do, am_icmp, if_pos q]; rfl) (kt q)
  · exact am_Run.go (by rw [am_st hi]; simp only [am_do, am_icmp, if_neg q]; rfl) (kf q)
theorem ar_if_gt {z : Int} {x : Int32} (hi : am_ins mi pc = some (.ifCond .gt z, a, b, k)) (kt : 0 < x → am_Run (mi, a, L, st, h) Q) (kf : ¬ 0 < x → am_Run (mi, pc + 3, L, st, h) Q) : am_Run (mi, pc, L, .int x :: st, h) Q := by
  by_cases q : 0 < x
  · exact am_Run.go (by rw [am_st hi]; simp only [am_do, am_icmp, if_pos q]; rfl) (kt q)
  · exact am_Run.go (by rw [am_st hi]; simp only [am_do, am_icmp, if_neg q]; rfl) (kf q)
theorem ar_icmp_le {z : Int} {x y : Int32} (hi : am_ins mi pc = some (.if_icmp .le z, a, b, k)) (kt : x ≤ y → am_Run (mi, a, L, st, h) Q) (kf : ¬ x ≤ y → am_Run (mi, pc + 3, L, st, h) Q) : am_Run (mi, pc, L, .int y :: .int x :: st, h) Q := by
  by_cases q : x ≤ y
  · exact am_Run.go (by rw [am_st hi]; simp only [am_do, am_icmp, if_pos q]; rfl) (kt q)
  · exact am_Run.go (by rw [am_st hi]; simp only [am_do, am_icmp, if_neg q]; rfl) (kf q)
theorem ar_if_le {z : Int} {x : Int32} (hi : am_ins mi pc = some (.ifCond .le z, a, b, k)) (kt : x ≤ 0 → am_Run (mi, a, L, st, h) Q) (kf : ¬ x ≤ 0 → am_Run (mi, pc + 3, L, st, h) Q) : am_Run (mi, pc, L, .int x :: st, h) Q := by
  by_cases q : x ≤ 0
  · exact am_Run.go (by rw [am_st hi]; simp only [am_do, am_icmp, if_pos q]; rfl) (kt q)
  · exact am_Run.go (by rw [am_st hi]; simp only [am_do, am_icmp, if_neg q]; rfl) (kf q)
theorem ar_tab {d hi9 : Int} {offs : Array Int} {x : Int32} (hi : am_ins mi pc = some (.tableswitch d 0 hi9 offs, a, b, k)) (kd : (x.toInt < 0 ∨ hi9 < x.toInt) → am_Run (mi, ((pc : Int) + d).toNat, L, st, h) Q)
    (ki : ∀ (j : Nat) (o : Int), (j : Int) ≤ hi9 → x = nI j → offs[j]? = some o → 0 ≤ (pc : Int) + o ∧ am_Run (mi, ((pc : Int) + o).toNat, L, st, h) Q) (hsz : hi9 < (offs.size : Int)) (hs2 : hi9 < 2147483647) : am_Run (mi, pc, L, .int x :: st, h) Q := by
  by_cases q : x.toInt < 0 ∨ hi9 < x.toInt
  · exact am_Run.go (by rw [am_st hi]; simp only [am_do, if_pos q]; rfl) (kd q)
  · have q1 : 0 ≤ x.toInt := by omega
    have q2 : x.toInt ≤ hi9 := by omega
    have hlt : x.toInt.toNat < offs.size := by omega
    have hx : x = nI x.toInt.toNat := by
      apply Int32.toInt_inj.mp
      rw [nI_toInt (by omega)]
      omega
    have ho : offs[(x.toInt - 0).toNat]? = some offs[x.toInt.toNat] := by
      rw [Int.sub_zero]
      exact Array.getElem?_eq_getElem hlt
    obtain ⟨p1, p2⟩ := ki x.toInt.toNat _ (by omega) hx (by rw [Int.sub_zero] at ho; exact ho)
    exact am_Run.go (by rw [am_st hi]; simp only [am_do, if_neg q, ho, if_pos p1]; rfl) p2
theorem ar_getI {idx q : Nat} {v : Int32} (hi : am_ins mi pc = some (.getfield idx, a, b, k)) (hg : am_gi h q a b v) (kk : am_Run (mi, pc + 3, L, .int v :: r, h) Q) : am_Run (mi, pc, L, .ref q :: r, h) Q := by
  obtain ⟨vs, h1, h2⟩ := hg
  exact am_Run.go (by rw [am_st hi]; simp only [am_do, h1, if_true, h2]; rfl) kk
theorem ar_getL {idx q : Nat} {v : Int64} (hi : am_ins mi pc = some (.getfield idx, a, b, k)) (hg : am_gl h q a b v) (kk : am_Run (mi, pc + 3, L, .long v :: r, h) Q) : am_Run (mi, pc, L, .ref q :: r, h) Q := by
  obtain ⟨vs, h1, h2⟩ := hg
  exact am_Run.go (by rw [am_st hi]; simp only [am_do, h1, if_true, h2]; rfl) kk
theorem ar_getR {idx q v : Nat} (hi : am_ins mi pc = some (.getfield idx, a, b, k)) (hg : am_gr h q a b v) (kk : am_Run (mi, pc + 3, L, .ref v :: r, h) Q) : am_Run (mi, pc, L, .ref q :: r, h) Q := by
  obtain ⟨vs, h1, h2⟩ := hg
  exact am_Run.go (by rw [am_st hi]; simp only [am_do, h1, if_true, h2]; rfl) kk
theorem ar_getN {idx q : Nat} (hi : am_ins mi pc = some (.getfield idx, a, b, k)) (hg : am_gn h q a b) (kk : am_Run (mi, pc + 3, L, .null :: r, h) Q) : am_Run (mi, pc, L, .ref q :: r, h) Q := by
  obtain ⟨vs, h1, h2⟩ := hg
  exact am_Run.go (by rw [am_st hi]; simp only [am_do, h1, if_true, h2]; rfl) kk
theorem ar_put {idx q : Nat} {v : Value} (hi : am_ins mi pc = some (.putfield idx, a, b, k)) (hf : am_fit (am_fty a b) v = true) (hg : am_wf h q a b v (fun h1 => am_Run (mi, pc + 3, L, r, h1) Q)) : am_Run (mi, pc, L, v :: .ref q :: r, h) Q := by
  obtain ⟨vs, h1, h2, kk⟩ := hg
  exact am_Run.go (by rw [am_st hi]; simp only [am_do, h1, decide_true, h2, hf, Bool.and_self, if_true]; rfl) kk
theorem ar_iald {q : Nat} {j v : Int32} (hi : am_ins mi pc = some (.iaload, a, b, k)) (hg : am_ai h q j v) (kk : am_Run (mi, pc + 1, L, .int v :: r, h) Q) : am_Run (mi, pc, L, .int j :: .ref q :: r, h) Q := by
  obtain ⟨vs, h1, h2, h3⟩ := hg
  exact am_Run.go (by rw [am_st hi]; simp only [am_do, h1, if_neg h2, h3]; rfl) kk
theorem ar_lald {q : Nat} {j : Int32} {v : Int64} (hi : am_ins mi pc = some (.laload, a, b, k)) (hg : am_al h q j v) (kk : am_Run (mi, pc + 1, L, .long v :: r, h) Q) : am_Run (mi, pc, L, .int j :: .ref q :: r, h) Q := by
  obtain ⟨vs, h1, h2, h3⟩ := hg
  exact am_Run.go (by rw [am_st hi]; simp only [am_do, h1, if_neg h2, h3]; rfl) kk
theorem ar_aald {q v : Nat} {j : Int32} (hi : am_ins mi pc = some (.aaload, a, b, k)) (hg : am_ar h q j v) (kk : am_Run (mi, pc + 1, L, .ref v :: r, h) Q) : am_Run (mi, pc, L, .int j :: .ref q :: r, h) Q := by
  obtain ⟨ck, vs, h1, h2, h3⟩ := hg
  exact am_Run.go (by rw [am_st hi]; simp only [am_do, h1, if_neg h2, h3]; rfl) kk
theorem ar_iast {q : Nat} {j x : Int32} (hi : am_ins mi pc = some (.iastore, a, b, k)) (hg : am_wi h q j x (fun h1 => am_Run (mi, pc + 1, L, r, h1) Q)) : am_Run (mi, pc, L, .int x :: .int j :: .ref q :: r, h) Q := by
  obtain ⟨vs, h1, h2, h3, kk⟩ := hg
  have hq : ¬ ((100 : Nat) < 100 ∨ j < 0 ∨ vs.length ≤ j.toNatClampNeg ∨ ¬ am_ty[100 - 100]? = some .int) := by
    rintro (q | q | q | q)
    · omega
    · exact h2 q
    · omega
    · exact q rfl
  exact am_Run.go (by rw [am_st hi]; simp only [am_do, h1, if_neg hq]; rfl) kk
theorem ar_last {q : Nat} {j : Int32} {x : Int64} (hi : am_ins mi pc = some (.lastore, a, b, k)) (hg : am_wl h q j x (fun h1 => am_Run (mi, pc + 1, L, r, h1) Q)) : am_Run (mi, pc, L, .long x :: .int j :: .ref q :: r, h) Q := by
  obtain ⟨vs, h1, h2, h3, kk⟩ := hg
  have hq : ¬ ((101 : Nat) < 100 ∨ j < 0 ∨ vs.length ≤ j.toNatClampNeg ∨ ¬ am_ty[101 - 100]? = some .long) := by
    rintro (q | q | q | q)
    · omega
    · exact h2 q
    · omega
    · exact q rfl
  exact am_Run.go (by rw [am_st hi]; simp only [am_do, h1, if_neg hq]; rfl) kk
theorem ar_aast {q x : Nat} {j : Int32} (hi : am_ins mi pc = some (.aastore, a, b, k)) (hg : am_wr h q j x (fun h1 => am_Run (mi, pc + 1, L, r, h1) Q)) : am_Run (mi, pc, L, .ref x :: .int j :: .ref q :: r, h) Q := by
  obtain ⟨ck, vs, ek, ws, h1, h2, h3, kk⟩ := hg
  exact am_Run.go (by rw [am_st hi]; simp only [am_do, h1, h2, if_neg h3]; rfl) kk
theorem ar_alen {q n : Nat} (hi : am_ins mi pc = some (.arraylength, a, b, k)) (hg : am_ln h q n) (kk : am_Run (mi, pc + 1, L, .int (Int32.ofNat n) :: r, h) Q) : am_Run (mi, pc, L, .ref q :: r, h) Q := by
  obtain ⟨ck, vs, h1, h2, rfl⟩ := hg
  exact am_Run.go (by rw [am_st hi]; simp only [am_do, h1, if_neg h2]; rfl) kk
theorem ar_new {idx : Nat} (hi : am_ins mi pc = some (.new idx, a, b, k)) (kk : am_Run (mi, pc + 3, L, .ref h.2.1 :: st, am_new h (a, am_dfs a) (am_dfs a).length) Q) : am_Run (mi, pc, L, st, h) Q := am_Run.go (by rw [am_st hi]; rfl) kk
theorem ar_newa {t : ArrayType} {n : Int32} (hi : am_ins mi pc = some (.newarray t, a, b, k)) (hn : ¬ (n < 0 ∨ 65536 < n.toNatClampNeg)) (kk : am_Run (mi, pc + 2, L, .ref h.2.1 :: r, am_new h (a, List.replicate n.toNatClampNeg (am_df a)) n.toNatClampNeg) Q) : am_Run (mi, pc, L, .int n :: r, h) Q := am_Run.go (by rw [am_st hi]; simp only [am_do, if_neg hn]; rfl) kk
theorem ar_anew {idx : Nat} {n : Int32} (hi : am_ins mi pc = some (.anewarray idx, a, b, k)) (hn : ¬ (n < 0 ∨ 65536 < n.toNatClampNeg)) (kk : am_Run (mi, pc + 3, L, .ref h.2.1 :: r, am_new h (a, List.replicate n.toNatClampNeg .null) n.toNatClampNeg) Q) : am_Run (mi, pc, L, .int n :: r, h) Q := am_Run.go (by rw [am_st hi]; simp only [am_do, if_neg hn]; rfl) kk
theorem ar_obj {idx q : Nat} (hi : am_ins mi pc = some (.invokespecial idx, 999, 0, k)) (hs : (r.map fun v => v.category).sum ≤ 8) (kk : am_Run (mi, pc + 3, L, r, h) Q) : am_Run (mi, pc, L, .ref q :: r, h) Q := am_Run.go (by rw [am_st hi]; simp only [am_do, List.drop_zero, if_neg (Nat.not_lt.mpr hs), if_true]; rfl) kk
theorem ar_callS {idx : Nat} {As : List Value} (hi : am_ins mi pc = some (.invokestatic idx, a, b, k)) (hl : b ≤ st.length) (hA : (st.take b).reverse = As) (hr : st.drop b = r) (hs : (r.map fun v => v.category).sum ≤ 8) (hm : (am_sl As).length ≤ am_mL a) (kk : am_Run (am_in a As h) (fun h1 v => am_Run (am_bk (mi, pc + 3, L, r, h) h1 v) Q)) : am_Run (mi, pc, L, st, h) Q := by
  subst hA; subst hr
  refine am_Run.call (mj := a) (vs := (st.take b).reverse) (y := (mi, pc + 3, L, st.drop b, h)) ?_ hm kk
  rw [am_st hi]
  have hq : ¬ (st.length < b ∨ 8 < ((st.drop b).map fun v => v.category).sum) := by omega
  simp only [am_do, if_neg hq]
theorem ar_callV {idx q : Nat} {As : List Value} (hi : am_ins mi pc = some (.invokevirtual idx, a, b, k)) (hA : (st.take b).reverse = As) (hr : st.drop b = .ref q :: r) (hc : am_is h q (am_mcl a)) (hs : (r.map fun v => v.category).sum ≤ 8) (hm : (am_sl (.ref q :: As)).length ≤ am_mL a) (kk : am_Run (am_in a (.ref q :: As) h) (fun h1 v => am_Run (am_bk (mi, pc + 3, L, r, h) h1 v) Q)) : am_Run (mi, pc, L, st, h) Q := by
  subst hA
  obtain ⟨vs, h1⟩ := hc
  refine am_Run.call (mj := a) (vs := .ref q :: (st.take b).reverse) (y := (mi, pc + 3, L, r, h)) ?_ hm kk
  rw [am_st hi]
  simp only [am_do, hr, h1, not_true, or_false, if_neg (Nat.not_lt.mpr hs)]
theorem ar_callI {idx q : Nat} {As : List Value} (hi : am_ins mi pc = some (.invokespecial idx, a, b, k)) (ha : ¬ a = 999) (hA : (st.take b).reverse = As) (hr : st.drop b = .ref q :: r) (hs : (r.map fun v => v.category).sum ≤ 8) (hm : (am_sl (.ref q :: As)).length ≤ am_mL a) (kk : am_Run (am_in a (.ref q :: As) h) (fun h1 v => am_Run (am_bk (mi, pc + 3, L, r, h) h1 v) Q)) : am_Run (mi, pc, L, st, h) Q := by
  subst hA
  refine am_Run.call (mj := a) (vs := .ref q :: (st.take b).reverse) (y := (mi, pc + 3, L, r, h)) ?_ hm kk
  rw [am_st hi]
  simp only [am_do, hr, if_neg (Nat.not_lt.mpr hs), if_neg ha]
theorem ar_iret {v : Int32} (hi : am_ins mi pc = some (.ireturn, a, b, k)) (hf : am_rfit mi (.int v) = true) (kk : Q h (some (.int v))) : am_Run (mi, pc, L, [.int v], h) Q := am_Run.ret (by rw [am_st hi]; simp only [am_do, hf, if_true]; rfl) kk
theorem ar_aret {v : Nat} (hi : am_ins mi pc = some (.areturn, a, b, k)) (kk : Q h (some (.ref v))) : am_Run (mi, pc, L, [.ref v], h) Q := am_Run.ret (by rw [am_st hi]; rfl) kk
theorem ar_aretN (hi : am_ins mi pc = some (.areturn, a, b, k)) (kk : Q h (some .null)) : am_Run (mi, pc, L, [.null], h) Q := am_Run.ret (by rw [am_st hi]; rfl) kk
theorem ar_vret (hi : am_ins mi pc = some (.return_, a, b, k)) (kk : Q h none) : am_Run (mi, pc, L, [], h) Q := am_Run.ret (by rw [am_st hi]; rfl) kk
end AmRows
