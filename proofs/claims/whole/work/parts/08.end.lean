/-! FROM FUEL TO CONTRACTS: a run of the small machine is a contract of the method, and a walk of the law. -/
set_option maxHeartbeats 4000000 in
theorem am_do_le {i : Instr} {a b : Nat} {k : Value} {mi pc : Nat} {L : am_L} {st : List Value} {h : am_H} {y : am_S} (hst : am_do i a b k mi pc L st h = some (.inl y)) : y.1 = mi ∧ h.2.1 ≤ y.2.2.2.2.2.1 ∧ h.2.2 ≤ y.2.2.2.2.2.2 := by
  cases i
  all_goals
    simp only [am_do, am_bin, am_binL, am_icmp, am_go] at hst
    (try repeat' split at hst)
    all_goals
      first
      | (cases hst; done)
      | (simp only [Option.some.injEq, Sum.inl.injEq] at hst; subst hst; exact ⟨rfl, Nat.le_refl _, Nat.le_refl _⟩)
      | (simp only [Option.some.injEq, Sum.inl.injEq] at hst; subst hst; exact ⟨rfl, Nat.le_succ _, Nat.le_add_right _ _⟩)
theorem am_take_drop {st rest : List Value} {b q : Nat} (h : st.drop b = .ref q :: rest) : (st.take b).reverse.length = b ∧ st = (st.take b).reverse.reverse ++ .ref q :: rest := by
  constructor
  · rw [List.length_reverse, List.length_take]
    have : b < st.length := by
      rcases Nat.lt_or_ge b st.length with h1 | h1
      · exact h1
      · rw [List.drop_eq_nil_of_le h1] at h; cases h
    omega
  · rw [List.reverse_reverse, ← h, List.take_append_drop]
set_option maxHeartbeats 4000000 in
theorem am_do_call {i : Instr} {a b : Nat} {k : Value} {mi pc : Nat} {L : am_L} {st : List Value} {h : am_H} {mj : Nat} {vs : List Value} {y : am_S} (hst : am_do i a b k mi pc L st h = some (.inr (.inl (mj, vs, y)))) :
    ∃ rest : List Value, y = (mi, pc + 3, L, rest, h) ∧ (rest.map fun v => v.category).sum ≤ 8 ∧ mj = a ∧
      (((∃ idx, i = .invokestatic idx) ∧ vs.length = b ∧ st = vs.reverse ++ rest) ∨
       ((∃ idx, i = .invokevirtual idx) ∧ ∃ (q : Nat) (As ws : List Value), vs = .ref q :: As ∧ As.length = b ∧ st = As.reverse ++ .ref q :: rest ∧ h.1 q = some (am_mcl a, ws)) ∨
       ((∃ idx, i = .invokespecial idx) ∧ ¬ a = 999 ∧ ∃ (q : Nat) (As : List Value), vs = .ref q :: As ∧ As.length = b ∧ st = As.reverse ++ .ref q :: rest)) := by
  cases i
  case invokestatic idx =>
    simp only [am_do] at hst
    split at hst
    · cases hst
    · rename_i hq
      cases hst
      refine ⟨st.drop b, rfl, by omega, rfl, Or.inl ⟨⟨idx, rfl⟩, ?_, ?_⟩⟩
      · rw [List.length_reverse, List.length_take]; omega
      · rw [List.reverse_reverse, List.take_append_drop]
  case invokevirtual idx =>
    simp only [am_do] at hst
    split at hst
    · rename_i q rest hdr
      split at hst
      · rename_i ck ws hh
        split at hst
        · cases hst
        · rename_i hq
          have hck : ck = am_mcl a := Classical.not_not.mp fun q9 => hq (Or.inr q9)
          subst hck
          cases hst
          obtain ⟨e1, e2⟩ := am_take_drop hdr
          exact ⟨rest, rfl, by omega, rfl, Or.inr (Or.inl ⟨⟨idx, rfl⟩, q, _, ws, rfl, e1, e2, hh⟩)⟩
      · cases hst
    · cases hst
  case invokespecial idx =>
    simp only [am_do] at hst
    split at hst
    · rename_i q rest hdr
      split at hst
      · cases hst
      · rename_i hq
        split at hst
        · cases hst
        · rename_i h9
          cases hst
          obtain ⟨e1, e2⟩ := am_take_drop hdr
          exact ⟨rest, rfl, by omega, rfl, Or.inr (Or.inr ⟨⟨idx, rfl⟩, h9, q, _, rfl, e1, e2⟩)⟩
    · cases hst
  all_goals
    exfalso
    simp only [am_do, am_bin, am_binL, am_icmp, am_go, am_ret] at hst
    (try repeat' split at hst)
    all_goals cases hst
set_option maxHeartbeats 4000000 in
theorem am_do_ret {i : Instr} {a b : Nat} {k : Value} {mi pc : Nat} {L : am_L} {st : List Value} {h h' : am_H} {rv : Option Value} (hst : am_do i a b k mi pc L st h = some (.inr (.inr (h', rv)))) :
    h' = h ∧ ((∃ v, i = .ireturn ∧ st = [.int v] ∧ rv = some (.int v) ∧ am_rfit mi (.int v) = true) ∨ (∃ v, i = .areturn ∧ st = [.ref v] ∧ rv = some (.ref v)) ∨ (i = .areturn ∧ st = [.null] ∧ rv = some .null) ∨ (i = .return_ ∧ st = [] ∧ rv = none)) := by
  cases i
  case ireturn =>
    simp only [am_do] at hst
    split at hst
    · rename_i v
      split at hst
      · rename_i hv
        cases hst
        exact ⟨rfl, Or.inl ⟨v, rfl, rfl, rfl, hv⟩⟩
      · cases hst
    · cases hst
  case areturn =>
    simp only [am_do] at hst
    split at hst
    · rename_i v
      cases hst
      exact ⟨rfl, Or.inr (Or.inl ⟨v, rfl, rfl, rfl⟩)⟩
    · cases hst
      exact ⟨rfl, Or.inr (Or.inr (Or.inl ⟨rfl, rfl, rfl⟩))⟩
    · cases hst
  case return_ =>
    simp only [am_do] at hst
    split at hst
    · cases hst
      exact ⟨rfl, Or.inr (Or.inr (Or.inr ⟨rfl, rfl, rfl⟩))⟩
    · cases hst
  all_goals
    exfalso
    simp only [am_do, am_bin, am_binL, am_icmp, am_go] at hst
    (try repeat' split at hst)
    all_goals cases hst
/-- all rows of the table of instructions are right, and every method of a row is there -/
def am_tabs : Prop := am_clk ∧ ∀ (mi pc : Nat) (q : am_I), am_ins mi pc = some q → ∃ M : am_M, am_m[mi]? = some M ∧ am_okq M pc q ∧ am_mL mi = M.2.2.1 ∧ ∀ v, am_rfit mi (.int v) = true → M.2.2.2.1 = some .boolean → v = 0 ∨ v = 1
section AmEnd
variable {p : Program} {l : Launch} {e : Env} {R : Room} {s : State} {m : MethodId} {args : Array Value} {below : List Frame} {meth : Method} {c : Code} {Q : State → Prop} {D : va_G} {dA : Nat → ClassId} {scr : Cell} {base n0 s0 mi pc a b : Nat} {M : am_M} {L L' : am_L} {st r : List Value} {h h' : am_H}
theorem am_mono (hT : am_tabs) : ∀ (f : Nat) (x : am_S) (h' : am_H) (rv : Option Value), am_ex f x = some (h', rv) → x.2.2.2.2.2.1 ≤ h'.2.1 ∧ x.2.2.2.2.2.2 ≤ h'.2.2 := by
  intro f
  induction f with
  | zero => intro x h' rv hx; cases hx
  | succ f ih =>
    intro x h' rv hx
    rw [am_ex] at hx
    generalize hs : am_step x = o at hx
    have hs2 := hs
    unfold am_step at hs2
    match o, hx, hs, hs2 with
    | none, hx, _, _ => cases hx
    | some (.inl y), hx, _, hs2 =>
      split at hs2
      · have h1 := am_do_le hs2
        have h2 := ih y h' rv hx
        omega
      · cases hs2
    | some (.inr (.inr z)), hx, _, hs2 =>
      split at hs2
      · cases hx
        rw [(am_do_ret hs2).1]
        exact ⟨Nat.le_refl _, Nat.le_refl _⟩
      · cases hs2
    | some (.inr (.inl (mj, vs, y))), hx, _, hs2 =>
      dsimp only at hx
      split at hx
      · generalize hg : am_ex f (am_in mj vs x.2.2.2.2) = g at hx
        match g, hx, hg with
        | none, hx, _ => cases hx
        | some (h1, r1), hx, hg =>
          have h2 := ih _ _ _ hg
          have h3 := ih _ _ _ hx
          exact ⟨Nat.le_trans h2.1 h3.1, Nat.le_trans h2.2 h3.2⟩
      · cases hx
/-- the end of a method that was called -/
theorem am_o_ret {k : Value} {rv : Option Value} {i : Instr} (X : am_Cx p s m args meth c D dA scr M) (hd : decode M.2.1 pc = .ok (i, am_len i b)) (ho : am_oko M pc i a b k) (hbo : ∀ v, am_rfit mi (.int v) = true → M.2.2.2.1 = some .boolean → v = 0 ∨ v = 1) (hst : am_do i a b k mi pc L st h = some (.inr (.inr (h', rv)))) {mc ms : Nat} (hc : mc + n0 = h.2.1) (hs : ms + s0 = h.2.2) :
    am_T p l e R s m args below meth c (MQ below (fun _ _ o t => o = .returned rv ∧ am_Sim D dA scr base h' t.heap) args s mc ms (fun q => base ≤ q)) D dA scr base n0 s0 M.2.2.1 (mi, pc, L, st, h) := by
  obtain ⟨rfl, hr⟩ := am_do_ret hst
  intro H ls locs cells slots hR
  obtain ⟨g1, g2⟩ := hR.2.2.2
  have e1 : cells = mc := by dsimp only at g1; omega
  have e2 : slots = ms := by dsimp only at g2; omega
  subst e1; subst e2
  have hlocks : meth.locks = false := X.2.2.2.2.2.2.2.2
  have hret : meth.sig.returnType = M.2.2.2.1 := X.2.2.2.1
  rcases hr with ⟨v, rfl, rfl, rfl, hf⟩ | ⟨v, rfl, rfl, rfl⟩ | ⟨rfl, rfl, rfl⟩ | ⟨rfl, rfl, rfl⟩
  · rcases ho with ho | ho
    · exact W.iret X.1 X.2.1 (hret.trans ho) (fun t ht _ => ⟨rfl, by rw [ht]; exact hR.1⟩) hR.2.2.1 hd
    · exact W.zret X.1 X.2.1 (hret.trans ho) (by rcases hbo v hf ho with rfl | rfl <;> rfl) (fun t ht _ => ⟨rfl, by rw [ht]; exact hR.1⟩) hR.2.2.1 hd
  · obtain ⟨rt, ho, hq⟩ := ho
    exact W.aret X.1 X.2.1 (hret.trans ho) hq (Or.inr ⟨v, rfl⟩) (fun t ht _ => ⟨rfl, by rw [ht]; exact hR.1⟩) hR.2.2.1 hd
  · obtain ⟨rt, ho, hq⟩ := ho
    exact W.aret X.1 X.2.1 (hret.trans ho) hq (Or.inl rfl) (fun t ht _ => ⟨rfl, by rw [ht]; exact hR.1⟩) hR.2.2.1 hd
  · exact W.vret X.1 X.2.1 (hret.trans ho) (fun t ht _ => ⟨rfl, by rw [ht]; exact hR.1⟩) hR.2.2.1 hd
end AmEnd
/-- what a run of fuel f says of every walk -/
def am_Say (f : Nat) : Prop := ∀ (x : am_S) (h' : am_H) (rv : Option Value), am_ex f x = some (h', rv) →
  ∀ (p : Program) (l : Launch) (e : Env) (R : Room) (s : State) (m : MethodId) (args : Array Value) (below : List Frame) (meth : Method) (c : Code) (Q : State → Prop) (D : va_G) (dA : Nat → ClassId) (scr : Cell) (base n0 s0 : Nat) (M : am_M), am_m[x.1]? = some M → am_Cx p s m args meth c D dA scr M → M.2.2.2.2.1 ≤ R.frames → M.2.2.2.2.2 ≤ R.locals → h'.2.1 ≤ n0 + R.cells → h'.2.2 ≤ s0 + R.slots →
  (∀ (pc : Nat) (L : am_L) (st : List Value), am_step (x.1, pc, L, st, h') = some (.inr (.inr (h', rv))) → am_T p l e R s m args below meth c Q D dA scr base n0 s0 M.2.2.1 (x.1, pc, L, st, h')) →
  am_T p l e R s m args below meth c Q D dA scr base n0 s0 M.2.2.1 x
def am_Pc (D : va_G) (dA : Nat → ClassId) (scr : Cell) (base : Nat) (vs : List Value) (h : am_H) : Array Value → State → Prop := fun v U => v = vs.toArray ∧ am_Sim D dA scr base h U.heap ∧ am_KK D dA scr U
theorem am_Pc_blind {D : va_G} {dA : Nat → ClassId} {scr : Cell} {base : Nat} {vs : List Value} {h : am_H} : FrameBlind (am_Pc D dA scr base vs h) := fun a U g mk q => ⟨q.1, q.2.1, am_KK.moved (u := U) (U := U.calling g mk a) (Vm.Alike.refl U.vm) q.2.2⟩
/-- a run of a method is its contract -/
theorem am_met (hT : am_tabs) {f : Nat} (ih : am_Say f) {mj : Nat} {vs : List Value} {h h1 : am_H} {r1 : Option Value} (hx : am_ex f (am_in mj vs h) = some (h1, r1)) {M : am_M} (hM : am_m[mj]? = some M) (hk : am_mok M) (hlen : (am_sl vs).length ≤ am_mL mj) (hmL : am_mL mj = M.2.2.1) (l : Launch) (D : va_G) (dA : Nat → ClassId) (scr : Cell) (base : Nat) :
    Met l M.1 (am_ws M) { frames := M.2.2.2.2.1, cells := h1.2.1 - h.2.1, slots := h1.2.2 - h.2.2, locals := M.2.2.2.2.2 } (am_Pc D dA scr base vs h) (fun _ _ o t => o = .returned r1 ∧ am_Sim D dA scr base h1 t.heap) (h1.2.1 - h.2.1) (h1.2.2 - h.2.2) (fun q => base ≤ q) := by
  have hmo := am_mono hT f _ _ _ hx
  have hm1 : h.2.1 ≤ h1.2.1 := hmo.1
  have hm2 : h.2.2 ≤ h1.2.2 := hmo.2
  refine Met.ofW (cc := M.2.1) (maxL := M.2.2.1) (ret := M.2.2.2.1) hk.2.2.2 rfl ?_
  intro p e s m args below meth c s₁ B hml hv
  obtain ⟨rfl, hS, hK⟩ := hv
  have hts := atoms_spec (ws := am_ws M) B.pre
  have X : am_Cx p s m vs.toArray meth c D dA scr M := ⟨B.exec, B.bytes, hml, B.returns, findClass_of_methodNamed B.named, (fun h9 => (name_of_methodNamed B.named B.method).1.trans h9), fun w hw => hts w (List.mem_cons_of_mem _ hw), hK, B.notSynchronized⟩
  rw [lg_entry_eq]
  refine ih (am_in mj vs h) h1 r1 hx p l e _ s m vs.toArray below meth c _ D dA scr base h.2.1 h.2.2 M hM X (Nat.le_refl _) (Nat.le_refl _) (by show h1.2.1 ≤ h.2.1 + (h1.2.1 - h.2.1); omega) (by show h1.2.2 ≤ h.2.2 + (h1.2.2 - h.2.2); omega) ?_ s.heap _ [] 0 0 ⟨hS, ?_, (fun q hq => absurd hq List.not_mem_nil), Nat.zero_add _, Nat.zero_add _⟩
  · intro pc L st hst
    have hst2 := hst
    unfold am_step at hst2
    split at hst2
    · rename_i i a b k hi
      obtain ⟨M2, hM2, ⟨hd, ho⟩, -, hbo⟩ := hT.2 _ _ _ hi
      cases hM.symm.trans hM2
      exact am_o_ret X hd ho hbo hst2 (by show h1.2.1 - h.2.1 + h.2.1 = h1.2.1; omega) (by show h1.2.2 - h.2.2 + h.2.2 = h1.2.2; omega)
    · cases hst2
  · have := am_lv_ent (vs := vs) (n := M.2.2.1) (by rw [← hmL]; exact hlen)
    show am_lv _ _ (am_ent vs (am_mL mj))
    rw [hmL]
    exact this
theorem am_mL_of {mj : Nat} {M : am_M} (h : am_m[mj]? = some M) : am_mL mj = M.2.2.1 := by
  unfold am_mL
  rw [h]
section AmCall
variable {p : Program} {l : Launch} {e : Env} {R : Room} {s : State} {m : MethodId} {args : Array Value} {below : List Frame} {meth : Method} {c : Code} {Q : State → Prop} {D : va_G} {dA : Nat → ClassId} {scr : Cell} {base n0 s0 mi pc : Nat} {M M' : am_M} {L : am_L} {st rest vs : List Value} {h h1 : am_H} {r1 : Option Value} {H : Heap} {ls : Array Slot} {locs : List Loc} {cells slots n : Nat}
theorem am_fin (run : CallRun p l e R s m args below meth c H locs cells slots (h1.2.1 - h.2.1) (h1.2.2 - h.2.2) (F0 m pc ls st) rest (fun _ o t => o = .returned r1 ∧ am_Sim D dA scr base h1 t.heap) (fun q => base ≤ q)) (hR : am_Rp D dA scr base n0 s0 n L h H ls locs cells slots) (hm1 : h.2.1 ≤ h1.2.1) (hm2 : h.2.2 ≤ h1.2.2)
    (ht : am_T p l e R s m args below meth c Q D dA scr base n0 s0 n (am_bk (mi, pc + 3, L, rest, h) h1 r1)) : W p l e R s m args below meth c H locs cells slots Q (F0 m pc ls st) := by
  intro T hT XS
  obtain ⟨v, st0, t, T', Lc, e0, X', hL, e1, ⟨hv, hS1⟩, hg⟩ := run T hT XS
  cases hv
  obtain ⟨g1, g2⟩ := hR.2.2.2
  obtain ⟨t2, a1, b1⟩ := ht T'.heap ls (locs ++ Lc) (cells + (h1.2.1 - h.2.1)) (slots + (h1.2.2 - h.2.2)) ⟨by rw [e1]; exact hS1, hR.2.1, fun q hq => (List.mem_append.mp hq).elim (fun h9 => hR.2.2.1 q h9) (fun h9 => hL q h9), by show cells + (h1.2.1 - h.2.1) + n0 = h1.2.1; omega, by show slots + (h1.2.2 - h.2.2) + s0 = h1.2.2; omega⟩ T' rfl X'
  exact ⟨t2, hg t2 a1, b1⟩
theorem am_cb (X : am_Cx p s m args meth c D dA scr M) {idx b mc ms : Nat} (hc : am_call M M' idx b) (hk : am_mok M') (hf : M.2.2.2.2.1 ≤ R.frames) (hl : M.2.2.2.2.2 ≤ R.locals) : CallB R s args M.1.cls idx M'.1 M'.2.1 M'.2.2.1 M'.2.2.2.1 (am_ws M') { frames := M'.2.2.2.2.1, cells := mc, slots := ms, locals := M'.2.2.2.2.2 } mc ms b := by
  obtain ⟨c1, c2, c3, c4⟩ := hc
  have hts := X.2.2.2.2.2.2.1
  have hin : ∀ w ∈ am_ws M', w ∈ am_G := fun w hw => by
    rcases List.mem_cons.mp hw with rfl | h9
    · exact hk.1
    · exact h9
  refine ⟨rfl, rfl, Nat.le_trans c3 hf, Nat.le_trans c4 hl, fun w hw a' U hW => word_at hW (am_G_good (hin w hw)) (hts w (hin w hw)), List.mem_cons_self, hts _ hk.1, hts _ hk.2.1, hk.2.2.1, fun sig h9 => ?_, hts _ c1⟩
  rw [h9] at c2
  exact (Option.some.inj c2).symm
end AmCall
set_option maxHeartbeats 4000000 in
theorem am_say (hT : am_tabs) : ∀ f, am_Say f := by
  intro f
  induction f with
  | zero => intro x h' rv hx; cases hx
  | succ f ih =>
    intro x h' rv hx p l e R s m args below meth c Q D dA scr base n0 s0 M hM X hf hl hc hs hQ
    obtain ⟨mi, pc, L, st, h⟩ := x
    rw [am_ex] at hx
    generalize hst : am_step (mi, pc, L, st, h) = o at hx
    have hst2 := hst
    unfold am_step at hst2
    match o, hx, hst, hst2 with
    | none, hx, _, _ => cases hx
    | some (.inl y), hx, hst, hst2 =>
      split at hst2
      · rename_i i a b k hi
        obtain ⟨M2, hM2, ⟨hd, ho⟩, -, -⟩ := hT.2 _ _ _ hi
        cases hM.symm.trans hM2
        obtain ⟨e1, -, -⟩ := am_do_le hst2
        have hm := am_mono hT f y h' rv hx
        obtain ⟨mi', pc', L', st', hy⟩ := y
        dsimp only at e1
        subst e1
        exact am_one hT.1 X hd ho ⟨hf, hl⟩ ⟨Nat.le_trans hm.1 hc, Nat.le_trans hm.2 hs⟩ hst2 (ih _ h' rv hx p l e R s m args below meth c Q D dA scr base n0 s0 M hM X hf hl hc hs hQ)
      · cases hst2
    | some (.inr (.inr z)), hx, hst, hst2 =>
      split at hst2
      · cases hx
        have e1 := (am_do_ret hst2).1
        dsimp only at e1
        subst e1
        exact hQ pc L st hst
      · cases hst2
    | some (.inr (.inl (mj, vs, y))), hx, hst, hst2 =>
      dsimp only at hx
      split at hx
      · rename_i hlen
        generalize hg : am_ex f (am_in mj vs h) = g at hx
        match g, hx, hg with
        | none, hx, _ => cases hx
        | some (h1, r1), hx, hg =>
          dsimp only at hx
          split at hst2
          · rename_i i a b k hi
            obtain ⟨M2, hM2, ⟨hd, ho⟩, -, -⟩ := hT.2 _ _ _ hi
            cases hM.symm.trans hM2
            obtain ⟨rest, rfl, hrest, rfl, hcase⟩ := am_do_call hst2
            have hm1 := am_mono hT f _ _ _ hg
            have hm2 := am_mono hT f _ _ _ hx
            have ht := ih _ h' rv hx p l e R s m args below meth c Q D dA scr base n0 s0 M hM X hf hl hc hs hQ
            have k1 : h.2.1 ≤ h1.2.1 := hm1.1
            have k2 : h.2.2 ≤ h1.2.2 := hm1.2
            have k3 : h1.2.1 ≤ h'.2.1 := hm2.1
            have k4 : h1.2.2 ≤ h'.2.2 := hm2.2
            obtain ⟨hx0, hb, hml, hret, hown, hnm, hts, hK, hlk⟩ := id X
            rcases hcase with ⟨⟨idx, rfl⟩, hn, rfl⟩ | ⟨⟨idx, rfl⟩, q, As, ws, rfl, hn, rfl, hh⟩ | ⟨⟨idx, rfl⟩, h9, q, As, rfl, hn, rfl⟩
            · obtain ⟨M', hM', hcl, hk, hstat⟩ := ho
              have hmet := am_met hT ih hg hM' hk hlen (am_mL_of hM') l D dA scr base
              intro H ls locs cells slots hR
              obtain ⟨g1, g2⟩ := hR.2.2.2
              dsimp only at g1 g2
              exact am_fin (W.runS (Ts := am_G) ⟨hx0, hb, hml, hown, hts⟩ hmet ⟨am_cb X hcl hk hf hl, hts _ hstat⟩ ⟨am_Pc_blind, fun U hU hW => ⟨rfl, by rw [hU]; exact hR.1, hK.moved hW.alike⟩⟩ rfl hn hR.2.1.1 rfl (lv_room hrest) hd ⟨by omega, by omega⟩) hR k1 k2 ht
            · obtain ⟨M', hM', hcl, hk, hinst, hsel, F, N, hF⟩ := ho
              have hmet := am_met hT ih hg hM' hk hlen (am_mL_of hM') l D dA scr base
              intro H ls locs cells slots hR
              obtain ⟨g1, g2⟩ := hR.2.2.2
              dsimp only at g1 g2
              obtain ⟨r0, f1, -, cell, f2, f3, f4, -⟩ := (hR.1.2.2 q _ ws hh).1.1 (hT.1 _ _ _ _ hF).1
              exact am_fin (W.runV (Ts := am_G) (C := M'.1.cls) ⟨hx0, hb, hml, hown, hts⟩ hmet ⟨am_cb X hcl hk hf hl, hts _ hinst, hts _ hsel⟩ ⟨am_Pc_blind, ⟨cell, f2, by rw [f4]; rfl, by rw [f3]; exact (hK.1.1 _ _ hF).2.1⟩, fun U hU hW => ⟨rfl, by rw [hU]; exact hR.1, hK.moved hW.alike⟩⟩ rfl hn hR.2.1.1 rfl (lv_room hrest) hd ⟨by omega, by omega⟩) hR k1 k2 ht
            · rcases ho with ⟨ho, -⟩ | ⟨-, M', hM', hcl, hk, hin1, hinst, hnone⟩
              · exact absurd ho h9
              have hmet := am_met hT ih hg hM' hk hlen (am_mL_of hM') l D dA scr base
              intro H ls locs cells slots hR
              obtain ⟨g1, g2⟩ := hR.2.2.2
              dsimp only at g1 g2
              have hcb := am_cb X hcl hk hf hl (mc := h1.2.1 - h.2.1) (ms := h1.2.2 - h.2.2)
              rw [hnone] at hcb
              exact am_fin (W.runI (Ts := am_G) ⟨hx0, hb, hml, hown, hts⟩ hmet ⟨hcb, hin1, hts _ hinst⟩ ⟨am_Pc_blind, fun U hU hW => ⟨rfl, by rw [hU]; exact hR.1, hK.moved hW.alike⟩⟩ rfl hn hR.2.1.1 rfl (lv_room hrest) hd ⟨by omega, by omega⟩) hR k1 k2 ht
          · cases hst2
      · cases hx
