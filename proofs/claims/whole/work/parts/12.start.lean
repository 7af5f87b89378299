/-! THE CLAIM OUT OF ONE WALK OF THE LAW'S BODY. Your part is whole_start (and what it stands on); all else here is the same for every law, but numbers. -/
def R_law : String := "TaskStates2Law"
def lw_P (b : Addr) (xs : List Int32) (args : Array Value) (s : State) : Prop := args = #[.ref b] ∧ s.IntsAt b xs ∧ xs.length ≤ 2560 ∧ (Jvm.Cond.and given_1 narrow_1).before args s = true
def lw_Q (_ : Array Value) (s : State) (o : Outcome) (t : State) : Prop := o = .returned (some (.int 1)) ∧ Framed s o t [] 600000 7302250
def lw_Z (below : List Frame) (a : Array Value) (s : State) : State → Prop := fun t => ∃ o, t.status = .running ∧ Ended t below o ∧ lw_Q a s o t
/-- the law's own end, with 1 on the stack, nothing written that was there before, its room as the claim has it -/
theorem lw_ret {p : Program} {l : Launch} {e : Env} {s : State} {m : MethodId} {below : List Frame} {meth : Method} {c : Code} {b : Nat} (hx : p.tables.exec = Jvm.exec) (hb : c.code = code) (hr : meth.sig.returnType = ret) (hlocks : meth.locks = false) {pc : Nat} {H : Heap} {ls : Array Slot} (hdg : decode code pc = .ok (.ireturn, 1)) : W p l e room_1 s m #[Value.ref b] below meth c H [] 600000 7302250 (lw_Z below #[Value.ref b] s) (F0 m pc ls [.int 1]) := by
  intro T hT X
  obtain ⟨fs, hret, hrun, hended, hW, hframe⟩ := X.leave (v := some (.int 1)) (hlocks := hlocks) (fun h => by rw [hr] at h; cases h)
  have hmeth' : T.vm.method? m = some meth := X.method'
  refine ⟨T.setFrames fs, ?_, .returned (some (.int 1)), hrun, hended, rfl, ⟨_, rfl⟩, hW, hframe⟩
  jvm_step X.here [X.here.top, hx, hb, hdg, hmeth', hr, ret, narrow_b1]
  (try refine ⟨rfl, ?_⟩); (try refine ⟨rfl, ?_⟩)
  first | (intro acts; rw [hret _ acts rfl rfl rfl]) | rw [hret _ _ rfl rfl rfl]
  exact Steps.refl _
/-- what holds at the law's entry: the machine, the code, the tables' words (any of lw_tbl by 'hts w (by decide +kernel)'), the script of L ints xs at the cell b, what the Statement gives of the start (any of its parts by flat_of_before) -/
def lw_At (p : Program) (s : State) (m : MethodId) (meth : Method) (c : Code) (b L : Nat) (xs : Nat → Int32) : Prop :=
  p.tables.exec = Jvm.exec ∧ c.code = code ∧ meth.sig.returnType = ret ∧ c.maxLocals = 4 ∧ s.vm.findClass R_law = some m.cls ∧ (∀ w ∈ lw_tbl, w.before #[Value.ref b] s = true) ∧ va_X b L xs s s.heap ∧ b < s.heap.size ∧ meth.locks = false ∧ (Jvm.Cond.and given_1 narrow_1).before #[Value.ref b] s = true
/-- the small machine's heap at the law's entry: the script, and nothing else -/
def am_h0 (b base L : Nat) (xs : Nat → Int32) : am_H := (fun q => if q = b then some (99, (List.range L).map fun j => Value.int (xs j)) else none, base, 0)
/-- THE LAW, of the small machine -/
def am_law : Prop := ∀ (b base L : Nat) (xs : Nat → Int32), L ≤ 2560 → b < base → am_Run (am_in 71 [.ref b] (am_h0 b base L xs)) (fun h r => r = some (.int 1) ∧ h.2.1 ≤ base + 600000 ∧ h.2.2 ≤ 7302250)
theorem am_G_tbl {w : Cond} (h : w ∈ am_G) : w ∈ lw_tbl := (List.mem_filter.mp h).1
theorem am_KA_prim {s : State} {a : Array Value} {ty : FieldType} (h : (Cond.arrayClass ty).before a s = true) : ∃ cA : ClassId, ArrOfT s cA ty ∧ s.vm.findClass ("[" ++ ty.toString) = some cA := by
  obtain ⟨c, k, comp, h1, h2, h3⟩ := Cond.arrayClass_spec h
  exact ⟨c, fun n z => ⟨(fun k h => by cases h), k, h2, comp, h3⟩, h1⟩
theorem am_KA_obj {s : State} {a : Array Value} {C : String} (h : (Cond.arrayOver (.object C)).before a s = true) : ∃ cA : ClassId, ArrOfT s cA (.object C) ∧ va_RA s cA (.object C) ∧ va_AO C s := by
  obtain ⟨comp, c, k, h1, h2, h3, h4, h5⟩ := Cond.arrayOver_spec h
  exact ⟨c, fun n z => ⟨(fun k h => by cases h), k, h3, comp, h4⟩, ⟨k, comp, h3, h4, h1, h5⟩, h⟩
set_option maxHeartbeats 4000000 in
set_option maxRecDepth 100000 in
theorem am_start (G : am_law) {p : Program} {e : Env} {s : State} {m : MethodId} {below : List Frame} {meth : Method} {c : Code} (l : Launch) {b L : Nat} {xs : Nat → Int32} (hL : L ≤ 2560) (C0 : lw_At p s m meth c b L xs) : W p l e room_1 s m #[Value.ref b] below meth c s.heap [] 0 0 (lw_Z below #[Value.ref b] s) (entryFrame m ([Value.ref b] : List Value).toArray 4) := by
  obtain ⟨hx, hb, hr, hml, hown, hts, hX, hbl, hlocks, hgv⟩ := id C0
  have htG : ∀ w ∈ am_G, w.before #[Value.ref b] s = true := fun w h => hts w (am_G_tbl h)
  obtain ⟨c0, i0, k0⟩ := u_known (C := "TaskStates2") (T := am_F0) (N := 9) (n := 9) htG am_lays0 (htG _ wd_32)
  obtain ⟨c1, i1, k1⟩ := u_known (C := "TaskStates2$Code") (T := am_F1) (N := 4) (n := 4) htG am_lays1 (htG _ wd_87)
  obtain ⟨c2, i2, k2⟩ := u_known (C := "TaskStates2$Terminal") (T := am_F2) (N := 4) (n := 4) htG am_lays2 (htG _ wd_113)
  obtain ⟨c3, i3, k3⟩ := u_known (C := "TaskStates2$Level") (T := am_F3) (N := 4) (n := 4) htG am_lays3 (htG _ wd_154)
  obtain ⟨c4, i4, k4⟩ := u_known (C := "TaskStates2$Task") (T := am_F4) (N := 8) (n := 8) htG am_lays4 (htG _ wd_148)
  obtain ⟨c5, i5, k5⟩ := u_known (C := "TaskStates2Model") (T := am_F5) (N := 20) (n := 20) htG am_lays5 (htG _ wd_318)
  obtain ⟨D, hD⟩ : ∃ D : va_G, va_K D am_cl [] s := by
    refine ⟨(fun k => if k = 0 then c0 else if k = 1 then c1 else if k = 2 then c2 else if k = 3 then c3 else if k = 4 then c4 else c5, fun k => if k = 0 then i0 else if k = 1 then i1 else if k = 2 then i2 else if k = 3 then i3 else if k = 4 then i4 else i5), ?_, fun k q h => by simp at h⟩
    intro k q hq
    match k, hq with
    | 0, hq => cases hq; exact k0
    | 1, hq => cases hq; exact k1
    | 2, hq => cases hq; exact k2
    | 3, hq => cases hq; exact k3
    | 4, hq => cases hq; exact k4
    | 5, hq => cases hq; exact k5
    | k + 6, hq => simp [am_cl] at hq
  obtain ⟨a0, p0, q0⟩ := am_KA_prim (htG _ wd_73)
  obtain ⟨a1, p1, q1⟩ := am_KA_prim (htG _ wd_384)
  obtain ⟨a2, p2, q2, r2⟩ := am_KA_obj (hts (Cond.arrayOver (.object "TaskStates2$Code")) (by decide +kernel))
  obtain ⟨a3, p3, q3, r3⟩ := am_KA_obj (hts (Cond.arrayOver (.object "TaskStates2$Terminal")) (by decide +kernel))
  obtain ⟨a4, p4, q4, r4⟩ := am_KA_obj (hts (Cond.arrayOver (.object "TaskStates2$Task")) (by decide +kernel))
  obtain ⟨dA, hA⟩ : ∃ dA : Nat → ClassId, am_KA dA s := by
    refine ⟨fun k => if k = 0 then a0 else if k = 1 then a1 else if k = 2 then a2 else if k = 3 then a3 else a4, ?_⟩
    intro t ty ht
    match t, ht with
    | 0, ht => cases ht; exact ⟨p0, q0, fun C h => by cases h⟩
    | 1, ht => cases ht; exact ⟨p1, q1, fun C h => by cases h⟩
    | 2, ht => cases ht; exact ⟨p2, q2, fun C h => by cases h; exact r2⟩
    | 3, ht => cases ht; exact ⟨p3, q3, fun C h => by cases h; exact r3⟩
    | 4, ht => cases ht; exact ⟨p4, q4, fun C h => by cases h; exact r4⟩
    | k + 5, ht => simp [am_ty] at ht
  obtain ⟨scr, x1, x2, x3, x4, x5⟩ := hX
  have hK : am_KK D dA scr s := ⟨hD, hA, x2, x3⟩
  have X : am_Cx p s m #[Value.ref b] meth c D dA scr am_M71 := ⟨hx, hb, hml, hr, hown, fun h9 => absurd h9 (by decide), htG, hK, hlocks⟩
  obtain ⟨f, h', rv, hex, rfl, hr1, hr2⟩ := G b s.heap.size L xs hL hbl
  rw [lg_entry_eq]
  refine am_say am_tabs_ok f (am_in 71 [.ref b] (am_h0 b s.heap.size L xs)) h' _ hex p l e room_1 s m #[Value.ref b] below meth c (lw_Z below #[Value.ref b] s) D dA scr s.heap.size s.heap.size 0 am_M71 rfl X (by decide) (by decide) hr1 (by rw [Nat.zero_add]; exact hr2) ?_ s.heap _ [] 0 0 ⟨⟨rfl, Nat.le_refl _, fun a k vs ha => ?_⟩, am_lv_ent (vs := [.ref b]) (n := 4) (Nat.le_of_ble_eq_true rfl), (fun q hq => absurd hq List.not_mem_nil), Nat.zero_add _, rfl⟩
  · intro pc Lc st hst
    have hst2 := hst
    unfold am_step at hst2
    split at hst2
    · rename_i i a b2 k hi
      obtain ⟨M2, hM2, ⟨hd, ho⟩, -, -⟩ := am_tabs_ok.2 _ _ _ hi
      cases hM2
      obtain ⟨-, hq⟩ := am_do_ret hst2
      rcases hq with ⟨v, rfl, e2, e3, -⟩ | ⟨v, rfl, e2, e3⟩ | ⟨rfl, e2, e3⟩ | ⟨rfl, e2, e3⟩
      · cases e3
        dsimp only at e2
        subst e2
        intro H ls locs cells slots hR
        obtain ⟨g1, g2⟩ := hR.2.2.2
        have g1 : cells + s.heap.size = h'.2.1 := g1
        have g2 : slots + 0 = h'.2.2 := g2
        exact va_forget (fun q hq => hR.2.2.1 q hq) (W.widen (by omega) (by omega) (lw_ret hx hb hr hlocks hd))
      · cases e3
      · cases e3
      · cases e3
    · cases hst2
  · by_cases e : a = b
    · subst e
      have ha2 : some (99, (List.range L).map fun j => Value.int (xs j)) = some (k, vs) := by
        have := ha
        simp only [am_in, am_h0, if_true] at this
        exact this
      cases ha2
      refine ⟨⟨fun h9 => by omega, fun _ => ⟨x1, by rw [List.length_map, List.length_range]; exact x4.symm, fun j v hj => ?_⟩, fun h9 => by omega⟩, fun h9 => absurd rfl h9⟩
      rw [List.getElem?_map] at hj
      cases hr9 : (List.range L)[j]? with
      | none => rw [hr9] at hj; cases hj
      | some z =>
        rw [hr9] at hj
        obtain ⟨hlt, hz⟩ := List.getElem?_eq_some_iff.mp hr9
        rw [List.getElem_range] at hz
        rw [List.length_range] at hlt
        subst hz
        cases hj
        exact x5 j hlt
    · exfalso
      have := ha
      simp only [am_in, am_h0, if_neg e] at this
      cases this
