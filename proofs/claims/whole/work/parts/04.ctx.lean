/-! WHAT THE SMALL MACHINE HAS TO DO WITH THE JVM: its cells are the heap's, its places are the frame's. -/
section AmCtx
theorem am_P1 {D : va_G} {cl : List vw_C} {q : Nat × va_E} {H : Heap} (h : va_at D cl q H) : va_P D cl [q] H := fun k x hk => by
  have hz : k < 1 := (List.getElem?_eq_some_iff.mp hk).1
  rw [show k = 0 by omega] at hk
  cases hk
  exact h
def am_KA (dA : Nat → ClassId) (s : State) : Prop := ∀ (t : Nat) (ty : FieldType), am_ty[t]? = some ty → ArrOfT s (dA t) ty ∧ va_RA s (dA t) ty ∧ ∀ C : String, ty = .object C → va_AO C s
def am_KK (D : va_G) (dA : Nat → ClassId) (scr : Cell) (s : State) : Prop := va_K D am_cl [] s ∧ am_KA dA s ∧ s.isArrayOf scr .int ∧ scr.vm ≠ .unknown
theorem am_KK.moved {D : va_G} {dA : Nat → ClassId} {scr : Cell} {u U : State} (hvm : u.vm.Alike U.vm) (h : am_KK D dA scr u) : am_KK D dA scr U :=
  ⟨va_K.moved hvm h.1, fun t ty ht => ⟨arrOfT_moved hvm (h.2.1 t ty ht).1, (h.2.1 t ty ht).2.1.moved hvm, fun C hC => ((h.2.1 t ty ht).2.2 C hC).moved hvm⟩, State.isArrayOf_alike hvm h.2.2.1, h.2.2.2⟩
def am_cel (D : va_G) (dA : Nat → ClassId) (scr : Cell) (a k : Nat) (vs : List Value) (H : Heap) : Prop :=
  (k < 99 → ∃ r : vw_C, am_cl[k]? = some r ∧ vs.length = r.2.2 ∧ t_OB a (D.1 k) r.2.2 (D.2 k) H (vp_V vs)) ∧
  (k = 99 → H[a]? = some scr ∧ vs.length = scr.slots.size ∧ ∀ (j : Nat) (v : Value), vs[j]? = some v → scr.slots[j]? = some v) ∧
  (100 ≤ k → ∃ ty : FieldType, am_ty[k - 100]? = some ty ∧ H[a]? = some (arrV (dA (k - 100)) vs.length (fun j => vs.getD j .null)))
theorem am_cel.kept {D : va_G} {dA : Nat → ClassId} {scr : Cell} {a k : Nat} {vs : List Value} {H H1 : Heap} (h : am_cel D dA scr a k vs H) (he : H1[a]? = H[a]?) : am_cel D dA scr a k vs H1 := by
  obtain ⟨h1, h2, h3⟩ := h
  refine ⟨fun hk => ?_, fun hk => ?_, fun hk => ?_⟩
  · obtain ⟨r, e1, e2, e3⟩ := h1 hk
    exact ⟨r, e1, e2, e3.kept he⟩
  · obtain ⟨e1, e2⟩ := h2 hk
    exact ⟨by rw [he]; exact e1, e2⟩
  · rw [he]; exact h3 hk
theorem am_cel.lt {D : va_G} {dA : Nat → ClassId} {scr : Cell} {a k : Nat} {vs : List Value} {H : Heap} (h : am_cel D dA scr a k vs H) : a < H.size := by
  obtain ⟨h1, h2, h3⟩ := h
  rcases (show k < 99 ∨ k = 99 ∨ 100 ≤ k by omega) with hk | hk | hk
  · obtain ⟨r, e1, e2, cell, e3, -⟩ := h1 hk
    exact (Array.getElem?_eq_some_iff.mp e3).1
  · exact (Array.getElem?_eq_some_iff.mp (h2 hk).1).1
  · obtain ⟨ty, -, e3⟩ := h3 hk
    exact (Array.getElem?_eq_some_iff.mp e3).1
def am_Sim (D : va_G) (dA : Nat → ClassId) (scr : Cell) (base : Nat) (h : am_H) (H : Heap) : Prop :=
  h.2.1 = H.size ∧ base ≤ H.size ∧ ∀ (a k : Nat) (vs : List Value), h.1 a = some (k, vs) → am_cel D dA scr a k vs H ∧ (k ≠ 99 → base ≤ a)
theorem am_Sim.set {D : va_G} {dA : Nat → ClassId} {scr : Cell} {base : Nat} {h : am_H} {H H1 : Heap} {q k : Nat} {vs : List Value} (hS : am_Sim D dA scr base h H) (hz : H1.size = H.size) (ho : ∀ x, x ≠ q → H1[x]? = H[x]?) (hc : am_cel D dA scr q k vs H1) (hb : base ≤ q) : am_Sim D dA scr base (am_set h q (k, vs)) H1 := by
  refine ⟨by rw [hz]; exact hS.1, by rw [hz]; exact hS.2.1, fun a k' vs' ha => ?_⟩
  by_cases e : a = q
  · subst e
    simp only [am_set, if_true] at ha
    cases ha
    exact ⟨hc, fun _ => hb⟩
  · simp only [am_set, if_neg e] at ha
    have h2 := hS.2.2 a k' vs' ha
    exact ⟨h2.1.kept (ho a e), h2.2⟩
theorem am_Sim.new {D : va_G} {dA : Nat → ClassId} {scr : Cell} {base n : Nat} {h : am_H} {H H1 : Heap} {k : Nat} {vs : List Value} (hS : am_Sim D dA scr base h H) (hz : H1.size = H.size + 1) (ho : ∀ x, x < H.size → H1[x]? = H[x]?) (hc : am_cel D dA scr H.size k vs H1) : am_Sim D dA scr base (am_new h (k, vs) n) H1 := by
  refine ⟨by rw [hz, ← hS.1]; rfl, by have := hS.2.1; omega, fun a k' vs' ha => ?_⟩
  by_cases e : a = h.2.1
  · simp only [am_new, if_pos e] at ha
    cases ha
    rw [e, hS.1]
    exact ⟨hc, fun _ => hS.2.1⟩
  · simp only [am_new, if_neg e] at ha
    have h2 := hS.2.2 a k' vs' ha
    exact ⟨h2.1.kept (ho a h2.1.lt), h2.2⟩
def am_lv (ls : Array Slot) (n : Nat) (L : am_L) : Prop := ls.size = n ∧ lv_wf ls ∧ L.length = n ∧ ∀ (k : Nat) (v : Value), am_ld L k = some v → ls[k]? = some (.val v)
def am_as (L : am_L) (n : Nat) : List (Nat × Value) := (List.range n).filterMap fun k => (am_ld L k).map fun v => (k, v)
theorem am_as_mem {L : am_L} {n k : Nat} {v : Value} : (k, v) ∈ am_as L n ↔ k < n ∧ am_ld L k = some v := by
  simp only [am_as, List.mem_filterMap, List.mem_range, Option.map_eq_some_iff, Prod.mk.injEq]
  constructor
  · rintro ⟨a, ha, w, hw, rfl, rfl⟩
    exact ⟨ha, hw⟩
  · rintro ⟨h1, h2⟩
    exact ⟨k, h1, v, h2, rfl, rfl⟩
theorem am_lv.has {ls : Array Slot} {n : Nat} {L : am_L} (h : am_lv ls n L) : lv_has ls n (am_as L n) := ⟨h.1, h.2.1, fun q hq => by
  obtain ⟨k, v⟩ := q
  exact h.2.2.2 k v (am_as_mem.mp hq).2⟩
theorem am_ld_lt {L : am_L} {k : Nat} {v : Value} (h : am_ld L k = some v) : k < L.length := by
  unfold am_ld at h
  split at h
  · rename_i w hw
    exact (List.getElem?_eq_some_iff.mp hw).1
  · cases h
theorem am_ld_set {L : am_L} {i k : Nat} {x : Option Value} (hi : i < L.length) : am_ld (L.set i x) k = if i = k then x else am_ld L k := by
  unfold am_ld
  rw [List.getElem?_set]
  by_cases e : i = k
  · subst e
    simp [hi]
  · simp [e]
theorem am_lv.st1 {ls ls' : Array Slot} {n i : Nat} {L L' : am_L} {v : Value} (h : am_lv ls n L) (h1 : am_st1 L i v = some L')
    (h' : lv_has ls' n ((i, v) :: (am_as L n).filter (fun q => !(q.1 == i) && !(q.1 + 1 == i && q.2.category == 2)))) : am_lv ls' n L' := by
  unfold am_st1 at h1
  split at h1
  · rename_i hc
    simp only [Bool.and_eq_true, decide_eq_true_eq] at hc
    cases h1
    refine ⟨h'.1, h'.2.1, by rw [List.length_set]; exact h.2.2.1, fun k w hk => ?_⟩
    rw [am_ld_set hc.1] at hk
    by_cases e : i = k
    · rw [if_pos e] at hk
      cases hk
      subst e
      exact h'.2.2 (i, v) List.mem_cons_self
    · rw [if_neg e] at hk
      refine h'.2.2 (k, w) (List.mem_cons_of_mem _ (List.mem_filter.mpr ⟨am_as_mem.mpr ⟨by rw [← h.2.2.1]; exact am_ld_lt hk, hk⟩, ?_⟩))
      have e1 : (k == i) = false := by simp; exact fun q => e q.symm
      simp only [e1, Bool.not_false, Bool.true_and, Bool.not_eq_true', Bool.and_eq_false_iff, beq_eq_false_iff_ne, ne_eq]
      by_cases e2 : k + 1 = i
      · subst e2
        have h2 := hc.2
        simp only [am_free, hk, am_cat2, Bool.not_eq_true', beq_eq_false_iff_ne, ne_eq] at h2
        exact Or.inr h2
      · exact Or.inl e2
  · cases h1
theorem am_lv.st2 {ls ls' : Array Slot} {n i : Nat} {L L' : am_L} {v : Value} (h : am_lv ls n L) (h1 : am_st2 L i v = some L')
    (h' : lv_has ls' n ((i, v) :: (am_as L n).filter (fun q => !(q.1 == i) && (!(q.1 == i + 1) && !(q.1 + 1 == i && q.2.category == 2))))) : am_lv ls' n L' := by
  unfold am_st2 at h1
  split at h1
  · rename_i hc
    simp only [Bool.and_eq_true, decide_eq_true_eq] at hc
    cases h1
    refine ⟨h'.1, h'.2.1, by rw [List.length_set, List.length_set]; exact h.2.2.1, fun k w hk => ?_⟩
    rw [am_ld_set (by rw [List.length_set]; exact hc.1), am_ld_set (by omega)] at hk
    by_cases e0 : i + 1 = k
    · rw [if_pos e0] at hk; cases hk
    · rw [if_neg e0] at hk
      by_cases e : i = k
      · rw [if_pos e] at hk
        cases hk
        subst e
        exact h'.2.2 (i, v) List.mem_cons_self
      · rw [if_neg e] at hk
        refine h'.2.2 (k, w) (List.mem_cons_of_mem _ (List.mem_filter.mpr ⟨am_as_mem.mpr ⟨by rw [← h.2.2.1]; exact am_ld_lt hk, hk⟩, ?_⟩))
        have e1 : (k == i) = false := by simp; exact fun q => e q.symm
        have e3 : (k == i + 1) = false := by simp; exact fun q => e0 q.symm
        simp only [e1, e3, Bool.not_false, Bool.true_and, Bool.not_eq_true', Bool.and_eq_false_iff, beq_eq_false_iff_ne, ne_eq]
        by_cases e2 : k + 1 = i
        · subst e2
          have h2 := hc.2
          simp only [am_free, hk, am_cat2, Bool.not_eq_true', beq_eq_false_iff_ne, ne_eq] at h2
          exact Or.inr h2
        · exact Or.inl e2
  · cases h1
theorem am_st1_lt {L L' : am_L} {i : Nat} {v : Value} (h1 : am_st1 L i v = some L') : i < L.length := by
  unfold am_st1 at h1
  split at h1
  · rename_i hc
    simp only [Bool.and_eq_true, decide_eq_true_eq] at hc
    exact hc.1
  · cases h1
theorem am_st2_lt {L L' : am_L} {i : Nat} {v : Value} (h1 : am_st2 L i v = some L') : i + 1 < L.length := by
  unfold am_st2 at h1
  split at h1
  · rename_i hc
    simp only [Bool.and_eq_true, decide_eq_true_eq] at hc
    exact hc.1
  · cases h1
theorem am_sl_len (vs : List Value) : (am_sl vs).length = (lg_sl vs).length := by
  induction vs with
  | nil => rfl
  | cons v vs ih =>
    have e1 : am_sl (v :: vs) = (if v.category = 2 then [some v, none] else [some v]) ++ am_sl vs := by simp [am_sl]
    have e2 : lg_sl (v :: vs) = (if v.category = 2 then [.val v, .second] else [.val v]) ++ lg_sl vs := by simp [lg_sl]
    rw [e1, e2, List.length_append, List.length_append, ih]
    split <;> rfl
theorem am_ld_app {A B : am_L} {k : Nat} : am_ld (A ++ B) k = if k < A.length then am_ld A k else am_ld B (k - A.length) := by
  unfold am_ld
  by_cases h : k < A.length
  · rw [List.getElem?_append_left h, if_pos h]
  · rw [List.getElem?_append_right (by omega), if_neg h]
theorem am_ld_rep {n k : Nat} : am_ld (List.replicate n none) k = none := by
  unfold am_ld
  split
  · rename_i w hw
    rw [List.getElem?_replicate] at hw
    split at hw
    · cases hw; rfl
    · cases hw
  · rfl
theorem am_sl_args : ∀ (vs : List Value) (i k : Nat) (v : Value), am_ld (am_sl vs) k = some v → (i + k, v) ∈ lv_args i vs := by
  intro vs
  induction vs with
  | nil => intro i k v h; simp [am_ld, am_sl] at h
  | cons w vs ih =>
    intro i k v h
    have e1 : am_sl (w :: vs) = (if w.category = 2 then [some w, none] else [some w]) ++ am_sl vs := by simp [am_sl]
    rw [e1] at h
    rw [lv_args]
    by_cases hc : w.category = 2
    · rw [if_pos hc] at h ⊢
      rw [am_ld_app] at h
      match k, h with
      | 0, h => simp [am_ld] at h; subst h; exact List.mem_cons_self
      | 1, h => simp [am_ld] at h
      | k + 2, h =>
        rw [if_neg (by simp)] at h
        have := ih (i + 2) k v (by simpa using h)
        rw [show i + (k + 2) = i + 2 + k by omega]
        exact List.mem_cons_of_mem _ this
    · rw [if_neg hc] at h ⊢
      rw [am_ld_app] at h
      match k, h with
      | 0, h => simp [am_ld] at h; subst h; exact List.mem_cons_self
      | k + 1, h =>
        rw [if_neg (by simp)] at h
        have := ih (i + 1) k v (by simpa using h)
        rw [show i + (k + 1) = i + 1 + k by omega]
        exact List.mem_cons_of_mem _ this
theorem am_lv_ent {vs : List Value} {n : Nat} (h : (am_sl vs).length ≤ n) : am_lv ((lg_sl vs ++ List.replicate (n - (lg_sl vs).length) Slot.unset).toArray) n (am_ent vs n) := by
  have hl := lv_entry vs (n := n) (by rw [← am_sl_len]; exact h)
  refine ⟨hl.1, hl.2.1, ?_, fun k v hk => ?_⟩
  · unfold am_ent
    rw [List.length_append, List.length_replicate]
    omega
  · unfold am_ent at hk
    rw [am_ld_app] at hk
    split at hk
    · have h2 := am_sl_args vs 0 k v hk
      rw [Nat.zero_add] at h2
      exact hl.2.2 (k, v) h2
    · rw [am_ld_rep] at hk
      cases hk
end AmCtx
