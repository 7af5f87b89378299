/-! THE STATE: what the reference's arrays hold. I k j: place j of its field k (k as in the table of its class; a number: place 0); W: its times; T: the time. -/
abbrev sS : Type := (Nat → Nat → Int32) × (Nat → Int64) × Int64
def sl : Nat → Nat
  | 5 => 61 | 6 => 61 | 7 => 61 | 8 => 21 | 9 => 21 | 10 => 10 | 18 => 2211 | 19 => 22110 | _ => 201
def s_up (f : Nat → Nat → Int32) (k j : Nat) (v : Int32) : Nat → Nat → Int32 := fun a b => if a = k ∧ b = j then v else f a b
def sU (S : sS) (k j : Nat) (v : Int32) : sS := (s_up S.1 k j v, S.2)
def sW (S : sS) (j : Nat) (v : Int64) : sS := (S.1, (fun b => if b = j then v else S.2.1 b), S.2.2)
def sT (S : sS) (v : Int64) : sS := (S.1, S.2.1, v)
def mA (S : sS) (k : Nat) : List Value := (List.range (sl k)).map fun j => Value.int (S.1 k j)
def mW (S : sS) : List Value := (List.range 201).map fun j => Value.long (S.2.1 j)
def mO (m : Nat) (z : Int32) (S : sS) : List Value := [.int z, .int (S.1 1 0), .int (S.1 2 0), .int (S.1 3 0), .long S.2.2, .ref (m + 1), .ref (m + 2), .ref (m + 3), .ref (m + 4), .ref (m + 5), .ref (m + 6), .ref (m + 7), .ref (m + 8), .ref (m + 9), .ref (m + 10), .ref (m + 11), .ref (m + 12), .ref (m + 13), .ref (m + 14), .ref (m + 15)]
def RM (f : Nat → Option am_C) (m : Nat) (S : sS) : Prop := (∃ z, f m = some (5, mO m z S)) ∧ (∀ k, 5 ≤ k → k ≤ 19 → k ≠ 17 → f (m + (k - 4)) = some (100, mA S k)) ∧ f (m + 13) = some (101, mW S)
/-- the reference's cells alone have changed -/
def mF (m : Nat) (h h' : am_H) : Prop := h'.2 = h.2 ∧ ∀ q, ¬ (m ≤ q ∧ q < m + 16) → h'.1 q = h.1 q
theorem mF.rf {m : Nat} {h : am_H} : mF m h h := ⟨rfl, fun _ _ => rfl⟩
theorem mF.tr {m : Nat} {h h1 h2 : am_H} (a : mF m h h1) (b : mF m h1 h2) : mF m h h2 := ⟨b.1.trans a.1, fun q hq => (b.2 q hq).trans (a.2 q hq)⟩
theorem mF.set {m q : Nat} {h : am_H} {c : am_C} (h1 : m ≤ q) (h2 : q < m + 16) : mF m h (am_set h q c) := ⟨rfl, fun x hx => by
  have : x ≠ q := fun e => hx ⟨by omega, by omega⟩
  simp [am_set, this]⟩
theorem am_set_same {h : am_H} {q : Nat} {c : am_C} : (am_set h q c).1 q = some c := by simp [am_set]
theorem am_set_other {h : am_H} {q x : Nat} {c : am_C} (e : x ≠ q) : (am_set h q c).1 x = h.1 x := by simp [am_set, e]
theorem rg_get {α : Type} {n t : Nat} {g : Nat → α} (ht : t < n) : ((List.range n).map g)[t]? = some (g t) := by
  rw [List.getElem?_map, List.getElem?_range ht]
  rfl
theorem rg_set {α : Type} {n t : Nat} {g g' : Nat → α} {v : α} (h : ∀ j, j < n → g' j = if j = t then v else g j) : ((List.range n).map g).set t v = (List.range n).map g' := by
  apply List.ext_getElem?
  intro j
  rw [List.getElem?_set]
  by_cases hj : j < n
  · rw [rg_get hj, rg_get hj, h j hj]
    by_cases e : t = j
    · subst e; simp [hj]
    · have e' : ¬ j = t := fun q => e q.symm
      simp [e, e']
  · have h1 : ((List.range n).map g)[j]? = none := by simp; omega
    have h2 : ((List.range n).map g')[j]? = none := by simp; omega
    rw [h1, h2]
    by_cases e : t = j
    · subst e; simp [hj]
    · simp [e]
section MState
variable {h : am_H} {m : Nat} {S : sS}
theorem RM.is (hM : RM h.1 m S) : am_is h m 5 := by obtain ⟨⟨z, hz⟩, -⟩ := hM; exact ⟨_, hz⟩
theorem RM.g1 (hM : RM h.1 m S) : am_gi h m 5 1 (S.1 1 0) := by obtain ⟨⟨z, hz⟩, -⟩ := hM; exact ⟨_, hz, rfl⟩
theorem RM.g2 (hM : RM h.1 m S) : am_gi h m 5 2 (S.1 2 0) := by obtain ⟨⟨z, hz⟩, -⟩ := hM; exact ⟨_, hz, rfl⟩
theorem RM.g3 (hM : RM h.1 m S) : am_gi h m 5 3 (S.1 3 0) := by obtain ⟨⟨z, hz⟩, -⟩ := hM; exact ⟨_, hz, rfl⟩
theorem RM.g4 (hM : RM h.1 m S) : am_gl h m 5 4 S.2.2 := by obtain ⟨⟨z, hz⟩, -⟩ := hM; exact ⟨_, hz, rfl⟩
theorem RM.g5 (hM : RM h.1 m S) : am_gr h m 5 5 (m + 1) := by obtain ⟨⟨z, hz⟩, -⟩ := hM; exact ⟨_, hz, rfl⟩
theorem RM.g6 (hM : RM h.1 m S) : am_gr h m 5 6 (m + 2) := by obtain ⟨⟨z, hz⟩, -⟩ := hM; exact ⟨_, hz, rfl⟩
theorem RM.g7 (hM : RM h.1 m S) : am_gr h m 5 7 (m + 3) := by obtain ⟨⟨z, hz⟩, -⟩ := hM; exact ⟨_, hz, rfl⟩
theorem RM.g8 (hM : RM h.1 m S) : am_gr h m 5 8 (m + 4) := by obtain ⟨⟨z, hz⟩, -⟩ := hM; exact ⟨_, hz, rfl⟩
theorem RM.g9 (hM : RM h.1 m S) : am_gr h m 5 9 (m + 5) := by obtain ⟨⟨z, hz⟩, -⟩ := hM; exact ⟨_, hz, rfl⟩
theorem RM.g10 (hM : RM h.1 m S) : am_gr h m 5 10 (m + 6) := by obtain ⟨⟨z, hz⟩, -⟩ := hM; exact ⟨_, hz, rfl⟩
theorem RM.g11 (hM : RM h.1 m S) : am_gr h m 5 11 (m + 7) := by obtain ⟨⟨z, hz⟩, -⟩ := hM; exact ⟨_, hz, rfl⟩
theorem RM.g12 (hM : RM h.1 m S) : am_gr h m 5 12 (m + 8) := by obtain ⟨⟨z, hz⟩, -⟩ := hM; exact ⟨_, hz, rfl⟩
theorem RM.g13 (hM : RM h.1 m S) : am_gr h m 5 13 (m + 9) := by obtain ⟨⟨z, hz⟩, -⟩ := hM; exact ⟨_, hz, rfl⟩
theorem RM.g14 (hM : RM h.1 m S) : am_gr h m 5 14 (m + 10) := by obtain ⟨⟨z, hz⟩, -⟩ := hM; exact ⟨_, hz, rfl⟩
theorem RM.g15 (hM : RM h.1 m S) : am_gr h m 5 15 (m + 11) := by obtain ⟨⟨z, hz⟩, -⟩ := hM; exact ⟨_, hz, rfl⟩
theorem RM.g16 (hM : RM h.1 m S) : am_gr h m 5 16 (m + 12) := by obtain ⟨⟨z, hz⟩, -⟩ := hM; exact ⟨_, hz, rfl⟩
theorem RM.g17 (hM : RM h.1 m S) : am_gr h m 5 17 (m + 13) := by obtain ⟨⟨z, hz⟩, -⟩ := hM; exact ⟨_, hz, rfl⟩
theorem RM.g18 (hM : RM h.1 m S) : am_gr h m 5 18 (m + 14) := by obtain ⟨⟨z, hz⟩, -⟩ := hM; exact ⟨_, hz, rfl⟩
theorem RM.g19 (hM : RM h.1 m S) : am_gr h m 5 19 (m + 15) := by obtain ⟨⟨z, hz⟩, -⟩ := hM; exact ⟨_, hz, rfl⟩
theorem RM.ai (hM : RM h.1 m S) (k : Nat) (k1 : 5 ≤ k) (k2 : k ≤ 19) (k3 : k ≠ 17) {t : Nat} (ht : t < sl k) : am_ai h (m + (k - 4)) (nI t) (S.1 k t) := by
  have hs : sl k ≤ 22110 := by
    unfold sl
    split <;> omega
  refine ⟨mA S k, ?_, nI_pos (by omega), ?_⟩
  · unfold am_arr
    rw [hM.2.1 k k1 k2 k3]
    rfl
  · rw [nI_clamp (by omega)]
    exact rg_get ht
theorem RM.al (hM : RM h.1 m S) {t : Nat} (ht : t < 201) : am_al h (m + 13) (nI t) (S.2.1 t) := by
  refine ⟨mW S, ?_, nI_pos (by omega), ?_⟩
  · unfold am_arr
    rw [hM.2.2]
    rfl
  · rw [nI_clamp (by omega)]
    exact rg_get ht
theorem RM.set (hM : RM h.1 m S) (k : Nat) (k1 : 5 ≤ k) (k2 : k ≤ 19) (k3 : k ≠ 17) {t : Nat} (x : Int32) : RM (am_set h (m + (k - 4)) (100, (mA S k).set t (.int x))).1 m (sU S k t x) := by
  obtain ⟨⟨z, hz⟩, ha, hw⟩ := hM
  refine ⟨⟨z, ?_⟩, fun k' a1 a2 a3 => ?_, ?_⟩
  · rw [am_set_other (by omega), hz]
    have e1 : (sU S k t x).1 1 0 = S.1 1 0 := by simp only [sU, s_up]; rw [if_neg (by omega)]
    have e2 : (sU S k t x).1 2 0 = S.1 2 0 := by simp only [sU, s_up]; rw [if_neg (by omega)]
    have e3 : (sU S k t x).1 3 0 = S.1 3 0 := by simp only [sU, s_up]; rw [if_neg (by omega)]
    simp only [mO, e1, e2, e3]
    rfl
  · by_cases e : k' = k
    · subst e
      rw [am_set_same]
      unfold mA
      rw [rg_set (g' := fun j => Value.int ((sU S k' t x).1 k' j))]
      intro j _
      simp only [sU, s_up, true_and]
      split <;> rfl
    · rw [am_set_other (by omega), ha k' a1 a2 a3]
      have : mA (sU S k t x) k' = mA S k' := by
        unfold mA
        congr 1
        funext j
        simp [sU, s_up, e]
      rw [this]
  · rw [am_set_other (by omega), hw]
    rfl
theorem RM.wi (hM : RM h.1 m S) (k : Nat) (k1 : 5 ≤ k) (k2 : k ≤ 19) (k3 : k ≠ 17) {t : Nat} (ht : t < sl k) {x : Int32} {K : am_H → Prop} (kk : ∀ h', RM h'.1 m (sU S k t x) → mF m h h' → K h') : am_wi h (m + (k - 4)) (nI t) x K := by
  have hs : sl k ≤ 22110 := by
    unfold sl
    split <;> omega
  refine ⟨mA S k, hM.2.1 k k1 k2 k3, nI_pos (by omega), ?_, ?_⟩
  · rw [nI_clamp (by omega)]
    unfold mA
    rw [List.length_map, List.length_range]
    exact ht
  · rw [nI_clamp (by omega)]
    exact kk _ (hM.set k k1 k2 k3 x) (mF.set (by omega) (by omega))
theorem RM.wl (hM : RM h.1 m S) {t : Nat} (ht : t < 201) {x : Int64} {K : am_H → Prop} (kk : ∀ h', RM h'.1 m (sW S t x) → mF m h h' → K h') : am_wl h (m + 13) (nI t) x K := by
  obtain ⟨⟨z, hz⟩, ha, hw⟩ := hM
  refine ⟨mW S, hw, nI_pos (by omega), ?_, ?_⟩
  · rw [nI_clamp (by omega)]
    unfold mW
    rw [List.length_map, List.length_range]
    exact ht
  · rw [nI_clamp (by omega)]
    refine kk _ ⟨⟨z, ?_⟩, fun k' a1 a2 a3 => ?_, ?_⟩ (mF.set (by omega) (by omega))
    · rw [am_set_other (by omega), hz]; rfl
    · rw [am_set_other (by omega), ha k' a1 a2 a3]; rfl
    · rw [am_set_same]
      unfold mW
      rw [rg_set (g' := fun j => Value.long ((sW S t x).2.1 j))]
      intro j _
      simp only [sW]
      split <;> rfl
theorem RM.w0 (hM : RM h.1 m S) {x : Int32} {K : am_H → Prop} (kk : ∀ h', RM h'.1 m S → mF m h h' → K h') : am_wf h m 5 0 (.int x) K := by
  obtain ⟨⟨z, hz⟩, ha, hw⟩ := hM
  refine ⟨_, hz, by simp [mO], kk _ ⟨⟨x, ?_⟩, fun k' a1 a2 a3 => ?_, ?_⟩ (mF.set (by omega) (by omega))⟩
  · rw [am_set_same]; rfl
  · rw [am_set_other (by omega), ha k' a1 a2 a3]
  · rw [am_set_other (by omega), hw]
theorem RM.w1 (hM : RM h.1 m S) {x : Int32} {K : am_H → Prop} (kk : ∀ h', RM h'.1 m (sU S 1 0 x) → mF m h h' → K h') : am_wf h m 5 1 (.int x) K := by
  obtain ⟨⟨z, hz⟩, ha, hw⟩ := hM
  refine ⟨_, hz, by simp [mO], kk _ ⟨⟨z, ?_⟩, fun k' a1 a2 a3 => ?_, ?_⟩ (mF.set (by omega) (by omega))⟩
  · rw [am_set_same]; rfl
  · rw [am_set_other (by omega), ha k' a1 a2 a3]
    have : mA (sU S 1 0 x) k' = mA S k' := by
      unfold mA
      congr 1
      funext j
      have e : ¬ k' = 1 := by omega
      simp [sU, s_up, e]
    rw [this]
  · rw [am_set_other (by omega), hw]; rfl
theorem RM.w2 (hM : RM h.1 m S) {x : Int32} {K : am_H → Prop} (kk : ∀ h', RM h'.1 m (sU S 2 0 x) → mF m h h' → K h') : am_wf h m 5 2 (.int x) K := by
  obtain ⟨⟨z, hz⟩, ha, hw⟩ := hM
  refine ⟨_, hz, by simp [mO], kk _ ⟨⟨z, ?_⟩, fun k' a1 a2 a3 => ?_, ?_⟩ (mF.set (by omega) (by omega))⟩
  · rw [am_set_same]; rfl
  · rw [am_set_other (by omega), ha k' a1 a2 a3]
    have : mA (sU S 2 0 x) k' = mA S k' := by
      unfold mA
      congr 1
      funext j
      have e : ¬ k' = 2 := by omega
      simp [sU, s_up, e]
    rw [this]
  · rw [am_set_other (by omega), hw]; rfl
theorem RM.w3 (hM : RM h.1 m S) {x : Int32} {K : am_H → Prop} (kk : ∀ h', RM h'.1 m (sU S 3 0 x) → mF m h h' → K h') : am_wf h m 5 3 (.int x) K := by
  obtain ⟨⟨z, hz⟩, ha, hw⟩ := hM
  refine ⟨_, hz, by simp [mO], kk _ ⟨⟨z, ?_⟩, fun k' a1 a2 a3 => ?_, ?_⟩ (mF.set (by omega) (by omega))⟩
  · rw [am_set_same]; rfl
  · rw [am_set_other (by omega), ha k' a1 a2 a3]
    have : mA (sU S 3 0 x) k' = mA S k' := by
      unfold mA
      congr 1
      funext j
      have e : ¬ k' = 3 := by omega
      simp [sU, s_up, e]
    rw [this]
  · rw [am_set_other (by omega), hw]; rfl
theorem RM.w4 (hM : RM h.1 m S) {x : Int64} {K : am_H → Prop} (kk : ∀ h', RM h'.1 m (sT S x) → mF m h h' → K h') : am_wf h m 5 4 (.long x) K := by
  obtain ⟨⟨z, hz⟩, ha, hw⟩ := hM
  refine ⟨_, hz, by simp [mO], kk _ ⟨⟨z, ?_⟩, fun k' a1 a2 a3 => ?_, ?_⟩ (mF.set (by omega) (by omega))⟩
  · rw [am_set_same]; rfl
  · rw [am_set_other (by omega), ha k' a1 a2 a3]; rfl
  · rw [am_set_other (by omega), hw]; rfl
end MState
