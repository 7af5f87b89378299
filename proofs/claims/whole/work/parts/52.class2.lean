/-! What a start and an end change in the counts. -/
section Counts
variable {S : sS}
theorem s_st1_cl (S : sS) (i j : Nat) : s_cl (s_st1 S i) j = s_cl S j := by
  unfold s_cl
  rw [s_st1_of, s_st1_k S i (by decide) (by decide) (by decide) (by decide)]
theorem s_cnt_st1 {i : Nat} (h1 : 1 ≤ i) (h : ¬ s_A S i) (c : Int32) : ∀ n, s_cnt (s_st1 S i) c n = s_cnt S c n + (if i ≤ n ∧ s_cl S i = c then 1 else 0)
  | 0 => by
    rw [if_neg (by omega)]
    rfl
  | n + 1 => by
    rw [s_cnt, s_cnt, s_cnt_st1 h1 h c n, s_st1_cl]
    by_cases e : n + 1 = i
    · have a1 : s_A (s_st1 S i) (n + 1) := (s_st1_A S i (n + 1)).mpr (Or.inl e)
      have a2 : ¬ s_A S (n + 1) := by rw [e]; exact h
      rw [if_neg (show ¬ (i ≤ n ∧ s_cl S i = c) by omega), if_neg (show ¬ (s_A S (n + 1) ∧ s_cl S (n + 1) = c) from fun z => a2 z.1)]
      by_cases ec : s_cl S i = c
      · rw [if_pos ⟨a1, by rw [e]; exact ec⟩, if_pos ⟨by omega, ec⟩]
      · rw [if_neg (fun z => ec (by rw [← e]; exact z.2)), if_neg (fun z => ec z.2)]
    · have a1 : s_A (s_st1 S i) (n + 1) ↔ s_A S (n + 1) := ⟨fun z => ((s_st1_A S i (n + 1)).mp z).resolve_left e, fun z => (s_st1_A S i (n + 1)).mpr (Or.inr z)⟩
      have e2 : (i ≤ n + 1 ∧ s_cl S i = c) ↔ (i ≤ n ∧ s_cl S i = c) := by constructor <;> (rintro ⟨a, b⟩; exact ⟨by omega, b⟩)
      simp only [a1, e2]
      omega
theorem s_own_st1_ne {i : Nat} {t : Int32} (h : ¬ S.1 12 i = t) : ∀ n, s_own (s_st1 S i) t n = s_own S t n
  | 0 => rfl
  | n + 1 => by
    rw [s_own, s_own, s_own_st1_ne h n, s_st1_k S i (by decide) (by decide) (by decide) (by decide)]
    by_cases e : n + 1 = i
    · rw [if_neg (fun z => h (by rw [← e]; exact z.2)), if_neg (fun z => h (by rw [← e]; exact z.2))]
    · have a1 : s_A (s_st1 S i) (n + 1) ↔ s_A S (n + 1) := ⟨fun z => ((s_st1_A S i (n + 1)).mp z).resolve_left e, fun z => (s_st1_A S i (n + 1)).mpr (Or.inr z)⟩
      simp only [a1]
theorem s_own_0 {t : Int32} : ∀ n, s_own S t n = 0 ↔ ∀ j, 1 ≤ j → j ≤ n → s_A S j → ¬ S.1 12 j = t
  | 0 => ⟨fun _ j h1 h2 => by omega, fun _ => rfl⟩
  | n + 1 => by
    rw [s_own]
    by_cases e : s_A S (n + 1) ∧ S.1 12 (n + 1) = t
    · rw [if_pos e]
      exact ⟨fun z => by omega, fun z => absurd e.2 (z (n + 1) (by omega) (by omega) e.1)⟩
    · rw [if_neg e, s_own_0 n]
      constructor
      · intro z j h1 h2 ha ht
        by_cases ej : j = n + 1
        · rw [ej] at ha ht; exact e ⟨ha, ht⟩
        · exact z j h1 (by omega) ha ht
      · intro z j h1 h2
        exact z j h1 (by omega)
theorem s_own_1 {t : Int32} {i : Nat} : ∀ n, 1 ≤ i → i ≤ n → s_A S i → S.1 12 i = t → (∀ j, 1 ≤ j → j ≤ n → s_A S j → S.1 12 j = t → j = i) → s_own S t n = i
  | 0, h1, h2, _, _, _ => by omega
  | n + 1, h1, h2, ha, ht, hu => by
    rw [s_own]
    by_cases e : s_A S (n + 1) ∧ S.1 12 (n + 1) = t
    · rw [if_pos e]
      exact hu (n + 1) (by omega) (by omega) e.1 e.2
    · rw [if_neg e]
      have : i ≠ n + 1 := fun z => e (by rw [← z]; exact ⟨ha, ht⟩)
      exact s_own_1 n h1 (by omega) ha ht (fun j a b => hu j a (by omega))
theorem s_e1_cl (S : sS) (i : Nat) (z : Int32) (j : Nat) : s_cl (s_e1 S i z) j = s_cl S j := by
  unfold s_cl
  rw [s_e1_of, s_e1_k S i z (by decide) (by decide) (by decide) (by decide)]
theorem s_cnt_e1 {i : Nat} {z : Int32} (h1 : 1 ≤ i) (h : s_A S i) (z1 : z ≠ 1) (z2 : z ≠ 2) (c : Int32) : ∀ n, s_cnt (s_e1 S i z) c n + (if i ≤ n ∧ s_cl S i = c then 1 else 0) = s_cnt S c n
  | 0 => by
    rw [if_neg (by omega)]
    rfl
  | n + 1 => by
    rw [s_cnt, s_cnt, ← s_cnt_e1 h1 h z1 z2 c n, s_e1_cl]
    by_cases e : n + 1 = i
    · have a1 : ¬ s_A (s_e1 S i z) (n + 1) := fun w => ((s_e1_A S i z1 z2 (n + 1)).mp w).1 e
      have a2 : s_A S (n + 1) := by rw [e]; exact h
      rw [if_neg (show ¬ (i ≤ n ∧ s_cl S i = c) by omega), if_neg (show ¬ (s_A (s_e1 S i z) (n + 1) ∧ s_cl S (n + 1) = c) from fun w => a1 w.1)]
      by_cases ec : s_cl S i = c
      · rw [if_pos (show i ≤ n + 1 ∧ s_cl S i = c from ⟨by omega, ec⟩), if_pos (show s_A S (n + 1) ∧ s_cl S (n + 1) = c from ⟨a2, by rw [e]; exact ec⟩)]
      · rw [if_neg (show ¬ (i ≤ n + 1 ∧ s_cl S i = c) from fun w => ec w.2), if_neg (show ¬ (s_A S (n + 1) ∧ s_cl S (n + 1) = c) from fun w => ec (by rw [← e]; exact w.2))]
    · have a1 : s_A (s_e1 S i z) (n + 1) ↔ s_A S (n + 1) := ⟨fun w => ((s_e1_A S i z1 z2 (n + 1)).mp w).2, fun w => (s_e1_A S i z1 z2 (n + 1)).mpr ⟨e, w⟩⟩
      have e2 : (i ≤ n + 1 ∧ s_cl S i = c) ↔ (i ≤ n ∧ s_cl S i = c) := by constructor <;> (rintro ⟨a, b⟩; exact ⟨by omega, b⟩)
      simp only [a1, e2]
      omega
theorem s_own_e1_ne {i : Nat} {z t : Int32} (z1 : z ≠ 1) (z2 : z ≠ 2) (h : ¬ S.1 12 i = t) : ∀ n, s_own (s_e1 S i z) t n = s_own S t n
  | 0 => rfl
  | n + 1 => by
    rw [s_own, s_own, s_own_e1_ne z1 z2 h n, s_e1_k S i z (by decide) (by decide) (by decide) (by decide)]
    by_cases e : n + 1 = i
    · rw [if_neg (fun w => h (by rw [← e]; exact w.2)), if_neg (fun w => h (by rw [← e]; exact w.2))]
    · have a1 : s_A (s_e1 S i z) (n + 1) ↔ s_A S (n + 1) := ⟨fun w => ((s_e1_A S i z1 z2 (n + 1)).mp w).2, fun w => (s_e1_A S i z1 z2 (n + 1)).mpr ⟨e, w⟩⟩
      simp only [a1]
/-- no terminal has two active tasks -/
def s_u (S : sS) (nK : Nat) : Prop := ∀ i j, 1 ≤ i → i ≤ nK → 1 ≤ j → j ≤ nK → s_A S i → s_A S j → ¬ S.1 12 i = 0 → S.1 12 i = S.1 12 j → i = j
theorem s_u.st1 {nC nT nK : Nat} (hv : s_iv S nC nT nK) (hu : s_u S nK) {i : Nat} (h1 : 1 ≤ i) (h2 : i ≤ nK) (hm : s_may S i) : s_u (s_st1 S i) nK := by
  intro a b a1 a2 b1 b2 ha hb h0 he
  rw [s_st1_k S i (by decide) (by decide) (by decide) (by decide)] at h0 he
  rw [s_st1_k S i (by decide) (by decide) (by decide) (by decide)] at he
  replace ha := (s_st1_A S i a).mp ha
  replace hb := (s_st1_A S i b).mp hb
  have free : ∀ j, 1 ≤ j → j ≤ nK → s_A S j → S.1 12 j = S.1 12 i → S.1 12 i = 0 := by
    intro j j1 j2 ja je
    rcases hm.2.2.1 with z | z
    · exact z
    · rw [hv.nK] at z
      exact absurd je ((s_own_0 nK).mp z j j1 j2 ja)
  rcases ha with rfl | ha
  · rcases hb with rfl | hb
    · rfl
    · exact absurd (free b b1 b2 hb he.symm) h0
  · rcases hb with rfl | hb
    · exact absurd (free a a1 a2 ha he) (fun w => h0 (he.trans w))
    · exact hu a b a1 a2 b1 b2 ha hb h0 he
theorem s_u.e1 {nK : Nat} (hu : s_u S nK) {i : Nat} {z : Int32} (z1 : z ≠ 1) (z2 : z ≠ 2) : s_u (s_e1 S i z) nK := by
  intro a b a1 a2 b1 b2 ha hb h0 he
  rw [s_e1_k S i z (by decide) (by decide) (by decide) (by decide)] at h0 he
  rw [s_e1_k S i z (by decide) (by decide) (by decide) (by decide)] at he
  exact hu a b a1 a2 b1 b2 ((s_e1_A S i z1 z2 a).mp ha).2 ((s_e1_A S i z1 z2 b).mp hb).2 h0 he
end Counts
