/-! WHAT THE TASKS DO, as functions of the state. -/
abbrev s_A (S : sS) (i : Nat) : Prop := S.1 13 i = 1 ∨ S.1 13 i = 2
def s_of (S : sS) (i : Nat) : Nat := (S.1 11 i).toNatClampNeg
def s_cl (S : sS) (i : Nat) : Int32 := S.1 6 (s_of S i)
def s_lev (S : sS) (i : Nat) : Nat := (S.1 15 i).toNatClampNeg
def s_nK (S : sS) : Nat := (S.1 3 0).toNatClampNeg
def s_cnt (S : sS) (c : Int32) : Nat → Nat
  | 0 => 0
  | n + 1 => s_cnt S c n + (if s_A S (n + 1) ∧ s_cl S (n + 1) = c then 1 else 0)
def s_own (S : sS) (t : Int32) : Nat → Nat
  | 0 => 0
  | n + 1 => if s_A S (n + 1) ∧ S.1 12 (n + 1) = t then n + 1 else s_own S t n
def s_may (S : sS) (i : Nat) : Prop := S.1 13 i = 0 ∧ S.2.1 i ≤ S.2.2 ∧ (S.1 12 i = 0 ∨ s_own S (S.1 12 i) (s_nK S) = 0) ∧ nI (s_cnt S (s_cl S i) (s_nK S)) < S.1 10 (s_cl S i).toNatClampNeg
noncomputable def s_pick (S : sS) : Nat → Nat
  | 0 => 0
  | n + 1 => @ite _ (s_may S (n + 1) ∧ (s_pick S n = 0 ∨ S.1 7 (s_of S (s_pick S n)) < S.1 7 (s_of S (n + 1)))) (Classical.propDecidable _) (n + 1) (s_pick S n)
def s_zero (S : sS) (b : Nat) : Nat → sS
  | 0 => S
  | k + 1 => sU (s_zero S b k) 19 (b + k) 0
def s_beg (S : sS) (i : Nat) (p : Int32) : sS := s_zero (sU (sU S 15 i (S.1 15 i + 1)) 18 (11 * i + (s_lev S i + 1)) p) (10 * (11 * i + (s_lev S i + 1))) 10
def s_st1 (S : sS) (i : Nat) : sS := s_beg (sU S 13 i 1) i (S.1 5 (s_of S i))
noncomputable def s_sa : Nat → sS → sS × Nat
  | 0, S => (S, 0)
  | f + 1, S => @ite _ (s_pick S (s_nK S) = 0) (Classical.propDecidable _) (S, 0) ((s_sa f (s_st1 S (s_pick S (s_nK S)))).1, (s_sa f (s_st1 S (s_pick S (s_nK S)))).2 + 1)
/-- all numbers are in their ranges -/
def s_iv (S : sS) (nC nT nK : Nat) : Prop :=
  S.1 1 0 = nI nC ∧ nC ≤ 60 ∧ S.1 2 0 = nI nT ∧ nT ≤ 20 ∧ S.1 3 0 = nI nK ∧ nK ≤ 200 ∧
  (∀ c, 1 ≤ c → c ≤ nC → ∃ k, k < 10 ∧ S.1 6 c = nI k) ∧
  (∀ i, 1 ≤ i → i ≤ nK → 1 ≤ s_of S i ∧ s_of S i ≤ nC ∧ S.1 11 i = nI (s_of S i)) ∧
  (∀ i, 1 ≤ i → i ≤ nK → ∃ t, t ≤ nT ∧ S.1 12 i = nI t) ∧
  (∀ i, 1 ≤ i → i ≤ nK → s_lev S i ≤ 10 ∧ S.1 15 i = nI (s_lev S i) ∧ (s_A S i → 1 ≤ s_lev S i) ∧ (¬ s_A S i → s_lev S i = 0))
theorem s_iv.nK {S : sS} {nC nT nK : Nat} (h : s_iv S nC nT nK) : s_nK S = nK := by
  unfold s_nK
  rw [h.2.2.2.2.1, nI_clamp (by have := h.2.2.2.2.2.1; omega)]
theorem s_iv.cl {S : sS} {nC nT nK : Nat} (h : s_iv S nC nT nK) {i : Nat} (h1 : 1 ≤ i) (h2 : i ≤ nK) : (s_cl S i).toNatClampNeg < 10 ∧ s_cl S i = nI (s_cl S i).toNatClampNeg := by
  obtain ⟨a1, a2, -⟩ := h.2.2.2.2.2.2.2.1 i h1 h2
  obtain ⟨k, k1, k2⟩ := h.2.2.2.2.2.2.1 (s_of S i) a1 a2
  unfold s_cl
  rw [k2, nI_clamp (by omega)]
  exact ⟨k1, rfl⟩
theorem s_cnt_le (S : sS) (c : Int32) : ∀ n, s_cnt S c n ≤ n
  | 0 => Nat.le_refl _
  | n + 1 => by
    have := s_cnt_le S c n
    rw [s_cnt]
    split <;> omega
theorem s_own_le (S : sS) (t : Int32) : ∀ n, s_own S t n ≤ n
  | 0 => Nat.le_refl _
  | n + 1 => by
    have := s_own_le S t n
    rw [s_own]
    split <;> omega
theorem s_pick_le (S : sS) : ∀ n, s_pick S n ≤ n
  | 0 => Nat.le_refl _
  | n + 1 => by
    have := s_pick_le S n
    rw [s_pick]
    split <;> omega
theorem s_pick_may (S : sS) : ∀ n, s_pick S n ≠ 0 → s_may S (s_pick S n)
  | 0, h => absurd rfl h
  | n + 1, h => by
    rw [s_pick] at h ⊢
    split
    · rename_i q; exact q.1
    · rename_i q
      rw [if_neg q] at h
      exact s_pick_may S n h
