/-! What a start changes. -/
theorem s_zero_at (S : sS) (b : Nat) : ∀ (n a j : Nat), (s_zero S b n).1 a j = if a = 19 ∧ b ≤ j ∧ j < b + n then 0 else S.1 a j
  | 0, a, j => by
    rw [if_neg (by omega)]
    rfl
  | n + 1, a, j => by
    show s_up (s_zero S b n).1 19 (b + n) 0 a j = _
    unfold s_up
    rw [s_zero_at S b n a j]
    by_cases h1 : a = 19 ∧ j = b + n
    · rw [if_pos h1, if_pos (by omega)]
    · rw [if_neg h1]
      by_cases h2 : a = 19 ∧ b ≤ j ∧ j < b + n
      · rw [if_pos h2, if_pos (by omega)]
      · rw [if_neg h2, if_neg (by omega)]
theorem s_zero_2 (S : sS) (b : Nat) : ∀ n, (s_zero S b n).2 = S.2
  | 0 => rfl
  | n + 1 => s_zero_2 S b n
theorem s_beg_2 (S : sS) (i : Nat) (p : Int32) : (s_beg S i p).2 = S.2 := s_zero_2 _ _ _
theorem s_st1_2 (S : sS) (i : Nat) : (s_st1 S i).2 = S.2 := s_zero_2 _ _ _
theorem s_beg_at (S : sS) (i : Nat) (p : Int32) (a j : Nat) : (s_beg S i p).1 a j = if a = 19 ∧ 10 * (11 * i + (s_lev S i + 1)) ≤ j ∧ j < 10 * (11 * i + (s_lev S i + 1)) + 10 then 0 else if a = 18 ∧ j = 11 * i + (s_lev S i + 1) then p else if a = 15 ∧ j = i then S.1 15 i + 1 else S.1 a j := by
  unfold s_beg
  rw [s_zero_at]
  rfl
theorem s_st1_at (S : sS) (i : Nat) (a j : Nat) : (s_st1 S i).1 a j = if a = 19 ∧ 10 * (11 * i + (s_lev S i + 1)) ≤ j ∧ j < 10 * (11 * i + (s_lev S i + 1)) + 10 then 0 else if a = 18 ∧ j = 11 * i + (s_lev S i + 1) then S.1 5 (s_of S i) else if a = 15 ∧ j = i then S.1 15 i + 1 else if a = 13 ∧ j = i then 1 else S.1 a j := by
  unfold s_st1
  rw [s_beg_at]
  rfl
theorem s_st1_k (S : sS) (i : Nat) {a : Nat} (h1 : a ≠ 19) (h2 : a ≠ 18) (h3 : a ≠ 15) (h4 : a ≠ 13) (j : Nat) : (s_st1 S i).1 a j = S.1 a j := by
  rw [s_st1_at, if_neg (by omega), if_neg (by omega), if_neg (by omega), if_neg (by omega)]
theorem s_st1_13 (S : sS) (i j : Nat) : (s_st1 S i).1 13 j = if j = i then 1 else S.1 13 j := by
  rw [s_st1_at, if_neg (by omega), if_neg (by omega), if_neg (by omega)]
  by_cases h : j = i
  · rw [if_pos ⟨rfl, h⟩, if_pos h]
  · rw [if_neg (by omega), if_neg h]
theorem s_st1_15 (S : sS) (i j : Nat) : (s_st1 S i).1 15 j = if j = i then S.1 15 i + 1 else S.1 15 j := by
  rw [s_st1_at, if_neg (by omega), if_neg (by omega)]
  by_cases h : j = i
  · rw [if_pos ⟨rfl, h⟩, if_pos h]
  · rw [if_neg (by omega), if_neg (by omega), if_neg h]
theorem s_st1_of (S : sS) (i j : Nat) : s_of (s_st1 S i) j = s_of S j := by
  unfold s_of
  rw [s_st1_k S i (by decide) (by decide) (by decide) (by decide)]
theorem s_st1_A (S : sS) (i j : Nat) : s_A (s_st1 S i) j ↔ j = i ∨ s_A S j := by
  show ((s_st1 S i).1 13 j = 1 ∨ (s_st1 S i).1 13 j = 2) ↔ _
  rw [s_st1_13]
  by_cases h : j = i
  · rw [if_pos h]
    exact ⟨fun _ => Or.inl h, fun _ => Or.inl rfl⟩
  · rw [if_neg h]
    exact ⟨fun q => Or.inr q, fun q => q.resolve_left h⟩
theorem s_not_A {S : sS} {i : Nat} (h : S.1 13 i = 0) : ¬ s_A S i := by
  rintro (q | q) <;> (rw [h] at q; exact absurd q (by decide))
theorem s_iv.lev0 {S : sS} {nC nT nK : Nat} (hv : s_iv S nC nT nK) {i : Nat} (h1 : 1 ≤ i) (h2 : i ≤ nK) (h : S.1 13 i = 0) : s_lev S i = 0 ∧ S.1 15 i = nI 0 := by
  obtain ⟨-, a2, -, a4⟩ := hv.2.2.2.2.2.2.2.2.2 i h1 h2
  have := a4 (s_not_A h)
  rw [this] at a2
  exact ⟨this, a2⟩
theorem s_iv.st1 {S : sS} {nC nT nK : Nat} (hv : s_iv S nC nT nK) {i : Nat} (h1 : 1 ≤ i) (h2 : i ≤ nK) (h : S.1 13 i = 0) : s_iv (s_st1 S i) nC nT nK := by
  obtain ⟨l0, l1⟩ := hv.lev0 h1 h2 h
  obtain ⟨v1, v2, v3, v4, v5, v6, v7, v8, v9, v10⟩ := hv
  refine ⟨?_, v2, ?_, v4, ?_, v6, fun c a b => ?_, fun j a b => ?_, fun j a b => ?_, fun j a b => ?_⟩
  · rw [s_st1_k S i (by decide) (by decide) (by decide) (by decide)]; exact v1
  · rw [s_st1_k S i (by decide) (by decide) (by decide) (by decide)]; exact v3
  · rw [s_st1_k S i (by decide) (by decide) (by decide) (by decide)]; exact v5
  · rw [s_st1_k S i (by decide) (by decide) (by decide) (by decide)]; exact v7 c a b
  · rw [s_st1_of, s_st1_k S i (by decide) (by decide) (by decide) (by decide)]; exact v8 j a b
  · rw [s_st1_k S i (by decide) (by decide) (by decide) (by decide)]; exact v9 j a b
  · by_cases e : j = i
    · subst e
      have e15 : (s_st1 S j).1 15 j = nI 1 := by
        rw [s_st1_15, if_pos rfl, l1]
        exact nI_1 0
      have el : s_lev (s_st1 S j) j = 1 := by
        unfold s_lev
        rw [e15]
        exact nI_clamp (by decide)
      rw [el]
      exact ⟨by omega, e15, fun _ => Nat.le_refl _, fun q => absurd ((s_st1_A S j j).mpr (Or.inl rfl)) q⟩
    · have e15 : (s_st1 S i).1 15 j = S.1 15 j := by rw [s_st1_15, if_neg e]
      have el : s_lev (s_st1 S i) j = s_lev S j := by
        unfold s_lev
        rw [e15]
      obtain ⟨b1, b2, b3, b4⟩ := v10 j a b
      rw [el, e15]
      exact ⟨b1, b2, fun q => b3 (((s_st1_A S i j).mp q).resolve_left e), fun q => b4 (fun w => q ((s_st1_A S i j).mpr (Or.inr w)))⟩
/-- how many wait to be started -/
def s_q (S : sS) : Nat → Nat
  | 0 => 0
  | n + 1 => s_q S n + (if S.1 13 (n + 1) = 0 then 1 else 0)
theorem s_q_le (S : sS) : ∀ n, s_q S n ≤ n
  | 0 => Nat.le_refl _
  | n + 1 => by
    have := s_q_le S n
    rw [s_q]
    split <;> omega
theorem s_q_st1 (S : sS) {i : Nat} (h1 : 1 ≤ i) (h : S.1 13 i = 0) : ∀ n, s_q (s_st1 S i) n + (if i ≤ n then 1 else 0) = s_q S n
  | 0 => by
    rw [if_neg (by omega)]
    rfl
  | n + 1 => by
    have ih := s_q_st1 S h1 h n
    rw [s_q, s_q, s_st1_13]
    by_cases e : n + 1 = i
    · rw [if_pos e, if_neg (by decide), if_pos (by omega)]
      rw [e, h, if_pos rfl]
      rw [if_neg (by omega)] at ih
      omega
    · rw [if_neg e]
      by_cases e2 : i ≤ n
      · rw [if_pos e2] at ih
        rw [if_pos (show i ≤ n + 1 by omega)]
        split <;> omega
      · rw [if_neg e2] at ih
        rw [if_neg (show ¬ i ≤ n + 1 by omega)]
        split <;> omega
theorem s_q_0 (S : sS) : ∀ n, s_q S n = 0 → ∀ i, 1 ≤ i → i ≤ n → ¬ S.1 13 i = 0
  | 0, _, i, h1, h2 => by omega
  | n + 1, h, i, h1, h2 => by
    rw [s_q] at h
    by_cases e : i = n + 1
    · subst e
      intro q
      rw [if_pos q] at h
      omega
    · exact s_q_0 S n (by omega) i h1 (by omega)
theorem s_q_pick (S : sS) {n : Nat} (h : s_q S n = 0) : s_pick S n = 0 := by
  by_cases e : s_pick S n = 0
  · exact e
  · have := s_pick_may S n e
    exact absurd this.1 (s_q_0 S n h _ (by omega) (s_pick_le S n))
theorem s_st1_nK (S : sS) (i : Nat) : s_nK (s_st1 S i) = s_nK S := by
  unfold s_nK
  rw [s_st1_k S i (by decide) (by decide) (by decide) (by decide)]
/-- all that may start: with fuel enough nothing is left -/
theorem s_sa_ok {nC nT nK : Nat} : ∀ (f : Nat) (S : sS), s_iv S nC nT nK → s_q S nK ≤ f → s_iv (s_sa f S).1 nC nT nK ∧ s_pick (s_sa f S).1 nK = 0
  | 0, S, hv, hq => ⟨hv, s_q_pick S (by omega)⟩
  | f + 1, S, hv, hq => by
    rw [s_sa, hv.nK]
    by_cases e : s_pick S nK = 0
    · rw [if_pos e]
      exact ⟨hv, e⟩
    · rw [if_neg e]
      have hm := s_pick_may S nK e
      have hle := s_pick_le S nK
      have h1 := s_q_st1 S (i := s_pick S nK) (by omega) hm.1 nK
      rw [if_pos hle] at h1
      exact s_sa_ok f _ (hv.st1 (by omega) hle hm.1) (by omega)
theorem s_sa_fuel {nC nT nK : Nat} : ∀ (f g : Nat) (S : sS), s_iv S nC nT nK → s_q S nK ≤ f → s_q S nK ≤ g → s_sa f S = s_sa g S
  | 0, 0, S, _, _, _ => rfl
  | 0, g + 1, S, hv, h1, h2 => by
    rw [s_sa, s_sa, hv.nK, if_pos (s_q_pick S (by omega))]
  | f + 1, 0, S, hv, h1, h2 => by
    rw [s_sa, s_sa, hv.nK, if_pos (s_q_pick S (by omega))]
  | f + 1, g + 1, S, hv, h1, h2 => by
    rw [s_sa, s_sa, hv.nK]
    by_cases e : s_pick S nK = 0
    · rw [if_pos e, if_pos e]
    · rw [if_neg e, if_neg e]
      have hm := s_pick_may S nK e
      have hle := s_pick_le S nK
      have h3 := s_q_st1 S (i := s_pick S nK) (by omega) hm.1 nK
      rw [if_pos hle] at h3
      rw [s_sa_fuel f g _ (hv.st1 (by omega) hle hm.1) (by omega) (by omega)]
