/-! WHAT HOLDS BETWEEN THE CALLS is kept by every call. -/
section Inv
variable {S S' : sS} {nC nT nK : Nat}
/-- as s_J, where some may still be to start -/
def s_K (S : sS) (nC nT nK : Nat) : Prop := s_iv S nC nT nK ∧ s_u S nK ∧ (∀ i, nK < i → S.1 13 i = 0 ∧ S.1 15 i = 0 ∧ S.1 16 i = 0) ∧ (∀ t, nT < t → S.1 8 t = 0 ∧ S.1 9 t = 0) ∧ (∀ i, 1 ≤ i → i ≤ nK → S.1 13 i = 0 → S.1 14 i = -1 ∧ S.1 16 i = 0)
theorem s_J.K (J : s_J S nC nT nK) : s_K S nC nT nK := ⟨J.1, J.2.1, J.2.2.1, J.2.2.2.1, J.2.2.2.2.1⟩
theorem s_K.J (K : s_K S nC nT nK) (p : s_pick S nK = 0) : s_J S nC nT nK := ⟨K.1, K.2.1, K.2.2.1, K.2.2.2.1, K.2.2.2.2, p⟩
theorem s_K.st1 (K : s_K S nC nT nK) {i : Nat} (h1 : 1 ≤ i) (h2 : i ≤ nK) (hm : s_may S i) : s_K (s_st1 S i) nC nT nK := by
  obtain ⟨v, u, f, g, q⟩ := K
  refine ⟨v.st1 h1 h2 hm.1, u.st1 v h1 h2 hm, fun j hj => ?_, fun t ht => ?_, fun j j1 j2 hj => ?_⟩
  · rw [s_st1_13, if_neg (by omega), s_st1_15, if_neg (by omega), s_st1_k S i (a := 16) (by decide) (by decide) (by decide) (by decide)]
    exact f j hj
  · rw [s_st1_k S i (a := 8) (by decide) (by decide) (by decide) (by decide), s_st1_k S i (a := 9) (by decide) (by decide) (by decide) (by decide)]
    exact g t ht
  · rw [s_st1_13] at hj
    by_cases e : j = i
    · rw [if_pos e] at hj; exact absurd hj (by decide)
    · rw [if_neg e] at hj
      rw [s_st1_k S i (a := 14) (by decide) (by decide) (by decide) (by decide), s_st1_k S i (a := 16) (by decide) (by decide) (by decide) (by decide)]
      exact q j j1 j2 hj
theorem s_K.sa : ∀ (f : Nat) (S : sS), s_K S nC nT nK → s_K (s_sa f S).1 nC nT nK
  | 0, _, K => K
  | f + 1, S, K => by
    rw [s_sa, K.1.nK]
    by_cases e : s_pick S nK = 0
    · rw [if_pos e]
      exact K
    · rw [if_neg e]
      exact s_K.sa f _ (K.st1 (by omega) (s_pick_le S nK) (s_pick_may S nK e))
theorem s_K.all (K : s_K S nC nT nK) : s_J (s_all S).1 nC nT nK := (s_K.sa 200 S K).J (s_all_ok K.1).2
theorem s_K.e1 (K : s_K S nC nT nK) {i : Nat} {z : Int32} (h2 : i ≤ nK) (z0 : z ≠ 0) (z1 : z ≠ 1) (z2 : z ≠ 2) : s_K (s_e1 S i z) nC nT nK := by
  obtain ⟨v, u, f, g, q⟩ := K
  refine ⟨v.e1 z1 z2, u.e1 z1 z2, fun j hj => ?_, fun t ht => ?_, fun j j1 j2 hj => ?_⟩
  · rw [s_e1_13, if_neg (by omega), s_e1_15, if_neg (by omega), s_e1_at, if_neg (by omega), if_neg (by omega), if_neg (by omega), if_neg (by omega)]
    exact f j hj
  · rw [s_e1_k S i z (a := 8) (by decide) (by decide) (by decide) (by decide), s_e1_k S i z (a := 9) (by decide) (by decide) (by decide) (by decide)]
    exact g t ht
  · rw [s_e1_13] at hj
    by_cases e : j = i
    · rw [if_pos e] at hj; exact absurd hj z0
    · rw [if_neg e] at hj
      rw [s_e1_at, if_neg (by omega), if_neg (by omega), if_neg (by omega), if_neg (by omega), s_e1_at, if_neg (by omega), if_neg (by omega), if_neg (by omega), if_neg (by omega)]
      exact q j j1 j2 hj
theorem s_K.end (K : s_K S nC nT nK) {i : Nat} {z : Int32} (h2 : i ≤ nK) (z0 : z ≠ 0) (z1 : z ≠ 1) (z2 : z ≠ 2) : s_J (s_end S i z) nC nT nK := (K.e1 h2 z0 z1 z2).all
theorem s_iv.cg (hv : s_iv S nC nT nK) (hk : ∀ a j, (a = 1 ∨ a = 2 ∨ a = 3 ∨ a = 6 ∨ a = 11 ∨ a = 12) → S'.1 a j = S.1 a j) (hl : ∀ i, 1 ≤ i → i ≤ nK → s_lev S' i ≤ 10 ∧ S'.1 15 i = nI (s_lev S' i) ∧ (s_A S' i → 1 ≤ s_lev S' i) ∧ (¬ s_A S' i → s_lev S' i = 0)) : s_iv S' nC nT nK := by
  obtain ⟨v1, v2, v3, v4, v5, v6, v7, v8, v9, v10⟩ := hv
  refine ⟨?_, v2, ?_, v4, ?_, v6, fun c a b => ?_, fun i a b => ?_, fun i a b => ?_, hl⟩
  · rw [hk _ _ (by omega)]; exact v1
  · rw [hk _ _ (by omega)]; exact v3
  · rw [hk _ _ (by omega)]; exact v5
  · rw [hk _ _ (by omega)]; exact v7 c a b
  · unfold s_of; rw [hk _ _ (by omega)]; exact v8 i a b
  · rw [hk _ _ (by omega)]; exact v9 i a b
theorem s_pick_cg (hp : s_pick S nK = 0) (n1 : s_nK S = nK) (n2 : s_nK S' = nK) (hA : ∀ j, 1 ≤ j → j ≤ nK → (s_A S' j ↔ s_A S j)) (h13 : ∀ j, 1 ≤ j → j ≤ nK → S'.1 13 j = 0 → S.1 13 j = 0) (h12 : ∀ j, 1 ≤ j → j ≤ nK → S'.1 12 j = S.1 12 j) (hc : ∀ j, 1 ≤ j → j ≤ nK → s_cl S' j = s_cl S j) (h10 : ∀ j, S'.1 10 j = S.1 10 j) (h2 : S'.2 = S.2) : s_pick S' nK = 0 := by
  have cnt : ∀ z n, n ≤ nK → s_cnt S' z n = s_cnt S z n := by
    intro z n
    induction n with
    | zero => intro _; rfl
    | succ n ih =>
      intro hn
      rw [s_cnt, s_cnt, ih (by omega), hc (n + 1) (by omega) hn]
      simp only [hA (n + 1) (by omega) hn]
  have own : ∀ z n, n ≤ nK → s_own S' z n = s_own S z n := by
    intro z n
    induction n with
    | zero => intro _; rfl
    | succ n ih =>
      intro hn
      rw [s_own, s_own, ih (by omega), h12 (n + 1) (by omega) hn]
      simp only [hA (n + 1) (by omega) hn]
  refine (s_pick_0 _ _).mpr (fun j j1 j2 hm => (s_pick_0 S nK).mp hp j j1 j2 ?_)
  obtain ⟨m1, m2, m3, m4⟩ := hm
  rw [h2] at m2
  rw [n2, own _ _ (Nat.le_refl _), h12 j j1 j2] at m3
  rw [n2, hc j j1 j2, cnt _ _ (Nat.le_refl _), h10] at m4
  refine ⟨h13 j j1 j2 m1, m2, ?_, ?_⟩
  · rw [n1]; exact m3
  · rw [n1]; exact m4
/-- a call that starts nothing: the keys it writes do not bear on who may start -/
theorem s_J.cg (J : s_J S nC nT nK) (hk : ∀ a j, a ≠ 8 → a ≠ 9 → a ≠ 13 → a ≠ 14 → a ≠ 15 → a ≠ 16 → a ≠ 18 → a ≠ 19 → S'.1 a j = S.1 a j) (h2 : S'.2 = S.2)
    (h8 : ∀ t, nT < t → S'.1 8 t = S.1 8 t ∧ S'.1 9 t = S.1 9 t) (hA : ∀ j, s_A S' j ↔ s_A S j) (h13 : ∀ j, S'.1 13 j = 0 ↔ S.1 13 j = 0)
    (hf : ∀ i, nK < i → S'.1 15 i = S.1 15 i ∧ S'.1 16 i = S.1 16 i) (hq : ∀ i, 1 ≤ i → i ≤ nK → S.1 13 i = 0 → S'.1 14 i = S.1 14 i ∧ S'.1 16 i = S.1 16 i)
    (hl : ∀ i, 1 ≤ i → i ≤ nK → s_lev S' i ≤ 10 ∧ S'.1 15 i = nI (s_lev S' i) ∧ (s_A S i → 1 ≤ s_lev S' i) ∧ (¬ s_A S i → s_lev S' i = 0)) : s_J S' nC nT nK := by
  obtain ⟨v, u, f, g, q, p⟩ := J
  have k6 : ∀ a j, (a = 1 ∨ a = 2 ∨ a = 3 ∨ a = 6 ∨ a = 11 ∨ a = 12) → S'.1 a j = S.1 a j := fun a j ha => hk a j (by omega) (by omega) (by omega) (by omega) (by omega) (by omega) (by omega) (by omega)
  have v' : s_iv S' nC nT nK := v.cg k6 (fun i a b => by
    obtain ⟨x1, x2, x3, x4⟩ := hl i a b
    exact ⟨x1, x2, fun z => x3 ((hA i).mp z), fun z => x4 (fun y => z ((hA i).mpr y))⟩)
  refine ⟨v', ?_, fun i hi => ?_, fun t ht => ?_, fun i i1 i2 hi => ?_, ?_⟩
  · intro i j a b c d hi hj h0 he
    rw [k6 12 i (by omega)] at h0 he
    rw [k6 12 j (by omega)] at he
    exact u i j a b c d ((hA i).mp hi) ((hA j).mp hj) h0 he
  · obtain ⟨a1, a2, a3⟩ := f i hi
    obtain ⟨b1, b2⟩ := hf i hi
    exact ⟨(h13 i).mpr a1, by rw [b1]; exact a2, by rw [b2]; exact a3⟩
  · obtain ⟨b1, b2⟩ := h8 t ht
    rw [b1, b2]
    exact g t ht
  · have hi' := (h13 i).mp hi
    obtain ⟨b1, b2⟩ := hq i i1 i2 hi'
    rw [b1, b2]
    exact q i i1 i2 hi'
  · refine s_pick_cg p v.nK v'.nK (fun j _ _ => hA j) (fun j _ _ => (h13 j).mp) (fun j _ _ => k6 12 j (by omega)) (fun j _ _ => ?_) (fun j => hk 10 j (by decide) (by decide) (by decide) (by decide) (by decide) (by decide) (by decide) (by decide)) h2
    unfold s_cl s_of
    rw [k6 11 j (by omega), k6 6 _ (by omega)]
theorem s_K.u8 (K : s_K S nC nT nK) (k : Nat) {j : Nat} {x : Int32} (hk : (k = 8 ∧ j ≤ nT) ∨ (k = 9 ∧ j ≤ nT) ∨ k = 10) : s_K (sU S k j x) nC nT nK := by
  obtain ⟨v, u, f, g, q⟩ := K
  have k0 : ∀ a b, a ≠ k → (sU S k j x).1 a b = S.1 a b := fun a b z => by rw [up_at, if_neg (by omega)]
  refine ⟨v.u8 k (by omega) j x, s_u_cg (fun i => k0 13 i (by omega)) (fun i => k0 12 i (by omega)) u, fun i hi => ?_, fun t ht => ?_, fun i i1 i2 hi => ?_⟩
  · rw [k0 13 i (by omega), k0 15 i (by omega), k0 16 i (by omega)]
    exact f i hi
  · rw [up_at, up_at, if_neg (by omega), if_neg (by omega)]
    exact g t ht
  · rw [k0 13 i (by omega)] at hi
    rw [k0 14 i (by omega), k0 16 i (by omega)]
    exact q i i1 i2 hi
theorem s_K.new (K : s_K S nC nT nK) {its t : Int32} (h1 : isC S its) (h2 : t = 0 ∨ isM S t) (h3 : ¬ S.1 3 0 = 200) (w : Int64) : s_K (s_new S its t w) nC nT (nK + 1) := by
  obtain ⟨v, u, f, g, q⟩ := K
  have hK : nK ≤ 200 := v.2.2.2.2.2.1
  obtain ⟨f1, f2, f3⟩ := f (nK + 1) (by omega)
  have en : tn (S.1 3 0 + 1) = nK + 1 := by rw [v.2.2.2.2.1, tn_1 (by omega)]
  have at' : ∀ a j, (s_new S its t w).1 a j = if a = 14 ∧ j = nK + 1 then -1 else if a = 12 ∧ j = nK + 1 then t else if a = 11 ∧ j = nK + 1 then its else if a = 3 ∧ j = 0 then S.1 3 0 + 1 else S.1 a j := fun a j => by rw [← en]; rfl
  have v' := s_new_iv v h1 h2 h3 w (s_not_A f1) f2
  generalize s_new S its t w = S' at at' v' ⊢
  have k0 : ∀ a j, a ≠ 14 → a ≠ 12 → a ≠ 11 → a ≠ 3 → S'.1 a j = S.1 a j := fun a j a1 a2 a3 a4 => by rw [at', if_neg (by omega), if_neg (by omega), if_neg (by omega), if_neg (by omega)]
  have e13 : ∀ j, S'.1 13 j = S.1 13 j := fun j => k0 13 j (by decide) (by decide) (by decide) (by decide)
  refine ⟨v', ?_, fun i hi => ?_, fun s hs => ?_, fun i i1 i2 hi => ?_⟩
  · intro i j a b c d hi hj h0 he
    have ai : s_A S i := by unfold s_A; rw [← e13]; exact hi
    have aj : s_A S j := by unfold s_A; rw [← e13]; exact hj
    have ni : i ≠ nK + 1 := fun z => s_not_A f1 (z ▸ ai)
    have nj : j ≠ nK + 1 := fun z => s_not_A f1 (z ▸ aj)
    have x1 : S'.1 12 i = S.1 12 i := by rw [at', if_neg (by omega), if_neg (by omega), if_neg (by omega), if_neg (by omega)]
    have x2 : S'.1 12 j = S.1 12 j := by rw [at', if_neg (by omega), if_neg (by omega), if_neg (by omega), if_neg (by omega)]
    rw [x1] at h0 he
    rw [x2] at he
    exact u i j a (by omega) c (by omega) ai aj h0 he
  · rw [e13, k0 15 i (by decide) (by decide) (by decide) (by decide), k0 16 i (by decide) (by decide) (by decide) (by decide)]
    exact f i (by omega)
  · rw [k0 8 s (by decide) (by decide) (by decide) (by decide), k0 9 s (by decide) (by decide) (by decide) (by decide)]
    exact g s hs
  · rw [e13] at hi
    rw [k0 16 i (by decide) (by decide) (by decide) (by decide)]
    by_cases e : i = nK + 1
    · rw [e]
      exact ⟨by rw [at', if_pos ⟨rfl, rfl⟩], f3⟩
    · have x1 : S'.1 14 i = S.1 14 i := by rw [at', if_neg (by omega), if_neg (by omega), if_neg (by omega), if_neg (by omega)]
      rw [x1]
      exact q i i1 (by omega) hi
/-- some numbers for which it holds -/
def sJ (S : sS) : Prop := ∃ nC nT nK, s_J S nC nT nK
theorem j_code (J : s_J S nC nT nK) (p c x : Int32) : sJ (o_code S p c x).2 := by
  rw [o_code]
  by_cases q : bd p 99 ∨ bd c 9 ∨ bd x 255
  · rw [if_pos q]; exact ⟨_, _, _, J⟩
  rw [if_neg q]
  by_cases e6 : S.1 1 0 = 60
  · rw [if_pos e6]; exact ⟨_, _, _, J⟩
  rw [if_neg e6]
  obtain ⟨v, u, f, g, qq, pp⟩ := J
  have hC : nC ≤ 60 := v.2.1
  have hne : nC ≠ 60 := fun z => e6 (by rw [v.1, z]; rfl)
  have e0 : tn (S.1 1 0 + 1) = nC + 1 := by rw [v.1]; exact tn_1 (by omega)
  obtain ⟨c1, c2⟩ := bd_ix (n := 9) (by decide) (fun z => q (Or.inr (Or.inl z)))
  rw [e0]
  have at' : ∀ a j, (sU (sU (sU (sU S 1 0 (S.1 1 0 + 1)) 5 (nC + 1) p) 6 (nC + 1) c) 7 (nC + 1) x).1 a j = if a = 7 ∧ j = nC + 1 then x else if a = 6 ∧ j = nC + 1 then c else if a = 5 ∧ j = nC + 1 then p else if a = 1 ∧ j = 0 then S.1 1 0 + 1 else S.1 a j := fun a j => rfl
  have h2 : (sU (sU (sU (sU S 1 0 (S.1 1 0 + 1)) 5 (nC + 1) p) 6 (nC + 1) c) 7 (nC + 1) x).2 = S.2 := rfl
  show sJ (sU (sU (sU (sU S 1 0 (S.1 1 0 + 1)) 5 (nC + 1) p) 6 (nC + 1) c) 7 (nC + 1) x)
  generalize sU (sU (sU (sU S 1 0 (S.1 1 0 + 1)) 5 (nC + 1) p) 6 (nC + 1) c) 7 (nC + 1) x = S' at at' h2 ⊢
  have k0 : ∀ a j, a ≠ 1 → a ≠ 5 → a ≠ 6 → a ≠ 7 → S'.1 a j = S.1 a j := fun a j a1 a2 a3 a4 => by rw [at', if_neg (by omega), if_neg (by omega), if_neg (by omega), if_neg (by omega)]
  have k6 : ∀ j, j ≠ nC + 1 → S'.1 6 j = S.1 6 j := fun j a1 => by rw [at', if_neg (by omega), if_neg (by omega), if_neg (by omega), if_neg (by omega)]
  have v' : s_iv S' (nC + 1) nT nK := by
    obtain ⟨v1, v2, v3, v4, v5, v6, v7, v8, v9, v10⟩ := v
    refine ⟨?_, by omega, ?_, v4, ?_, v6, fun d a b => ?_, fun i a b => ?_, fun i a b => ?_, fun i a b => ?_⟩
    · rw [at', if_neg (by omega), if_neg (by omega), if_neg (by omega), if_pos ⟨rfl, rfl⟩, v1, nI_1]
    · rw [k0 _ _ (by decide) (by decide) (by decide) (by decide)]; exact v3
    · rw [k0 _ _ (by decide) (by decide) (by decide) (by decide)]; exact v5
    · by_cases e : d = nC + 1
      · rw [at', if_neg (by omega), if_pos ⟨rfl, e⟩]
        exact ⟨tn c, by omega, c2⟩
      · rw [k6 d e]
        exact v7 d a (by omega)
    · unfold s_of
      rw [k0 11 i (by decide) (by decide) (by decide) (by decide)]
      obtain ⟨y1, y2, y3⟩ := v8 i a b
      exact ⟨y1, Nat.le_trans y2 (by omega), y3⟩
    · rw [k0 12 i (by decide) (by decide) (by decide) (by decide)]; exact v9 i a b
    · unfold s_A s_lev
      rw [k0 13 i (by decide) (by decide) (by decide) (by decide), k0 15 i (by decide) (by decide) (by decide) (by decide)]
      exact v10 i a b
  refine ⟨nC + 1, nT, nK, v', s_u_cg (fun i => k0 13 i (by decide) (by decide) (by decide) (by decide)) (fun i => k0 12 i (by decide) (by decide) (by decide) (by decide)) u, fun i hi => ?_, fun t ht => ?_, fun i i1 i2 hi => ?_, ?_⟩
  · rw [k0 13 i (by decide) (by decide) (by decide) (by decide), k0 15 i (by decide) (by decide) (by decide) (by decide), k0 16 i (by decide) (by decide) (by decide) (by decide)]
    exact f i hi
  · rw [k0 8 t (by decide) (by decide) (by decide) (by decide), k0 9 t (by decide) (by decide) (by decide) (by decide)]
    exact g t ht
  · rw [k0 13 i (by decide) (by decide) (by decide) (by decide)] at hi
    rw [k0 14 i (by decide) (by decide) (by decide) (by decide), k0 16 i (by decide) (by decide) (by decide) (by decide)]
    exact qq i i1 i2 hi
  · refine s_pick_cg pp v.nK v'.nK (fun j _ _ => by unfold s_A; rw [k0 13 j (by decide) (by decide) (by decide) (by decide)]) (fun j _ _ z => by rw [k0 13 j (by decide) (by decide) (by decide) (by decide)] at z; exact z) (fun j _ _ => k0 12 j (by decide) (by decide) (by decide) (by decide)) (fun j j1 j2 => ?_) (fun j => k0 10 j (by decide) (by decide) (by decide) (by decide)) h2
    have := (v.2.2.2.2.2.2.2.1 j j1 j2).2.1
    unfold s_cl
    have e : s_of S' j = s_of S j := by unfold s_of; rw [k0 11 j (by decide) (by decide) (by decide) (by decide)]
    rw [e, k6 _ (by omega)]
theorem j_term (J : s_J S nC nT nK) : sJ (o_term S).2 := by
  rw [o_term]
  by_cases e6 : S.1 2 0 = 20
  · rw [if_pos e6]; exact ⟨_, _, _, J⟩
  rw [if_neg e6]
  obtain ⟨v, u, f, g, qq, pp⟩ := J
  have hT : nT ≤ 20 := v.2.2.2.1
  have hne : nT ≠ 20 := fun z => e6 (by rw [v.2.2.1, z]; rfl)
  show sJ (sU S 2 0 (S.1 2 0 + 1))
  have at' : ∀ a j, (sU S 2 0 (S.1 2 0 + 1)).1 a j = if a = 2 ∧ j = 0 then S.1 2 0 + 1 else S.1 a j := fun a j => rfl
  have h2 : (sU S 2 0 (S.1 2 0 + 1)).2 = S.2 := rfl
  generalize sU S 2 0 (S.1 2 0 + 1) = S' at at' h2 ⊢
  have k0 : ∀ a j, a ≠ 2 → S'.1 a j = S.1 a j := fun a j a1 => by rw [at', if_neg (by omega)]
  have v' : s_iv S' nC (nT + 1) nK := by
    obtain ⟨v1, v2, v3, v4, v5, v6, v7, v8, v9, v10⟩ := v
    refine ⟨?_, v2, ?_, by omega, ?_, v6, fun d a b => ?_, fun i a b => ?_, fun i a b => ?_, fun i a b => ?_⟩
    · rw [k0 _ _ (by decide)]; exact v1
    · rw [at', if_pos ⟨rfl, rfl⟩, v3, nI_1]
    · rw [k0 _ _ (by decide)]; exact v5
    · rw [k0 _ _ (by decide)]; exact v7 d a b
    · unfold s_of
      rw [k0 11 i (by decide)]
      exact v8 i a b
    · rw [k0 12 i (by decide)]
      obtain ⟨t, y1, y2⟩ := v9 i a b
      exact ⟨t, by omega, y2⟩
    · unfold s_A s_lev
      rw [k0 13 i (by decide), k0 15 i (by decide)]
      exact v10 i a b
  refine ⟨nC, nT + 1, nK, v', s_u_cg (fun i => k0 13 i (by decide)) (fun i => k0 12 i (by decide)) u, fun i hi => ?_, fun t ht => ?_, fun i i1 i2 hi => ?_, ?_⟩
  · rw [k0 13 i (by decide), k0 15 i (by decide), k0 16 i (by decide)]
    exact f i hi
  · rw [k0 8 t (by decide), k0 9 t (by decide)]
    exact g t (by omega)
  · rw [k0 13 i (by decide)] at hi
    rw [k0 14 i (by decide), k0 16 i (by decide)]
    exact qq i i1 i2 hi
  · refine s_pick_cg pp v.nK v'.nK (fun j _ _ => by unfold s_A; rw [k0 13 j (by decide)]) (fun j _ _ z => by rw [k0 13 j (by decide)] at z; exact z) (fun j _ _ => k0 12 j (by decide)) (fun j j1 j2 => ?_) (fun j => k0 10 j (by decide)) h2
    unfold s_cl s_of
    rw [k0 11 j (by decide), k0 6 _ (by decide)]
theorem j_start (J : s_J S nC nT nK) (c t : Int32) (w : Int64) : sJ (o_start S c t w).2 := by
  rw [o_start]
  by_cases q : ¬ isC S (s_its S c t) ∨ (¬ t = 0 ∧ ¬ isM S t)
  · rw [if_pos q]; exact ⟨_, _, _, J⟩
  rw [if_neg q]
  by_cases q2 : w < 0
  · rw [if_pos q2]; exact ⟨_, _, _, J⟩
  rw [if_neg q2]
  by_cases q3 : S.1 3 0 = 200
  · rw [if_pos q3]; exact ⟨_, _, _, J⟩
  rw [if_neg q3]
  have hc : isC S (s_its S c t) := Classical.not_not.mp (fun z => q (Or.inl z))
  have ht : t = 0 ∨ isM S t := by
    by_cases z : t = 0
    · exact Or.inl z
    · exact Or.inr (Classical.not_not.mp (fun y => q (Or.inr ⟨z, y⟩)))
  have K := J.K.new hc ht q3 w
  refine ⟨nC, nT, nK + 1, s_K.all ?_⟩
  rw [s_new2]
  by_cases q4 : c = 0
  · rw [if_pos q4]
    have hm : tn t ≤ nT := by
      rcases ht with z | z
      · rw [z]; exact Nat.zero_le _
      · exact (J.1.M z).2.1
    exact K.u8 8 (Or.inl ⟨rfl, hm⟩)
  · rw [if_neg q4]; exact K
theorem j_tick (J : s_J S nC nT nK) (w : Int64) : sJ (o_tick S w).2 := by
  rw [o_tick]
  by_cases q : w < S.2.2
  · rw [if_pos q]; exact ⟨_, _, _, J⟩
  rw [if_neg q]
  have K : s_K (sT S w) nC nT nK := J.K
  exact ⟨_, _, _, K.all⟩
theorem j_limit (J : s_J S nC nT nK) (c n : Int32) : sJ (o_limit S c n).2 := by
  rw [o_limit]
  by_cases q : bd c 9 ∨ bd n 50
  · rw [if_pos q]; exact ⟨_, _, _, J⟩
  rw [if_neg q]
  exact ⟨_, _, _, (J.K.u8 10 (Or.inr (Or.inr rfl))).all⟩
theorem j_event (J : s_J S nC nT nK) (x k v : Int32) : sJ (o_event S x k v).2 := by
  rw [o_event]
  by_cases hx : isT S x
  rotate_left
  · rw [if_pos hx]; exact ⟨_, _, _, J⟩
  rw [if_neg (fun z => z hx)]
  obtain ⟨x1, x2, x3⟩ := J.1.T hx
  by_cases q : bd k 2 ∨ (k < 2 ∧ bd v 15)
  · rw [if_pos q]; exact ⟨_, _, _, J⟩
  rw [if_neg q]
  by_cases q2 : (k = 1 ∧ (¬ S.1 13 (tn x) = 2 ∨ ¬ S.1 14 (tn x) = v)) ∨ (¬ k = 1 ∧ ¬ S.1 13 (tn x) = 1)
  · rw [if_pos q2]; exact ⟨_, _, _, J⟩
  rw [if_neg q2]
  by_cases q3 : k = 2
  · rw [if_pos q3]; exact ⟨_, _, _, J.K.end x2 (by decide) (by decide) (by decide)⟩
  rw [if_neg q3]
  have ha : s_A S (tn x) := by
    by_cases e : k = 1
    · exact Or.inr (Classical.not_not.mp (fun z => q2 (Or.inl ⟨e, Or.inl z⟩)))
    · exact Or.inl (Classical.not_not.mp (fun z => q2 (Or.inr ⟨e, z⟩)))
  have n0 : ¬ S.1 13 (tn x) = 0 := fun z => s_not_A z ha
  obtain ⟨s1, d1, hs⟩ : ∃ s1 : Int32, (s1 = 1 ∨ s1 = 2) ∧ (if k = 0 then (2 : Int32) else 1) = s1 := by
    by_cases e : k = 0
    · exact ⟨2, Or.inr rfl, if_pos e⟩
    · exact ⟨1, Or.inl rfl, if_neg e⟩
  show sJ (s_ev S (tn x) k v)
  unfold s_ev
  rw [hs]
  generalize (if k = 0 then v else -1) = e1
  have at' : ∀ a j, (sU (sU S 13 (tn x) s1) 14 (tn x) e1).1 a j = if a = 14 ∧ j = tn x then e1 else if a = 13 ∧ j = tn x then s1 else S.1 a j := fun a j => rfl
  have h2 : (sU (sU S 13 (tn x) s1) 14 (tn x) e1).2 = S.2 := rfl
  generalize sU (sU S 13 (tn x) s1) 14 (tn x) e1 = S' at at' h2 ⊢
  have k0 : ∀ a j, a ≠ 13 → a ≠ 14 → S'.1 a j = S.1 a j := fun a j a1 a2 => by rw [at', if_neg (by omega), if_neg (by omega)]
  have e13 : S'.1 13 (tn x) = s1 := by rw [at', if_neg (by omega), if_pos ⟨rfl, rfl⟩]
  have e13j : ∀ j, j ≠ tn x → S'.1 13 j = S.1 13 j := fun j e => by rw [at', if_neg (by omega), if_neg (by omega)]
  refine ⟨nC, nT, nK, J.cg (fun a j _ _ a1 a2 _ _ _ _ => k0 a j a1 a2) h2 (fun t _ => ⟨k0 8 t (by decide) (by decide), k0 9 t (by decide) (by decide)⟩) (fun j => ?_) (fun j => ?_) (fun i _ => ⟨k0 15 i (by decide) (by decide), k0 16 i (by decide) (by decide)⟩) (fun i i1 i2 hi => ⟨?_, k0 16 i (by decide) (by decide)⟩) (fun i i1 i2 => ?_)⟩
  · by_cases e : j = tn x
    · rw [e]
      exact ⟨fun _ => ha, fun _ => by unfold s_A; rw [e13]; exact d1⟩
    · unfold s_A; rw [e13j j e]
  · by_cases e : j = tn x
    · rw [e, e13]
      exact ⟨fun z => by rcases d1 with y | y <;> (rw [y] at z; exact absurd z (by decide)), fun z => absurd z n0⟩
    · rw [e13j j e]
  · have ne : i ≠ tn x := fun z => n0 (z ▸ hi)
    rw [at', if_neg (by omega), if_neg (by omega)]
  · unfold s_lev
    rw [k0 15 i (by decide) (by decide)]
    exact J.1.2.2.2.2.2.2.2.2.2 i i1 i2
theorem j_link (J : s_J S nC nT nK) (x p : Int32) : sJ (o_link S x p).2 := by
  rw [o_link]
  by_cases hx : isT S x
  rotate_left
  · rw [if_pos hx]; exact ⟨_, _, _, J⟩
  rw [if_neg (fun z => z hx)]
  obtain ⟨x1, x2, x3⟩ := J.1.T hx
  by_cases q : bd p 99
  · rw [if_pos q]; exact ⟨_, _, _, J⟩
  rw [if_neg q]
  by_cases q2 : S.1 13 (tn x) = 1
  rotate_left
  · rw [if_pos q2]; exact ⟨_, _, _, J⟩
  rw [if_neg (fun z => z q2)]
  by_cases q3 : S.1 15 (tn x) = 10
  · rw [if_pos q3]; exact ⟨_, _, _, J⟩
  rw [if_neg q3]
  obtain ⟨l10, l15, l1, -⟩ := J.1.2.2.2.2.2.2.2.2.2 (tn x) x1 x2
  have ha : s_A S (tn x) := Or.inl q2
  have l9 : s_lev S (tn x) ≠ 10 := fun z => q3 (by rw [l15, z]; rfl)
  show sJ (s_beg S (tn x) p)
  have at' := s_beg_at S (tn x) p
  have h2 := s_beg_2 S (tn x) p
  generalize s_beg S (tn x) p = S' at at' h2 ⊢
  have k0 : ∀ a j, a ≠ 15 → a ≠ 18 → a ≠ 19 → S'.1 a j = S.1 a j := fun a j a1 a2 a3 => by rw [at', if_neg (by omega), if_neg (by omega), if_neg (by omega)]
  have e15i : S'.1 15 (tn x) = nI (s_lev S (tn x) + 1) := by rw [at', if_neg (by omega), if_neg (by omega), if_pos ⟨rfl, rfl⟩, l15, nI_1]
  have e15 : ∀ j, j ≠ tn x → S'.1 15 j = S.1 15 j := fun j e => by rw [at', if_neg (by omega), if_neg (by omega), if_neg (by omega)]
  have e13 : ∀ j, S'.1 13 j = S.1 13 j := fun j => k0 13 j (by decide) (by decide) (by decide)
  refine ⟨nC, nT, nK, J.cg (fun a j _ _ _ _ a1 _ a2 a3 => k0 a j a1 a2 a3) h2 (fun t _ => ⟨k0 8 t (by decide) (by decide) (by decide), k0 9 t (by decide) (by decide) (by decide)⟩) (fun j => by unfold s_A; rw [e13]) (fun j => by rw [e13]) (fun i hi => ⟨e15 i (by omega), k0 16 i (by decide) (by decide) (by decide)⟩) (fun i i1 i2 hi => ⟨k0 14 i (by decide) (by decide) (by decide), k0 16 i (by decide) (by decide) (by decide)⟩) (fun i i1 i2 => ?_)⟩
  by_cases e : i = tn x
  · rw [e]
    have el : s_lev S' (tn x) = s_lev S (tn x) + 1 := by unfold s_lev; rw [e15i]; exact nI_clamp (by omega)
    rw [el, e15i]
    exact ⟨by omega, rfl, fun _ => by omega, fun z => absurd ha z⟩
  · unfold s_lev
    rw [e15 i e]
    exact J.1.2.2.2.2.2.2.2.2.2 i i1 i2
theorem j_back (J : s_J S nC nT nK) (x n a : Int32) : sJ (o_back S x n a).2 := by
  rw [o_back]
  by_cases hx : isT S x
  rotate_left
  · rw [if_pos hx]; exact ⟨_, _, _, J⟩
  rw [if_neg (fun z => z hx)]
  obtain ⟨x1, x2, x3⟩ := J.1.T hx
  by_cases q : (¬ n = 0 ∧ ¬ isC S n) ∨ bd a 9999
  · rw [if_pos q]; exact ⟨_, _, _, J⟩
  rw [if_neg q]
  by_cases q2 : S.1 13 (tn x) = 1
  rotate_left
  · rw [if_pos q2]; exact ⟨_, _, _, J⟩
  rw [if_neg (fun z => z q2)]
  by_cases q3 : ¬ s_kp S (tn x) ∧ (¬ n = 0 ∨ ¬ a = 0)
  · rw [if_pos q3]; exact ⟨_, _, _, J⟩
  rw [if_neg q3]
  obtain ⟨l10, l15, l1, -⟩ := J.1.2.2.2.2.2.2.2.2.2 (tn x) x1 x2
  have ha : s_A S (tn x) := Or.inl q2
  by_cases q4 : S.1 15 (tn x) ≤ 1
  · rw [if_neg (fun z => z q4)]
    refine ⟨nC, nT, nK, s_K.end ?_ x2 (by decide) (by decide) (by decide)⟩
    unfold s_kept
    by_cases kp : s_kp S (tn x)
    · rw [if_pos kp]
      obtain ⟨t, t1, t2⟩ := J.1.2.2.2.2.2.2.2.2.1 (tn x) x1 x2
      have hT : nT ≤ 20 := J.1.2.2.2.1
      have tt : tn (S.1 12 (tn x)) ≤ nT := by
        rw [t2]
        show (nI t).toNatClampNeg ≤ _
        rw [nI_clamp (by omega)]
        exact t1
      exact (J.K.u8 8 (Or.inl ⟨rfl, tt⟩)).u8 9 (Or.inr (Or.inl ⟨rfl, tt⟩))
    · rw [if_neg kp]; exact J.K
  · rw [if_pos q4]
    have l2 : 2 ≤ s_lev S (tn x) := by
      rcases Nat.lt_or_ge (s_lev S (tn x)) 2 with z | z
      · exfalso
        have e : s_lev S (tn x) = 1 := by have := l1 ha; omega
        exact q4 (by rw [l15, e]; decide)
      · exact z
    obtain ⟨k, hk⟩ : ∃ k, s_lev S (tn x) = k + 1 := ⟨s_lev S (tn x) - 1, by omega⟩
    show sJ (sU S 15 (tn x) (S.1 15 (tn x) - 1))
    have at' : ∀ a j, (sU S 15 (tn x) (S.1 15 (tn x) - 1)).1 a j = if a = 15 ∧ j = tn x then nI k else S.1 a j := fun a j => by rw [up_at, l15, hk, nI_pred]
    have h2 : (sU S 15 (tn x) (S.1 15 (tn x) - 1)).2 = S.2 := rfl
    generalize sU S 15 (tn x) (S.1 15 (tn x) - 1) = S' at at' h2 ⊢
    have k0 : ∀ a j, a ≠ 15 → S'.1 a j = S.1 a j := fun a j a1 => by rw [at', if_neg (by omega)]
    have e15 : ∀ j, j ≠ tn x → S'.1 15 j = S.1 15 j := fun j e => by rw [at', if_neg (by omega)]
    have e15i : S'.1 15 (tn x) = nI k := by rw [at', if_pos ⟨rfl, rfl⟩]
    refine ⟨nC, nT, nK, J.cg (fun a j _ _ _ _ a1 _ _ _ => k0 a j a1) h2 (fun t _ => ⟨k0 8 t (by decide), k0 9 t (by decide)⟩) (fun j => by unfold s_A; rw [k0 13 j (by decide)]) (fun j => by rw [k0 13 j (by decide)]) (fun i hi => ⟨e15 i (by omega), k0 16 i (by decide)⟩) (fun i i1 i2 hi => ⟨k0 14 i (by decide), k0 16 i (by decide)⟩) (fun i i1 i2 => ?_)⟩
    by_cases e : i = tn x
    · rw [e]
      have el : s_lev S' (tn x) = k := by unfold s_lev; rw [e15i]; exact nI_clamp (by omega)
      rw [el, e15i]
      exact ⟨by omega, rfl, fun _ => by omega, fun z => absurd ha z⟩
    · unfold s_lev
      rw [e15 i e]
      exact J.1.2.2.2.2.2.2.2.2.2 i i1 i2
theorem j_purge (J : s_J S nC nT nK) (x : Int32) : sJ (o_purge S x).2 := by
  rw [o_purge]
  by_cases hx : isT S x
  rotate_left
  · rw [if_pos hx]; exact ⟨_, _, _, J⟩
  rw [if_neg (fun z => z hx)]
  obtain ⟨x1, x2, x3⟩ := J.1.T hx
  by_cases q : ¬ S.1 13 (tn x) = 0 ∧ ¬ S.1 13 (tn x) = 2
  · rw [if_pos q]; exact ⟨_, _, _, J⟩
  rw [if_neg q]
  exact ⟨_, _, _, J.K.end x2 (by decide) (by decide) (by decide)⟩
theorem j_storage (J : s_J S nC nT nK) (x n : Int32) : sJ (o_storage S x n).2 := by
  rw [o_storage]
  by_cases hx : isT S x
  rotate_left
  · rw [if_pos hx]; exact ⟨_, _, _, J⟩
  rw [if_neg (fun z => z hx)]
  obtain ⟨x1, x2, x3⟩ := J.1.T hx
  by_cases q : bd n 10000
  · rw [if_pos q]; exact ⟨_, _, _, J⟩
  rw [if_neg q]
  by_cases ha : s_A S (tn x)
  rotate_left
  · rw [if_pos ha]; exact ⟨_, _, _, J⟩
  rw [if_neg (fun z => z ha)]
  by_cases q3 : S.1 16 (tn x) + n ≤ 30000
  rotate_left
  · rw [if_pos q3]; exact ⟨_, _, _, J⟩
  rw [if_neg (fun z => z q3)]
  show sJ (sU S 16 (tn x) (S.1 16 (tn x) + n))
  have n0 : ¬ S.1 13 (tn x) = 0 := fun z => s_not_A z ha
  have k0 : ∀ a j, a ≠ 16 → (sU S 16 (tn x) (S.1 16 (tn x) + n)).1 a j = S.1 a j := fun a j a1 => by rw [up_at, if_neg (by omega)]
  refine ⟨nC, nT, nK, J.cg (fun a j _ _ _ _ _ a1 _ _ => k0 a j a1) rfl (fun t _ => ⟨k0 8 t (by decide), k0 9 t (by decide)⟩) (fun j => by unfold s_A; rw [k0 13 j (by decide)]) (fun j => by rw [k0 13 j (by decide)]) (fun i hi => ⟨k0 15 i (by decide), by rw [up_at, if_neg (by omega)]⟩) (fun i i1 i2 hi => ⟨k0 14 i (by decide), ?_⟩) (fun i i1 i2 => ?_)⟩
  · have ne : i ≠ tn x := fun z => n0 (z ▸ hi)
    rw [up_at, if_neg (by omega)]
  · unfold s_lev
    rw [k0 15 i (by decide)]
    exact J.1.2.2.2.2.2.2.2.2.2 i i1 i2
theorem j_handle (J : s_J S nC nT nK) (x k l : Int32) : sJ (o_handle S x k l).2 := by
  rw [o_handle]
  by_cases hx : isT S x
  rotate_left
  · rw [if_pos hx]; exact ⟨_, _, _, J⟩
  rw [if_neg (fun z => z hx)]
  by_cases q : bd k 9 ∨ bd l 9999
  · rw [if_pos q]; exact ⟨_, _, _, J⟩
  rw [if_neg q]
  by_cases q2 : S.1 13 (tn x) = 1
  rotate_left
  · rw [if_pos q2]; exact ⟨_, _, _, J⟩
  rw [if_neg (fun z => z q2)]
  show sJ (sU S 19 (s_lx S (tn x) (tn k)) l)
  have k0 : ∀ a j, a ≠ 19 → (sU S 19 (s_lx S (tn x) (tn k)) l).1 a j = S.1 a j := fun a j a1 => by rw [up_at, if_neg (by omega)]
  refine ⟨nC, nT, nK, J.cg (fun a j _ _ _ _ _ _ _ a1 => k0 a j a1) rfl (fun t _ => ⟨k0 8 t (by decide), k0 9 t (by decide)⟩) (fun j => by unfold s_A; rw [k0 13 j (by decide)]) (fun j => by rw [k0 13 j (by decide)]) (fun i hi => ⟨k0 15 i (by decide), k0 16 i (by decide)⟩) (fun i i1 i2 hi => ⟨k0 14 i (by decide), k0 16 i (by decide)⟩) (fun i i1 i2 => ?_)⟩
  unfold s_lev
  rw [k0 15 i (by decide)]
  exact J.1.2.2.2.2.2.2.2.2.2 i i1 i2
theorem j_cond (J : s_J S nC nT nK) (x k : Int32) : sJ (o_cond S x k).2 := by
  rw [o_cond]
  by_cases hx : isT S x
  rotate_left
  · rw [if_pos hx]; exact ⟨_, _, _, J⟩
  rw [if_neg (fun z => z hx)]
  obtain ⟨x1, x2, x3⟩ := J.1.T hx
  by_cases q : bd k 9
  · rw [if_pos q]; exact ⟨_, _, _, J⟩
  rw [if_neg q]
  by_cases q2 : S.1 13 (tn x) = 1
  rotate_left
  · rw [if_pos q2]; exact ⟨_, _, _, J⟩
  rw [if_neg (fun z => z q2)]
  by_cases q3 : s_by S (tn x) k = 0
  rotate_left
  · rw [if_pos q3]; exact ⟨_, _, _, J⟩
  rw [if_neg (fun z => z q3)]
  exact ⟨_, _, _, J.K.end x2 (by decide) (by decide) (by decide)⟩
theorem o_area_2 (t : Int32) : (o_area S t).2 = S := by unfold o_area; split <;> rfl
theorem o_state_2 (t : Int32) : (o_state S t).2 = S := by unfold o_state; split <;> rfl
theorem o_owner_2 (t : Int32) : (o_owner S t).2 = S := by unfold o_owner; split <;> rfl
theorem o_told_2 (x w : Int32) : (o_told S x w).2 = S := by unfold o_told; repeat' (first | rfl | split)
theorem o_count_2 (w : Int32) : (o_count S w).2 = S := by unfold o_count; repeat' (first | rfl | split)
theorem j_0 : s_J s0 0 0 0 := by
  refine ⟨⟨rfl, by decide, rfl, by decide, rfl, by decide, fun c a b => by omega, fun c a b => by omega, fun c a b => by omega, fun c a b => by omega⟩, fun i j a b => by omega, fun i _ => ⟨rfl, rfl, rfl⟩, fun t _ => ⟨rfl, rfl⟩, fun i a b => by omega, rfl⟩
end Inv
