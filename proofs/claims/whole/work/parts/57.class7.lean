/-! The class's calls: purge, handle, condition, and those that only tell. -/
section Class7
variable {h : am_H} {o : Nat} {S : sS} {G : gM} {Q : am_H → Option Value → Prop} {nC nT nK : Nat}
theorem s_purge {i : Nat} (J : s_J S nC nT nK) (h1 : 1 ≤ i) (h2 : i ≤ nK) (h0 : S.1 13 i = 0) : s_end S i 5 = sU S 13 i 5 := by
  obtain ⟨e14, e16⟩ := J.2.2.2.2.1 i h1 h2 h0
  obtain ⟨-, e15⟩ := J.1.lev0 h1 h2 h0
  have e1 : s_e1 S i 5 = sU S 13 i 5 := by
    unfold s_e1
    rw [sU_same (S := sU S 13 i 5) (k := 14) (by rw [up_at, if_neg (by omega)]; exact e14), sU_same (S := sU S 13 i 5) (k := 15) (by rw [up_at, if_neg (by omega)]; exact e15), sU_same (S := sU S 13 i 5) (k := 16) (by rw [up_at, if_neg (by omega)]; exact e16)]
  unfold s_end
  rw [e1]
  have k0 : ∀ a j, a ≠ 13 → (sU S 13 i 5).1 a j = S.1 a j := fun a j a1 => by rw [up_at, if_neg (by omega)]
  have hA : ∀ j, s_A (sU S 13 i 5) j ↔ s_A S j := fun j => by
    show ((sU S 13 i 5).1 13 j = 1 ∨ (sU S 13 i 5).1 13 j = 2) ↔ (S.1 13 j = 1 ∨ S.1 13 j = 2)
    by_cases e : j = i
    · rw [e, up_at, if_pos ⟨rfl, rfl⟩, h0]
      decide
    · rw [up_at, if_neg (by omega)]
  have hc : ∀ j, s_cl (sU S 13 i 5) j = s_cl S j := fun j => by unfold s_cl s_of; rw [k0 11 j (by decide), k0 6 _ (by decide)]
  have nK' : s_nK (sU S 13 i 5) = s_nK S := by unfold s_nK; rw [k0 3 0 (by decide)]
  rw [s_all_0]
  rw [nK', J.1.nK]
  refine (s_pick_0 _ _).mpr (fun j j1 j2 hm => (s_pick_0 S nK).mp J.2.2.2.2.2 j j1 j2 ?_)
  obtain ⟨m1, m2, m3, m4⟩ := hm
  rw [nK', s_own_cg hA (fun j => k0 12 j (by decide)), k0 12 j (by decide)] at m3
  rw [nK', hc, s_cnt_cg hA hc, k0 10 _ (by decide)] at m4
  refine ⟨?_, m2, m3, m4⟩
  by_cases e : j = i
  · rw [e]; exact h0
  · rw [up_at, if_neg (by omega)] at m1
    exact m1
theorem c_purge (r : RX h o S G) (J : s_J S nC nT nK) {x : Int32} (hQ : cP o h Q (o_purge S x)) : am_Run (am_in 11 [.ref o, .int x] h) Q := by
  have hv := J.1
  refine B11_0 ⟨r.is, c_findTask r hv (fun hx => ?_) (fun hx => B11_5_1 ?_)⟩
  rotate_left
  · rw [o_purge, if_pos hx] at hQ
    exact hQ h G r cF.rf.G
  obtain ⟨x1, x2, x3⟩ := hv.T hx
  have i2 : tn x ≤ s_nK S := by rw [hv.nK]; exact x2
  have tk := r.task x1 i2
  have tko := (r.2.2.2.2.1.1 (tn x) x1 i2).2.1
  rw [o_purge, if_neg (fun z => z hx)] at hQ
  refine B11_5 ⟨_, ⟨_, tk, rfl⟩, fun q => ⟨_, ⟨_, tk, rfl⟩, fun q2 => ?_, fun q2 => ⟨r.is, ?_⟩⟩, fun q => wf_of tk (show 4 < 8 by decide) (fun h1 w1 => B11_25 ?_)⟩
  · rw [if_pos ⟨q, q2⟩] at hQ
    exact hQ h G r cF.rf.G
  · rw [if_neg (fun z => z.2 q2)] at hQ
    exact c_leave r hv J.2.1 x1 x2 (Or.inr q2) (by decide) (by decide) (by decide) (fun h9 r9 f9 => B11_41 (hQ h9 G r9 f9.G))
  · rw [if_neg (fun z => z.1 q), s_purge J x1 x2 q] at hQ
    have e0 : ∀ a j, a ≠ 13 → (sU S 13 (tn x) 5).1 a j = S.1 a j := fun a j a1 => by rw [up_at, if_neg (by omega)]
    have e13 : (sU S 13 (tn x) 5).1 13 (tn x) = 5 := by rw [up_at, if_pos ⟨rfl, rfl⟩]
    have w2 : wr h h1 (G.2.2.1 (tn x)) (4, xK (sU S 13 (tn x) 5) G (tn x)) := by
      refine ⟨w1.1, ?_, w1.2.2⟩
      rw [w1.2.1]
      have eo : s_of (sU S 13 (tn x) 5) (tn x) = s_of S (tn x) := by unfold s_of; rw [e0 11 _ (by decide)]
      simp only [xK, e13, eo, e0 12 (tn x) (by decide), e0 16 (tn x) (by decide), e0 14 (tn x) (by decide)]
      rfl
    have r1 := r.w4 x1 i2 w2 (fun a j a1 _ _ => e0 a j a1) rfl (fun j e => ⟨by rw [up_at, if_neg (by omega)], e0 14 j (by decide), e0 16 j (by decide)⟩) (fun j => by
      show ((sU S 13 (tn x) 5).1 13 j = 1 ∨ (sU S 13 (tn x) 5).1 13 j = 2) ↔ (S.1 13 j = 1 ∨ S.1 13 j = 2)
      by_cases e : j = tn x
      · rw [e, e13, q]
        decide
      · rw [up_at, if_neg (by omega)]) (Or.inr (Or.inr ⟨by rw [e13]; decide, (hv.lev0 x1 x2 q).1⟩))
    exact hQ h1 G r1 (w1.cF (by omega) (by omega)).G
theorem c_top (r : RX h o S G) (hv : s_iv S nC nT nK) {i : Nat} (h1 : 1 ≤ i) (h2 : i ≤ nK) (ha : s_A S i) : am_gr h (G.2.2.1 i) 4 7 (G.2.2.2.2.1 i (s_lev S i)) ∧ h.1 (G.2.2.2.2.1 i (s_lev S i)) = some (3, xV S G i (s_lev S i)) ∧ h.1 (G.2.2.2.2.2 i (s_lev S i)) = some (100, xB S i (s_lev S i)) ∧ s_e S i = s_lev S i ∧ 1 ≤ s_lev S i ∧ s_lev S i ≤ 10 ∧ S.1 15 i = nI (s_lev S i) ∧ ¬ S.1 13 i = 0 := by
  have i2 : i ≤ s_nK S := by rw [hv.nK]; exact h2
  obtain ⟨a1, a2, a3, -⟩ := hv.2.2.2.2.2.2.2.2.2 i h1 h2
  have n0 : ¬ S.1 13 i = 0 := fun z => s_not_A z ha
  have ee : s_e S i = s_lev S i := by unfold s_e; rw [if_neg n0]
  have l1 := a3 ha
  have tk := r.task h1 i2
  have tp := (r.2.2.2.2.1.1 i h1 i2).2.2 (by rw [ee]; exact l1)
  rw [ee] at tp
  refine ⟨⟨_, tk, ?_⟩, r.lev h1 i2 l1 (by rw [ee]; exact Nat.le_refl _), r.lab h1 i2 l1 (by rw [ee]; exact Nat.le_refl _), ee, l1, a1, a2, n0⟩
  rw [← tp]
  rfl
theorem xB_get {i d k : Nat} (hk : k < 10) (h0 : ¬ S.1 13 i = 0) : (xB S i d)[k]? = some (.int (S.1 19 (10 * (11 * i + d) + k))) := by
  unfold xB
  rw [rg_get hk]
  unfold s_Lb
  rw [if_neg h0]
theorem c_handle (r : RX h o S G) (J : s_J S nC nT nK) {x k l : Int32} (hQ : cP o h Q (o_handle S x k l)) : am_Run (am_in 12 [.ref o, .int x, .int k, .int l] h) Q := by
  have hv := J.1
  refine B12_0 ⟨r.is, c_findTask r hv (fun hx => ?_) (fun hx => B12_5_1 ?_)⟩
  rotate_left
  · rw [o_handle, if_pos hx] at hQ
    exact hQ h G r cF.rf.G
  obtain ⟨x1, x2, x3⟩ := hv.T hx
  have i2 : tn x ≤ s_nK S := by rw [hv.nK]; exact x2
  have tk := r.task x1 i2
  rw [o_handle, if_neg (fun z => z hx)] at hQ
  have bad : (bd k 9 ∨ bd l 9999) → Q h (some (.int (-4))) := fun q => by
    rw [if_pos q] at hQ
    exact hQ h G r cF.rf.G
  refine B12_5 (c_isCondition (fun q => B12_19 ⟨fun z => absurd z k_one, fun _ => c_within (fun q2 => B12_29 ⟨fun _ => ⟨_, ⟨_, tk, rfl⟩, fun q3 => ?_, fun q3 => ?_⟩, fun z => absurd z k_one⟩) (fun q2 => B12_29 ⟨fun z => absurd rfl z, fun _ => bad (Or.inr q2)⟩)⟩) (fun q => B12_19 ⟨fun _ => bad (Or.inl q), fun z => absurd rfl z⟩))
  rotate_left
  · rw [if_neg (fun z => z.elim q q2), if_pos q3] at hQ
    exact hQ h G r cF.rf.G
  rw [if_neg (fun z => z.elim q q2), if_neg (fun z => z q3)] at hQ
  obtain ⟨k1, k2⟩ := bd_ix (n := 9) (by decide) q
  obtain ⟨gt, lv, lb, ee, l1, l10, l15, n0⟩ := c_top r hv x1 x2 (Or.inl q3)
  have lbo := (r.2.2.2.2.2.1 (tn x) (s_lev S (tn x)) x1 i2 l1 (by rw [ee]; exact Nat.le_refl _)).2.2.2
  have len : (xB S (tn x) (s_lev S (tn x))).length = 10 := by unfold xB; rw [List.length_map, List.length_range]
  have gl : am_gr h (G.2.2.2.2.1 (tn x) (s_lev S (tn x))) 3 3 (G.2.2.2.2.2 (tn x) (s_lev S (tn x))) := ⟨_, lv, rfl⟩
  refine ⟨_, gt, _, gl, _, ai_of lb k2 (by omega) (xB_get (by omega) n0), _, gt, _, gl, wi_of lb k2 (by rw [len]; omega) (by rw [len]; decide) (fun h1 w1 => B12_70 ?_)⟩
  have e0 : ∀ a j, a ≠ 19 → (sU S 19 (s_lx S (tn x) (tn k)) l).1 a j = S.1 a j := fun a j a1 => by rw [up_at, if_neg (by omega)]
  have w2 : wr h h1 (G.2.2.2.2.2 (tn x) (s_lev S (tn x))) (100, xB (sU S 19 (s_lx S (tn x) (tn k)) l) (tn x) (s_lev S (tn x))) := by
    refine ⟨w1.1, ?_, w1.2.2⟩
    rw [w1.2.1]
    unfold xB
    rw [rg_set (g' := fun j => Value.int (s_Lb (sU S 19 (s_lx S (tn x) (tn k)) l) (tn x) (s_lev S (tn x)) j))]
    intro j hj
    unfold s_Lb
    rw [e0 13 _ (by decide), if_neg n0, if_neg n0, up_at]
    unfold s_lx
    by_cases e : j = tn k
    · rw [if_pos e, if_pos ⟨rfl, by rw [e]⟩]
    · rw [if_neg e, if_neg (by omega)]
  have r1 := r.wB x1 i2 l1 (by rw [ee]; exact Nat.le_refl _) (fun j a b => by
    rw [hv.nK] at b
    have := (hv.2.2.2.2.2.2.2.2.2 j a b).1
    unfold s_e
    split <;> omega) w2 e0 (fun j hj => by
    rw [up_at, if_neg]
    unfold s_lx
    omega) rfl
  exact hQ h1 G r1 (w1.cF (by omega) (by omega)).G
theorem c_cond (r : RX h o S G) (J : s_J S nC nT nK) {x k : Int32} (hQ : cP o h Q (o_cond S x k)) : am_Run (am_in 13 [.ref o, .int x, .int k] h) Q := by
  have hv := J.1
  refine B13_0 ⟨r.is, c_findTask r hv (fun hx => ?_) (fun hx => B13_5_1 ?_)⟩
  rotate_left
  · rw [o_cond, if_pos hx] at hQ
    exact hQ h G r cF.rf.G
  obtain ⟨x1, x2, x3⟩ := hv.T hx
  have i2 : tn x ≤ s_nK S := by rw [hv.nK]; exact x2
  have tk := r.task x1 i2
  rw [o_cond, if_neg (fun z => z hx)] at hQ
  refine B13_5 (c_isCondition (fun q => B13_17 ⟨fun _ => ⟨_, ⟨_, tk, rfl⟩, fun q3 => ?_, fun q3 => ?_⟩, fun z => absurd z k_one⟩) (fun q => B13_17 ⟨fun z => absurd rfl z, fun _ => ?_⟩))
  rotate_left
  · rw [if_neg q, if_pos q3] at hQ
    exact hQ h G r cF.rf.G
  · rw [if_pos q] at hQ
    exact hQ h G r cF.rf.G
  rw [if_neg q, if_neg (fun z => z q3)] at hQ
  obtain ⟨k1, k2⟩ := bd_ix (n := 9) (by decide) q
  obtain ⟨gt, lv, lb, ee, l1, l10, l15, n0⟩ := c_top r hv x1 x2 (Or.inl q3)
  have gl : am_gr h (G.2.2.2.2.1 (tn x) (s_lev S (tn x))) 3 3 (G.2.2.2.2.2 (tn x) (s_lev S (tn x))) := ⟨_, lv, rfl⟩
  have fin : am_Run (13, 42, [some (.ref o), some (.int x), some (.int k), some (.ref (G.2.2.1 (tn x))), none], [.int (s_by S (tn x) k)], h) Q := by
    refine B13_42 ⟨fun z => ⟨r.is, ?_⟩, fun z => ?_⟩
    · rw [if_neg (fun y => y z)] at hQ
      exact c_leave r hv J.2.1 x1 x2 (Or.inl q3) (by decide) (by decide) (by decide) (fun h9 r9 f9 => B13_58 (hQ h9 G r9 f9.G))
    · rw [if_pos z] at hQ
      exact hQ h G r cF.rf.G
  have gk : am_ai h (G.2.2.2.2.2 (tn x) (s_lev S (tn x))) k (S.1 19 (s_lx S (tn x) (tn k))) := ai_of lb k2 (by omega) (xB_get (by omega) n0)
  have g0 : am_ai h (G.2.2.2.2.2 (tn x) (s_lev S (tn x))) 0 (S.1 19 (s_lx S (tn x) 0)) := ai_of lb (t := 0) rfl (by omega) (xB_get (by omega) n0)
  refine ⟨_, gt, ⟨_, lv⟩, B67_0 ⟨_, gl, _, gk, fun z => ⟨_, gl, _, g0, ?_⟩, fun z => ⟨_, gl, _, gk, ?_⟩⟩⟩
  · have e : s_by S (tn x) k = S.1 19 (s_lx S (tn x) 0) := by unfold s_by; rw [if_pos z]
    rw [e] at fin
    exact fin
  · have e : s_by S (tn x) k = S.1 19 (s_lx S (tn x) (tn k)) := by unfold s_by; rw [if_neg z]
    rw [e] at fin
    exact fin
theorem c_area (r : RX h o S G) (J : s_J S nC nT nK) {t : Int32} (hQ : cP o h Q (o_area S t)) : am_Run (am_in 7 [.ref o, .int t] h) Q := by
  refine B7_0 ⟨r.is, c_findTerminal r J.1 (fun hx => ?_) (fun hx => B7_5_1 ?_)⟩
  · obtain ⟨x1, x2, x3⟩ := J.1.M hx
    rw [o_area, if_pos hx] at hQ
    exact B7_5 ⟨_, ⟨_, r.term x1 (by rw [J.1.nT']; exact x2), rfl⟩, hQ h G r cF.rf.G⟩
  · rw [o_area, if_neg hx] at hQ
    exact hQ h G r cF.rf.G
theorem c_state (r : RX h o S G) (J : s_J S nC nT nK) {x : Int32} (hQ : cP o h Q (o_state S x)) : am_Run (am_in 14 [.ref o, .int x] h) Q := by
  refine B14_0 ⟨r.is, c_findTask r J.1 (fun hx => ?_) (fun hx => B14_5_1 ?_)⟩
  · obtain ⟨x1, x2, x3⟩ := J.1.T hx
    rw [o_state, if_pos hx] at hQ
    exact B14_5 ⟨_, ⟨_, r.task x1 (by rw [J.1.nK]; exact x2), rfl⟩, hQ h G r cF.rf.G⟩
  · rw [o_state, if_neg hx] at hQ
    exact hQ h G r cF.rf.G
theorem c_owner (r : RX h o S G) (J : s_J S nC nT nK) {t : Int32} (hQ : cP o h Q (o_owner S t)) : am_Run (am_in 16 [.ref o, .int t] h) Q := by
  refine B16_0 ⟨r.is, c_findTerminal r J.1 (fun hx => ?_) (fun hx => B16_5_1 ?_)⟩
  · obtain ⟨x1, x2, x3⟩ := J.1.M hx
    rw [o_owner, if_pos hx] at hQ
    have tm := r.term x1 (by rw [J.1.nT']; exact x2)
    have g : am_gi h (G.2.1 (tn t)) 2 3 (nI (s_own S t (s_nK S))) := by
      have : am_gi h (G.2.1 (tn t)) 2 3 (nI (s_own S (nI (tn t)) (s_nK S))) := ⟨_, tm, rfl⟩
      rw [← x3] at this
      exact this
    exact B16_5 ⟨_, g, hQ h G r cF.rf.G⟩
  · rw [o_owner, if_neg hx] at hQ
    exact hQ h G r cF.rf.G
theorem c_isActive (r : RX h o S G) {i : Nat} (h1 : 1 ≤ i) (h2 : i ≤ s_nK S) (k1 : s_A S i → Q h (some (.int 1))) (k0 : ¬ s_A S i → Q h (some (.int 0))) : am_Run (am_in 69 [.ref (G.2.2.1 i)] h) Q := by
  have tk := r.task h1 h2
  exact B69_0 ⟨_, ⟨_, tk, rfl⟩, fun a => B69_16 (k1 (Or.inl a)), fun a => ⟨_, ⟨_, tk, rfl⟩, fun b => k0 (fun z => z.elim a b), fun b => B69_16 (k1 (Or.inr b))⟩⟩
theorem c_told (r : RX h o S G) (J : s_J S nC nT nK) {x w : Int32} (hQ : cP o h Q (o_told S x w)) : am_Run (am_in 15 [.ref o, .int x, .int w] h) Q := by
  have hv := J.1
  refine B15_0 ⟨r.is, c_findTask r hv (fun hx => ?_) (fun hx => B15_5_1 ?_)⟩
  rotate_left
  · rw [o_told, if_pos hx] at hQ
    exact hQ h G r cF.rf.G
  obtain ⟨x1, x2, x3⟩ := hv.T hx
  have hT : nT ≤ 20 := hv.2.2.2.1
  have i2 : tn x ≤ s_nK S := by rw [hv.nK]; exact x2
  have tk := r.task x1 i2
  obtain ⟨a1, a2, a3, a4⟩ := hv.2.2.2.2.2.2.2.2.2 (tn x) x1 x2
  rw [o_told, if_neg (fun z => z hx)] at hQ
  refine B15_5 ⟨fun q => ?_, fun q => ?_, fun q => ?_, fun q => ?_, fun q => ?_, fun q => ?_, fun q => ?_⟩
  · obtain ⟨w0, w1, w2, w3, w4, w5⟩ := w_out q
    rw [if_neg w0, if_neg w1, if_neg w2, if_neg w3, if_neg w4, if_neg w5] at hQ
    exact hQ h G r cF.rf.G
  · have q : w = 0 := q
    rw [if_pos q] at hQ
    refine ⟨⟨_, tk⟩, c_isActive r x1 i2 (fun ha => B15_56 ⟨fun z => absurd z k_one, fun _ => ?_⟩) (fun ha => B15_56 ⟨fun _ => ?_, fun z => absurd rfl z⟩)⟩
    · obtain ⟨gt, lv, lb, ee, l1, l10, l15, n0⟩ := c_top r hv x1 x2 ha
      rw [l15] at hQ
      exact ⟨_, gt, _, ⟨_, lv, rfl⟩, hQ h G r cF.rf.G⟩
    · rw [a2, a4 ha] at hQ
      exact hQ h G r cF.rf.G
  · have q : w = 1 := q
    rw [if_neg (by rw [q]; decide), if_pos q] at hQ
    refine ⟨⟨_, tk⟩, c_isActive r x1 i2 (fun ha => B15_75 ⟨fun z => absurd z k_one, fun _ => ?_⟩) (fun ha => B15_75 ⟨fun _ => ?_, fun z => absurd rfl z⟩)⟩
    · obtain ⟨gt, lv, lb, ee, l1, l10, l15, n0⟩ := c_top r hv x1 x2 ha
      rw [if_neg (by rw [l15]; exact nI_ne0 (by omega) (by omega))] at hQ
      have gp : am_gi h (G.2.2.2.2.1 (tn x) (s_lev S (tn x))) 3 0 (S.1 18 (11 * tn x + s_lev S (tn x))) := ⟨_, lv, by
        unfold xV s_P
        rw [if_neg n0]
        rfl⟩
      exact ⟨_, gt, _, gp, hQ h G r cF.rf.G⟩
    · rw [if_pos (by rw [a2, a4 ha]; rfl)] at hQ
      exact hQ h G r cF.rf.G
  · have q : w = 2 := q
    rw [if_neg (by rw [q]; decide), if_neg (by rw [q]; decide), if_pos q] at hQ
    exact ⟨_, ⟨_, tk, rfl⟩, hQ h G r cF.rf.G⟩
  · have q : w = 3 := q
    rw [if_neg (by rw [q]; decide), if_neg (by rw [q]; decide), if_neg (by rw [q]; decide), if_pos q] at hQ
    obtain ⟨c1, c2, c3⟩ := hv.2.2.2.2.2.2.2.1 (tn x) x1 x2
    rw [c3] at hQ
    exact ⟨_, ⟨_, tk, rfl⟩, _, ⟨_, r.code c1 (by rw [hv.nC']; exact c2), rfl⟩, hQ h G r cF.rf.G⟩
  · have q : w = 4 := q
    rw [if_neg (by rw [q]; decide), if_neg (by rw [q]; decide), if_neg (by rw [q]; decide), if_neg (by rw [q]; decide), if_pos q] at hQ
    by_cases e3 : S.1 12 (tn x) = 0
    · rw [e3] at hQ
      exact Or.inl ⟨⟨_, tk, by unfold xK; rw [if_pos e3]; rfl⟩, hQ h G r cF.rf.G⟩
    · obtain ⟨t, t1, t2⟩ := hv.2.2.2.2.2.2.2.2.1 (tn x) x1 x2
      have tt : tn (S.1 12 (tn x)) = t := by rw [t2]; exact nI_clamp (by omega)
      have tpos : 1 ≤ t := by
        rcases Nat.eq_zero_or_pos t with z | z
        · exfalso; rw [z] at t2; exact e3 t2
        · exact z
      have gt : am_gr h (G.2.2.1 (tn x)) 4 2 (G.2.1 t) := ⟨_, tk, by unfold xK; rw [if_neg e3, tt]; rfl⟩
      rw [t2] at hQ
      exact Or.inr ⟨_, gt, Or.inr ⟨_, gt, _, ⟨_, r.term tpos (by rw [hv.nT']; exact t1), rfl⟩, hQ h G r cF.rf.G⟩⟩
  · have q : w = 5 := q
    rw [if_neg (by rw [q]; decide), if_neg (by rw [q]; decide), if_neg (by rw [q]; decide), if_neg (by rw [q]; decide), if_neg (by rw [q]; decide), if_pos q] at hQ
    exact ⟨_, ⟨_, tk, rfl⟩, hQ h G r cF.rf.G⟩
def s_cs (S : sS) (z : Int32) : Nat → Nat
  | 0 => 0
  | n + 1 => s_cs S z n + (if S.1 13 (n + 1) = z then 1 else 0)
theorem s_cs_le (S : sS) (z : Int32) : ∀ n, s_cs S z n ≤ n
  | 0 => Nat.le_refl _
  | n + 1 => by
    have := s_cs_le S z n
    rw [s_cs]
    split <;> omega
theorem s_cs_q (S : sS) : ∀ n, s_cs S 0 n = s_q S n
  | 0 => rfl
  | n + 1 => by rw [s_cs, s_q, s_cs_q S n]
theorem s_cs_ac (S : sS) : ∀ n, s_cs S 1 n + s_cs S 2 n = s_ac S n
  | 0 => rfl
  | n + 1 => by
    rw [s_cs, s_cs, s_ac, ← s_cs_ac S n]
    by_cases e1 : S.1 13 (n + 1) = 1
    · rw [if_pos e1, if_neg (by rw [e1]; decide), if_pos (Or.inl e1)]
      omega
    · by_cases e2 : S.1 13 (n + 1) = 2
      · rw [if_neg e1, if_pos e2, if_pos (Or.inr e2)]
        omega
      · rw [if_neg e1, if_neg e2, if_neg (fun w => w.elim e1 e2)]
        omega
theorem c_inState (r : RX h o S G) (hv : s_iv S nC nT nK) {z : Int32} (hQ : Q h (some (.int (nI (s_cs S z nK))))) : am_Run (am_in 19 [.ref o, .int z] h) Q := by
  have hK : nK ≤ 200 := hv.2.2.2.2.2.1
  have geti : ∀ i, i < nK → am_ar h (o + 3) (nI i) (G.2.2.1 (i + 1)) := fun i hi => ar_of r.2.1.2.2.2.1 (Or.inr (Or.inr rfl)) rfl (by omega) (xA_get (by omega) (by rw [hv.nK]; exact hi))
  have loop : ∀ (d i : Nat), i + d = nK → ∀ t3 : Option Value, (t3 = none ∨ ∃ y, t3 = some (.ref y)) → am_Run (19, 4, [some (.ref o), some (.int z), some (.int (nI (s_cs S z i))), some (.int (nI i)), t3], [], h) Q := by
    intro d
    induction d with
    | zero =>
      intro i hi t3 ht
      have e : i = nK := by omega
      subst e
      have lt : S.1 3 0 ≤ nI i := by rw [hv.2.2.2.2.1]; exact nI_le (by omega) (by omega)
      rcases ht with rfl | ⟨y, rfl⟩
      · exact B19_4 ⟨_, r.g7, fun _ => hQ, fun q => absurd lt q⟩
      · exact B19_4_1 ⟨_, r.g7, fun _ => hQ, fun q => absurd lt q⟩
    | succ d ih =>
      intro i hi t3 ht
      have nlt : ¬ S.1 3 0 ≤ nI i := by rw [hv.2.2.2.2.1]; exact nI_ge (by omega) (by omega)
      have tk := r.task (i := i + 1) (by omega) (by rw [hv.nK]; omega)
      have nx := ih (i + 1) (by omega) (some (.ref (G.2.2.1 (i + 1)))) (Or.inr ⟨_, rfl⟩)
      have s0 : ¬ S.1 13 (i + 1) = z → am_Run (19, 37, [some (.ref o), some (.int z), some (.int (nI (s_cs S z i))), some (.int (nI i)), some (.ref (G.2.2.1 (i + 1)))], [], h) Q := fun q => by
        refine B19_37 ?_
        rw [s_cs, if_neg q] at nx
        rw [nI_1]
        exact nx
      have s1 : S.1 13 (i + 1) = z → am_Run (19, 37, [some (.ref o), some (.int z), some (.int (nI (s_cs S z i) + 1)), some (.int (nI i)), some (.ref (G.2.2.1 (i + 1)))], [], h) Q := fun q => by
        refine B19_37 ?_
        rw [s_cs, if_pos q] at nx
        rw [nI_1, nI_1]
        exact nx
      rcases ht with rfl | ⟨y, rfl⟩
      · exact B19_4 ⟨_, r.g7, fun q => absurd q nlt, fun _ => ⟨_, r.g2, _, geti i (by omega), _, ⟨_, tk, rfl⟩, s0, s1⟩⟩
      · exact B19_4_1 ⟨_, r.g7, fun q => absurd q nlt, fun _ => ⟨_, r.g2, _, geti i (by omega), _, ⟨_, tk, rfl⟩, s0, s1⟩⟩
  exact B19_0 (loop nK 0 (by omega) none (Or.inl rfl))
theorem c_allStorage (r : RX h o S G) (hv : s_iv S nC nT nK) (hQ : Q h (some (.int (s_sum S nK)))) : am_Run (am_in 20 [.ref o] h) Q := by
  have hK : nK ≤ 200 := hv.2.2.2.2.2.1
  have geti : ∀ i, i < nK → am_ar h (o + 3) (nI i) (G.2.2.1 (i + 1)) := fun i hi => ar_of r.2.1.2.2.2.1 (Or.inr (Or.inr rfl)) rfl (by omega) (xA_get (by omega) (by rw [hv.nK]; exact hi))
  have loop : ∀ (d i : Nat), i + d = nK → ∀ t3 : Option Value, (t3 = none ∨ ∃ y, t3 = some (.ref y)) → am_Run (20, 4, [some (.ref o), some (.int (s_sum S i)), some (.int (nI i)), t3], [], h) Q := by
    intro d
    induction d with
    | zero =>
      intro i hi t3 ht
      have e : i = nK := by omega
      subst e
      have lt : S.1 3 0 ≤ nI i := by rw [hv.2.2.2.2.1]; exact nI_le (by omega) (by omega)
      rcases ht with rfl | ⟨y, rfl⟩
      · exact B20_4 ⟨_, r.g7, fun _ => hQ, fun q => absurd lt q⟩
      · exact B20_4_1 ⟨_, r.g7, fun _ => hQ, fun q => absurd lt q⟩
    | succ d ih =>
      intro i hi t3 ht
      have nlt : ¬ S.1 3 0 ≤ nI i := by rw [hv.2.2.2.2.1]; exact nI_ge (by omega) (by omega)
      have tk := r.task (i := i + 1) (by omega) (by rw [hv.nK]; omega)
      have nx := ih (i + 1) (by omega) (some (.ref (G.2.2.1 (i + 1)))) (Or.inr ⟨_, rfl⟩)
      have s1 : am_Run (20, 30, [some (.ref o), some (.int (s_sum S i + S.1 16 (i + 1))), some (.int (nI i)), some (.ref (G.2.2.1 (i + 1)))], [], h) Q := by
        refine B20_30 ?_
        rw [nI_1]
        exact nx
      rcases ht with rfl | ⟨y, rfl⟩
      · exact B20_4 ⟨_, r.g7, fun q => absurd q nlt, fun _ => ⟨_, r.g2, _, geti i (by omega), _, ⟨_, tk, rfl⟩, s1⟩⟩
      · exact B20_4_1 ⟨_, r.g7, fun q => absurd q nlt, fun _ => ⟨_, r.g2, _, geti i (by omega), _, ⟨_, tk, rfl⟩, s1⟩⟩
  exact B20_0 (loop nK 0 (by omega) none (Or.inl rfl))
theorem lt10 {x : Int32} : x < 10 ↔ ¬ 9 < x := by
  rw [Int32.lt_iff_toInt_lt, Int32.lt_iff_toInt_lt]
  have a : (10 : Int32).toInt = 10 := by decide
  have b : (9 : Int32).toInt = 9 := by decide
  omega
theorem sub10 {x : Int32} (h1 : 9 < x) (h2 : x < 20) : x - 10 = nI (tn x - 10) ∧ tn x - 10 < 10 := by
  obtain ⟨a, b⟩ := bd_ix (x := x) (n := 19) (by decide) (by
    rintro (z | z)
    · have p := Int32.lt_iff_toInt_lt.mp h1
      have q := Int32.lt_iff_toInt_lt.mp z
      have e1 : (9 : Int32).toInt = 9 := by decide
      have e2 : (0 : Int32).toInt = 0 := by decide
      omega
    · have p := Int32.lt_iff_toInt_lt.mp h2
      have q := Int32.lt_iff_toInt_lt.mp z
      have e1 : (20 : Int32).toInt = 20 := by decide
      have e2 : (nI 19).toInt = 19 := by decide
      omega)
  have c : 10 ≤ tn x := by
    have p : nI 9 < nI (tn x) := by rw [← b]; exact h1
    have := (nI_ltI (by decide) (by omega)).mp p
    omega
  refine ⟨?_, by omega⟩
  have e := pk_sub (a := tn x) (b := 10) c
  rw [← b] at e
  exact e
theorem c_count (r : RX h o S G) (J : s_J S nC nT nK) {w : Int32} (hQ : cP o h Q (o_count S w)) : am_Run (am_in 17 [.ref o, .int w] h) Q := by
  have hv := J.1
  have hK : nK ≤ 200 := hv.2.2.2.2.2.1
  rw [o_count, hv.nK] at hQ
  refine B17_0 ⟨fun q => ⟨r.is, ?_⟩, fun q => ?_, fun q => ?_, fun q => ?_, fun q => ?_, fun q => ?_, fun q => ?_⟩
  · obtain ⟨w0, w1, w2, w3, w4, w5⟩ := w_out q
    rw [if_neg w0, if_neg w1, if_neg w2, if_neg w3, if_neg w4, if_neg w5] at hQ
    refine B18_0 ⟨fun z => B17_83 ?_, fun z => ⟨fun y => ?_, fun y => B17_83 ?_⟩⟩
    · rw [if_neg (fun u => lt10.mp z u.1)] at hQ
      exact hQ h G r cF.rf.G
    · have h9 : 9 < w := Classical.not_not.mp (fun u => z (lt10.mpr u))
      rw [if_pos ⟨h9, y⟩] at hQ
      obtain ⟨e1, e2⟩ := sub10 h9 y
      have g : am_ai h (o + 5) (w - 10) (nI (s_cnt S (w - 10) nK)) := ai_of r.2.1.2.2.2.2.2 e1 (by omega) (by
        unfold xN
        rw [rg_get e2, hv.nK, ← e1])
      exact ⟨_, r.g4, _, g, B17_83 (hQ h G r cF.rf.G)⟩
    · rw [if_neg (fun u => y u.2)] at hQ
      exact hQ h G r cF.rf.G
  · have q : w = 0 := q
    rw [if_pos q] at hQ
    exact ⟨_, r.g5, hQ h G r cF.rf.G⟩
  · have q : w = 1 := q
    rw [if_neg (by rw [q]; decide), if_pos q] at hQ
    exact ⟨_, r.g6, hQ h G r cF.rf.G⟩
  · have q : w = 2 := q
    rw [if_neg (by rw [q]; decide), if_neg (by rw [q]; decide), if_pos q] at hQ
    exact ⟨_, r.g7, hQ h G r cF.rf.G⟩
  · have q : w = 3 := q
    rw [if_neg (by rw [q]; decide), if_neg (by rw [q]; decide), if_neg (by rw [q]; decide), if_pos q] at hQ
    refine ⟨r.is, c_inState r hv (B17_60 ?_)⟩
    rw [s_cs_q]
    exact hQ h G r cF.rf.G
  · have q : w = 4 := q
    rw [if_neg (by rw [q]; decide), if_neg (by rw [q]; decide), if_neg (by rw [q]; decide), if_neg (by rw [q]; decide), if_pos q] at hQ
    refine ⟨r.is, c_inState r hv (B17_66 ⟨r.is, c_inState r hv (B17_71 ?_)⟩)⟩
    rw [nI_add, s_cs_ac]
    exact hQ h G r cF.rf.G
  · have q : w = 5 := q
    rw [if_neg (by rw [q]; decide), if_neg (by rw [q]; decide), if_neg (by rw [q]; decide), if_neg (by rw [q]; decide), if_neg (by rw [q]; decide), if_pos q] at hQ
    exact ⟨r.is, c_allStorage r hv (B17_77 (hQ h G r cF.rf.G))⟩
end Class7
