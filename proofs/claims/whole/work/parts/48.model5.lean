/-! The reference's calls, to the end. -/
section Model5
variable {h : am_H} {m : Nat} {S : sS} {Q : am_H → Option Value → Prop} {nC nT nK : Nat}
theorem m_back (hM : RM h.1 m S) (hv : s_iv S nC nT nK) {x n a : Int32} (hQ : mP m h Q (o_back S x n a)) : am_Run (am_in 54 [.ref m, .int x, .int n, .int a] h) Q := by
  refine B54_0 (hM.w0 (fun h1 hM1 hF1 => B54_5 ⟨hM1.is, m_isTask hM1 (fun hx => ?_) (fun hx => B54_10 ⟨fun q => absurd rfl q, fun _ => ?_⟩)⟩))
  rotate_left
  · rw [o_back, if_pos hx] at hQ
    exact hQ h1 hM1 hF1
  obtain ⟨x1, x2, x3⟩ := hv.T hx
  have hK : nK ≤ 200 := hv.2.2.2.2.2.1
  have hT : nT ≤ 20 := hv.2.2.2.1
  have hb : tn x < 201 := by omega
  obtain ⟨t, t1, t2⟩ := hv.2.2.2.2.2.2.2.2.1 (tn x) x1 x2
  have tt : S.1 12 (tn x) = nI (tn (S.1 12 (tn x))) ∧ tn (S.1 12 (tn x)) < 21 := by
    unfold tn
    rw [t2, nI_clamp (by omega)]
    exact ⟨rfl, by omega⟩
  rw [o_back, if_neg (fun z => z hx)] at hQ
  have bad : ((¬ n = 0 ∧ ¬ isC S n) ∨ bd a 9999) → Q h1 (some (.int (-4))) := fun q => by
    rw [if_pos q] at hQ
    exact hQ h1 hM1 hF1
  have go : (n = 0 ∨ isC S n) → am_Run (54, 28, [some (.ref m), some (.int x), some (.int n), some (.int a), none], [], h1) Q := by
    intro hn
    refine B54_28 ⟨fun q => bad (Or.inr (Or.inl q)), fun q1 => ⟨fun q2 => ?_, fun q => bad (Or.inr (Or.inr (k2_lt q)))⟩⟩
    have ok : ¬ ((¬ n = 0 ∧ ¬ isC S n) ∨ bd a 9999) := by
      rintro (z | z)
      · exact hn.elim z.1 z.2
      · exact z.elim q1 (fun y => k2_nle y q2)
    rw [if_neg ok] at hQ
    refine ⟨_, hM1.g13, _, hM1.ai' 13 (by decide) (by decide) (by decide) x3 hb, fun q3 => ?_, fun q3 => ?_⟩
    rotate_left
    · rw [if_pos q3] at hQ
      exact hQ h1 hM1 hF1
    rw [if_neg (fun z => z q3)] at hQ
    have fin : ∀ (h2 : am_H) (S2 : sS) (y : Int32), RM h2.1 m S2 → s_iv S2 nC nT nK → mF m h h2 → (∀ h', RM h'.1 m (s_end S2 (tn x) 3) → mF m h h' → Q h' (some (.int 1))) → am_Run (54, 147, [some (.ref m), some (.int x), some (.int n), some (.int a), some (.int y)], [], h2) Q := by
      intro h2 S2 y hM2 hv2 hF2 hq
      exact B54_147 ⟨hM2.is, m_end hM2 hv2 x3 (by omega) (by decide) (by decide) (fun h3 hM3 hF3 => B54_153 (hq h3 hM3 (hF2.tr hF3)))⟩
    have low : ∀ y : Int32, (y = 0 ↔ ¬ s_kp S (tn x)) → ¬ (¬ s_kp S (tn x) ∧ (¬ n = 0 ∨ ¬ a = 0)) → am_Run (54, 96, [some (.ref m), some (.int x), some (.int n), some (.int a), some (.int y)], [], h1) Q := by
      intro y hy ok2
      rw [if_neg ok2] at hQ
      refine B54_96 ⟨_, hM1.g15, _, hM1.ai' 15 (by decide) (by decide) (by decide) x3 hb, fun q4 => ⟨fun q5 => ?_, fun q5 => ?_⟩, fun q4 => ?_⟩
      · rw [if_neg (fun z => z q4)] at hQ
        refine fin h1 S y hM1 hv hF1 (fun h' a1 a2 => hQ h' ?_ a2)
        rw [s_kept, if_neg (hy.mp q5)]
        exact a1
      · rw [if_neg (fun z => z q4)] at hQ
        have kp : s_kp S (tn x) := Classical.not_not.mp (fun z => q5 (hy.mpr z))
        refine ⟨_, hM1.g8, _, hM1.g12, _, hM1.ai' 12 (by decide) (by decide) (by decide) x3 hb, hM1.wi' 8 (by decide) (by decide) (by decide) tt.1 tt.2 (fun h2 hM2 hF2 => B54_135 ⟨_, hM2.g9, _, hM2.g12, _, hM2.ai' 12 (by decide) (by decide) (by decide) x3 hb, ?_⟩)⟩
        refine hM2.wi' 9 (by decide) (by decide) (by decide) tt.1 tt.2 (fun h3 hM3 hF3 => ?_)
        refine fin h3 _ y hM3 ((hv.u8 8 (Or.inl rfl) _ _).u8 9 (Or.inr (Or.inl rfl)) _ _) ((hF1.tr hF2).tr hF3) (fun h' a1 a2 => hQ h' ?_ a2)
        rw [s_kept, if_pos kp]
        exact a1
      · rw [if_pos q4] at hQ
        exact ⟨_, hM1.g15, _, hM1.ai' 15 (by decide) (by decide) (by decide) x3 hb, hM1.wi' 15 (by decide) (by decide) (by decide) x3 hb (fun h2 hM2 hF2 => B54_116 (hQ h2 hM2 (hF1.tr hF2)))⟩
    have nok : ¬ s_kp S (tn x) → am_Run (54, 78, [some (.ref m), some (.int x), some (.int n), some (.int a), none], [], h1) Q := by
      intro nk
      have zero : (¬ n = 0 ∨ ¬ a = 0) → Q h1 (some (.int 0)) := fun z => by
        rw [if_pos ⟨nk, z⟩] at hQ
        exact hQ h1 hM1 hF1
      refine B54_78 (B54_79 ⟨fun z => absurd rfl z, fun _ => ⟨fun z => zero (Or.inl z), fun z => ⟨fun y => low 0 ⟨fun _ => nk, fun _ => rfl⟩ ?_, fun y => zero (Or.inr y)⟩⟩⟩)
      rintro ⟨-, w | w⟩
      · exact w z
      · exact w y
    refine ⟨_, hM1.g15, _, hM1.ai' 15 (by decide) (by decide) (by decide) x3 hb, fun q4 => nok (fun z => q4 z.1), fun q4 => ⟨_, hM1.g12, _, hM1.ai' 12 (by decide) (by decide) (by decide) x3 hb, fun q5 => nok (fun z => z.2 q5), fun q5 => B54_79 ⟨fun _ => low 1 ⟨fun z => absurd z k_one, fun z => absurd ⟨q4, q5⟩ z⟩ (fun z => z.1 ⟨q4, q5⟩), fun z => absurd z k_one⟩⟩⟩
  exact B54_10 ⟨fun _ => ⟨fun q => go (Or.inl q), fun q => ⟨hM1.is, m_isCode hM1 (fun z => B54_25 ⟨fun y => absurd y k_one, fun _ => go (Or.inr z)⟩) (fun z => B54_25 ⟨fun _ => bad (Or.inl ⟨q, z⟩), fun y => absurd rfl y⟩)⟩⟩, fun q => absurd q k_one⟩
theorem m_purge (hM : RM h.1 m S) (hv : s_iv S nC nT nK) {x : Int32} (hQ : mP m h Q (o_purge S x)) : am_Run (am_in 55 [.ref m, .int x] h) Q := by
  refine B55_0 (hM.w0 (fun h1 hM1 hF1 => B55_5 ⟨hM1.is, m_isTask hM1 (fun hx => ?_) (fun hx => B55_10 ⟨fun q => absurd rfl q, fun _ => ?_⟩)⟩))
  rotate_left
  · rw [o_purge, if_pos hx] at hQ
    exact hQ h1 hM1 hF1
  obtain ⟨x1, x2, x3⟩ := hv.T hx
  have hK : nK ≤ 200 := hv.2.2.2.2.2.1
  have hb : tn x < 201 := by omega
  rw [o_purge, if_neg (fun z => z hx)] at hQ
  have fin : ¬ (¬ S.1 13 (tn x) = 0 ∧ ¬ S.1 13 (tn x) = 2) → am_Run (55, 37, [some (.ref m), some (.int x)], [], h1) Q := by
    intro ok
    rw [if_neg ok] at hQ
    exact B55_37 ⟨hM1.is, m_end hM1 hv x3 (by omega) (by decide) (by decide) (fun h3 hM3 hF3 => B55_43 (hQ h3 hM3 (hF1.tr hF3)))⟩
  refine B55_10 ⟨fun _ => ⟨_, hM1.g13, _, hM1.ai' 13 (by decide) (by decide) (by decide) x3 hb, fun q => fin (fun z => z.1 q), fun q => ⟨_, hM1.g13, _, hM1.ai' 13 (by decide) (by decide) (by decide) x3 hb, fun q2 => fin (fun z => z.2 q2), fun q2 => ?_⟩⟩, fun q => absurd q k_one⟩
  rw [if_pos ⟨q, q2⟩] at hQ
  exact hQ h1 hM1 hF1
theorem m_storage (hM : RM h.1 m S) (hv : s_iv S nC nT nK) {x n : Int32} (hQ : mP m h Q (o_storage S x n)) : am_Run (am_in 56 [.ref m, .int x, .int n] h) Q := by
  refine B56_0 (hM.w0 (fun h1 hM1 hF1 => B56_5 ⟨hM1.is, m_isTask hM1 (fun hx => ?_) (fun hx => B56_10 ⟨fun q => absurd rfl q, fun _ => ?_⟩)⟩))
  rotate_left
  · rw [o_storage, if_pos hx] at hQ
    exact hQ h1 hM1 hF1
  obtain ⟨x1, x2, x3⟩ := hv.T hx
  have hK : nK ≤ 200 := hv.2.2.2.2.2.1
  have hb : tn x < 201 := by omega
  rw [o_storage, if_neg (fun z => z hx)] at hQ
  have bad : bd n 10000 → Q h1 (some (.int (-4))) := fun q => by
    rw [if_pos q] at hQ
    exact hQ h1 hM1 hF1
  refine B56_10 ⟨fun _ => ⟨fun q => bad (Or.inl q), fun q1 => ⟨fun q2 => ⟨hM1.is, ?_⟩, fun q => bad (Or.inr (k2_lt q))⟩⟩, fun q => absurd q k_one⟩
  rw [if_neg (fun z => z.elim q1 (fun y => k2_nle y q2))] at hQ
  have ma := m_isActive hM1 (i := tn x) hb (Q := fun h2 v => am_Run (am_bk (56, 35, [some (.ref m), some (.int x), some (.int n)], [], h1) h2 v) Q) (fun ha => B56_35 ⟨fun _ => ⟨_, hM1.g16, _, hM1.ai' 16 (by decide) (by decide) (by decide) x3 hb, fun q3 => ⟨_, hM1.g16, _, hM1.ai' 16 (by decide) (by decide) (by decide) x3 hb, hM1.wi' 16 (by decide) (by decide) (by decide) x3 hb (fun h2 hM2 hF2 => B56_67 ⟨_, hM2.g16, _, hM2.ai' 16 (by decide) (by decide) (by decide) x3 hb, ?_⟩)⟩, fun q3 => ?_⟩, fun q => absurd q k_one⟩) (fun ha => B56_35 ⟨fun q => absurd rfl q, fun _ => ?_⟩)
  · rw [← x3] at ma
    exact ma
  · rw [if_neg (fun z => z ha), if_neg (fun z => z q3)] at hQ
    have e : (sU S 16 (tn x) (S.1 16 (tn x) + n)).1 16 (tn x) = S.1 16 (tn x) + n := by
      show s_up _ _ _ _ _ _ = _
      unfold s_up
      rw [if_pos ⟨rfl, rfl⟩]
    rw [e]
    exact hQ h2 hM2 (hF1.tr hF2)
  · rw [if_neg (fun z => z ha), if_pos q3] at hQ
    exact hQ h1 hM1 hF1
  · rw [if_pos ha] at hQ
    exact hQ h1 hM1 hF1
theorem m_labelAt (hM : RM h.1 m S) {x k : Int32} {i d : Nat} (ex : x = nI i) (hb : i < 201) (h15 : S.1 15 i = nI (s_lev S i)) (ek : k = nI d) (hQ : Q h (some (.int (nI (s_lx S i d))))) : am_Run (am_in 57 [.ref m, .int x, .int k] h) Q := by
  subst ex; subst ek
  refine B57_0 ⟨_, hM.g15, _, hM.ai 15 (by decide) (by decide) (by decide) hb, m_of (B57_12 ?_)⟩
  rw [h15, nI_of11, nI_10]
  exact hQ
theorem m_handle (hM : RM h.1 m S) (hv : s_iv S nC nT nK) {x k l : Int32} (hQ : mP m h Q (o_handle S x k l)) : am_Run (am_in 58 [.ref m, .int x, .int k, .int l] h) Q := by
  refine B58_0 (hM.w0 (fun h1 hM1 hF1 => B58_5 ⟨hM1.is, m_isTask hM1 (fun hx => ?_) (fun hx => B58_10 ⟨fun q => absurd rfl q, fun _ => ?_⟩)⟩))
  rotate_left
  · rw [o_handle, if_pos hx] at hQ
    exact hQ h1 hM1 hF1
  obtain ⟨x1, x2, x3⟩ := hv.T hx
  have hK : nK ≤ 200 := hv.2.2.2.2.2.1
  have hb : tn x < 201 := by omega
  obtain ⟨l1, l2, l3, l4⟩ := hv.2.2.2.2.2.2.2.2.2 (tn x) x1 x2
  rw [o_handle, if_neg (fun z => z hx)] at hQ
  have bad : (bd k 9 ∨ bd l 9999) → Q h1 (some (.int (-4))) := fun q => by
    rw [if_pos q] at hQ
    exact hQ h1 hM1 hF1
  refine B58_10 ⟨fun _ => ⟨fun q => bad (Or.inl (Or.inl q)), fun q1 => ⟨fun q => bad (Or.inl (Or.inr q)), fun q2 => ⟨fun q => bad (Or.inr (Or.inl q)), fun q3 => ⟨fun q4 => ?_, fun q => bad (Or.inr (Or.inr (k2_lt q)))⟩⟩⟩⟩, fun q => absurd q k_one⟩
  have nk : ¬ bd k 9 := fun z => z.elim q1 q2
  obtain ⟨k1, k2⟩ := bd_ix (n := 9) (by decide) nk
  rw [if_neg (fun z => z.elim nk (fun y => y.elim q3 (fun w => k2_nle w q4)))] at hQ
  have lb : s_lx S (tn x) (tn k) < 22110 := by unfold s_lx; omega
  refine ⟨_, hM1.g13, _, hM1.ai' 13 (by decide) (by decide) (by decide) x3 hb, fun q5 => ⟨_, hM1.g19, hM1.is, m_labelAt hM1 x3 hb l2 k2 (B58_63 ⟨_, hM1.ai 19 (by decide) (by decide) (by decide) lb, _, hM1.g19, hM1.is, m_labelAt hM1 x3 hb l2 k2 (B58_76 (hM1.wi 19 (by decide) (by decide) (by decide) lb (fun h2 hM2 hF2 => B58_78 ?_)))⟩)⟩, fun q5 => ?_⟩
  · rw [if_neg (fun z => z q5)] at hQ
    exact hQ h2 hM2 (hF1.tr hF2)
  · rw [if_pos q5] at hQ
    exact hQ h1 hM1 hF1
theorem m_cond (hM : RM h.1 m S) (hv : s_iv S nC nT nK) {x k : Int32} (hQ : mP m h Q (o_cond S x k)) : am_Run (am_in 59 [.ref m, .int x, .int k] h) Q := by
  refine B59_0 (hM.w0 (fun h1 hM1 hF1 => B59_5 ⟨hM1.is, m_isTask hM1 (fun hx => ?_) (fun hx => B59_10 ⟨fun q => absurd rfl q, fun _ => ?_⟩)⟩))
  rotate_left
  · rw [o_cond, if_pos hx] at hQ
    exact hQ h1 hM1 hF1
  obtain ⟨x1, x2, x3⟩ := hv.T hx
  have hK : nK ≤ 200 := hv.2.2.2.2.2.1
  have hb : tn x < 201 := by omega
  obtain ⟨l1, l2, l3, l4⟩ := hv.2.2.2.2.2.2.2.2.2 (tn x) x1 x2
  rw [o_cond, if_neg (fun z => z hx)] at hQ
  have bad : bd k 9 → Q h1 (some (.int (-4))) := fun q => by
    rw [if_pos q] at hQ
    exact hQ h1 hM1 hF1
  refine B59_10 ⟨fun _ => ⟨fun q => bad (Or.inl q), fun q1 => ⟨fun q2 => ?_, fun q => bad (Or.inr (k2_lt q))⟩⟩, fun q => absurd q k_one⟩
  have nk : ¬ bd k 9 := fun z => z.elim q1 (fun y => k2_nle y q2)
  obtain ⟨k1, k2⟩ := bd_ix (n := 9) (by decide) nk
  rw [if_neg nk] at hQ
  have lb : s_lx S (tn x) (tn k) < 22110 := by unfold s_lx; omega
  have lb0 : s_lx S (tn x) 0 < 22110 := by unfold s_lx; omega
  refine ⟨_, hM1.g13, _, hM1.ai' 13 (by decide) (by decide) (by decide) x3 hb, fun q5 => ⟨_, hM1.g19, hM1.is, ?_⟩, fun q5 => ?_⟩
  rotate_left
  · rw [if_pos q5] at hQ
    exact hQ h1 hM1 hF1
  rw [if_neg (fun z => z q5)] at hQ
  have fin : ∀ (y : Int32), am_Run (59, 73, [some (.ref m), some (.int x), some (.int k), some (.int y), none], [.int (s_by S (tn x) k)], h1) Q := by
    intro y
    refine B59_73 ⟨fun q => ⟨hM1.is, m_end hM1 hv x3 (by omega) (by decide) (by decide) (fun h3 hM3 hF3 => B59_89 ?_)⟩, fun q => ?_⟩
    · rw [if_neg (fun z => z q)] at hQ
      exact hQ h3 hM3 (hF1.tr hF3)
    · rw [if_pos q] at hQ
      exact hQ h1 hM1 hF1
  refine m_labelAt hM1 x3 hb l2 k2 (B59_52 ⟨_, hM1.ai 19 (by decide) (by decide) (by decide) lb, fun q => ⟨_, hM1.g19, hM1.is, m_labelAt hM1 x3 hb l2 (d := 0) rfl (B59_72 ⟨_, hM1.ai 19 (by decide) (by decide) (by decide) lb0, ?_⟩)⟩, fun q => ?_⟩)
  · have e : s_by S (tn x) k = S.1 19 (s_lx S (tn x) 0) := by unfold s_by; rw [if_pos q]
    rw [← e]
    exact fin _
  · have e : s_by S (tn x) k = S.1 19 (s_lx S (tn x) (tn k)) := by unfold s_by; rw [if_neg q]
    have f2 := fin (S.1 19 (s_lx S (tn x) (tn k)))
    rw [e] at f2
    exact f2
theorem m_area (hM : RM h.1 m S) (hv : s_iv S nC nT nK) {t : Int32} (hQ : mP m h Q (o_area S t)) : am_Run (am_in 60 [.ref m, .int t] h) Q := by
  refine B60_0 (hM.w0 (fun h1 hM1 hF1 => B60_5 ⟨hM1.is, m_isTerminal hM1 (fun hx => B60_10 ⟨fun q => absurd q k_one, fun _ => ?_⟩) (fun hx => B60_10 ⟨fun _ => ?_, fun q => absurd rfl q⟩)⟩))
  · obtain ⟨x1, x2, x3⟩ := hv.M hx
    have hT : nT ≤ 20 := hv.2.2.2.1
    rw [o_area, if_pos hx] at hQ
    exact ⟨_, hM1.g9, _, hM1.ai' 9 (by decide) (by decide) (by decide) x3 (by show tn t < 21; omega), hQ h1 hM1 hF1⟩
  · rw [o_area, if_neg hx] at hQ
    exact hQ h1 hM1 hF1
theorem m_state (hM : RM h.1 m S) (hv : s_iv S nC nT nK) {x : Int32} (hQ : mP m h Q (o_state S x)) : am_Run (am_in 61 [.ref m, .int x] h) Q := by
  refine B61_0 (hM.w0 (fun h1 hM1 hF1 => B61_5 ⟨hM1.is, m_isTask hM1 (fun hx => B61_10 ⟨fun q => absurd q k_one, fun _ => ?_⟩) (fun hx => B61_10 ⟨fun _ => ?_, fun q => absurd rfl q⟩)⟩))
  · obtain ⟨x1, x2, x3⟩ := hv.T hx
    have hK : nK ≤ 200 := hv.2.2.2.2.2.1
    rw [o_state, if_pos hx] at hQ
    exact ⟨_, hM1.g13, _, hM1.ai' 13 (by decide) (by decide) (by decide) x3 (by show tn x < 201; omega), hQ h1 hM1 hF1⟩
  · rw [o_state, if_neg hx] at hQ
    exact hQ h1 hM1 hF1
theorem m_owner (hM : RM h.1 m S) (hv : s_iv S nC nT nK) {t : Int32} (hQ : mP m h Q (o_owner S t)) : am_Run (am_in 63 [.ref m, .int t] h) Q := by
  refine B63_0 (hM.w0 (fun h1 hM1 hF1 => B63_5 ⟨hM1.is, m_isTerminal hM1 (fun hx => B63_10 ⟨fun q => absurd q k_one, fun _ => ⟨hM1.is, m_ownerOf hM1 hv (B63_18 ?_)⟩⟩) (fun hx => B63_10 ⟨fun _ => ?_, fun q => absurd rfl q⟩)⟩))
  · rw [o_owner, if_pos hx, hv.nK] at hQ
    exact hQ h1 hM1 hF1
  · rw [o_owner, if_neg hx] at hQ
    exact hQ h1 hM1 hF1
theorem w_out {w : Int32} (q : w.toInt < 0 ∨ 5 < w.toInt) : ¬ w = 0 ∧ ¬ w = 1 ∧ ¬ w = 2 ∧ ¬ w = 3 ∧ ¬ w = 4 ∧ ¬ w = 5 := by
  refine ⟨?_, ?_, ?_, ?_, ?_, ?_⟩ <;> (rintro rfl; revert q; decide)
theorem m_told (hM : RM h.1 m S) (hv : s_iv S nC nT nK) {x w : Int32} (hQ : mP m h Q (o_told S x w)) : am_Run (am_in 62 [.ref m, .int x, .int w] h) Q := by
  refine B62_0 (hM.w0 (fun h1 hM1 hF1 => B62_5 ⟨hM1.is, m_isTask hM1 (fun hx => ?_) (fun hx => B62_10 ⟨fun q => absurd rfl q, fun _ => ?_⟩)⟩))
  rotate_left
  · rw [o_told, if_pos hx] at hQ
    exact hQ h1 hM1 hF1
  obtain ⟨x1, x2, x3⟩ := hv.T hx
  have hK : nK ≤ 200 := hv.2.2.2.2.2.1
  have hb : tn x < 201 := by omega
  obtain ⟨l1, l2, l3, l4⟩ := hv.2.2.2.2.2.2.2.2.2 (tn x) x1 x2
  rw [o_told, if_neg (fun z => z hx)] at hQ
  refine B62_10 ⟨fun _ => ⟨fun q => ?_, fun q => ?_, fun q => ?_, fun q => ?_, fun q => ?_, fun q => ?_, fun q => ?_⟩, fun q => absurd q k_one⟩
  · obtain ⟨w0, w1, w2, w3, w4, w5⟩ := w_out q
    rw [if_neg w0, if_neg w1, if_neg w2, if_neg w3, if_neg w4, if_neg w5] at hQ
    exact hQ h1 hM1 hF1
  · have q : w = 0 := q
    rw [if_pos q] at hQ
    exact ⟨_, hM1.g15, _, hM1.ai' 15 (by decide) (by decide) (by decide) x3 hb, hQ h1 hM1 hF1⟩
  · have q : w = 1 := q
    rw [if_neg (by rw [q]; decide), if_pos q] at hQ
    refine ⟨_, hM1.g15, _, hM1.ai' 15 (by decide) (by decide) (by decide) x3 hb, fun z => ⟨_, hM1.g18, _, hM1.g15, _, hM1.ai' 15 (by decide) (by decide) (by decide) x3 hb, m_of (B62_90 ⟨_, hM1.ai' 18 (by decide) (by decide) (by decide) (t := 11 * tn x + s_lev S (tn x)) ?_ (by show _ < 2211; omega), ?_⟩)⟩, fun z => ?_⟩
    · rw [l2]
      have e9 := nI_of11 (tn x) (s_lev S (tn x))
      rw [← x3] at e9
      exact e9
    · rw [if_neg z] at hQ
      exact hQ h1 hM1 hF1
    · rw [if_pos z] at hQ
      exact hQ h1 hM1 hF1
  · have q : w = 2 := q
    rw [if_neg (by rw [q]; decide), if_neg (by rw [q]; decide), if_pos q] at hQ
    exact ⟨_, hM1.g16, _, hM1.ai' 16 (by decide) (by decide) (by decide) x3 hb, hQ h1 hM1 hF1⟩
  · have q : w = 3 := q
    rw [if_neg (by rw [q]; decide), if_neg (by rw [q]; decide), if_neg (by rw [q]; decide), if_pos q] at hQ
    exact ⟨_, hM1.g11, _, hM1.ai' 11 (by decide) (by decide) (by decide) x3 hb, hQ h1 hM1 hF1⟩
  · have q : w = 4 := q
    rw [if_neg (by rw [q]; decide), if_neg (by rw [q]; decide), if_neg (by rw [q]; decide), if_neg (by rw [q]; decide), if_pos q] at hQ
    exact ⟨_, hM1.g12, _, hM1.ai' 12 (by decide) (by decide) (by decide) x3 hb, hQ h1 hM1 hF1⟩
  · have q : w = 5 := q
    rw [if_neg (by rw [q]; decide), if_neg (by rw [q]; decide), if_neg (by rw [q]; decide), if_neg (by rw [q]; decide), if_neg (by rw [q]; decide), if_pos q] at hQ
    exact ⟨_, hM1.g14, _, hM1.ai' 14 (by decide) (by decide) (by decide) x3 hb, hQ h1 hM1 hF1⟩
theorem m_count (hM : RM h.1 m S) (hv : s_iv S nC nT nK) {w : Int32} (hQ : mP m h Q (o_count S w)) : am_Run (am_in 64 [.ref m, .int w] h) Q := by
  refine B64_0 (hM.w0 (fun h1 hM1 hF1 => B64_5 ?_))
  have hK : nK ≤ 200 := hv.2.2.2.2.2.1
  have fin : am_Run (64, 15, [some (.ref m), some (.int w), some (.int (nI (s_q S nK))), some (.int (nI (s_ac S nK))), some (.int (s_sum S nK)), some (.int (nI (nK + 1)))], [], h1) Q := by
    rw [o_count, hv.nK] at hQ
    refine B64_15 ⟨_, hM1.g3, fun _ => ⟨fun q => ?_, fun q => ?_, fun q => ?_, fun q => ?_, fun q => ?_, fun q => ?_, fun q => ?_⟩, fun q => absurd ?_ q⟩
    · obtain ⟨w0, w1, w2, w3, w4, w5⟩ := w_out q
      rw [if_neg w0, if_neg w1, if_neg w2, if_neg w3, if_neg w4, if_neg w5] at hQ
      refine ⟨fun z => ?_, fun z => ⟨fun y => ?_, fun y => ⟨hM1.is, m_activeOf hM1 hv (B64_158 ?_)⟩⟩⟩
      · rw [if_neg (fun u => k2_nle u.1 z)] at hQ
        exact hQ h1 hM1 hF1
      · rw [if_neg (fun u => k2_nle u.2 y)] at hQ
        exact hQ h1 hM1 hF1
      · rw [if_pos ⟨k2_lt z, k2_lt y⟩] at hQ
        exact hQ h1 hM1 hF1
    · have q : w = 0 := q
      rw [if_pos q] at hQ
      exact ⟨_, hM1.g1, hQ h1 hM1 hF1⟩
    · have q : w = 1 := q
      rw [if_neg (by rw [q]; decide), if_pos q] at hQ
      exact ⟨_, hM1.g2, hQ h1 hM1 hF1⟩
    · have q : w = 2 := q
      rw [if_neg (by rw [q]; decide), if_neg (by rw [q]; decide), if_pos q] at hQ
      exact ⟨_, hM1.g3, hQ h1 hM1 hF1⟩
    · have q : w = 3 := q
      rw [if_neg (by rw [q]; decide), if_neg (by rw [q]; decide), if_neg (by rw [q]; decide), if_pos q] at hQ
      exact hQ h1 hM1 hF1
    · have q : w = 4 := q
      rw [if_neg (by rw [q]; decide), if_neg (by rw [q]; decide), if_neg (by rw [q]; decide), if_neg (by rw [q]; decide), if_pos q] at hQ
      exact hQ h1 hM1 hF1
    · have q : w = 5 := q
      rw [if_neg (by rw [q]; decide), if_neg (by rw [q]; decide), if_neg (by rw [q]; decide), if_neg (by rw [q]; decide), if_neg (by rw [q]; decide), if_pos q] at hQ
      exact hQ h1 hM1 hF1
    · rw [hv.2.2.2.2.1]
      exact nI_lt (by omega) (by omega)
  have loop : ∀ (d i : Nat), i + d = nK → am_Run (64, 15, [some (.ref m), some (.int w), some (.int (nI (s_q S i))), some (.int (nI (s_ac S i))), some (.int (s_sum S i)), some (.int (nI (i + 1)))], [], h1) Q := by
    intro d
    induction d with
    | zero =>
      intro i hi
      have e : i = nK := by omega
      subst e
      exact fin
    | succ d ih =>
      intro i hi
      have nx := ih (i + 1) (by omega)
      have hb : i + 1 < 201 := by omega
      have st2 : ∀ y : Int32, nI (s_q S i) + y = nI (s_q S (i + 1)) → am_Run (64, 40, [some (.ref m), some (.int w), some (.int (nI (s_q S i))), some (.int (nI (s_ac S i))), some (.int (s_sum S i)), some (.int (nI (i + 1)))], [.int y, .int (nI (s_q S i))], h1) Q := by
        intro y hy
        have st3 : ∀ z : Int32, nI (s_ac S i) + z = nI (s_ac S (i + 1)) → am_Run (64, 57, [some (.ref m), some (.int w), some (.int (nI (s_q S i) + y)), some (.int (nI (s_ac S i))), some (.int (s_sum S i)), some (.int (nI (i + 1)))], [.int z, .int (nI (s_ac S i))], h1) Q := by
          intro z hz
          refine B64_57 ⟨_, hM1.g16, _, hM1.ai 16 (by decide) (by decide) (by decide) hb, ?_⟩
          rw [hy, hz, nI_1 (i + 1)]
          exact nx
        refine B64_40 ⟨hM1.is, m_isActive hM1 hb (fun ha => B64_49 ⟨fun u => absurd u k_one, fun _ => st3 1 ?_⟩) (fun ha => B64_49 ⟨fun _ => st3 0 ?_, fun u => absurd rfl u⟩)⟩
        · rw [s_ac, if_pos ha, nI_1]
        · rw [s_ac, if_neg ha, Int32.add_zero]
          rfl
      refine B64_15 ⟨_, hM1.g3, fun q => absurd q ?_, fun _ => ⟨_, hM1.g13, _, hM1.ai 13 (by decide) (by decide) (by decide) hb, fun q => st2 0 ?_, fun q => st2 1 ?_⟩⟩
      · rw [hv.2.2.2.2.1]
        exact nI_nlt (by omega) (by omega)
      · rw [s_q, if_neg q, Int32.add_zero]
        rfl
      · rw [s_q, if_pos q, nI_1]
  exact loop nK 0 (by omega)
end Model5
