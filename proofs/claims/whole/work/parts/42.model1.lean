/-! THE REFERENCE'S OWN METHODS, leaves first. -/
theorem RM.ai' {h : am_H} {m : Nat} {S : sS} (hM : RM h.1 m S) (k : Nat) (k1 : 5 ≤ k) (k2 : k ≤ 19) (k3 : k ≠ 17) {t : Nat} {x : Int32} (e : x = nI t) (ht : t < sl k) : am_ai h (m + (k - 4)) x (S.1 k t) := e ▸ hM.ai k k1 k2 k3 ht
section Model1
variable {h : am_H} {m : Nat} {S : sS} {Q : am_H → Option Value → Prop} {nC nT nK : Nat}
theorem m_isCode (hM : RM h.1 m S) {x : Int32} (k1 : 0 < x ∧ x ≤ S.1 1 0 → Q h (some (.int 1))) (k0 : ¬ (0 < x ∧ x ≤ S.1 1 0) → Q h (some (.int 0))) : am_Run (am_in 36 [.ref m, .int x] h) Q :=
  B36_0 ⟨fun q => k0 (fun w => k2_nle w.1 q), fun q => ⟨_, hM.g1, fun w => k0 (fun z => k2_nle w z.2), fun w => k1 ⟨k2_lt q, k2_le w⟩⟩⟩
theorem m_isTerminal (hM : RM h.1 m S) {x : Int32} (k1 : 0 < x ∧ x ≤ S.1 2 0 → Q h (some (.int 1))) (k0 : ¬ (0 < x ∧ x ≤ S.1 2 0) → Q h (some (.int 0))) : am_Run (am_in 37 [.ref m, .int x] h) Q :=
  B37_0 ⟨fun q => k0 (fun w => k2_nle w.1 q), fun q => ⟨_, hM.g2, fun w => k0 (fun z => k2_nle w z.2), fun w => k1 ⟨k2_lt q, k2_le w⟩⟩⟩
theorem m_isTask (hM : RM h.1 m S) {x : Int32} (k1 : 0 < x ∧ x ≤ S.1 3 0 → Q h (some (.int 1))) (k0 : ¬ (0 < x ∧ x ≤ S.1 3 0) → Q h (some (.int 0))) : am_Run (am_in 38 [.ref m, .int x] h) Q :=
  B38_0 ⟨fun q => k0 (fun w => k2_nle w.1 q), fun q => ⟨_, hM.g3, fun w => k0 (fun z => k2_nle w z.2), fun w => k1 ⟨k2_lt q, k2_le w⟩⟩⟩
theorem m_isActive (hM : RM h.1 m S) {i : Nat} (hi : i < 201) (k1 : s_A S i → Q h (some (.int 1))) (k0 : ¬ s_A S i → Q h (some (.int 0))) : am_Run (am_in 39 [.ref m, .int (nI i)] h) Q :=
  B39_0 ⟨_, hM.g13, _, hM.ai 13 (by decide) (by decide) (by decide) hi, fun q => B39_20 (k1 (Or.inl q)), fun q => ⟨_, hM.g13, _, hM.ai 13 (by decide) (by decide) (by decide) hi, fun w => k0 (fun z => z.elim q w), fun w => B39_20 (k1 (Or.inr w))⟩⟩
theorem m_activeOf (hM : RM h.1 m S) (hv : s_iv S nC nT nK) {c : Int32} (hQ : Q h (some (.int (nI (s_cnt S c nK))))) : am_Run (am_in 42 [.ref m, .int c] h) Q := by
  have hK : nK ≤ 200 := hv.2.2.2.2.2.1
  have loop : ∀ (d i : Nat), i + d = nK → am_Run (42, 4, [some (.ref m), some (.int c), some (.int (nI (s_cnt S c i))), some (.int (nI (i + 1)))], [], h) Q := by
    intro d
    induction d with
    | zero =>
      intro i hi
      have e : i = nK := by omega
      subst e
      refine B42_4 ⟨_, hM.g3, fun _ => hQ, fun q => absurd ?_ q⟩
      rw [hv.2.2.2.2.1]
      exact nI_lt (by omega) (by omega)
    | succ d ih =>
      intro i hi
      have nx : am_Run (42, 4, [some (.ref m), some (.int c), some (.int (nI (s_cnt S c (i + 1)))), some (.int (nI (i + 1 + 1)))], [], h) Q := ih (i + 1) (by omega)
      have go0 : ¬ (s_A S (i + 1) ∧ s_cl S (i + 1) = c) → am_Run (42, 40, [some (.ref m), some (.int c), some (.int (nI (s_cnt S c i))), some (.int (nI (i + 1)))], [.int (nI (s_cnt S c i))], h) Q := by
        intro hn
        refine B42_40 (B42_41 ?_)
        rw [s_cnt, if_neg hn] at nx
        rw [Int32.add_zero, nI_1 (i + 1)]
        exact nx
      refine B42_4 ⟨_, hM.g3, fun q => absurd q ?_, fun _ => ⟨hM.is, m_isActive hM (by omega) (fun ha => ?_) (fun ha => ?_)⟩⟩
      · rw [hv.2.2.2.2.1]
        exact nI_nlt (by omega) (by omega)
      · obtain ⟨c1, c2, c3⟩ := hv.2.2.2.2.2.2.2.1 (i + 1) (by omega) (by omega)
        have hC : nC ≤ 60 := hv.2.1
        refine B42_18 ⟨fun q => absurd q (by decide), fun _ => ⟨_, hM.g6, _, hM.g11, _, hM.ai 11 (by decide) (by decide) (by decide) (t := i + 1) (by show i + 1 < 201; omega), _, hM.ai' 6 (by decide) (by decide) (by decide) c3 (by show _ < 61; omega), fun q => go0 (fun w => q w.2), fun q => B42_41 ?_⟩⟩
        rw [s_cnt, if_pos ⟨ha, q⟩] at nx
        rw [nI_1, nI_1 (i + 1)]
        exact nx
      · exact B42_18 ⟨fun _ => go0 (fun w => ha w.1), fun q => absurd rfl q⟩
  exact B42_0 (loop nK 0 (by omega))
theorem m_ownerOf (hM : RM h.1 m S) (hv : s_iv S nC nT nK) {c : Int32} (hQ : Q h (some (.int (nI (s_own S c nK))))) : am_Run (am_in 43 [.ref m, .int c] h) Q := by
  have hK : nK ≤ 200 := hv.2.2.2.2.2.1
  have loop : ∀ (d i : Nat), i + d = nK → am_Run (43, 4, [some (.ref m), some (.int c), some (.int (nI (s_own S c i))), some (.int (nI (i + 1)))], [], h) Q := by
    intro d
    induction d with
    | zero =>
      intro i hi
      have e : i = nK := by omega
      subst e
      refine B43_4 ⟨_, hM.g3, fun _ => hQ, fun q => absurd ?_ q⟩
      rw [hv.2.2.2.2.1]
      exact nI_lt (by omega) (by omega)
    | succ d ih =>
      intro i hi
      have nx : am_Run (43, 4, [some (.ref m), some (.int c), some (.int (nI (s_own S c (i + 1)))), some (.int (nI (i + 1 + 1)))], [], h) Q := ih (i + 1) (by omega)
      have go0 : ¬ (s_A S (i + 1) ∧ S.1 12 (i + 1) = c) → am_Run (43, 34, [some (.ref m), some (.int c), some (.int (nI (s_own S c i))), some (.int (nI (i + 1)))], [], h) Q := by
        intro hn
        refine B43_34 (B43_35 ?_)
        rw [s_own, if_neg hn] at nx
        rw [nI_1 (i + 1)]
        exact nx
      refine B43_4 ⟨_, hM.g3, fun q => absurd q ?_, fun _ => ⟨hM.is, m_isActive hM (by omega) (fun ha => ?_) (fun ha => ?_)⟩⟩
      · rw [hv.2.2.2.2.1]
        exact nI_nlt (by omega) (by omega)
      · refine B43_17 ⟨fun q => absurd q (by decide), fun _ => ⟨_, hM.g12, _, hM.ai 12 (by decide) (by decide) (by decide) (t := i + 1) (by show i + 1 < 201; omega), fun q => go0 (fun w => q w.2), fun q => B43_35 ?_⟩⟩
        rw [s_own, if_pos ⟨ha, q⟩] at nx
        rw [nI_1 (i + 1)]
        exact nx
      · exact B43_17 ⟨fun _ => go0 (fun w => ha w.1), fun q => absurd rfl q⟩
  exact B43_0 (loop nK 0 (by omega))
theorem lg_le {x y : Int64} : lg_cmp x y ≤ 0 ↔ x ≤ y := by
  unfold lg_cmp
  by_cases h : y < x
  · rw [if_pos h]
    constructor
    · intro q; exact absurd q (by decide)
    · intro q; exact absurd h (Int64.not_lt.mpr q)
  · rw [if_neg h]
    constructor
    · intro _; exact Int64.not_lt.mp h
    · intro _; split <;> decide
theorem m_mayStart (hM : RM h.1 m S) (hv : s_iv S nC nT nK) {i : Nat} (h1 : 1 ≤ i) (h2 : i ≤ nK) (k1 : s_may S i → Q h (some (.int 1))) (k0 : ¬ s_may S i → Q h (some (.int 0))) : am_Run (am_in 44 [.ref m, .int (nI i)] h) Q := by
  have hK : nK ≤ 200 := hv.2.2.2.2.2.1
  have hC : nC ≤ 60 := hv.2.1
  have hT : nT ≤ 20 := hv.2.2.2.1
  obtain ⟨c1, c2, c3⟩ := hv.2.2.2.2.2.2.2.1 i h1 h2
  obtain ⟨d1, d2⟩ := hv.cl h1 h2
  obtain ⟨t, t1, t2⟩ := hv.2.2.2.2.2.2.2.2.1 i h1 h2
  have hb : i < sl 13 := by show i < 201; omega
  have tail : S.1 13 i = 0 → S.2.1 i ≤ S.2.2 → (S.1 12 i = 0 ∨ s_own S (S.1 12 i) (s_nK S) = 0) → am_Run (44, 47, [some (.ref m), some (.int (nI i))], [], h) Q := by
    intro e1 e2 e3
    refine B44_47 ⟨_, hM.g6, _, hM.g11, _, hM.ai 11 (by decide) (by decide) (by decide) (t := i) hb, _, hM.ai' 6 (by decide) (by decide) (by decide) c3 (by show _ < 61; omega), hM.is, m_activeOf hM hv ?_⟩
    refine B44_62 ⟨_, hM.g10, _, hM.g6, _, hM.g11, _, hM.ai 11 (by decide) (by decide) (by decide) (t := i) hb, _, hM.ai' 6 (by decide) (by decide) (by decide) c3 (by show _ < 61; omega), _, hM.ai' 10 (by decide) (by decide) (by decide) d2 d1, fun q => k0 (fun w => ?_), fun q => k1 ⟨e1, e2, e3, ?_⟩⟩
    · have w4 := w.2.2.2
      rw [hv.nK] at w4
      exact k2_nle w4 q
    · rw [hv.nK]
      exact k2_lt q
  refine B44_0 ⟨_, hM.g13, _, hM.ai 13 (by decide) (by decide) (by decide) hb, fun q => k0 (fun w => q w.1), fun e1 => ⟨_, hM.g17, _, hM.al (by omega), _, hM.g4, fun e2 => ⟨_, hM.g12, _, hM.ai 12 (by decide) (by decide) (by decide) (t := i) hb, fun e3 => tail e1 (lg_le.mp e2) (Or.inl e3), fun e3 => ⟨_, hM.g12, _, hM.ai 12 (by decide) (by decide) (by decide) (t := i) hb, hM.is, m_ownerOf hM hv ?_⟩⟩, fun e2 => k0 (fun w => e2 (lg_le.mpr w.2.1))⟩⟩
  have hown : s_own S (S.1 12 i) nK ≤ nK := s_own_le _ _ _
  refine B44_44 ⟨fun q => k0 (fun w => ?_), fun q => tail e1 (lg_le.mp e2) (Or.inr ?_)⟩
  · rcases w.2.2.1 with w | w
    · exact e3 w
    · rw [hv.nK] at w
      rw [w] at q
      exact q rfl
  · rw [hv.nK]
    rw [← nI_0] at q
    exact (nI_eq (by omega) (by decide)).mp q
end Model1
