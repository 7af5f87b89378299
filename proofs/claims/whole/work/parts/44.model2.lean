/-! The reference's starts. -/
theorem RM.wi' {h : am_H} {m : Nat} {S : sS} (hM : RM h.1 m S) (k : Nat) (k1 : 5 ≤ k) (k2 : k ≤ 19) (k3 : k ≠ 17) {t : Nat} {y : Int32} (e : y = nI t) (ht : t < sl k) {x : Int32} {K : am_H → Prop} (kk : ∀ h', RM h'.1 m (sU S k t x) → mF m h h' → K h') : am_wi h (m + (k - 4)) y x K := e ▸ hM.wi k k1 k2 k3 ht kk
section Model2
variable {h : am_H} {m : Nat} {S : sS} {Q : am_H → Option Value → Prop} {nC nT nK : Nat}
theorem m_of {a b : Int32} (hQ : Q h (some (.int (11 * a + b)))) : am_Run (am_in 45 [.int a, .int b] h) Q := B45_0 hQ
theorem nI_of11 (i d : Nat) : (11 : Int32) * nI i + nI d = nI (11 * i + d) := by
  rw [show (11 : Int32) = nI 11 from rfl, pk_mul, nI_add]
theorem nI_10 (n k : Nat) : (10 : Int32) * nI n + nI k = nI (10 * n + k) := by
  rw [show (10 : Int32) = nI 10 from rfl, pk_mul, nI_add]
theorem m_begin (hM : RM h.1 m S) {i : Nat} (hi : i ≤ 200) (h15 : S.1 15 i = nI (s_lev S i)) (hl : s_lev S i ≤ 9) {p : Int32} (hQ : ∀ h', RM h'.1 m (s_beg S i p) → mF m h h' → Q h' none) : am_Run (am_in 46 [.ref m, .int (nI i), .int p] h) Q := by
  refine B46_0 ⟨_, hM.g15, _, hM.ai 15 (by decide) (by decide) (by decide) (t := i) (by show i < 201; omega), hM.wi 15 (by decide) (by decide) (by decide) (by show i < 201; omega) (fun h1 hM1 hF1 => ?_)⟩
  have e15 : (sU S 15 i (S.1 15 i + 1)).1 15 i = nI (s_lev S i + 1) := by
    show s_up S.1 15 i (S.1 15 i + 1) 15 i = _
    unfold s_up
    rw [if_pos ⟨rfl, rfl⟩, h15, nI_1]
  refine B46_10 ⟨_, hM1.g18, _, hM1.g15, _, hM1.ai 15 (by decide) (by decide) (by decide) (t := i) (by show i < 201; omega), m_of (B46_24 ?_)⟩
  refine hM1.wi' 18 (by decide) (by decide) (by decide) (t := 11 * i + (s_lev S i + 1)) (by rw [e15]; exact nI_of11 _ _) (by show _ < 2211; omega) (fun h2 hM2 hF2 => B46_26 ?_)
  have loop : ∀ (d k : Nat) (h3 : am_H), k + d = 10 → RM h3.1 m (s_zero (sU (sU S 15 i (S.1 15 i + 1)) 18 (11 * i + (s_lev S i + 1)) p) (10 * (11 * i + (s_lev S i + 1))) k) → mF m h h3 → am_Run (46, 28, [some (.ref m), some (.int (nI i)), some (.int p), some (.int (nI k))], [], h3) Q := by
    intro d
    induction d with
    | zero =>
      intro k h3 hk hM3 hF3
      have : k = 10 := by omega
      subst this
      exact B46_28 ⟨fun _ => hQ h3 hM3 hF3, fun q => absurd (by decide) q⟩
    | succ d ih =>
      intro k h3 hk hM3 hF3
      have e15k : (s_zero (sU (sU S 15 i (S.1 15 i + 1)) 18 (11 * i + (s_lev S i + 1)) p) (10 * (11 * i + (s_lev S i + 1))) k).1 15 i = nI (s_lev S i + 1) := by
        rw [s_zero_at, if_neg (by omega)]
        exact e15
      refine B46_28 ⟨fun q => absurd q (show ¬ (nI 10 ≤ nI k) from nI_ge (by omega) (by decide)), fun _ => ⟨_, hM3.g19, _, hM3.g15, _, hM3.ai 15 (by decide) (by decide) (by decide) (t := i) (by show i < 201; omega), m_of (B46_50 ?_)⟩⟩
      refine hM3.wi' 19 (by decide) (by decide) (by decide) (t := 10 * (11 * i + (s_lev S i + 1)) + k) (by rw [e15k, nI_of11]; exact nI_10 _ _) (by show _ < 22110; omega) (fun h4 hM4 hF4 => B46_55 ?_)
      rw [nI_1]
      exact ih (k + 1) h4 (by omega) hM4 (hF3.tr hF4)
  exact loop 10 0 h2 rfl hM2 (hF1.tr hF2)
theorem m_inner (hM : RM h.1 m S) (hv : s_iv S nC nT nK) {x1 : Int32} (fin : am_Run (47, 12, [some (.ref m), some (.int x1), some (.int (nI (s_pick S nK))), some (.int (nI (nK + 1)))], [], h) Q) : ∀ (d i : Nat), i + d = nK → am_Run (47, 12, [some (.ref m), some (.int x1), some (.int (nI (s_pick S i))), some (.int (nI (i + 1)))], [], h) Q := by
  have hK : nK ≤ 200 := hv.2.2.2.2.2.1
  have hC : nC ≤ 60 := hv.2.1
  intro d
  induction d with
  | zero =>
    intro i hi
    have e : i = nK := by omega
    subst e
    exact fin
  | succ d ih =>
    intro i hi
    have nx : am_Run (47, 12, [some (.ref m), some (.int x1), some (.int (nI (s_pick S (i + 1)))), some (.int (nI (i + 1 + 1)))], [], h) Q := ih (i + 1) (by omega)
    have hple := s_pick_le S i
    have keep : ¬ (s_may S (i + 1) ∧ (s_pick S i = 0 ∨ S.1 7 (s_of S (s_pick S i)) < S.1 7 (s_of S (i + 1)))) → am_Run (47, 61, [some (.ref m), some (.int x1), some (.int (nI (s_pick S i))), some (.int (nI (i + 1)))], [], h) Q := by
      intro hn
      refine B47_61 (B47_62 ?_)
      rw [s_pick, if_neg hn] at nx
      rw [nI_1 (i + 1)]
      exact nx
    have take : (s_may S (i + 1) ∧ (s_pick S i = 0 ∨ S.1 7 (s_of S (s_pick S i)) < S.1 7 (s_of S (i + 1)))) → am_Run (47, 57, [some (.ref m), some (.int x1), some (.int (nI (s_pick S i))), some (.int (nI (i + 1)))], [], h) Q := by
      intro hn
      refine B47_57 (B47_62 ?_)
      rw [s_pick, if_pos hn] at nx
      rw [nI_1 (i + 1)]
      exact nx
    refine B47_12 ⟨_, hM.g3, fun q => absurd q ?_, fun _ => ⟨hM.is, m_mayStart hM hv (i := i + 1) (by omega) (by omega) (fun hm => ?_) (fun hm => ?_)⟩⟩
    · rw [hv.2.2.2.2.1]
      exact nI_nlt (by omega) (by omega)
    · refine B47_25 ⟨fun q => absurd q (by decide), fun _ => ⟨fun q => take ⟨hm, Or.inl ?_⟩, fun q => ?_⟩⟩
      · rw [← nI_0] at q
        exact (nI_eq (by omega) (by decide)).mp q
      · have hne : s_pick S i ≠ 0 := fun z => q (by rw [z]; exact nI_0)
        obtain ⟨c1, c2, c3⟩ := hv.2.2.2.2.2.2.2.1 (i + 1) (by omega) (by omega)
        obtain ⟨d1, d2, d3⟩ := hv.2.2.2.2.2.2.2.1 (s_pick S i) (by omega) (by omega)
        refine ⟨_, hM.g7, _, hM.g11, _, hM.ai 11 (by decide) (by decide) (by decide) (t := i + 1) (by show i + 1 < 201; omega), _, hM.ai' 7 (by decide) (by decide) (by decide) c3 (by show _ < 61; omega), _, hM.g7, _, hM.g11, _, hM.ai 11 (by decide) (by decide) (by decide) (t := s_pick S i) (by show _ < 201; omega), _, hM.ai' 7 (by decide) (by decide) (by decide) d3 (by show _ < 61; omega), fun w => keep (fun z => ?_), fun w => take ⟨hm, Or.inr (k2_lt w)⟩⟩
        exact z.2.elim hne (fun z2 => k2_nle z2 w)
    · exact B47_25 ⟨fun _ => keep (fun z => hm z.1), fun q => absurd rfl q⟩
theorem m_outer : ∀ (f : Nat) (S : sS) (h : am_H) (n : Nat), RM h.1 m S → s_iv S nC nT nK → s_q S nK ≤ f → (∀ h', RM h'.1 m (s_sa f S).1 → mF m h h' → Q h' (some (.int (nI (n + (s_sa f S).2))))) → am_Run (47, 12, [some (.ref m), some (.int (nI n)), some (.int 0), some (.int 1)], [], h) Q := by
  intro f
  induction f with
  | zero =>
    intro S h n hM hv hq hQ
    refine m_inner hM hv (x1 := nI n) ?_ nK 0 (by omega)
    rw [s_q_pick S (by omega)]
    have hK : nK ≤ 200 := hv.2.2.2.2.2.1
    refine B47_12 ⟨_, hM.g3, fun _ => ⟨fun q => absurd nI_0 q, fun _ => B47_4_1 ⟨fun _ => hQ h hM mF.rf, fun q => absurd nI_0 q⟩⟩, fun q => absurd ?_ q⟩
    rw [hv.2.2.2.2.1]
    exact nI_lt (by omega) (by omega)
  | succ f ih =>
    intro S h n hM hv hq hQ
    have hK : nK ≤ 200 := hv.2.2.2.2.2.1
    have hC : nC ≤ 60 := hv.2.1
    refine m_inner hM hv (x1 := nI n) ?_ nK 0 (by omega)
    have hlt : nI nK < nI (nK + 1) := nI_lt (by omega) (by omega)
    rw [s_sa, hv.nK] at hQ
    by_cases e : s_pick S nK = 0
    · rw [if_pos e] at hQ
      rw [e]
      refine B47_12 ⟨_, hM.g3, fun _ => ⟨fun q => absurd nI_0 q, fun _ => B47_4_1 ⟨fun _ => hQ h hM mF.rf, fun q => absurd nI_0 q⟩⟩, fun q => absurd ?_ q⟩
      rw [hv.2.2.2.2.1]
      exact hlt
    · rw [if_neg e] at hQ
      have hle := s_pick_le S nK
      have hm := s_pick_may S nK e
      have h3 := s_q_st1 S (i := s_pick S nK) (by omega) hm.1 nK
      rw [if_pos hle] at h3
      have hne : ¬ nI (s_pick S nK) = 0 := nI_ne0 (by omega) (by omega)
      obtain ⟨l0, l1⟩ := hv.lev0 (i := s_pick S nK) (by omega) hle hm.1
      obtain ⟨c1, c2, c3⟩ := hv.2.2.2.2.2.2.2.1 (s_pick S nK) (by omega) hle
      refine B47_12 ⟨_, hM.g3, fun _ => ⟨fun _ => ⟨_, hM.g13, hM.wi 13 (by decide) (by decide) (by decide) (t := s_pick S nK) (by show _ < 201; omega) (fun h1 hM1 hF1 => ?_)⟩, fun q => absurd q hne⟩, fun q => absurd ?_ q⟩
      · refine B47_83 ⟨_, hM1.g5, _, hM1.g11, _, hM1.ai 11 (by decide) (by decide) (by decide) (t := s_pick S nK) (by show _ < 201; omega), _, hM1.ai' 5 (by decide) (by decide) (by decide) (t := s_of S (s_pick S nK)) c3 (by show _ < 61; omega), hM1.is, m_begin hM1 (by omega) (by show S.1 15 _ = nI (s_lev S _); rw [l0]; exact l1) (by show s_lev S _ ≤ 9; omega) (fun h2 hM2 hF2 => B47_99 ?_)⟩
        rw [nI_1]
        refine B47_4_1 ⟨fun q => absurd q hne, fun _ => ih (s_st1 S (s_pick S nK)) h2 (n + 1) hM2 (hv.st1 (by omega) hle hm.1) (by omega) (fun h' hM' hF' => ?_)⟩
        have := hQ h' hM' ((hF1.tr hF2).tr hF')
        rw [show n + 1 + (s_sa f (s_st1 S (s_pick S nK))).2 = n + ((s_sa f (s_st1 S (s_pick S nK))).2 + 1) by omega]
        exact this
      · rw [hv.2.2.2.2.1]
        exact hlt
/-- all that may start -/
noncomputable def s_all (S : sS) : sS × Nat := s_sa 200 S
theorem s_all_ok {S : sS} (hv : s_iv S nC nT nK) : s_iv (s_all S).1 nC nT nK ∧ s_pick (s_all S).1 nK = 0 := s_sa_ok 200 S hv (Nat.le_trans (s_q_le S nK) hv.2.2.2.2.2.1)
theorem m_startAll (hM : RM h.1 m S) (hv : s_iv S nC nT nK) (hQ : ∀ h', RM h'.1 m (s_all S).1 → mF m h h' → Q h' (some (.int (nI (s_all S).2)))) : am_Run (am_in 47 [.ref m] h) Q := by
  refine B47_0 (B47_4 ⟨fun q => absurd q (by decide), fun _ => ?_⟩)
  have := m_outer (Q := Q) (m := m) 200 S h 0 hM hv (Nat.le_trans (s_q_le S nK) hv.2.2.2.2.2.1) (fun h' a b => by rw [Nat.zero_add]; exact hQ h' a b)
  exact this
end Model2
