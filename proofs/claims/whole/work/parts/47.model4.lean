/-! The reference's calls, the rest. -/
section Model4
variable {h : am_H} {m : Nat} {S : sS} {Q : am_H → Option Value → Prop} {nC nT nK : Nat}
theorem k_one : ¬ (1 : Int32) = 0 := by decide
theorem s_new_iv (hv : s_iv S nC nT nK) {its t : Int32} (h1 : isC S its) (h2 : t = 0 ∨ isM S t) (h3 : ¬ S.1 3 0 = 200) (w : Int64) (h13 : ¬ s_A S (nK + 1)) (h15 : S.1 15 (nK + 1) = 0) : s_iv (s_new S its t w) nC nT (nK + 1) := by
  obtain ⟨i1, i2, i3⟩ := hv.C h1
  have hM := fun z => hv.M (x := t) z
  obtain ⟨v1, v2, v3, v4, v5, v6, v7, v8, v9, v10⟩ := hv
  have ht : tn (S.1 3 0 + 1) = nK + 1 := by rw [v5]; exact tn_1 (by omega)
  have hne : nK ≠ 200 := fun z => h3 (by rw [v5, z]; rfl)
  have at' : ∀ a j, (s_new S its t w).1 a j = if a = 14 ∧ j = nK + 1 then -1 else if a = 12 ∧ j = nK + 1 then t else if a = 11 ∧ j = nK + 1 then its else if a = 3 ∧ j = 0 then S.1 3 0 + 1 else S.1 a j := by
    intro a j
    unfold s_new
    rw [ht]
    rfl
  have k0 : ∀ a j, a ≠ 14 → a ≠ 12 → a ≠ 11 → a ≠ 3 → (s_new S its t w).1 a j = S.1 a j := by
    intro a j a1 a2 a3 a4
    rw [at', if_neg (by omega), if_neg (by omega), if_neg (by omega), if_neg (by omega)]
  have eA : ∀ j, s_A (s_new S its t w) j ↔ s_A S j := fun j => by
    show ((s_new S its t w).1 13 j = 1 ∨ (s_new S its t w).1 13 j = 2) ↔ _
    rw [k0 13 j (by decide) (by decide) (by decide) (by decide)]
  have el : ∀ j, s_lev (s_new S its t w) j = s_lev S j := fun j => by
    unfold s_lev
    rw [k0 15 j (by decide) (by decide) (by decide) (by decide)]
  refine ⟨?_, v2, ?_, v4, ?_, by omega, fun c a b => ?_, fun j a b => ?_, fun j a b => ?_, fun j a b => ?_⟩
  · rw [k0 _ _ (by decide) (by decide) (by decide) (by decide)]; exact v1
  · rw [k0 _ _ (by decide) (by decide) (by decide) (by decide)]; exact v3
  · rw [at', if_neg (by omega), if_neg (by omega), if_neg (by omega), if_pos ⟨rfl, rfl⟩, v5, nI_1]
  · rw [k0 _ _ (by decide) (by decide) (by decide) (by decide)]; exact v7 c a b
  · by_cases e : j = nK + 1
    · have e11 : (s_new S its t w).1 11 j = its := by rw [at', if_neg (by omega), if_neg (by omega), if_pos ⟨rfl, e⟩]
      unfold s_of
      rw [e11]
      exact ⟨i1, i2, i3⟩
    · have e11 : (s_new S its t w).1 11 j = S.1 11 j := by rw [at', if_neg (by omega), if_neg (by omega), if_neg (by omega), if_neg (by omega)]
      unfold s_of
      rw [e11]
      exact v8 j a (by omega)
  · by_cases e : j = nK + 1
    · have e12 : (s_new S its t w).1 12 j = t := by rw [at', if_neg (by omega), if_pos ⟨rfl, e⟩]
      rw [e12]
      rcases h2 with z | z
      · exact ⟨0, by omega, by rw [z]; rfl⟩
      · exact ⟨tn t, (hM z).2.1, (hM z).2.2⟩
    · have e12 : (s_new S its t w).1 12 j = S.1 12 j := by rw [at', if_neg (by omega), if_neg (by omega), if_neg (by omega), if_neg (by omega)]
      rw [e12]
      exact v9 j a (by omega)
  · rw [el, k0 _ _ (by decide) (by decide) (by decide) (by decide)]
    by_cases e : j = nK + 1
    · subst e
      have l0 : s_lev S (nK + 1) = 0 := by unfold s_lev; rw [h15]; rfl
      rw [l0]
      exact ⟨by omega, h15, fun q => absurd ((eA _).mp q) h13, fun _ => rfl⟩
    · obtain ⟨b1, b2, b3, b4⟩ := v10 j a (by omega)
      exact ⟨b1, b2, fun q => b3 ((eA j).mp q), fun q => b4 (fun z => q ((eA j).mpr z))⟩
theorem s_iv.u8 (hv : s_iv S nC nT nK) (k : Nat) (hk : k = 8 ∨ k = 9 ∨ k = 10 ∨ k = 14 ∨ k = 16 ∨ k = 19) (j : Nat) (x : Int32) : s_iv (sU S k j x) nC nT nK := by
  have k0 : ∀ a b, a ≠ k → (sU S k j x).1 a b = S.1 a b := by
    intro a b z
    show s_up S.1 k j x a b = _
    unfold s_up
    rw [if_neg (by omega)]
  obtain ⟨v1, v2, v3, v4, v5, v6, v7, v8, v9, v10⟩ := hv
  refine ⟨?_, v2, ?_, v4, ?_, v6, fun c a b => ?_, fun i a b => ?_, fun i a b => ?_, fun i a b => ?_⟩
  · rw [k0 _ _ (by omega)]; exact v1
  · rw [k0 _ _ (by omega)]; exact v3
  · rw [k0 _ _ (by omega)]; exact v5
  · rw [k0 _ _ (by omega)]; exact v7 c a b
  · unfold s_of; rw [k0 _ _ (by omega)]; exact v8 i a b
  · rw [k0 _ _ (by omega)]; exact v9 i a b
  · unfold s_A s_lev
    rw [k0 _ _ (by omega), k0 _ _ (by omega)]
    exact v10 i a b
theorem m_start (hM : RM h.1 m S) (hv : s_iv S nC nT nK) (h13 : nK < 200 → ¬ s_A S (nK + 1)) (h15 : nK < 200 → S.1 15 (nK + 1) = 0) {c t : Int32} {w : Int64} (hQ : mP m h Q (o_start S c t w)) : am_Run (am_in 48 [.ref m, .int c, .int t, .long w] h) Q := by
  refine B48_0 (hM.w0 (fun h1 hM1 hF1 => ?_))
  have hT : nT ≤ 20 := hv.2.2.2.1
  have hK : nK ≤ 200 := hv.2.2.2.2.2.1
  have rest : am_Run (48, 27, [some (.ref m), some (.int c), some (.int t), some (.long w), none, none, none], [.int (s_its S c t)], h1) Q := by
    have bad : (¬ isC S (s_its S c t) ∨ (¬ t = 0 ∧ ¬ isM S t)) → Q h1 (some (.int (-2))) := fun q => by
      rw [o_start, if_pos q] at hQ
      exact hQ h1 hM1 hF1
    refine B48_27 ⟨hM1.is, m_isCode hM1 (fun hc => ?_) (fun hc => B48_35 ⟨fun _ => bad (Or.inl hc), fun q => absurd rfl q⟩)⟩
    have go : (t = 0 ∨ isM S t) → am_Run (48, 53, [some (.ref m), some (.int c), some (.int t), some (.long w), none, some (.int (s_its S c t)), none], [], h1) Q := by
      intro ht
      have ok : ¬ (¬ isC S (s_its S c t) ∨ (¬ t = 0 ∧ ¬ isM S t)) := by
        rintro (z | z)
        · exact z hc
        · exact ht.elim z.1 z.2
      refine B48_53 ⟨fun q => ⟨_, hM1.g3, fun q2 => ⟨_, hM1.g3, hM1.w3 (fun h2 hM2 hF2 => ?_)⟩, fun q2 => ?_⟩, fun q => ?_⟩
      · rw [o_start, if_neg ok, if_neg (Int64.not_lt.mpr (lg_ge.mp q)), if_neg q2] at hQ
        have hne : nK ≠ 200 := fun z => q2 (by rw [hv.2.2.2.2.1, z]; rfl)
        have e1 : S.1 3 0 + 1 = nI (tn (S.1 3 0 + 1)) := by rw [hv.2.2.2.2.1, tn_1 (by omega), nI_1]
        have e0 : tn (S.1 3 0 + 1) = nK + 1 := by rw [hv.2.2.2.2.1, tn_1 (by omega)]
        have hb : tn (S.1 3 0 + 1) < 201 := by omega
        have niv := s_new_iv hv hc ht q2 w (h13 (by omega)) (h15 (by omega))
        refine B48_84 ⟨_, hM2.g11, _, hM2.g3, hM2.wi' 11 (by decide) (by decide) (by decide) e1 hb (fun h3 hM3 hF3 => ?_)⟩
        refine B48_95 ⟨_, hM3.g12, _, hM3.g3, hM3.wi' 12 (by decide) (by decide) (by decide) e1 hb (fun h4 hM4 hF4 => ?_)⟩
        refine B48_105 ⟨_, hM4.g17, _, hM4.g3, ?_⟩
        show am_wl h4 (m + 13) (S.1 3 0 + 1) w _
        have wl := hM4.wl (t := tn (S.1 3 0 + 1)) hb (x := w) (K := fun h1 => am_Run (48, 115, [some (.ref m), some (.int c), some (.int t), some (.long w), none, some (.int (s_its S c t)), none], [], h1) Q) (fun h5 hM5 hF5 => ?_)
        · rw [← e1] at wl
          exact wl
        refine B48_115 ⟨_, hM5.g14, _, hM5.g3, hM5.wi' 14 (by decide) (by decide) (by decide) e1 hb (fun h6 hM6 hF6 => ?_)⟩
        have hF := ((((hF1.tr hF2).tr hF3).tr hF4).tr hF5).tr hF6
        have fin : ∀ h7, RM h7.1 m (s_new2 S c t w) → mF m h h7 → s_iv (s_new2 S c t w) nC nT (nK + 1) → am_Run (48, 136, [some (.ref m), some (.int c), some (.int t), some (.long w), none, some (.int (s_its S c t)), none], [], h7) Q := by
          intro h7 hM7 hF7 hv7
          have g3 : am_gi h7 m 5 3 (S.1 3 0 + 1) := by
            have := hM7.g3
            rw [hv7.2.2.2.2.1] at this
            rw [e1, e0]
            exact this
          exact B48_136 ⟨_, g3, hM7.is, m_startAll hM7 hv7 (fun h8 hM8 hF8 => B48_146 (hQ h8 hM8 (hF7.tr hF8)))⟩
        refine B48_125 ⟨fun q3 => ?_, fun q3 => ⟨_, hM6.g8, ?_⟩⟩
        · refine fin h6 ?_ hF ?_
          · rw [s_new2, if_neg q3]; exact hM6
          · rw [s_new2, if_neg q3]; exact niv
        · have hm : isM S t := by
            rcases ht with z | z
            · exfalso
              have : s_its S c t = 0 := by
                unfold s_its
                rw [if_neg (fun y => by rw [z] at y; exact absurd y.2.1 (by decide))]
                exact q3
              rw [this] at hc
              exact absurd hc.1 (by decide)
            · exact z
          obtain ⟨t1, t2, t3⟩ := hv.M hm
          refine hM6.wi' 8 (by decide) (by decide) (by decide) t3 (by show tn t < 21; omega) (fun h7 hM7 hF7 => fin h7 ?_ (hF.tr hF7) ?_)
          · rw [s_new2, if_pos q3]; exact hM7
          · rw [s_new2, if_pos q3]; exact niv.u8 8 (Or.inl rfl) _ _
      · rw [o_start, if_neg ok, if_neg (Int64.not_lt.mpr (lg_ge.mp q)), if_pos q2] at hQ
        exact hQ h1 hM1 hF1
      · rw [o_start, if_neg ok, if_pos (Int64.not_le.mp (fun z => q (lg_ge.mpr z)))] at hQ
        exact hQ h1 hM1 hF1
    exact B48_35 ⟨fun q => absurd q k_one, fun _ => ⟨fun q => go (Or.inl q), fun q => ⟨hM1.is, m_isTerminal hM1 (fun z => B48_47 ⟨fun _ => go (Or.inr z), fun y => absurd y k_one⟩) (fun z => B48_47 ⟨fun y => absurd rfl y, fun _ => bad (Or.inr ⟨q, z⟩)⟩)⟩⟩⟩
  refine B48_5 ⟨fun q => B48_26 ?_, fun q => ⟨hM1.is, m_isTerminal hM1 (fun z => B48_14 ⟨fun y => absurd y k_one, fun _ => ?_⟩) (fun z => B48_14 ⟨fun _ => B48_26 ?_, fun y => absurd rfl y⟩)⟩⟩
  · have : s_its S c t = c := by unfold s_its; rw [if_neg (fun y => q y.1)]
    rw [this] at rest
    exact rest
  · obtain ⟨t1, t2, t3⟩ := hv.M z
    have : s_its S c t = S.1 8 (tn t) := by unfold s_its; rw [if_pos ⟨q, z⟩]
    rw [this] at rest
    exact ⟨_, hM1.g8, _, hM1.ai' 8 (by decide) (by decide) (by decide) t3 (by show tn t < 21; omega), rest⟩
  · have : s_its S c t = c := by unfold s_its; rw [if_neg (fun y => z y.2)]
    rw [this] at rest
    exact rest
theorem m_event (hM : RM h.1 m S) (hv : s_iv S nC nT nK) {x k v : Int32} (hQ : mP m h Q (o_event S x k v)) : am_Run (am_in 52 [.ref m, .int x, .int k, .int v] h) Q := by
  refine B52_0 (hM.w0 (fun h1 hM1 hF1 => B52_5 ⟨hM1.is, m_isTask hM1 (fun hx => ?_) (fun hx => B52_10 ⟨fun q => absurd rfl q, fun _ => ?_⟩)⟩))
  rotate_left
  · rw [o_event, if_pos hx] at hQ
    exact hQ h1 hM1 hF1
  obtain ⟨x1, x2, x3⟩ := hv.T hx
  have hK : nK ≤ 200 := hv.2.2.2.2.2.1
  have hb : tn x < 201 := by omega
  rw [o_event, if_neg (fun z => z hx)] at hQ
  have bad : (bd k 2 ∨ (k < 2 ∧ bd v 15)) → Q h1 (some (.int (-4))) := fun q => by
    rw [if_pos q] at hQ
    exact hQ h1 hM1 hF1
  have go : ¬ (bd k 2 ∨ (k < 2 ∧ bd v 15)) → am_Run (52, 43, [some (.ref m), some (.int x), some (.int k), some (.int v)], [], h1) Q := by
    intro ok
    rw [if_neg ok] at hQ
    have no : ((k = 1 ∧ (¬ S.1 13 (tn x) = 2 ∨ ¬ S.1 14 (tn x) = v)) ∨ (¬ k = 1 ∧ ¬ S.1 13 (tn x) = 1)) → Q h1 (some (.int (-5))) := fun q => by
      rw [if_pos q] at hQ
      exact hQ h1 hM1 hF1
    have yes : ¬ ((k = 1 ∧ (¬ S.1 13 (tn x) = 2 ∨ ¬ S.1 14 (tn x) = v)) ∨ (¬ k = 1 ∧ ¬ S.1 13 (tn x) = 1)) → am_Run (52, 84, [some (.ref m), some (.int x), some (.int k), some (.int v)], [], h1) Q := by
      intro ok2
      rw [if_neg ok2] at hQ
      refine B52_84 ⟨fun q => ⟨_, hM1.g13, ?_⟩, fun q => ⟨hM1.is, m_end hM1 hv x3 (by omega) (by decide) (by decide) (fun h2 hM2 hF2 => B52_95 (B52_128 ⟨_, hM2.g13, _, hM2.ai' 13 (by decide) (by decide) (by decide) x3 hb, ?_⟩))⟩⟩
      · rw [if_neg q] at hQ
        have fin : ∀ h3, RM h3.1 m (s_ev S (tn x) k v) → mF m h h3 → am_Run (52, 128, [some (.ref m), some (.int x), some (.int k), some (.int v)], [], h3) Q := fun h3 hM3 hF3 => B52_128 ⟨_, hM3.g13, _, hM3.ai' 13 (by decide) (by decide) (by decide) x3 hb, hQ h3 hM3 hF3⟩
        refine ⟨fun q0 => B52_112 (hM1.wi' 13 (by decide) (by decide) (by decide) x3 hb (fun h2 hM2 hF2 => B52_113 ⟨_, hM2.g14, fun _ => B52_127 (hM2.wi' 14 (by decide) (by decide) (by decide) x3 hb (fun h3 hM3 hF3 => fin h3 ?_ ((hF1.tr hF2).tr hF3))), fun z => absurd z q0⟩)), fun q0 => B52_112 (hM1.wi' 13 (by decide) (by decide) (by decide) x3 hb (fun h2 hM2 hF2 => B52_113 ⟨_, hM2.g14, fun z => absurd q0 z, fun _ => B52_127 (hM2.wi' 14 (by decide) (by decide) (by decide) x3 hb (fun h3 hM3 hF3 => fin h3 ?_ ((hF1.tr hF2).tr hF3)))⟩))⟩
        · rw [s_ev, if_neg q0, if_neg q0]; exact hM3
        · rw [s_ev, if_pos q0, if_pos q0]; exact hM3
      · rw [if_pos q] at hQ
        exact hQ h2 hM2 (hF1.tr hF2)
    refine B52_43 ⟨fun q => ⟨_, hM1.g13, _, hM1.ai' 13 (by decide) (by decide) (by decide) x3 hb, fun z => yes ?_, fun z => no (Or.inr ⟨q, z⟩)⟩, fun q => ⟨_, hM1.g13, _, hM1.ai' 13 (by decide) (by decide) (by decide) x3 hb, fun z => no (Or.inl ⟨q, Or.inl z⟩), fun z => ⟨_, hM1.g14, _, hM1.ai' 14 (by decide) (by decide) (by decide) x3 hb, fun y => yes ?_, fun y => no (Or.inl ⟨q, Or.inr y⟩)⟩⟩⟩
    · rintro (w | w)
      · exact q w.1
      · exact w.2 z
    · rintro (w | w)
      · exact w.2.elim (fun u => u z) (fun u => u y)
      · exact w.1 q
  refine B52_10 ⟨fun _ => ⟨fun q => bad (Or.inl (Or.inl q)), fun q1 => ⟨fun q => bad (Or.inl (Or.inr q)), fun q2 => ⟨fun q => go ?_, fun q3 => ⟨fun q => bad (Or.inr ⟨k2_lt q3, Or.inl q⟩), fun q4 => ⟨fun q => go ?_, fun q => bad (Or.inr ⟨k2_lt q3, Or.inr (k2_lt q)⟩)⟩⟩⟩⟩⟩, fun q => absurd q k_one⟩
  · rintro (z | z)
    · exact z.elim q1 q2
    · exact k2_nle z.1 q
  · rintro (z | z)
    · exact z.elim q1 q2
    · exact z.2.elim q4 (fun y => k2_nle y q)
theorem m_link (hM : RM h.1 m S) (hv : s_iv S nC nT nK) {x p : Int32} (hQ : mP m h Q (o_link S x p)) : am_Run (am_in 53 [.ref m, .int x, .int p] h) Q := by
  refine B53_0 (hM.w0 (fun h1 hM1 hF1 => B53_5 ⟨hM1.is, m_isTask hM1 (fun hx => ?_) (fun hx => B53_10 ⟨fun q => absurd rfl q, fun _ => ?_⟩)⟩))
  rotate_left
  · rw [o_link, if_pos hx] at hQ
    exact hQ h1 hM1 hF1
  obtain ⟨x1, x2, x3⟩ := hv.T hx
  have hK : nK ≤ 200 := hv.2.2.2.2.2.1
  have hb : tn x < 201 := by omega
  obtain ⟨l1, l2, l3, l4⟩ := hv.2.2.2.2.2.2.2.2.2 (tn x) x1 x2
  rw [o_link, if_neg (fun z => z hx)] at hQ
  have bad : bd p 99 → Q h1 (some (.int (-4))) := fun q => by
    rw [if_pos q] at hQ
    exact hQ h1 hM1 hF1
  refine B53_10 ⟨fun _ => ⟨fun q => bad (Or.inl q), fun q1 => ⟨fun q2 => ?_, fun q => bad (Or.inr (k2_lt q))⟩⟩, fun q => absurd q k_one⟩
  rw [if_neg (fun z => z.elim q1 (fun y => k2_nle y q2))] at hQ
  refine ⟨_, hM1.g13, _, hM1.ai' 13 (by decide) (by decide) (by decide) x3 hb, fun q3 => ⟨_, hM1.g15, _, hM1.ai' 15 (by decide) (by decide) (by decide) x3 hb, fun q4 => ⟨hM1.is, ?_⟩, fun q4 => ?_⟩, fun q3 => ?_⟩
  · rw [if_neg (fun z => z q3), if_neg q4] at hQ
    have hl : s_lev S (tn x) ≤ 9 := by
      have : s_lev S (tn x) ≠ 10 := fun z => q4 (by rw [l2, z]; rfl)
      omega
    have mb := m_begin hM1 (i := tn x) (by omega) l2 hl (p := p) (Q := fun h1 v => am_Run (am_bk (53, 61, [some (.ref m), some (.int x), some (.int p)], [], h1) h1 v) Q) (fun h2 hM2 hF2 => B53_61 ⟨_, hM2.g15, _, hM2.ai' 15 (by decide) (by decide) (by decide) x3 hb, hQ h2 hM2 (hF1.tr hF2)⟩)
    rw [← x3] at mb
    exact mb
  · rw [if_neg (fun z => z q3), if_pos q4] at hQ
    exact hQ h1 hM1 hF1
  · rw [if_pos q3] at hQ
    exact hQ h1 hM1 hF1
end Model4
