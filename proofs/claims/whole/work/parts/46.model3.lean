/-! THE REFERENCE'S CALLS. -/
section Model3
variable {h : am_H} {m : Nat} {S : sS} {Q : am_H → Option Value → Prop} {nC nT nK : Nat}
theorem tn_1 {n : Nat} (h : n < 2147483647) : tn (nI n + 1) = n + 1 := by
  unfold tn
  rw [nI_1]
  exact nI_clamp (by omega)
theorem m_code (hM : RM h.1 m S) (hv : s_iv S nC nT nK) {p c r : Int32} (hQ : mP m h Q (o_code S p c r)) : am_Run (am_in 40 [.ref m, .int p, .int c, .int r] h) Q := by
  refine B40_0 (hM.w0 (fun h1 hM1 hF1 => ?_))
  have bad : (bd p 99 ∨ bd c 9 ∨ bd r 255) → Q h1 (some (.int (-4))) := fun q => by
    rw [o_code, if_pos q] at hQ
    exact hQ h1 hM1 hF1
  refine B40_5 ⟨fun q => bad (Or.inl (Or.inl q)), fun q1 => ⟨fun q => bad (Or.inl (Or.inr q)), fun q2 => ⟨fun q => bad (Or.inr (Or.inl (Or.inl q))), fun q3 => ⟨fun q => bad (Or.inr (Or.inl (Or.inr q))), fun q4 => ⟨fun q => bad (Or.inr (Or.inr (Or.inl q))), fun q5 => ⟨fun q6 => ⟨_, hM1.g1, fun q7 => ⟨_, hM1.g1, hM1.w1 (fun h2 hM2 hF2 => ?_)⟩, fun q7 => ?_⟩, fun q => bad (Or.inr (Or.inr (Or.inr (k2_lt q))))⟩⟩⟩⟩⟩⟩
  · have ok : ¬ (bd p 99 ∨ bd c 9 ∨ bd r 255) := by
      rintro ((z | z) | (z | z) | (z | z))
      · exact q1 z
      · exact q2 z
      · exact q3 z
      · exact q4 z
      · exact q5 z
      · exact k2_nle z q6
    rw [o_code, if_neg ok, if_neg q7] at hQ
    have hC : nC ≤ 60 := hv.2.1
    have e1 : S.1 1 0 + 1 = nI (tn (S.1 1 0 + 1)) := by rw [hv.1, tn_1 (by omega), nI_1]
    have hb : tn (S.1 1 0 + 1) < 61 := by
      rw [hv.1, tn_1 (by omega)]
      have : nC ≠ 60 := fun z => q7 (by rw [hv.1, z]; rfl)
      omega
    refine B40_60 ⟨_, hM2.g5, _, hM2.g1, hM2.wi' 5 (by decide) (by decide) (by decide) e1 hb (fun h3 hM3 hF3 => ?_)⟩
    refine B40_70 ⟨_, hM3.g6, _, hM3.g1, hM3.wi' 6 (by decide) (by decide) (by decide) e1 hb (fun h4 hM4 hF4 => ?_)⟩
    refine B40_80 ⟨_, hM4.g7, _, hM4.g1, hM4.wi' 7 (by decide) (by decide) (by decide) e1 hb (fun h5 hM5 hF5 => ?_)⟩
    exact B40_90 ⟨_, hM5.g1, hQ h5 hM5 ((((hF1.tr hF2).tr hF3).tr hF4).tr hF5)⟩
  · have ok : ¬ (bd p 99 ∨ bd c 9 ∨ bd r 255) := by
      rintro ((z | z) | (z | z) | (z | z))
      · exact q1 z
      · exact q2 z
      · exact q3 z
      · exact q4 z
      · exact q5 z
      · exact k2_nle z q6
    rw [o_code, if_neg ok, if_pos q7] at hQ
    exact hQ h1 hM1 hF1
theorem m_term (hM : RM h.1 m S) (hQ : mP m h Q (o_term S)) : am_Run (am_in 41 [.ref m] h) Q := by
  refine B41_0 (hM.w0 (fun h1 hM1 hF1 => ?_))
  refine B41_5 ⟨_, hM1.g2, fun q => ⟨_, hM1.g2, hM1.w2 (fun h2 hM2 hF2 => B41_26 ⟨_, hM2.g2, ?_⟩)⟩, fun q => ?_⟩
  · rw [o_term, if_neg q] at hQ
    exact hQ h2 hM2 (hF1.tr hF2)
  · rw [o_term, if_pos q] at hQ
    exact hQ h1 hM1 hF1
theorem lg_ge {x y : Int64} : 0 ≤ lg_cmp x y ↔ y ≤ x := by
  unfold lg_cmp
  by_cases h : y < x
  · rw [if_pos h]
    exact ⟨fun _ => Int64.le_of_lt h, fun _ => by decide⟩
  · rw [if_neg h]
    by_cases e : x = y
    · rw [if_pos e]
      exact ⟨fun _ => by rw [e]; exact Int64.le_refl _, fun _ => by decide⟩
    · rw [if_neg e]
      constructor
      · intro q; exact absurd q (by decide)
      · intro q
        rcases Int64.lt_or_eq_of_le q with z | z
        · exact absurd z h
        · exact absurd z.symm e
theorem m_tick (hM : RM h.1 m S) (hv : s_iv S nC nT nK) {w : Int64} (hQ : mP m h Q (o_tick S w)) : am_Run (am_in 49 [.ref m, .long w] h) Q := by
  refine B49_0 (hM.w0 (fun h1 hM1 hF1 => ?_))
  refine B49_5 ⟨_, hM1.g4, fun q => hM1.w4 (fun h2 hM2 hF2 => B49_22 ⟨hM2.is, m_startAll hM2 (nC := nC) (nT := nT) (nK := nK) hv (fun h3 hM3 hF3 => B49_26 ?_)⟩), fun q => ?_⟩
  · rw [o_tick, if_neg (Int64.not_lt.mpr (lg_ge.mp q))] at hQ
    exact hQ h3 hM3 ((hF1.tr hF2).tr hF3)
  · rw [o_tick, if_pos (Int64.not_le.mp (fun z => q (lg_ge.mpr z)))] at hQ
    exact hQ h1 hM1 hF1
theorem m_limit (hM : RM h.1 m S) (hv : s_iv S nC nT nK) {c n : Int32} (hQ : mP m h Q (o_limit S c n)) : am_Run (am_in 50 [.ref m, .int c, .int n] h) Q := by
  refine B50_0 (hM.w0 (fun h1 hM1 hF1 => ?_))
  have bad : (bd c 9 ∨ bd n 50) → Q h1 (some (.int (-4))) := fun q => by
    rw [o_limit, if_pos q] at hQ
    exact hQ h1 hM1 hF1
  refine B50_5 ⟨fun q => bad (Or.inl (Or.inl q)), fun q1 => ⟨fun q => bad (Or.inl (Or.inr q)), fun q2 => ⟨fun q => bad (Or.inr (Or.inl q)), fun q3 => ⟨fun q4 => ?_, fun q => bad (Or.inr (Or.inr (k2_lt q)))⟩⟩⟩⟩
  have nc : ¬ bd c 9 := fun z => z.elim q1 q2
  obtain ⟨c1, c2⟩ := bd_ix (n := 9) (by decide) nc
  have hb : tn c < sl 10 := by show tn c < 10; omega
  refine ⟨_, hM1.g10, _, hM1.ai' 10 (by decide) (by decide) (by decide) c2 hb, _, hM1.g10, hM1.wi' 10 (by decide) (by decide) (by decide) c2 hb (fun h2 hM2 hF2 => B50_42 ⟨hM2.is, m_startAll hM2 (nC := nC) (nT := nT) (nK := nK) hv (fun h3 hM3 hF3 => B50_46 ?_)⟩)⟩
  rw [o_limit, if_neg (fun z => z.elim nc (fun y => y.elim q3 (fun w => k2_nle w q4)))] at hQ
  exact hQ h3 hM3 ((hF1.tr hF2).tr hF3)
theorem s_e1_at (S : sS) (i : Nat) (z : Int32) (a j : Nat) : (s_e1 S i z).1 a j = if a = 16 ∧ j = i then 0 else if a = 15 ∧ j = i then 0 else if a = 14 ∧ j = i then -1 else if a = 13 ∧ j = i then z else S.1 a j := rfl
theorem s_e1_k (S : sS) (i : Nat) (z : Int32) {a : Nat} (h1 : a ≠ 16) (h2 : a ≠ 15) (h3 : a ≠ 14) (h4 : a ≠ 13) (j : Nat) : (s_e1 S i z).1 a j = S.1 a j := by
  rw [s_e1_at, if_neg (by omega), if_neg (by omega), if_neg (by omega), if_neg (by omega)]
theorem s_e1_13 (S : sS) (i : Nat) (z : Int32) (j : Nat) : (s_e1 S i z).1 13 j = if j = i then z else S.1 13 j := by
  rw [s_e1_at, if_neg (by omega), if_neg (by omega), if_neg (by omega)]
  by_cases h : j = i
  · rw [if_pos ⟨rfl, h⟩, if_pos h]
  · rw [if_neg (by omega), if_neg h]
theorem s_e1_15 (S : sS) (i : Nat) (z : Int32) (j : Nat) : (s_e1 S i z).1 15 j = if j = i then 0 else S.1 15 j := by
  rw [s_e1_at, if_neg (by omega)]
  by_cases h : j = i
  · rw [if_pos ⟨rfl, h⟩, if_pos h]
  · rw [if_neg (by omega), if_neg (by omega), if_neg (by omega), if_neg h]
theorem s_e1_of (S : sS) (i : Nat) (z : Int32) (j : Nat) : s_of (s_e1 S i z) j = s_of S j := by
  unfold s_of
  rw [s_e1_k S i z (by decide) (by decide) (by decide) (by decide)]
theorem s_e1_A (S : sS) (i : Nat) {z : Int32} (h1 : z ≠ 1) (h2 : z ≠ 2) (j : Nat) : s_A (s_e1 S i z) j ↔ j ≠ i ∧ s_A S j := by
  show ((s_e1 S i z).1 13 j = 1 ∨ (s_e1 S i z).1 13 j = 2) ↔ _
  rw [s_e1_13]
  by_cases h : j = i
  · rw [if_pos h]
    exact ⟨fun q => (q.elim h1 h2).elim, fun q => absurd h q.1⟩
  · rw [if_neg h]
    exact ⟨fun q => ⟨h, q⟩, fun q => q.2⟩
theorem s_iv.e1 (hv : s_iv S nC nT nK) {i : Nat} {z : Int32} (z1 : z ≠ 1) (z2 : z ≠ 2) : s_iv (s_e1 S i z) nC nT nK := by
  obtain ⟨v1, v2, v3, v4, v5, v6, v7, v8, v9, v10⟩ := hv
  refine ⟨?_, v2, ?_, v4, ?_, v6, fun c a b => ?_, fun j a b => ?_, fun j a b => ?_, fun j a b => ?_⟩
  · rw [s_e1_k S i z (by decide) (by decide) (by decide) (by decide)]; exact v1
  · rw [s_e1_k S i z (by decide) (by decide) (by decide) (by decide)]; exact v3
  · rw [s_e1_k S i z (by decide) (by decide) (by decide) (by decide)]; exact v5
  · rw [s_e1_k S i z (by decide) (by decide) (by decide) (by decide)]; exact v7 c a b
  · rw [s_e1_of, s_e1_k S i z (by decide) (by decide) (by decide) (by decide)]; exact v8 j a b
  · rw [s_e1_k S i z (by decide) (by decide) (by decide) (by decide)]; exact v9 j a b
  · by_cases e : j = i
    · subst e
      have e15 : (s_e1 S j z).1 15 j = nI 0 := by rw [s_e1_15, if_pos rfl]; rfl
      have el : s_lev (s_e1 S j z) j = 0 := by
        unfold s_lev
        rw [e15]
        exact nI_clamp (by decide)
      rw [el]
      exact ⟨by omega, e15, fun q => absurd rfl ((s_e1_A S j z1 z2 j).mp q).1, fun _ => rfl⟩
    · have e15 : (s_e1 S i z).1 15 j = S.1 15 j := by rw [s_e1_15, if_neg e]
      have el : s_lev (s_e1 S i z) j = s_lev S j := by
        unfold s_lev
        rw [e15]
      obtain ⟨b1, b2, b3, b4⟩ := v10 j a b
      rw [el, e15]
      exact ⟨b1, b2, fun q => b3 ((s_e1_A S i z1 z2 j).mp q).2, fun q => b4 (fun w => q ((s_e1_A S i z1 z2 j).mpr ⟨e, w⟩))⟩
theorem m_end (hM : RM h.1 m S) (hv : s_iv S nC nT nK) {x z : Int32} (ex : x = nI (tn x)) (hi : tn x ≤ 200) (z1 : z ≠ 1) (z2 : z ≠ 2) (hQ : ∀ h', RM h'.1 m (s_end S (tn x) z) → mF m h h' → Q h' none) : am_Run (am_in 51 [.ref m, .int x, .int z] h) Q := by
  have hb : tn x < 201 := by omega
  refine B51_0 ⟨_, hM.g13, hM.wi' 13 (by decide) (by decide) (by decide) ex hb (fun h1 hM1 hF1 => ?_)⟩
  refine B51_7 ⟨_, hM1.g14, hM1.wi' 14 (by decide) (by decide) (by decide) ex hb (fun h2 hM2 hF2 => ?_)⟩
  refine B51_14 ⟨_, hM2.g15, hM2.wi' 15 (by decide) (by decide) (by decide) ex hb (fun h3 hM3 hF3 => ?_)⟩
  refine B51_21 ⟨_, hM3.g16, hM3.wi' 16 (by decide) (by decide) (by decide) ex hb (fun h4 hM4 hF4 => ?_)⟩
  exact B51_28 ⟨hM4.is, m_startAll hM4 (hv.e1 (i := tn x) z1 z2) (fun h5 hM5 hF5 => B51_32 (hQ h5 hM5 ((((hF1.tr hF2).tr hF3).tr hF4).tr hF5)))⟩
end Model3
