/-! THE CLASS'S OWN METHODS, leaves first. -/
section Class1
variable {h : am_H} {o : Nat} {S : sS} {G : gM} {Q : am_H → Option Value → Prop} {nC nT nK : Nat}
theorem c_within {x n : Int32} (k1 : ¬ bd x n → Q h (some (.int 1))) (k0 : bd x n → Q h (some (.int 0))) : am_Run (am_in 21 [.int x, .int n] h) Q :=
  B21_0 ⟨fun q => k0 (Or.inl q), fun q => ⟨fun z => k0 (Or.inr z), fun z => k1 (fun y => y.elim q z)⟩⟩
theorem c_isProgram {x : Int32} (k1 : ¬ bd x 99 → Q h (some (.int 1))) (k0 : bd x 99 → Q h (some (.int 0))) : am_Run (am_in 22 [.int x] h) Q :=
  B22_0 (c_within (fun q => B22_6 ⟨rfl, k1 q⟩) (fun q => B22_6 ⟨rfl, k0 q⟩))
theorem c_isClass {x : Int32} (k1 : ¬ bd x 9 → Q h (some (.int 1))) (k0 : bd x 9 → Q h (some (.int 0))) : am_Run (am_in 23 [.int x] h) Q :=
  B23_0 (c_within (fun q => B23_6 ⟨rfl, k1 q⟩) (fun q => B23_6 ⟨rfl, k0 q⟩))
theorem c_isCondition {x : Int32} (k1 : ¬ bd x 9 → Q h (some (.int 1))) (k0 : bd x 9 → Q h (some (.int 0))) : am_Run (am_in 24 [.int x] h) Q :=
  B24_0 (c_within (fun q => B24_6 ⟨rfl, k1 q⟩) (fun q => B24_6 ⟨rfl, k0 q⟩))
theorem lt1 {x : Int32} : x < 1 ↔ ¬ 0 < x := by
  rw [Int32.lt_iff_toInt_lt, Int32.lt_iff_toInt_lt]
  have a : (1 : Int32).toInt = 1 := by decide
  have b : (0 : Int32).toInt = 0 := by decide
  omega
theorem sub1 {x : Int32} (h1 : 1 ≤ tn x) (h2 : x = nI (tn x)) : x - 1 = nI (tn x - 1) := by
  obtain ⟨k, hk⟩ : ∃ k, tn x = k + 1 := ⟨tn x - 1, by omega⟩
  have e : x = nI (k + 1) := by rw [← hk]; exact h2
  rw [hk, e, nI_pred]
  rfl
theorem c_findCode (r : RX h o S G) (hv : s_iv S nC nT nK) {x : Int32} (k1 : isC S x → Q h (some (.ref (G.1 (tn x))))) (k0 : ¬ isC S x → Q h (some .null)) : am_Run (am_in 25 [.ref o, .int x] h) Q := by
  refine B25_0 ⟨fun q => k0 (fun z => lt1.mp q z.1), fun q => ⟨_, r.g5, fun z => k0 (fun y => k2_nle z y.2), fun z => ?_⟩⟩
  have hx : isC S x := ⟨Classical.not_not.mp (fun y => q (lt1.mpr y)), k2_le z⟩
  obtain ⟨x1, x2, x3⟩ := hv.C hx
  have hC : nC ≤ 60 := hv.2.1
  refine ⟨_, r.g0, _, ar_of r.2.1.2.1 (Or.inl rfl) (sub1 x1 x3) (by omega) (xA_get (by omega) (by rw [hv.nC']; omega)), ?_⟩
  rw [show tn x - 1 + 1 = tn x by omega]
  exact k1 hx
theorem c_findTerminal (r : RX h o S G) (hv : s_iv S nC nT nK) {x : Int32} (k1 : isM S x → Q h (some (.ref (G.2.1 (tn x))))) (k0 : ¬ isM S x → Q h (some .null)) : am_Run (am_in 26 [.ref o, .int x] h) Q := by
  refine B26_0 ⟨fun q => k0 (fun z => lt1.mp q z.1), fun q => ⟨_, r.g6, fun z => k0 (fun y => k2_nle z y.2), fun z => ?_⟩⟩
  have hx : isM S x := ⟨Classical.not_not.mp (fun y => q (lt1.mpr y)), k2_le z⟩
  obtain ⟨x1, x2, x3⟩ := hv.M hx
  have hC : nT ≤ 20 := hv.2.2.2.1
  refine ⟨_, r.g1, _, ar_of r.2.1.2.2.1 (Or.inr (Or.inl rfl)) (sub1 x1 x3) (by omega) (xA_get (by omega) (by rw [hv.nT']; omega)), ?_⟩
  rw [show tn x - 1 + 1 = tn x by omega]
  exact k1 hx
theorem c_findTask (r : RX h o S G) (hv : s_iv S nC nT nK) {x : Int32} (k1 : isT S x → Q h (some (.ref (G.2.2.1 (tn x))))) (k0 : ¬ isT S x → Q h (some .null)) : am_Run (am_in 27 [.ref o, .int x] h) Q := by
  refine B27_0 ⟨fun q => k0 (fun z => lt1.mp q z.1), fun q => ⟨_, r.g7, fun z => k0 (fun y => k2_nle z y.2), fun z => ?_⟩⟩
  have hx : isT S x := ⟨Classical.not_not.mp (fun y => q (lt1.mpr y)), k2_le z⟩
  obtain ⟨x1, x2, x3⟩ := hv.T hx
  have hC : nK ≤ 200 := hv.2.2.2.2.2.1
  refine ⟨_, r.g2, _, ar_of r.2.1.2.2.2.1 (Or.inr (Or.inr rfl)) (sub1 x1 x3) (by omega) (xA_get (by omega) (by rw [hv.nK]; omega)), ?_⟩
  rw [show tn x - 1 + 1 = tn x by omega]
  exact k1 hx
theorem lg_gt {x y : Int64} : 0 < lg_cmp x y ↔ ¬ x ≤ y := by
  rw [← lg_le]
  exact ⟨fun q => k2_nle q, fun q => k2_lt q⟩
theorem c_mayStart (r : RX h o S G) (hv : s_iv S nC nT nK) {i : Nat} (h1 : 1 ≤ i) (h2 : i ≤ nK) (k1 : s_may S i → Q h (some (.int 1))) (k0 : ¬ s_may S i → Q h (some (.int 0))) : am_Run (am_in 33 [.ref o, .ref (G.2.2.1 i)] h) Q := by
  have hK : nK ≤ 200 := hv.2.2.2.2.2.1
  have hT : nT ≤ 20 := hv.2.2.2.1
  have tk := r.task h1 (by rw [hv.nK]; exact h2)
  obtain ⟨c1, c2, c3⟩ := hv.2.2.2.2.2.2.2.1 i h1 h2
  obtain ⟨d1, d2⟩ := hv.cl h1 h2
  have cd := r.code c1 (by rw [hv.nC']; exact c2)
  obtain ⟨t, t1, t2⟩ := hv.2.2.2.2.2.2.2.2.1 i h1 h2
  have tail : S.1 13 i = 0 → S.2.1 i ≤ S.2.2 → (S.1 12 i = 0 ∨ s_own S (S.1 12 i) (s_nK S) = 0) → am_Run (33, 36, [some (.ref o), some (.ref (G.2.2.1 i))], [], h) Q := by
    intro e1 e2 e3
    have gcl : am_gi h (G.1 (s_of S i)) 1 2 (s_cl S i) := ⟨_, cd, rfl⟩
    have an : am_ai h (o + 5) (s_cl S i) (nI (s_cnt S (s_cl S i) (s_nK S))) := ai_of r.2.1.2.2.2.2.2 d2 (by omega) (by unfold xN; rw [rg_get d1]; exact congrArg (fun z => some (Value.int (nI (s_cnt S z (s_nK S))))) d2.symm)
    have al : am_ai h (o + 4) (s_cl S i) (S.1 10 (tn (s_cl S i))) := ai_of r.2.1.2.2.2.2.1 d2 (by omega) (rg_get d1)
    refine B33_36 ⟨_, r.g4, _, ⟨_, tk, rfl⟩, _, gcl, _, an, _, r.g3, _, ⟨_, tk, rfl⟩, _, gcl, _, al, fun q => k0 (fun w => k2_nle w.2.2.2 q), fun q => k1 ⟨e1, e2, e3, k2_lt q⟩⟩
  refine B33_0 ⟨_, ⟨_, tk, rfl⟩, fun q => k0 (fun w => q w.1), fun e1 => ⟨_, ⟨_, tk, rfl⟩, _, r.g8, fun q => k0 (fun w => lg_gt.mp q w.2.1), fun q => ?_⟩⟩
  have e2 : S.2.1 i ≤ S.2.2 := Classical.not_not.mp (fun z => q (lg_gt.mpr z))
  by_cases e3 : S.1 12 i = 0
  · exact Or.inl ⟨⟨_, tk, by unfold xK; rw [if_pos e3]; rfl⟩, tail e1 e2 (Or.inl e3)⟩
  · have gt : am_gr h (G.2.2.1 i) 4 2 (G.2.1 (tn (S.1 12 i))) := ⟨_, tk, by unfold xK; rw [if_neg e3]; rfl⟩
    have tt : tn (S.1 12 i) = t := by unfold tn; rw [t2]; exact nI_clamp (by omega)
    have tpos : 1 ≤ t := by
      rcases Nat.eq_zero_or_pos t with z | z
      · exfalso; rw [z] at t2; exact e3 t2
      · exact z
    have tm := r.term (t := t) tpos (by rw [hv.nT']; exact t1)
    have own : am_gi h (G.2.1 (tn (S.1 12 i))) 2 3 (nI (s_own S (S.1 12 i) (s_nK S))) := by
      rw [tt, t2]
      exact ⟨_, tm, rfl⟩
    have hle := s_own_le S (S.1 12 i) (s_nK S)
    rw [hv.nK] at hle
    refine Or.inr ⟨_, gt, Or.inr ⟨_, gt, _, own, fun z => k0 (fun w => ?_), fun z => tail e1 e2 (Or.inr ?_)⟩⟩
    · rcases w.2.2.1 with w | w
      · exact e3 w
      · rw [w] at z; exact z rfl
    · rw [← nI_0] at z
      rw [hv.nK] at z ⊢
      exact (nI_eq (by omega) (by decide)).mp z
theorem c_first (r : RX h o S G) (hv : s_iv S nC nT nK) (k1 : s_pick S nK ≠ 0 → Q h (some (.ref (G.2.2.1 (s_pick S nK))))) (k0 : s_pick S nK = 0 → Q h (some .null)) : am_Run (am_in 32 [.ref o] h) Q := by
  have hK : nK ≤ 200 := hv.2.2.2.2.2.1
  have geti : ∀ i, i < nK → am_ar h (o + 3) (nI i) (G.2.2.1 (i + 1)) := fun i hi => ar_of r.2.1.2.2.2.1 (Or.inr (Or.inr rfl)) rfl (by omega) (xA_get (by omega) (by rw [hv.nK]; exact hi))
  have loop : ∀ (d i : Nat), i + d = nK →
      (∀ t3 : Option Value, (t3 = none ∨ ∃ z, t3 = some (.ref z)) → s_pick S i = 0 → am_Run (32, 4, [some (.ref o), some .null, some (.int (nI i)), t3], [], h) Q) ∧
      (∀ z, s_pick S i ≠ 0 → am_Run (32, 4, [some (.ref o), some (.ref (G.2.2.1 (s_pick S i))), some (.int (nI i)), some (.ref z)], [], h) Q) := by
    intro d
    induction d with
    | zero =>
      intro i hi
      have e : i = nK := by omega
      subst e
      have lt : S.1 3 0 ≤ nI i := by rw [hv.2.2.2.2.1]; exact nI_le (by omega) (by omega)
      refine ⟨fun t3 ht hp => ?_, fun z hp => B32_4_2 ⟨_, r.g7, fun _ => k1 hp, fun q => absurd lt q⟩⟩
      rcases ht with rfl | ⟨z, rfl⟩
      · exact B32_4 ⟨_, r.g7, fun _ => k0 hp, fun q => absurd lt q⟩
      · exact B32_4_1 ⟨_, r.g7, fun _ => k0 hp, fun q => absurd lt q⟩
    | succ d ih =>
      intro i hi
      obtain ⟨ih0, ih1⟩ := ih (i + 1) (by omega)
      have nlt : ¬ S.1 3 0 ≤ nI i := by rw [hv.2.2.2.2.1]; exact nI_ge (by omega) (by omega)
      have hple := s_pick_le S i
      -- nothing found so far
      have n0 : s_pick S i = 0 → am_Run (am_in 33 [.ref o, .ref (G.2.2.1 (i + 1))] h) (fun h1 v => am_Run (am_bk (32, 28, [some (.ref o), some .null, some (.int (nI i)), some (.ref (G.2.2.1 (i + 1)))], [], h) h1 v) Q) := by
        intro hp
        refine c_mayStart r hv (by omega) (by omega) (fun hm => ?_) (fun hm => ?_)
        · have e : s_pick S (i + 1) = i + 1 := by rw [s_pick, if_pos ⟨hm, Or.inl hp⟩]
          refine B32_28 ⟨fun q => absurd q k_one, fun _ => B32_52 (B32_54_1 ?_)⟩
          have := ih1 (G.2.2.1 (i + 1)) (by omega)
          rw [e] at this
          rw [nI_1]
          exact this
        · have e : s_pick S (i + 1) = 0 := by rw [s_pick, if_neg (fun z => hm z.1)]; exact hp
          refine B32_28 ⟨fun _ => B32_54 ?_, fun q => absurd rfl q⟩
          rw [nI_1]
          exact ih0 _ (Or.inr ⟨_, rfl⟩) e
      refine ⟨fun t3 ht hp => ?_, fun z hp => ?_⟩
      · rcases ht with rfl | ⟨z, rfl⟩
        · exact B32_4 ⟨_, r.g7, fun q => absurd q nlt, fun _ => ⟨_, r.g2, _, geti i (by omega), r.is, n0 hp⟩⟩
        · exact B32_4_1 ⟨_, r.g7, fun q => absurd q nlt, fun _ => ⟨_, r.g2, _, geti i (by omega), r.is, n0 hp⟩⟩
      · refine B32_4_2 ⟨_, r.g7, fun q => absurd q nlt, fun _ => ⟨_, r.g2, _, geti i (by omega), r.is, ?_⟩⟩
        have keep : ¬ (s_may S (i + 1) ∧ (s_pick S i = 0 ∨ S.1 7 (s_of S (s_pick S i)) < S.1 7 (s_of S (i + 1)))) → am_Run (32, 54, [some (.ref o), some (.ref (G.2.2.1 (s_pick S i))), some (.int (nI i)), some (.ref (G.2.2.1 (i + 1)))], [], h) Q := by
          intro hn
          have e : s_pick S (i + 1) = s_pick S i := by rw [s_pick, if_neg hn]
          have := ih1 (G.2.2.1 (i + 1)) (by omega)
          rw [e] at this
          refine B32_54_1 ?_
          rw [nI_1]
          exact this
        refine c_mayStart r hv (by omega) (by omega) (fun hm => ?_) (fun hm => B32_28_1 ⟨fun _ => keep (fun y => hm y.1), fun q => absurd rfl q⟩)
        obtain ⟨c1, c2, c3⟩ := hv.2.2.2.2.2.2.2.1 (i + 1) (by omega) (by omega)
        obtain ⟨e1, e2, e3⟩ := hv.2.2.2.2.2.2.2.1 (s_pick S i) (by omega) (by omega)
        have tk := r.task (i := i + 1) (by omega) (by rw [hv.nK]; omega)
        have tp := r.task (i := s_pick S i) (by omega) (by rw [hv.nK]; omega)
        have cd := r.code c1 (by rw [hv.nC']; exact c2)
        have ce := r.code e1 (by rw [hv.nC']; exact e2)
        refine B32_28_1 ⟨fun q => absurd q k_one, fun _ => ⟨_, ⟨_, tk, rfl⟩, _, ⟨_, cd, rfl⟩, _, ⟨_, tp, rfl⟩, _, ⟨_, ce, rfl⟩, fun q => keep (fun y => y.2.elim hp (fun w => k2_nle w q)), fun q => ?_⟩⟩
        have e : s_pick S (i + 1) = i + 1 := by rw [s_pick, if_pos ⟨hm, Or.inr (k2_lt q)⟩]
        refine B32_52_1 (B32_54_1 ?_)
        have := ih1 (G.2.2.1 (i + 1)) (by omega)
        rw [e] at this
        rw [nI_1]
        exact this
  exact B32_0 ((loop nK 0 (by omega)).1 none (Or.inl rfl) rfl)
end Class1
