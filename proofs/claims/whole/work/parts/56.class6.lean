/-! THE CLASS'S CALLS. -/
def cG (o : Nat) (h h' : am_H) : Prop := (∀ q, (q < o ∨ (o + 6 ≤ q ∧ q < o + 22)) → h'.1 q = h.1 q) ∧ h.2.1 ≤ h'.2.1 ∧ h'.2.1 ≤ h.2.1 + 3 ∧ h'.2.2 ≤ h.2.2 + 22
theorem cF.G {o : Nat} {h h' : am_H} (f : cF o h h') : cG o h h' := ⟨f.2, by rw [f.1]; exact Nat.le_refl _, by rw [f.1]; omega, by rw [f.1]; omega⟩
abbrev cP (o : Nat) (h : am_H) (Q : am_H → Option Value → Prop) (r : oR) : Prop := ∀ h' G', RX h' o r.2 G' → cG o h h' → Q h' (some (.int r.1))
theorem s_pick_0 (S : sS) : ∀ n, s_pick S n = 0 ↔ ∀ j, 1 ≤ j → j ≤ n → ¬ s_may S j
  | 0 => ⟨fun _ j h1 h2 => by omega, fun _ => rfl⟩
  | n + 1 => by
    rw [s_pick]
    by_cases e : s_may S (n + 1) ∧ (s_pick S n = 0 ∨ S.1 7 (s_of S (s_pick S n)) < S.1 7 (s_of S (n + 1)))
    · rw [if_pos e]
      exact ⟨fun z => by omega, fun z => absurd e.1 (z (n + 1) (by omega) (by omega))⟩
    · rw [if_neg e, s_pick_0 S n]
      constructor
      · intro z j h1 h2 hm
        by_cases ej : j = n + 1
        · rw [ej] at hm
          exact e ⟨hm, Or.inl ((s_pick_0 S n).mpr z)⟩
        · exact z j h1 (by omega) hm
      · intro z j h1 h2
        exact z j h1 (by omega)
theorem s_all_0 {S : sS} (h : s_pick S (s_nK S) = 0) : s_all S = (S, 0) := by
  show s_sa (199 + 1) S = _
  rw [s_sa, if_pos h]
theorem sU_same {S : sS} {k j : Nat} {v : Int32} (h : S.1 k j = v) : sU S k j v = S := by
  have : s_up S.1 k j v = S.1 := by
    funext a b
    unfold s_up
    split
    · rename_i e
      rw [e.1, e.2]
      exact h.symm
    · rfl
  unfold sU
  rw [this]
/-- what holds between the calls -/
def s_J (S : sS) (nC nT nK : Nat) : Prop := s_iv S nC nT nK ∧ s_u S nK ∧ (∀ i, nK < i → S.1 13 i = 0 ∧ S.1 15 i = 0 ∧ S.1 16 i = 0) ∧ (∀ t, nT < t → S.1 8 t = 0 ∧ S.1 9 t = 0) ∧ (∀ i, 1 ≤ i → i ≤ nK → S.1 13 i = 0 → S.1 14 i = -1 ∧ S.1 16 i = 0) ∧ s_pick S nK = 0
section Class6
variable {h : am_H} {o : Nat} {S : sS} {G : gM} {Q : am_H → Option Value → Prop} {nC nT nK : Nat}
theorem c_run (hv : s_iv S nC nT nK) {i : Nat} (h1 : 1 ≤ i) (h2 : i ≤ nK) (hr : S.1 13 i = 1) : s_e S i = s_lev S i ∧ 1 ≤ s_lev S i ∧ s_lev S i ≤ 10 ∧ S.1 15 i = nI (s_lev S i) := by
  obtain ⟨a1, a2, a3, a4⟩ := hv.2.2.2.2.2.2.2.2.2 i h1 h2
  refine ⟨?_, a3 (Or.inl hr), a1, a2⟩
  unfold s_e
  rw [if_neg (by rw [hr]; decide)]
theorem up_at (S : sS) (k j : Nat) (v : Int32) (a b : Nat) : (sU S k j v).1 a b = if a = k ∧ b = j then v else S.1 a b := rfl
theorem c_event (r : RX h o S G) (J : s_J S nC nT nK) {x k v : Int32} (hQ : cP o h Q (o_event S x k v)) : am_Run (am_in 4 [.ref o, .int x, .int k, .int v] h) Q := by
  have hv := J.1
  refine B4_0 ⟨r.is, c_findTask r hv (fun hx => ?_) (fun hx => B4_5_1 ?_)⟩
  rotate_left
  · rw [o_event, if_pos hx] at hQ
    exact hQ h G r cF.rf.G
  obtain ⟨x1, x2, x3⟩ := hv.T hx
  have i2 : tn x ≤ s_nK S := by rw [hv.nK]; exact x2
  have tk := r.task x1 i2
  rw [o_event, if_neg (fun z => z hx)] at hQ
  have bad : (bd k 2 ∨ (k < 2 ∧ bd v 15)) → Q h (some (.int (-4))) := fun q => by
    rw [if_pos q] at hQ
    exact hQ h G r cF.rf.G
  have go : ∀ y : Int32, ¬ (bd k 2 ∨ (k < 2 ∧ bd v 15)) → am_Run (4, 52, [some (.ref o), some (.int x), some (.int k), some (.int v), some (.ref (G.2.2.1 (tn x))), some (.int y)], [], h) Q := by
    intro y ok
    rw [if_neg ok] at hQ
    have no : ((k = 1 ∧ (¬ S.1 13 (tn x) = 2 ∨ ¬ S.1 14 (tn x) = v)) ∨ (¬ k = 1 ∧ ¬ S.1 13 (tn x) = 1)) → Q h (some (.int (-5))) := fun q => by
      rw [if_pos q] at hQ
      exact hQ h G r cF.rf.G
    -- the two writes of a wait or a waking
    have two : ∀ (s0 s1 e1 : Int32), S.1 13 (tn x) = s0 → (s0 = 1 ∨ s0 = 2) → (s1 = 1 ∨ s1 = 2) → ∀ (K : am_H → Prop), (∀ h2, RX h2 o (sU (sU S 13 (tn x) s1) 14 (tn x) e1) G → cF o h h2 → K h2) → am_wf h (G.2.2.1 (tn x)) 4 4 (.int s1) (fun h1 => am_wf h1 (G.2.2.1 (tn x)) 4 5 (.int e1) K) := by
      intro s0 s1 e1 es0 d0 d1 K hK
      have n0 : ¬ s0 = 0 := by rcases d0 with z | z <;> (rw [z]; decide)
      have n1 : ¬ s1 = 0 := by rcases d1 with z | z <;> (rw [z]; decide)
      have tko := (r.2.2.2.2.1.1 (tn x) x1 i2).2.1
      refine wf_of tk (show 4 < 8 by decide) (fun h1 w1 => wf_of w1.2.1 (show 5 < 8 by decide) (fun h2 w2 => hK h2 ?_ ((w1.cF (by omega) (by omega)).tr (w2.cF (by omega) (by omega)))))
      have w12 : wr h h2 (G.2.2.1 (tn x)) (4, xK (sU (sU S 13 (tn x) s1) 14 (tn x) e1) G (tn x)) := by
        refine ⟨w2.1.trans w1.1, ?_, fun z hz => (w2.2.2 z hz).trans (w1.2.2 z hz)⟩
        rw [w2.2.1]
        have e13 : (sU (sU S 13 (tn x) s1) 14 (tn x) e1).1 13 (tn x) = s1 := by rw [up_at, if_neg (by omega), up_at, if_pos ⟨rfl, rfl⟩]
        have e14 : (sU (sU S 13 (tn x) s1) 14 (tn x) e1).1 14 (tn x) = e1 := by rw [up_at, if_pos ⟨rfl, rfl⟩]
        have e0 : ∀ a j, a ≠ 13 → a ≠ 14 → (sU (sU S 13 (tn x) s1) 14 (tn x) e1).1 a j = S.1 a j := fun a j a1 a2 => by rw [up_at, if_neg (by omega), up_at, if_neg (by omega)]
        have eo : s_of (sU (sU S 13 (tn x) s1) 14 (tn x) e1) (tn x) = s_of S (tn x) := by unfold s_of; rw [e0 11 _ (by decide) (by decide)]
        simp only [xK, e13, e14, eo, e0 12 (tn x) (by decide) (by decide), e0 16 (tn x) (by decide) (by decide)]
        rfl
      refine r.w4 x1 i2 w12 (fun a j a1 a2 _ => by rw [up_at, if_neg (by omega), up_at, if_neg (by omega)]) rfl (fun j e => ⟨by rw [up_at, if_neg (by omega), up_at, if_neg (by omega)], by rw [up_at, if_neg (by omega), up_at, if_neg (by omega)], by rw [up_at, if_neg (by omega), up_at, if_neg (by omega)]⟩) (fun j => ?_) (Or.inr (Or.inl ⟨?_, by rw [es0]; exact n0⟩))
      · show ((sU (sU S 13 (tn x) s1) 14 (tn x) e1).1 13 j = 1 ∨ (sU (sU S 13 (tn x) s1) 14 (tn x) e1).1 13 j = 2) ↔ (S.1 13 j = 1 ∨ S.1 13 j = 2)
        by_cases e : j = tn x
        · rw [e, es0, up_at, if_neg (by omega), up_at, if_pos ⟨rfl, rfl⟩]
          exact ⟨fun _ => d0, fun _ => d1⟩
        · rw [up_at, if_neg (by omega), up_at, if_neg (by omega)]
      · rw [up_at, if_neg (by omega), up_at, if_pos ⟨rfl, rfl⟩]
        exact n1
    refine B4_52 ⟨fun q => ⟨_, ⟨_, tk, rfl⟩, fun e1 => ⟨fun q0 => ⟨r.is, ?_⟩, fun q0 => ?_⟩, fun e1 => no (Or.inr ⟨q, e1⟩)⟩, fun q => ⟨r.is, B29_0 ⟨_, ⟨_, tk, rfl⟩, fun e1 => B4_64 (no (Or.inl ⟨q, Or.inl e1⟩)), fun e1 => ⟨_, ⟨_, tk, rfl⟩, fun e2 => ?_, fun e2 => B4_64 (no (Or.inl ⟨q, Or.inr e2⟩))⟩⟩⟩⟩
    · have k2 : k = 2 := by
        obtain ⟨k1, kk⟩ := bd_ix (n := 2) (by decide) (fun z => ok (Or.inl z))
        have n0 : tn k ≠ 0 := fun z => q0 (by rw [kk, z]; rfl)
        have n1 : tn k ≠ 1 := fun z => q (by rw [kk, z]; rfl)
        have n2 : tn k = 2 := by omega
        rw [kk, n2]
        rfl
      rw [if_neg (fun z => z.elim (fun u => q u.1) (fun u => u.2 e1)), if_pos k2] at hQ
      refine c_leave r hv J.2.1 x1 x2 (Or.inl e1) (by decide) (by decide) (by decide) (fun h9 r9 f9 => B4_103 ⟨_, ⟨_, r9.task x1 ?_, rfl⟩, hQ h9 G r9 f9.G⟩)
      have : s_nK (s_end S (tn x) 3) = nK := (s_all_ok (hv.e1 (i := tn x) (z := 3) (by decide) (by decide))).1.nK
      rw [this]
      exact x2
    · rw [if_neg (fun z => z.elim (fun u => q u.1) (fun u => u.2 e1)), if_neg (by rw [q0]; decide)] at hQ
      have es : s_ev S (tn x) k v = sU (sU S 13 (tn x) 2) 14 (tn x) v := by unfold s_ev; rw [if_pos q0, if_pos q0]
      rw [es] at hQ
      have := two 1 2 v e1 (Or.inl rfl) (Or.inr rfl) (fun h2 => am_Run (4, 93, [some (.ref o), some (.int x), some (.int k), some (.int v), some (.ref (G.2.2.1 (tn x))), some (.int y)], [], h2) Q) (fun h2 r2 f2 => B4_93 ⟨_, ⟨_, r2.task x1 (by show tn x ≤ s_nK S; exact i2), rfl⟩, hQ h2 G r2 f2.G⟩)
      obtain ⟨vs, a1, a2, a3⟩ := this
      exact ⟨vs, a1, a2, B4_87 a3⟩
    · rw [if_neg (fun z => z.elim (fun u => u.2.elim (fun w => w e1) (fun w => w e2)) (fun u => u.1 q)), if_neg (by rw [q]; decide)] at hQ
      have es : s_ev S (tn x) k v = sU (sU S 13 (tn x) 1) 14 (tn x) (-1) := by unfold s_ev; rw [if_neg (by rw [q]; decide), if_neg (by rw [q]; decide)]
      rw [es] at hQ
      have := two 2 1 (-1) e1 (Or.inr rfl) (Or.inl rfl) (fun h2 => am_Run (29, 29, [some (.ref o), some (.ref (G.2.2.1 (tn x))), some (.int v)], [], h2) (fun h1 v9 => am_Run (am_bk (4, 64, [some (.ref o), some (.int x), some (.int k), some (.int v), some (.ref (G.2.2.1 (tn x))), some (.int y)], [], h) h1 v9) Q)) (fun h2 r2 f2 => B29_29 ⟨_, ⟨_, r2.task x1 (by show tn x ≤ s_nK S; exact i2), rfl⟩, B4_64 (hQ h2 G r2 f2.G)⟩)
      obtain ⟨vs, a1, a2, a3⟩ := this
      exact ⟨vs, a1, a2, B29_24 a3⟩
  have two25 : ∀ y : Int32, (y = 0 ↔ k = 2) → am_Run (4, 25, [some (.ref o), some (.int x), some (.int k), some (.int v), some (.ref (G.2.2.1 (tn x))), none], [.int y], h) Q := by
    intro y hy
    refine B4_25 (c_within (fun q => B4_32 ⟨fun z => absurd z k_one, fun _ => ⟨fun z => go y ?_, fun z => c_within (fun u => B4_46 ⟨fun _ => go y ?_, fun w => absurd w k_one⟩) (fun u => B4_46 ⟨fun w => absurd rfl w, fun _ => bad (Or.inr ⟨?_, u⟩)⟩)⟩⟩) (fun q => B4_32 ⟨fun _ => bad (Or.inl q), fun z => absurd rfl z⟩))
    · rintro (w | w)
      · exact q w
      · rw [hy.mp z] at w; exact absurd w.1 (by decide)
    · rintro (w | w)
      · exact q w
      · exact u w.2
    · obtain ⟨k1, kk⟩ := bd_ix (n := 2) (by decide) q
      have n2 : tn k ≠ 2 := fun w => z (hy.mpr (by rw [kk, w]; rfl))
      rw [kk]
      exact nI_lt (b := 2) (by omega) (by decide)
  exact B4_5 ⟨fun q => two25 0 ⟨fun _ => q, fun _ => rfl⟩, fun q => two25 1 ⟨fun z => absurd z k_one, fun z => absurd z q⟩⟩
theorem c_storage (r : RX h o S G) (J : s_J S nC nT nK) {x n : Int32} (hQ : cP o h Q (o_storage S x n)) : am_Run (am_in 8 [.ref o, .int x, .int n] h) Q := by
  have hv := J.1
  refine B8_0 ⟨r.is, c_findTask r hv (fun hx => ?_) (fun hx => B8_5_1 ?_)⟩
  rotate_left
  · rw [o_storage, if_pos hx] at hQ
    exact hQ h G r cF.rf.G
  obtain ⟨x1, x2, x3⟩ := hv.T hx
  have i2 : tn x ≤ s_nK S := by rw [hv.nK]; exact x2
  have tk := r.task x1 i2
  have tko := (r.2.2.2.2.1.1 (tn x) x1 i2).2.1
  rw [o_storage, if_neg (fun z => z hx)] at hQ
  refine B8_5 (c_within (fun q => ?_) (fun q => B8_20 ⟨fun z => absurd rfl z, fun _ => ?_⟩))
  rotate_left
  · rw [if_pos q] at hQ
    exact hQ h G r cF.rf.G
  rw [if_neg q] at hQ
  have inact : ¬ s_A S (tn x) → am_Run (8, 30, [some (.ref o), some (.int x), some (.int n), some (.ref (G.2.2.1 (tn x)))], [.int 0], h) Q := fun ha => B8_30 ⟨fun z => absurd rfl z, fun _ => by
    rw [if_pos ha] at hQ
    exact hQ h G r cF.rf.G⟩
  have act : s_A S (tn x) → am_Run (8, 30, [some (.ref o), some (.int x), some (.int n), some (.ref (G.2.2.1 (tn x)))], [.int 1], h) Q := by
    intro ha
    rw [if_neg (fun z => z ha)] at hQ
    refine B8_30 ⟨fun _ => ⟨_, ⟨_, tk, rfl⟩, fun q3 => ⟨_, ⟨_, tk, rfl⟩, wf_of tk (show 6 < 8 by decide) (fun h1 w1 => ?_)⟩, fun q3 => ?_⟩, fun z => absurd z k_one⟩
    rotate_left
    · rw [if_pos q3] at hQ
      exact hQ h G r cF.rf.G
    rw [if_neg (fun z => z q3)] at hQ
    have e16 : (sU S 16 (tn x) (S.1 16 (tn x) + n)).1 16 (tn x) = S.1 16 (tn x) + n := by rw [up_at, if_pos ⟨rfl, rfl⟩]
    have e0 : ∀ a j, a ≠ 16 → (sU S 16 (tn x) (S.1 16 (tn x) + n)).1 a j = S.1 a j := fun a j a1 => by rw [up_at, if_neg (by omega)]
    have w2 : wr h h1 (G.2.2.1 (tn x)) (4, xK (sU S 16 (tn x) (S.1 16 (tn x) + n)) G (tn x)) := by
      refine ⟨w1.1, ?_, w1.2.2⟩
      rw [w1.2.1]
      have eo : s_of (sU S 16 (tn x) (S.1 16 (tn x) + n)) (tn x) = s_of S (tn x) := by unfold s_of; rw [e0 11 _ (by decide)]
      simp only [xK, e16, eo, e0 12 (tn x) (by decide), e0 13 (tn x) (by decide), e0 14 (tn x) (by decide)]
      rfl
    have r1 := r.w4 x1 i2 w2 (fun a j _ _ a1 => e0 a j a1) rfl (fun j e => ⟨e0 13 j (by decide), e0 14 j (by decide), by rw [up_at, if_neg (by omega)]⟩) (fun j => by show ((sU S 16 (tn x) (S.1 16 (tn x) + n)).1 13 j = 1 ∨ _) ↔ _; rw [e0 13 j (by decide)]) (by
      rw [e0 13 _ (by decide)]
      by_cases z : S.1 13 (tn x) = 0
      · exact Or.inl ⟨z, z⟩
      · exact Or.inr (Or.inl ⟨z, z⟩))
    refine B8_60 ⟨_, ⟨_, w2.2.1, rfl⟩, ?_⟩
    rw [e16]
    exact hQ h1 G r1 (w1.cF (by omega) (by omega)).G
  exact B8_20 ⟨fun _ => ⟨⟨_, tk⟩, B69_0 ⟨_, ⟨_, tk, rfl⟩, fun a => B69_16 (act (Or.inl a)), fun a => ⟨_, ⟨_, tk, rfl⟩, fun b => inact (fun z => z.elim a b), fun b => B69_16 (act (Or.inr b))⟩⟩⟩, fun z => absurd z k_one⟩
theorem c_limit (r : RX h o S G) (J : s_J S nC nT nK) {c n : Int32} (hQ : cP o h Q (o_limit S c n)) : am_Run (am_in 9 [.ref o, .int c, .int n] h) Q := by
  have hv := J.1
  have bad : (bd c 9 ∨ bd n 50) → Q h (some (.int (-4))) := fun q => by
    rw [o_limit, if_pos q] at hQ
    exact hQ h G r cF.rf.G
  refine B9_0 (c_isClass (fun q => B9_4 ⟨fun z => absurd z k_one, fun _ => c_within (fun q2 => B9_13 ⟨fun _ => ?_, fun z => absurd z k_one⟩) (fun q2 => B9_13 ⟨fun z => absurd rfl z, fun _ => bad (Or.inr q2)⟩)⟩) (fun q => B9_4 ⟨fun _ => bad (Or.inl q), fun z => absurd rfl z⟩))
  obtain ⟨c1, c2⟩ := bd_ix (n := 9) (by decide) q
  rw [o_limit, if_neg (fun z => z.elim q q2)] at hQ
  have len : (xL S).length = 10 := by unfold xL; rw [List.length_map, List.length_range]
  refine ⟨_, r.g3, _, ai_of r.2.1.2.2.2.2.1 c2 (by omega) (rg_get (by omega)), _, r.g3, wi_of r.2.1.2.2.2.2.1 c2 (by rw [len]; omega) (by rw [len]; decide) (fun h1 w1 => ?_)⟩
  have w2 : wr h h1 (o + 4) (100, xL (sU S 10 (tn c) n)) := by
    refine ⟨w1.1, ?_, w1.2.2⟩
    rw [w1.2.1]
    unfold xL
    rw [rg_set (g' := fun j => Value.int ((sU S 10 (tn c) n).1 10 j))]
    intro j _
    rw [up_at]
    by_cases e : j = tn c
    · rw [if_pos e, if_pos ⟨rfl, e⟩]
    · rw [if_neg e, if_neg (by omega)]
  have r1 := r.wL w2 (fun a j a1 => by rw [up_at, if_neg (by omega)]) rfl
  exact B9_33 ⟨r1.is, c_startAll r1 (hv.u8 10 (by omega) _ _) (fun h2 r2 f2 => B9_37 (hQ h2 G r2 ((w1.cF (by omega) (by omega)).tr f2).G))⟩
theorem c_tick (r : RX h o S G) (J : s_J S nC nT nK) {w : Int64} (hQ : cP o h Q (o_tick S w)) : am_Run (am_in 10 [.ref o, .long w] h) Q := by
  have hv := J.1
  refine B10_0 ⟨_, r.g8, fun q => wf_of r.2.1.1 (show 8 < 9 by decide) (fun h1 w1 => ?_), fun q => ?_⟩
  · rw [o_tick, if_neg (Int64.not_lt.mpr (lg_ge.mp q))] at hQ
    have r1 : RX h1 o (sT S w) G := r.w0 w1 rfl rfl
    exact B10_17 ⟨r1.is, c_startAll r1 (nC := nC) (nT := nT) (nK := nK) hv (fun h2 r2 f2 => B10_21 (hQ h2 G r2 ((w1.cF (by omega) (by omega)).tr f2).G))⟩
  · rw [o_tick, if_pos (Int64.not_le.mp (fun z => q (lg_ge.mpr z)))] at hQ
    exact hQ h G r cF.rf.G
end Class6
