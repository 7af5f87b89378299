/-! back. -/
section Class11
variable {h : am_H} {o : Nat} {S S' : sS} {G : gM} {Q : am_H → Option Value → Prop} {nC nT nK : Nat}
theorem s_u_cg (h1 : ∀ j, S'.1 13 j = S.1 13 j) (h2 : ∀ j, S'.1 12 j = S.1 12 j) (hu : s_u S nK) : s_u S' nK := by
  intro i j a b c d
  simp only [s_A, h1, h2]
  exact hu i j a b c d
theorem c_pop (r : RX h o S G) {i : Nat} {h' : am_H} (i1 : 1 ≤ i) (i2 : i ≤ s_nK S) (n0 : ¬ S.1 13 i = 0) (ee : s_e S i = s_lev S i) (l2 : 2 ≤ s_lev S i) (l10 : s_lev S i ≤ 10) (l15 : S.1 15 i = nI (s_lev S i)) (w : wr h h' (G.2.2.1 i) (4, (xK S G i).set 7 (.ref (G.2.2.2.2.1 i (s_lev S i - 1))))) : RX h' o (sU S 15 i (S.1 15 i - 1)) (G.1, G.2.1, G.2.2.1, (fun j => if j = i then G.2.2.2.2.1 i (s_lev S i - 1) else G.2.2.2.1 j), G.2.2.2.2) := by
  have tk := r.task i1 i2
  obtain ⟨k, hk⟩ : ∃ k, s_lev S i = k + 1 := ⟨s_lev S i - 1, by omega⟩
  have at' : ∀ a j, (sU S 15 i (S.1 15 i - 1)).1 a j = if a = 15 ∧ j = i then nI k else S.1 a j := fun a j => by rw [up_at, l15, hk, nI_pred]
  generalize hS' : sU S 15 i (S.1 15 i - 1) = S' at at' ⊢
  have hS2 : S'.2 = S.2 := by rw [← hS']; rfl
  have k0 : ∀ a j, a ≠ 15 → a ≠ 18 → a ≠ 19 → S'.1 a j = S.1 a j := fun a j a1 _ _ => by rw [at', if_neg (by omega)]
  have k9 : ∀ a j, a ≠ 15 → S'.1 a j = S.1 a j := fun a j a1 => by rw [at', if_neg (by omega)]
  have e15 : ∀ j, j ≠ i → S'.1 15 j = S.1 15 j := fun j e => by rw [at', if_neg (by omega)]
  have levi : s_lev S' i = k := by unfold s_lev; rw [at', if_pos ⟨rfl, rfl⟩]; exact nI_clamp (by omega)
  have e13 : ∀ j, S'.1 13 j = S.1 13 j := fun j => k9 13 j (by decide)
  have ei : s_e S' i = k := by unfold s_e; rw [e13, if_neg n0, levi]
  have ej : ∀ j, j ≠ i → s_e S' j = s_e S j := fun j e => by unfold s_e s_lev; rw [e13, e15 j e]
  have of' : ∀ j, s_of S' j = s_of S j := fun j => by unfold s_of; rw [k9 11 j (by decide)]
  have old : ∀ y d, h.1 y = some d → y ≠ G.2.2.1 i → h'.1 y = some d := fun y d hy e => by rw [w.2.2 y e]; exact hy
  have le : ∀ j, s_e S' j ≤ s_e S j := fun j => by
    by_cases e : j = i
    · rw [e, ei, ee]; omega
    · rw [ej j e]; exact Nat.le_refl _
  refine r.deep i1 i2 (w.hw r.1 tk) k0 hS2 rfl rfl rfl (fun j e => if_neg e) n0 e15 ?_ (fun _ => ?_) old (fun j d a b c e => ?_) (fun j d k e a b c f a' b' c' f' ge => ?_) (fun j e z => rfl)
  · rw [w.2.1]
    simp only [xK, of', k9 12 i (by decide), hS2, e13, k9 14 i (by decide), k9 16 i (by decide), if_true]
    rfl
  · show (if i = i then G.2.2.2.2.1 i (s_lev S i - 1) else _) = G.2.2.2.2.1 i (s_e S' i)
    rw [if_pos rfl, ei, hk]
    rfl
  · have e' := Nat.le_trans e (le j)
    obtain ⟨y1, y2, y3, y4⟩ := r.2.2.2.2.2.1 j d a b c e'
    refine ⟨?_, ?_, y3, y4⟩
    · show h'.1 (G.2.2.2.2.1 j d) = _
      rw [old _ _ y1 (ne_kind y1 tk (by decide))]
      have eP : s_P S' j d = s_P S j d := by
        unfold s_P
        rw [e13, of', k9 5 _ (by decide), k9 18 _ (by decide)]
      simp only [xV, eP]
    · show h'.1 (G.2.2.2.2.2 j d) = _
      rw [old _ _ y2 (ne_kind y2 tk (by decide))]
      have : xB S' j d = xB S j d := by
        unfold xB s_Lb
        apply List.map_congr_left
        intro k _
        rw [e13, k9 19 _ (by decide)]
      rw [this]
  · exact r.2.2.2.2.2.2 j d k e a b c (Nat.le_trans f (le j)) a' b' c' (Nat.le_trans f' (le k)) ge
theorem c_back (r : RX h o S G) (J : s_J S nC nT nK) {x n a : Int32} (hQ : cP o h Q (o_back S x n a)) : am_Run (am_in 6 [.ref o, .int x, .int n, .int a] h) Q := by
  have hv := J.1
  have hT : nT ≤ 20 := hv.2.2.2.1
  refine B6_0 ⟨r.is, c_findTask r hv (fun hx => ?_) (fun hx => B6_5_1 ?_)⟩
  rotate_left
  · rw [o_back, if_pos hx] at hQ
    exact hQ h G r cF.rf.G
  obtain ⟨x1, x2, x3⟩ := hv.T hx
  have i2 : tn x ≤ s_nK S := by rw [hv.nK]; exact x2
  have tk := r.task x1 i2
  have tko := (r.2.2.2.2.1.1 (tn x) x1 i2).2.1
  obtain ⟨t, t1, t2⟩ := hv.2.2.2.2.2.2.2.2.1 (tn x) x1 x2
  rw [o_back, if_neg (fun z => z hx)] at hQ
  have bad : ((¬ n = 0 ∧ ¬ isC S n) ∨ bd a 9999) → Q h (some (.int (-4))) := fun q => by
    rw [if_pos q] at hQ
    exact hQ h G r cF.rf.G
  have go : (n = 0 ∨ isC S n) → am_Run (6, 32, [some (.ref o), some (.int x), some (.int n), some (.int a), some (.ref (G.2.2.1 (tn x))), none, none, none], [.int 1], h) Q := by
    intro hn
    refine B6_32 ⟨fun z => absurd z k_one, fun _ => c_within (fun q => B6_46 ⟨fun _ => ⟨_, ⟨_, tk, rfl⟩, fun q3 => ?_, fun q3 => ?_⟩, fun z => absurd z k_one⟩) (fun q => B6_46 ⟨fun z => absurd rfl z, fun _ => bad (Or.inr q)⟩)⟩
    · have ok : ¬ ((¬ n = 0 ∧ ¬ isC S n) ∨ bd a 9999) := by
        rintro (z | z)
        · exact hn.elim z.1 z.2
        · exact q z
      rw [if_neg ok, if_neg (fun z => z q3)] at hQ
      obtain ⟨gt, lv, lb, ee, l1, l10, l15, n0⟩ := c_top r hv x1 x2 (Or.inl q3)
      refine ⟨_, gt, ?_⟩
      by_cases e1 : s_lev S (tn x) = 1
      · have l15' : S.1 15 (tn x) = 1 := by rw [l15, e1]; rfl
        have le1 : S.1 15 (tn x) ≤ 1 := by rw [l15']; decide
        have gnull : am_gn h (G.2.2.2.2.1 (tn x) (s_lev S (tn x))) 3 2 := ⟨_, lv, by unfold xV; rw [if_pos e1]; rfl⟩
        by_cases e3 : S.1 12 (tn x) = 0
        · have nk : ¬ s_kp S (tn x) := fun z => z.2 e3
          have zero : (¬ n = 0 ∨ ¬ a = 0) → Q h (some (.int 0)) := fun z => by
            rw [if_pos ⟨nk, z⟩] at hQ
            exact hQ h G r cF.rf.G
          have gn : am_gn h (G.2.2.1 (tn x)) 4 2 := ⟨_, tk, by unfold xK; rw [if_pos e3]; rfl⟩
          refine Or.inl ⟨gnull, Or.inl ⟨gn, B6_91 (B6_92 ⟨fun z => absurd rfl z, fun _ => ⟨fun z => zero (Or.inl z), fun z => ⟨fun y => ?_, fun y => zero (Or.inr y)⟩⟩⟩)⟩⟩
          rw [if_neg (fun w => w.2.elim (fun u => u z) (fun u => u y)), if_neg (fun w => w le1), s_kept, if_neg nk] at hQ
          exact B6_109 (Or.inl ⟨gn, B6_149 ⟨r.is, c_leave r hv J.2.1 x1 x2 (Or.inl q3) (by decide) (by decide) (by decide) (fun h9 r9 f9 => B6_156 (hQ h9 G r9 f9.G))⟩⟩)
        · have kp : s_kp S (tn x) := ⟨l15', e3⟩
          have tt : tn (S.1 12 (tn x)) = t := by rw [t2]; exact nI_clamp (by omega)
          have tpos : 1 ≤ t := by
            rcases Nat.eq_zero_or_pos t with z | z
            · exfalso; rw [z] at t2; exact e3 t2
            · exact z
          have t3 : t ≤ s_nT S := by rw [hv.nT']; exact t1
          rw [if_neg (fun z => z.1 kp), if_neg (fun z => z le1), s_kept, if_pos kp, tt] at hQ
          have gt2 : am_gr h (G.2.2.1 (tn x)) 4 2 (G.2.1 t) := ⟨_, tk, by unfold xK; rw [if_neg e3, tt]; rfl⟩
          have tm := r.term tpos t3
          have tmo := (r.2.2.2.1.1 t tpos t3).2
          refine Or.inl ⟨gnull, Or.inr ⟨_, gt2, B6_92 ⟨fun _ => B6_109 (Or.inr ⟨_, gt2, Or.inr ⟨_, gt2, wf_of tm (show 1 < 4 by decide) (fun h1 w1 => ?_)⟩⟩), fun z => absurd z k_one⟩⟩⟩
          have tk1 : h1.1 (G.2.2.1 (tn x)) = some (4, xK S G (tn x)) := by rw [w1.2.2 _ (ne_kind tk tm (by decide))]; exact tk
          have gt3 : am_gr h1 (G.2.2.1 (tn x)) 4 2 (G.2.1 t) := ⟨_, tk1, by unfold xK; rw [if_neg e3, tt]; rfl⟩
          refine B6_140 (Or.inr ⟨_, gt3, wf_of w1.2.1 (show 2 < 4 by decide) (fun h2 w2 => ?_)⟩)
          have k2 : ∀ b j, b ≠ 8 → b ≠ 9 → (sU (sU S 8 t n) 9 t a).1 b j = S.1 b j := fun b j b1 b2 => by rw [up_at, if_neg (by omega), up_at, if_neg (by omega)]
          have hA : ∀ j, s_A (sU (sU S 8 t n) 9 t a) j ↔ s_A S j := fun j => by simp only [s_A, k2 13 j (by decide) (by decide)]
          have w12 : wr h h2 (G.2.1 t) (2, xT (sU (sU S 8 t n) 9 t a) t) := by
            refine ⟨w2.1.trans w1.1, ?_, fun z hz => (w2.2.2 z hz).trans (w1.2.2 z hz)⟩
            rw [w2.2.1]
            have e8 : (sU (sU S 8 t n) 9 t a).1 8 t = n := by rw [up_at, if_neg (by omega), up_at, if_pos ⟨rfl, rfl⟩]
            have e9 : (sU (sU S 8 t n) 9 t a).1 9 t = a := by rw [up_at, if_pos ⟨rfl, rfl⟩]
            have eK : s_nK (sU (sU S 8 t n) 9 t a) = s_nK S := by unfold s_nK; rw [k2 3 0 (by decide) (by decide)]
            simp only [xT, e8, e9, eK, s_own_cg hA (fun j => k2 12 j (by decide) (by decide))]
            rfl
          have r2 := r.w2 tpos t3 w12 (fun b j hb => by rw [up_at, if_neg (by omega), up_at, if_neg (by omega)]) rfl
          have hv2 := (hv.u8 8 (Or.inl rfl) t n).u8 9 (Or.inr (Or.inl rfl)) t a
          refine B6_149 ⟨r2.is, c_leave r2 hv2 (s_u_cg (fun j => k2 13 j (by decide) (by decide)) (fun j => k2 12 j (by decide) (by decide)) J.2.1) x1 x2 ((hA _).mpr (Or.inl q3)) (by decide) (by decide) (by decide) (fun h9 r9 f9 => B6_156 (hQ h9 G r9 ((((w1.cF (by omega) (by omega)).tr (w2.cF (by omega) (by omega))).tr f9).G)))⟩
      · have nk : ¬ s_kp S (tn x) := fun z => e1 (by
          have z1 := z.1
          rw [l15] at z1
          exact (nI_eq (b := 1) (by omega) (by decide)).mp z1)
        have nle : ¬ S.1 15 (tn x) ≤ 1 := fun z => by
          rw [l15] at z
          have := (nI_leI (b := 1) (by omega) (by decide)).mp z
          omega
        have zero : (¬ n = 0 ∨ ¬ a = 0) → Q h (some (.int 0)) := fun z => by
          rw [if_pos ⟨nk, z⟩] at hQ
          exact hQ h G r cF.rf.G
        have grb : am_gr h (G.2.2.2.2.1 (tn x) (s_lev S (tn x))) 3 2 (G.2.2.2.2.1 (tn x) (s_lev S (tn x) - 1)) := ⟨_, lv, by unfold xV; rw [if_neg e1]; rfl⟩
        refine Or.inr ⟨_, grb, B6_91_1 (B6_92_1 ⟨fun z => absurd rfl z, fun _ => ⟨fun z => zero (Or.inl z), fun z => ⟨fun y => B6_109_1 (wf_of tk (show 7 < 8 by decide) (fun h1 w1 => B6_121 ?_)), fun y => zero (Or.inr y)⟩⟩⟩)⟩
        rw [if_neg (fun w => w.2.elim (fun u => u z) (fun u => u y)), if_pos nle] at hQ
        exact hQ h1 _ (c_pop r x1 i2 n0 ee (by omega) l10 l15 w1) (w1.cF (by omega) (by omega)).G
    · have ok : ¬ ((¬ n = 0 ∧ ¬ isC S n) ∨ bd a 9999) := by
        rintro (z | z)
        · exact hn.elim z.1 z.2
        · exact q z
      rw [if_neg ok, if_pos q3] at hQ
      exact hQ h G r cF.rf.G
  exact B6_5 ⟨fun q => B6_27 (go (Or.inl q)), fun q => ⟨r.is, c_findCode r hv (fun z => B6_24 (B6_27 (go (Or.inr z)))) (fun z => B6_24_1 (B6_32 ⟨fun _ => bad (Or.inl ⟨q, z⟩), fun y => absurd rfl y⟩))⟩⟩
end Class11
