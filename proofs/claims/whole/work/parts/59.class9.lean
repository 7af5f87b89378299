/-! terminal; the levels: link and back. -/
section Class9
variable {h : am_H} {o : Nat} {S : sS} {G : gM} {Q : am_H → Option Value → Prop} {nC nT nK : Nat}
theorem c_term (r : RX h o S G) (J : s_J S nC nT nK) (hQ : cP o h Q (o_term S)) : am_Run (am_in 2 [.ref o] h) Q := by
  have hv := J.1
  have hT : nT ≤ 20 := hv.2.2.2.1
  refine B2_0 ⟨_, r.g6, fun q4 => ⟨_, r.g1, _, r.g6, ?_⟩, fun q4 => ?_⟩
  rotate_left
  · have e6 : S.1 2 0 = 20 := by
      rw [hv.2.2.1] at q4 ⊢
      exact Classical.not_not.mp (fun z => q4 ((lt20 hT).mpr z))
    rw [o_term, if_pos e6] at hQ
    exact hQ h G r cF.rf.G
  have e6 : ¬ S.1 2 0 = 20 := by
    rw [hv.2.2.1] at q4 ⊢
    exact (lt20 hT).mp q4
  rw [o_term, if_neg e6] at hQ
  have hne : nT ≠ 20 := fun z => e6 (by rw [hv.2.2.1, z]; rfl)
  have e0 : tn (S.1 2 0 + 1) = nT + 1 := by rw [hv.2.2.1]; exact tn_1 (by omega)
  obtain ⟨rw, ro, rc, rt, rk, rv⟩ := id r
  have w1 := nw_new h (2, am_dfs 2) (am_dfs 2).length
  generalize am_new h (2, am_dfs 2) (am_dfs 2).length = h1 at w1 ⊢
  have old1 : ∀ y d, h.1 y = some d → h1.1 y = some d := fun y d hy => by rw [w1.2.1 y (r.next hy)]; exact hy
  have o1 := old1 _ _ ro.1
  refine B2_22 ⟨_, ⟨_, o1, rfl⟩, n_term w1.1 (fun h2 w2 => ?_)⟩
  have nx : o + 22 ≤ h.2.1 := rw.2
  have old2 : ∀ y d, h.1 y = some d → h2.1 y = some d := fun y d hy => by rw [w2.2.2 y (r.next hy)]; exact old1 y d hy
  refine B2_32 (wr_of (old2 _ _ ro.2.2.1) w2.2.1 (Or.inr (Or.inl ⟨rfl, rfl⟩)) hv.2.2.1 (by rw [xA_len]; omega) (by rw [xA_len]; decide) (fun h3 w3 => ?_))
  have o3 : h3.1 o = some (0, xO o S) := by rw [w3.2.2 o (by omega)]; exact old2 _ _ ro.1
  refine B2_33 ⟨_, ⟨_, o3, rfl⟩, wf_of o3 (show 6 < 9 by decide) (fun h4 w4 => ?_)⟩
  refine B2_43 ⟨_, ⟨_, w4.2.1, rfl⟩, hQ h4 (G.1, (fun j => if j = nT + 1 then h.2.1 else G.2.1 j), G.2.2) ?_ ?_⟩
  · have old4 : ∀ y d, h.1 y = some d → y ≠ o → y ≠ o + 2 → h4.1 y = some d := fun y d hy y0 y1 => by rw [w4.2.2 y y0, w3.2.2 y y1]; exact old2 y d hy
    have hw4 : hw h4 o := w4.hw (w3.hw (w2.hw (w1.hw rw) w1.1) (old2 _ _ ro.2.2.1)) o3
    have at' : ∀ a j, (sU S 2 0 (S.1 2 0 + 1)).1 a j = if a = 2 ∧ j = 0 then S.1 2 0 + 1 else S.1 a j := fun a j => rfl
    generalize hS' : sU S 2 0 (S.1 2 0 + 1) = S' at at' ⊢
    have h2 : S'.2 = S.2 := by rw [← hS']; rfl
    have k0 : ∀ a j, a ≠ 2 → S'.1 a j = S.1 a j := fun a j a1 => by rw [at', if_neg (by omega)]
    have e1 : S'.1 2 0 = S.1 2 0 + 1 := by rw [at', if_pos ⟨rfl, rfl⟩]
    have nC' : s_nC S' = s_nC S := by unfold s_nC; rw [k0 1 0 (by decide)]
    have nT' : s_nT S' = nT + 1 := by unfold s_nT; rw [e1]; exact e0
    have nK' : s_nK S' = s_nK S := by unfold s_nK; rw [k0 3 0 (by decide)]
    have of' : ∀ j, s_of S' j = s_of S j := fun j => by unfold s_of; rw [k0 11 j (by decide)]
    have lev' : ∀ j, s_lev S' j = s_lev S j := fun j => by unfold s_lev; rw [k0 15 j (by decide)]
    have e13 : ∀ j, S'.1 13 j = S.1 13 j := fun j => k0 13 j (by decide)
    have ee : ∀ j, s_e S' j = s_e S j := fun j => by unfold s_e; rw [e13, lev']
    have hA : ∀ j, s_A S' j ↔ s_A S j := fun j => by unfold s_A; rw [e13]
    have hc : ∀ j, s_cl S' j = s_cl S j := fun j => by unfold s_cl; rw [of', k0 6 _ (by decide)]
    have ow : ∀ t, s_own S' t (s_nK S') = s_own S t (s_nK S) := fun t => by rw [nK', s_own_cg hA (fun j => k0 12 j (by decide))]
    have trf : ∀ j, 1 ≤ j → j ≤ s_nK S → tn (S.1 12 j) ≠ nT + 1 := fun j a b => by
      rw [hv.nK] at b
      obtain ⟨t, t1, t2⟩ := hv.2.2.2.2.2.2.2.2.1 j a b
      rw [t2]
      show (nI t).toNatClampNeg ≠ _
      rw [nI_clamp (by omega)]
      omega
    have gt : ∀ z, z ≠ nT + 1 → (if z = nT + 1 then h.2.1 else G.2.1 z) = G.2.1 z := fun z e => if_neg e
    refine ⟨hw4, ⟨?_, ?_, ?_, ?_, ?_, ?_⟩, fun z a b => ?_, ⟨fun z a b => ?_, fun t u a b c d e => ?_⟩, ⟨fun j a b => ?_, fun j k a b => ?_⟩, ⟨fun j d a b e f => ?_, fun j d k e a b f g a' b' f' g' => ?_⟩⟩
    · rw [w4.2.1]
      simp only [xO, e1, k0 1 0 (by decide), k0 3 0 (by decide), h2]
      rfl
    · rw [old4 _ _ ro.2.1 (by omega) (by omega), nC']
    · rw [w4.2.2 _ (by omega), w3.2.1, nT', hv.nT', xA_set (by omega)]
    · rw [old4 _ _ ro.2.2.2.1 (by omega) (by omega), nK']
    · rw [old4 _ _ ro.2.2.2.2.1 (by omega) (by omega)]
      have : xL S' = xL S := by
        unfold xL
        apply List.map_congr_left
        intro j _
        rw [k0 10 j (by decide)]
      rw [this]
    · rw [old4 _ _ ro.2.2.2.2.2 (by omega) (by omega)]
      have : xN S' = xN S := by
        unfold xN
        apply List.map_congr_left
        intro j _
        rw [nK', s_cnt_cg hA hc]
      rw [this]
    · rw [nC'] at b
      obtain ⟨y1, y2⟩ := rc z a b
      refine ⟨?_, y2⟩
      show h4.1 (G.1 z) = _
      rw [old4 _ _ y1 (by omega) (by omega)]
      simp only [xC, k0 5 z (by decide), k0 6 z (by decide), k0 7 z (by decide)]
    · rw [nT'] at b
      show h4.1 (if z = nT + 1 then h.2.1 else G.2.1 z) = _ ∧ o + 22 ≤ (if z = nT + 1 then h.2.1 else G.2.1 z)
      by_cases ez : z = nT + 1
      · rw [if_pos ez]
        refine ⟨?_, nx⟩
        rw [w4.2.2 _ (by omega), w3.2.2 _ (by omega), w2.2.1]
        obtain ⟨f8, f9⟩ := J.2.2.2.1 z (by omega)
        have own0 : s_own S (nI z) (s_nK S) = 0 := by
          refine (s_own_0 (s_nK S)).mpr (fun j j1 j2 _ je => trf j j1 j2 ?_)
          rw [je]
          show (nI z).toNatClampNeg = _
          rw [nI_clamp (by omega)]
          exact ez
        simp only [xT, ow, own0, k0 8 z (by decide), k0 9 z (by decide), f8, f9]
        rw [hv.2.2.1, nI_1, ez]
        rfl
      · rw [if_neg ez]
        obtain ⟨y1, y2⟩ := rt.1 z a (by rw [hv.nT']; omega)
        refine ⟨?_, y2⟩
        rw [old4 _ _ y1 (by omega) (by omega)]
        simp only [xT, ow, k0 8 z (by decide), k0 9 z (by decide)]
    · rw [nT'] at b d
      have e : (if t = nT + 1 then h.2.1 else G.2.1 t) = (if u = nT + 1 then h.2.1 else G.2.1 u) := e
      by_cases et : t = nT + 1
      · by_cases eu : u = nT + 1
        · omega
        · rw [if_pos et, if_neg eu] at e
          exact absurd e.symm (r.next (rt.1 u c (by rw [hv.nT']; omega)).1)
      · by_cases eu : u = nT + 1
        · rw [if_neg et, if_pos eu] at e
          exact absurd e (r.next (rt.1 t a (by rw [hv.nT']; omega)).1)
        · rw [if_neg et, if_neg eu] at e
          exact rt.2 t u a (by rw [hv.nT']; omega) c (by rw [hv.nT']; omega) e
    · rw [nK'] at b
      obtain ⟨y1, y2, y3⟩ := rk.1 j a b
      refine ⟨?_, y2, fun z => ?_⟩
      · show h4.1 (G.2.2.1 j) = _
        rw [old4 _ _ y1 (by omega) (by omega)]
        simp only [xK, of', k0 12 j (by decide), h2, e13, k0 14 j (by decide), k0 16 j (by decide), if_neg (trf j a b)]
      · rw [ee] at z ⊢
        exact y3 z
    · rw [nK'] at b ⊢
      exact rk.2 j k a b
    · rw [nK'] at b
      rw [ee] at f
      obtain ⟨y1, y2, y3, y4⟩ := rv.1 j d a b e f
      refine ⟨?_, ?_, y3, y4⟩
      · show h4.1 (G.2.2.2.2.1 j d) = _
        rw [old4 _ _ y1 (by omega) (by omega)]
        have : s_P S' j d = s_P S j d := by
          unfold s_P
          rw [e13, of', k0 5 _ (by decide), k0 18 _ (by decide)]
        simp only [xV, this]
      · show h4.1 (G.2.2.2.2.2 j d) = _
        rw [old4 _ _ y2 (by omega) (by omega)]
        have : xB S' j d = xB S j d := by
          unfold xB s_Lb
          apply List.map_congr_left
          intro k _
          rw [e13, k0 19 _ (by decide)]
        rw [this]
    · rw [nK'] at b b'
      rw [ee] at g g'
      exact rv.2 j d k e a b f g a' b' f' g'
  · have e2 : h4.2 = (h.2.1 + 1, h.2.2 + 4) := by rw [w4.1, w3.1, w2.1, w1.2.2]; rfl
    refine ⟨fun q hq => ?_, by rw [e2]; show h.2.1 ≤ h.2.1 + 1; omega, by rw [e2]; show h.2.1 + 1 ≤ _; omega, by rw [e2]; show h.2.2 + 4 ≤ _; omega⟩
    rw [w4.2.2 q (by omega), w3.2.2 q (by omega), w2.2.2 q (by omega), w1.2.1 q (by omega)]
/-- a task's own cell and new cells alone have changed: its levels are others -/
theorem RX.deep {h' : am_H} {S' : sS} {G' : gM} (r : RX h o S G) {i : Nat} (i1 : 1 ≤ i) (i2 : i ≤ s_nK S) (hw' : hw h' o)
    (hk : ∀ a j, a ≠ 15 → a ≠ 18 → a ≠ 19 → S'.1 a j = S.1 a j) (h2 : S'.2 = S.2)
    (g1 : G'.1 = G.1) (g2 : G'.2.1 = G.2.1) (g3 : G'.2.2.1 = G.2.2.1) (g4 : ∀ j, j ≠ i → G'.2.2.2.1 j = G.2.2.2.1 j)
    (n0 : ¬ S.1 13 i = 0) (e15 : ∀ j, j ≠ i → S'.1 15 j = S.1 15 j)
    (c1 : h'.1 (G.2.2.1 i) = some (4, xK S' G' i)) (tp : 1 ≤ s_e S' i → G'.2.2.2.1 i = G'.2.2.2.2.1 i (s_e S' i))
    (old : ∀ x d, h.1 x = some d → x ≠ G.2.2.1 i → h'.1 x = some d)
    (cv : ∀ j d, 1 ≤ j → j ≤ s_nK S → 1 ≤ d → d ≤ s_e S' j → h'.1 (G'.2.2.2.2.1 j d) = some (3, xV S' G' j d) ∧ h'.1 (G'.2.2.2.2.2 j d) = some (100, xB S' j d) ∧ o + 22 ≤ G'.2.2.2.2.1 j d ∧ o + 22 ≤ G'.2.2.2.2.2 j d)
    (ci : ∀ j d k e, 1 ≤ j → j ≤ s_nK S → 1 ≤ d → d ≤ s_e S' j → 1 ≤ k → k ≤ s_nK S → 1 ≤ e → e ≤ s_e S' k → G'.2.2.2.2.2 j d = G'.2.2.2.2.2 k e → j = k ∧ d = e)
    (g5 : ∀ j, j ≠ i → 1 ≤ s_e S j → G'.2.2.2.2.1 j (s_e S j) = G.2.2.2.2.1 j (s_e S j)) : RX h' o S' G' := by
  obtain ⟨rw, ro, rc, rt, rk, rv⟩ := r
  have tk := rk.1 i i1 i2
  have nC' : s_nC S' = s_nC S := by unfold s_nC; rw [hk 1 0 (by decide) (by decide) (by decide)]
  have nT' : s_nT S' = s_nT S := by unfold s_nT; rw [hk 2 0 (by decide) (by decide) (by decide)]
  have nK' : s_nK S' = s_nK S := by unfold s_nK; rw [hk 3 0 (by decide) (by decide) (by decide)]
  have of' : ∀ j, s_of S' j = s_of S j := fun j => by unfold s_of; rw [hk 11 j (by decide) (by decide) (by decide)]
  have e13 : ∀ j, S'.1 13 j = S.1 13 j := fun j => hk 13 j (by decide) (by decide) (by decide)
  have hA : ∀ j, s_A S' j ↔ s_A S j := fun j => by unfold s_A; rw [e13]
  have hc : ∀ j, s_cl S' j = s_cl S j := fun j => by unfold s_cl; rw [of', hk 6 _ (by decide) (by decide) (by decide)]
  refine ⟨hw', ⟨?_, ?_, ?_, ?_, ?_, ?_⟩, fun z a b => ?_, ⟨fun t a b => ?_, fun t u a b => ?_⟩, ⟨fun j a b => ?_, fun j k a b => ?_⟩, ⟨fun j d a b e f => ?_, fun j d k e a b f g a' b' f' g' => ?_⟩⟩
  · rw [old _ _ ro.1 (by omega)]
    simp only [xO, hk 1 0 (by decide) (by decide) (by decide), hk 2 0 (by decide) (by decide) (by decide), hk 3 0 (by decide) (by decide) (by decide), h2]
  · rw [old _ _ ro.2.1 (by omega), nC', g1]
  · rw [old _ _ ro.2.2.1 (by omega), nT', g2]
  · rw [old _ _ ro.2.2.2.1 (by omega), nK', g3]
  · rw [old _ _ ro.2.2.2.2.1 (by omega)]
    have : xL S' = xL S := by
      unfold xL
      apply List.map_congr_left
      intro j _
      rw [hk 10 j (by decide) (by decide) (by decide)]
    rw [this]
  · rw [old _ _ ro.2.2.2.2.2 (by omega)]
    have : xN S' = xN S := by
      unfold xN
      apply List.map_congr_left
      intro j _
      rw [nK', s_cnt_cg hA hc]
    rw [this]
  · rw [nC'] at b
    rw [g1]
    obtain ⟨y1, y2⟩ := rc z a b
    refine ⟨?_, y2⟩
    rw [old _ _ y1 (ne_kind y1 tk.1 (by decide))]
    simp only [xC, hk 5 z (by decide) (by decide) (by decide), hk 6 z (by decide) (by decide) (by decide), hk 7 z (by decide) (by decide) (by decide)]
  · rw [nT'] at b
    rw [g2]
    obtain ⟨y1, y2⟩ := rt.1 t a b
    refine ⟨?_, y2⟩
    rw [old _ _ y1 (ne_kind y1 tk.1 (by decide))]
    simp only [xT, nK', hk 8 t (by decide) (by decide) (by decide), hk 9 t (by decide) (by decide) (by decide), s_own_cg hA (fun j => hk 12 j (by decide) (by decide) (by decide))]
  · rw [nT'] at b ⊢
    rw [g2]
    exact rt.2 t u a b
  · rw [nK'] at b
    rw [g3]
    by_cases e : j = i
    · subst e
      exact ⟨c1, tk.2.1, tp⟩
    · obtain ⟨y1, y2, y3⟩ := rk.1 j a b
      refine ⟨?_, y2, fun z => ?_⟩
      · rw [old _ _ y1 (fun w => e (rk.2 j i a b i1 i2 w))]
        simp only [xK, of', hk 12 j (by decide) (by decide) (by decide), h2, e13, hk 14 j (by decide) (by decide) (by decide), hk 16 j (by decide) (by decide) (by decide), g1, g2, g4 j e]
      · have es : s_e S' j = s_e S j := by unfold s_e s_lev; rw [e13, e15 j e]
        rw [es] at z ⊢
        rw [g4 j e, y3 z, g5 j e z]
  · rw [nK'] at b ⊢
    rw [g3]
    exact rk.2 j k a b
  · rw [nK'] at b
    exact cv j d a b e f
  · rw [nK'] at b b'
    exact ci j d k e a b f g a' b' f' g'
theorem n_level {a : Nat} {p d : Int32} {bl : Nat} (ha : h.1 a = some (3, am_dfs 3)) (hlt : a ≠ h.2.1) (hQ : ∀ h', h'.1 a = some (3, [.int p, .int d, .ref bl, .ref h.2.1]) → h'.1 h.2.1 = some (100, List.replicate 10 (.int 0)) → (∀ x, x ≠ a → x ≠ h.2.1 → h'.1 x = h.1 x) → h'.2 = (h.2.1 + 1, h.2.2 + 10) → Q h' none) : am_Run (am_in 66 [.ref a, .int p, .int d, .ref bl] h) Q := by
  refine B66_0 (wf_of ha (show 0 < 4 by decide) (fun h1 w1 => B66_9 (wf_of w1.2.1 (show 1 < 4 by decide) (fun h2 w2 => B66_14 (wf_of w2.2.1 (show 2 < 4 by decide) (fun h3 w3 => B66_19 ?_))))))
  have w4 := nw_new h3 (100, List.replicate (10 : Int32).toNatClampNeg (am_df 100)) (10 : Int32).toNatClampNeg
  generalize am_new h3 (100, List.replicate (10 : Int32).toNatClampNeg (am_df 100)) (10 : Int32).toNatClampNeg = h4 at w4 ⊢
  have e2 : h3.2 = h.2 := by rw [w3.1, w2.1, w1.1]
  have e21 : h3.2.1 = h.2.1 := by rw [e2]
  rw [e21]
  have a4 : h4.1 a = some (3, (((am_dfs 3).set 0 (.int p)).set 1 (.int d)).set 2 (.ref bl)) := by rw [w4.2.1 a (by rw [e21]; exact hlt)]; exact w3.2.1
  refine B66_24 (wf_of a4 (show 3 < 4 by decide) (fun h5 w5 => B66_27 (hQ h5 w5.2.1 ?_ (fun x x1 x2 => ?_) ?_)))
  · rw [w5.2.2 _ (fun z => hlt z.symm), ← e21]; exact w4.1
  · rw [w5.2.2 x x1, w4.2.1 x (by rw [e21]; exact x2), w3.2.2 x x1, w2.2.2 x x1, w1.2.2 x x1]
  · rw [w5.1, w4.2.2, e2]; rfl
theorem n_levelN {a : Nat} {p d : Int32} (ha : h.1 a = some (3, am_dfs 3)) (hlt : a ≠ h.2.1) (hQ : ∀ h', h'.1 a = some (3, [.int p, .int d, .null, .ref h.2.1]) → h'.1 h.2.1 = some (100, List.replicate 10 (.int 0)) → (∀ x, x ≠ a → x ≠ h.2.1 → h'.1 x = h.1 x) → h'.2 = (h.2.1 + 1, h.2.2 + 10) → Q h' none) : am_Run (am_in 66 [.ref a, .int p, .int d, .null] h) Q := by
  refine B66_0_1 (wf_of ha (show 0 < 4 by decide) (fun h1 w1 => B66_9_1 (wf_of w1.2.1 (show 1 < 4 by decide) (fun h2 w2 => B66_14_1 (wf_of w2.2.1 (show 2 < 4 by decide) (fun h3 w3 => B66_19_1 ?_))))))
  have w4 := nw_new h3 (100, List.replicate (10 : Int32).toNatClampNeg (am_df 100)) (10 : Int32).toNatClampNeg
  generalize am_new h3 (100, List.replicate (10 : Int32).toNatClampNeg (am_df 100)) (10 : Int32).toNatClampNeg = h4 at w4 ⊢
  have e2 : h3.2 = h.2 := by rw [w3.1, w2.1, w1.1]
  have e21 : h3.2.1 = h.2.1 := by rw [e2]
  rw [e21]
  have a4 : h4.1 a = some (3, (((am_dfs 3).set 0 (.int p)).set 1 (.int d)).set 2 .null) := by rw [w4.2.1 a (by rw [e21]; exact hlt)]; exact w3.2.1
  refine B66_24_1 (wf_of a4 (show 3 < 4 by decide) (fun h5 w5 => B66_27_1 (hQ h5 w5.2.1 ?_ (fun x x1 x2 => ?_) ?_)))
  · rw [w5.2.2 _ (fun z => hlt z.symm), ← e21]; exact w4.1
  · rw [w5.2.2 x x1, w4.2.1 x (by rw [e21]; exact x2), w3.2.2 x x1, w2.2.2 x x1, w1.2.2 x x1]
  · rw [w5.1, w4.2.2, e2]; rfl
end Class9
