/-! Cells are made: constructors; code, terminal. -/
def nw (h h' : am_H) (c : am_C) (n : Nat) : Prop := h'.1 h.2.1 = some c ∧ (∀ x, x ≠ h.2.1 → h'.1 x = h.1 x) ∧ h'.2 = (h.2.1 + 1, h.2.2 + n)
theorem nw_new (h : am_H) (c : am_C) (n : Nat) : nw h (am_new h c n) c n := ⟨by simp [am_new], fun x e => by simp [am_new, e], rfl⟩
theorem nw.hw {o : Nat} {h h' : am_H} {c : am_C} {n : Nat} (w : nw h h' c n) (hh : hw h o) : hw h' o := by
  refine ⟨fun x d hx => ?_, by rw [w.2.2]; have := hh.2; show o + 22 ≤ h.2.1 + 1; omega⟩
  rw [w.2.2]
  show x < h.2.1 + 1
  by_cases e : x = h.2.1
  · omega
  · rw [w.2.1 x e] at hx
    have := hh.1 x d hx
    omega
section Class8
variable {h : am_H} {o : Nat} {S : sS} {G : gM} {Q : am_H → Option Value → Prop} {nC nT nK : Nat}
theorem n_code {a : Nat} {n p c r : Int32} (ha : h.1 a = some (1, am_dfs 1)) (hQ : ∀ h', wr h h' a (1, [.int n, .int p, .int c, .int r]) → Q h' none) : am_Run (am_in 65 [.ref a, .int n, .int p, .int c, .int r] h) Q := by
  refine B65_0 (wf_of ha (show 0 < 4 by decide) (fun h1 w1 => B65_9 (wf_of w1.2.1 (show 1 < 4 by decide) (fun h2 w2 => B65_14 (wf_of w2.2.1 (show 2 < 4 by decide) (fun h3 w3 => B65_19 (wf_of w3.2.1 (show 3 < 4 by decide) (fun h4 w4 => B65_25 (hQ h4 ⟨?_, w4.2.1, fun x hx => ?_⟩)))))))))
  · rw [w4.1, w3.1, w2.1, w1.1]
  · rw [w4.2.2 x hx, w3.2.2 x hx, w2.2.2 x hx, w1.2.2 x hx]
theorem n_term {a : Nat} {n : Int32} (ha : h.1 a = some (2, am_dfs 2)) (hQ : ∀ h', wr h h' a (2, [.int n, .int 0, .int 0, .int 0]) → Q h' none) : am_Run (am_in 70 [.ref a, .int n] h) Q :=
  B70_0 (wf_of ha (show 0 < 4 by decide) (fun h1 w1 => B70_9 (hQ h1 w1)))
theorem RX.next (r : RX h o S G) {x : Nat} {c : am_C} (hx : h.1 x = some c) : x ≠ h.2.1 := by
  have := r.1.1 x c hx
  omega
theorem xA_set {n k : Nat} {f : Nat → Nat} {q : Nat} (hk : k < n) : (xA n k f).set k (.ref q) = xA n (k + 1) (fun j => if j = k + 1 then q else f j) := by
  unfold xA
  rw [rg_set]
  intro j hj
  dsimp only
  by_cases e : j = k
  · rw [if_pos e, if_pos (by omega), if_pos (by omega)]
  · rw [if_neg e]
    by_cases e2 : j < k
    · rw [if_pos e2, if_pos (by omega), if_neg (by omega)]
    · rw [if_neg e2, if_neg (by omega)]
theorem wr_of {q x ck t ek : Nat} {y : Int32} {vs ws : List Value} {K : am_H → Prop} (hc : h.1 q = some (ck, vs)) (hx : h.1 x = some (ek, ws)) (hk : (ck = 102 ∧ ek = 1) ∨ (ck = 103 ∧ ek = 2) ∨ (ck = 104 ∧ ek = 4)) (ey : y = nI t) (ht : t < vs.length) (hs : vs.length < 65536) (kk : ∀ h', wr h h' q (ck, vs.set t (.ref x)) → K h') : am_wr h q y x K := by
  subst ey
  refine ⟨ck, vs, ek, ws, hc, hx, ?_, ?_⟩
  · rw [nI_clamp (by omega)]
    rintro (z | z | z | z | z)
    · omega
    · omega
    · exact nI_pos (by omega) z
    · omega
    · rcases hk with ⟨rfl, rfl⟩ | ⟨rfl, rfl⟩ | ⟨rfl, rfl⟩ <;> exact z rfl
  · rw [nI_clamp (by omega)]
    exact kk _ (wr_set h q _)
theorem xA_len {n k : Nat} {f : Nat → Nat} : (xA n k f).length = n := by unfold xA; rw [List.length_map, List.length_range]
theorem lt60 {n : Nat} (hn : n ≤ 60) : nI n < 60 ↔ ¬ nI n = 60 := by
  rw [show (60 : Int32) = nI 60 from rfl, nI_ltI (by omega) (by decide), nI_eq (by omega) (by decide)]
  omega
theorem lt20 {n : Nat} (hn : n ≤ 20) : nI n < 20 ↔ ¬ nI n = 20 := by
  rw [show (20 : Int32) = nI 20 from rfl, nI_ltI (by omega) (by decide), nI_eq (by omega) (by decide)]
  omega
theorem lt200 {n : Nat} (hn : n ≤ 200) : nI n < 200 ↔ ¬ nI n = 200 := by
  rw [show (200 : Int32) = nI 200 from rfl, nI_ltI (by omega) (by decide), nI_eq (by omega) (by decide)]
  omega
theorem c_code (r : RX h o S G) (J : s_J S nC nT nK) {p c x : Int32} (hQ : cP o h Q (o_code S p c x)) : am_Run (am_in 1 [.ref o, .int p, .int c, .int x] h) Q := by
  have hv := J.1
  have hC : nC ≤ 60 := hv.2.1
  have bad : (bd p 99 ∨ bd c 9 ∨ bd x 255) → Q h (some (.int (-4))) := fun q => by
    rw [o_code, if_pos q] at hQ
    exact hQ h G r cF.rf.G
  refine B1_0 (c_isProgram (fun q1 => B1_4 ⟨fun z => absurd z k_one, fun _ => c_isClass (fun q2 => B1_11 ⟨fun z => absurd z k_one, fun _ => c_within (fun q3 => B1_21 ⟨fun _ => ⟨_, r.g5, fun q4 => ⟨_, r.g0, _, r.g5, ?_⟩, fun q4 => ?_⟩, fun z => absurd z k_one⟩) (fun q3 => B1_21 ⟨fun z => absurd rfl z, fun _ => bad (Or.inr (Or.inr q3))⟩)⟩) (fun q2 => B1_11 ⟨fun _ => bad (Or.inr (Or.inl q2)), fun z => absurd rfl z⟩)⟩) (fun q1 => B1_4 ⟨fun _ => bad (Or.inl q1), fun z => absurd rfl z⟩))
  rotate_left
  · have e6 : S.1 1 0 = 60 := by
      rw [hv.1] at q4 ⊢
      exact Classical.not_not.mp (fun z => q4 ((lt60 hC).mpr z))
    rw [o_code, if_neg (fun z => z.elim q1 (fun y => y.elim q2 q3)), if_pos e6] at hQ
    exact hQ h G r cF.rf.G
  have e6 : ¬ S.1 1 0 = 60 := by
    rw [hv.1] at q4 ⊢
    exact (lt60 hC).mp q4
  rw [o_code, if_neg (fun z => z.elim q1 (fun y => y.elim q2 q3)), if_neg e6] at hQ
  have hne : nC ≠ 60 := fun z => e6 (by rw [hv.1, z]; rfl)
  have e0 : tn (S.1 1 0 + 1) = nC + 1 := by rw [hv.1]; exact tn_1 (by omega)
  rw [e0] at hQ
  obtain ⟨rw, ro, rc, rt, rk, rv⟩ := id r
  -- the new cell
  have w1 := nw_new h (1, am_dfs 1) (am_dfs 1).length
  generalize am_new h (1, am_dfs 1) (am_dfs 1).length = h1 at w1 ⊢
  have old1 : ∀ y d, h.1 y = some d → h1.1 y = some d := fun y d hy => by rw [w1.2.1 y (r.next hy)]; exact hy
  have o1 := old1 _ _ ro.1
  refine B1_49 ⟨_, ⟨_, o1, rfl⟩, n_code w1.1 (fun h2 w2 => ?_)⟩
  have nx : o + 22 ≤ h.2.1 := rw.2
  have old2 : ∀ y d, h.1 y = some d → h2.1 y = some d := fun y d hy => by rw [w2.2.2 y (r.next hy)]; exact old1 y d hy
  refine B1_62 (wr_of (old2 _ _ ro.2.1) w2.2.1 (Or.inl ⟨rfl, rfl⟩) hv.1 (by rw [xA_len]; omega) (by rw [xA_len]; decide) (fun h3 w3 => ?_))
  have o3 : h3.1 o = some (0, xO o S) := by rw [w3.2.2 o (by omega)]; exact old2 _ _ ro.1
  refine B1_63 ⟨_, ⟨_, o3, rfl⟩, wf_of o3 (show 5 < 9 by decide) (fun h4 w4 => ?_)⟩
  refine B1_73 ⟨_, ⟨_, w4.2.1, rfl⟩, hQ h4 ((fun j => if j = nC + 1 then h.2.1 else G.1 j), G.2) ?_ ?_⟩
  · -- the cells of the new state
    have old4 : ∀ y d, h.1 y = some d → y ≠ o → y ≠ o + 1 → h4.1 y = some d := fun y d hy y0 y1 => by rw [w4.2.2 y y0, w3.2.2 y y1]; exact old2 y d hy
    have hw4 : hw h4 o := w4.hw (w3.hw (w2.hw (w1.hw rw) w1.1) (old2 _ _ ro.2.1)) o3
    have at' : ∀ a j, (sU (sU (sU (sU S 1 0 (S.1 1 0 + 1)) 5 (nC + 1) p) 6 (nC + 1) c) 7 (nC + 1) x).1 a j = if a = 7 ∧ j = nC + 1 then x else if a = 6 ∧ j = nC + 1 then c else if a = 5 ∧ j = nC + 1 then p else if a = 1 ∧ j = 0 then S.1 1 0 + 1 else S.1 a j := fun a j => rfl
    generalize hS' : sU (sU (sU (sU S 1 0 (S.1 1 0 + 1)) 5 (nC + 1) p) 6 (nC + 1) c) 7 (nC + 1) x = S' at at' ⊢
    have h2 : S'.2 = S.2 := by rw [← hS']; rfl
    have k0 : ∀ a j, a ≠ 1 → a ≠ 5 → a ≠ 6 → a ≠ 7 → S'.1 a j = S.1 a j := fun a j a1 a2 a3 a4 => by rw [at', if_neg (by omega), if_neg (by omega), if_neg (by omega), if_neg (by omega)]
    have k1 : ∀ a j, j ≠ nC + 1 → a ≠ 1 → S'.1 a j = S.1 a j := fun a j a1 a2 => by rw [at', if_neg (by omega), if_neg (by omega), if_neg (by omega), if_neg (by omega)]
    have e1 : S'.1 1 0 = S.1 1 0 + 1 := by rw [at', if_neg (by omega), if_neg (by omega), if_neg (by omega), if_pos ⟨rfl, rfl⟩]
    have nC' : s_nC S' = nC + 1 := by unfold s_nC; rw [e1]; exact e0
    have nT' : s_nT S' = s_nT S := by unfold s_nT; rw [k0 2 0 (by decide) (by decide) (by decide) (by decide)]
    have nK' : s_nK S' = s_nK S := by unfold s_nK; rw [k0 3 0 (by decide) (by decide) (by decide) (by decide)]
    have of' : ∀ j, s_of S' j = s_of S j := fun j => by unfold s_of; rw [k0 11 j (by decide) (by decide) (by decide) (by decide)]
    have lev' : ∀ j, s_lev S' j = s_lev S j := fun j => by unfold s_lev; rw [k0 15 j (by decide) (by decide) (by decide) (by decide)]
    have e13 : ∀ j, S'.1 13 j = S.1 13 j := fun j => k0 13 j (by decide) (by decide) (by decide) (by decide)
    have ee : ∀ j, s_e S' j = s_e S j := fun j => by unfold s_e; rw [e13, lev']
    have hA : ∀ j, s_A S' j ↔ s_A S j := fun j => by unfold s_A; rw [e13]
    have ofr : ∀ j, 1 ≤ j → j ≤ s_nK S → s_of S j ≠ nC + 1 := fun j a b => by
      rw [hv.nK] at b
      have := (hv.2.2.2.2.2.2.2.1 j a b).2.1
      omega
    have cnt : ∀ z n, n ≤ s_nK S → s_cnt S' z n = s_cnt S z n := by
      intro z n
      induction n with
      | zero => intro _; rfl
      | succ n ih =>
        intro hn
        rw [s_cnt, s_cnt, ih (by omega)]
        have : s_cl S' (n + 1) = s_cl S (n + 1) := by unfold s_cl; rw [of', k1 6 _ (ofr (n + 1) (by omega) hn) (by decide)]
        simp only [hA, this]
    refine ⟨hw4, ⟨?_, ?_, ?_, ?_, ?_, ?_⟩, fun z a b => ?_, ⟨fun t a b => ?_, fun t u a b => ?_⟩, ⟨fun j a b => ?_, fun j k a b => ?_⟩, ⟨fun j d a b e f => ?_, fun j d k e a b f g a' b' f' g' => ?_⟩⟩
    · rw [w4.2.1]
      simp only [xO, e1, k0 2 0 (by decide) (by decide) (by decide) (by decide), k0 3 0 (by decide) (by decide) (by decide) (by decide), h2]
      rfl
    · rw [w4.2.2 _ (by omega), w3.2.1, nC', hv.nC', xA_set (by omega)]
    · rw [old4 _ _ ro.2.2.1 (by omega) (by omega), nT']
    · rw [old4 _ _ ro.2.2.2.1 (by omega) (by omega), nK']
    · rw [old4 _ _ ro.2.2.2.2.1 (by omega) (by omega)]
      have : xL S' = xL S := by
        unfold xL
        apply List.map_congr_left
        intro j _
        rw [k0 10 j (by decide) (by decide) (by decide) (by decide)]
      rw [this]
    · rw [old4 _ _ ro.2.2.2.2.2 (by omega) (by omega)]
      have : xN S' = xN S := by
        unfold xN
        apply List.map_congr_left
        intro j _
        rw [nK', cnt _ _ (Nat.le_refl _)]
      rw [this]
    · rw [nC'] at b
      by_cases ez : z = nC + 1
      · show h4.1 (if z = nC + 1 then h.2.1 else G.1 z) = _ ∧ o + 22 ≤ (if z = nC + 1 then h.2.1 else G.1 z)
        rw [if_pos ez]
        refine ⟨?_, nx⟩
        rw [w4.2.2 _ (by omega), w3.2.2 _ (by omega), w2.2.1]
        have x5 : S'.1 5 z = p := by rw [at', if_neg (by omega), if_neg (by omega), if_pos ⟨rfl, ez⟩]
        have x6 : S'.1 6 z = c := by rw [at', if_neg (by omega), if_pos ⟨rfl, ez⟩]
        have x7 : S'.1 7 z = x := by rw [at', if_pos ⟨rfl, ez⟩]
        simp only [xC, x5, x6, x7]
        rw [hv.1, nI_1, ez]
      · show h4.1 (if z = nC + 1 then h.2.1 else G.1 z) = _ ∧ o + 22 ≤ (if z = nC + 1 then h.2.1 else G.1 z)
        rw [if_neg ez]
        obtain ⟨y1, y2⟩ := rc z a (by rw [hv.nC']; omega)
        refine ⟨?_, y2⟩
        rw [old4 _ _ y1 (by omega) (by omega)]
        simp only [xC, k1 5 z ez (by decide), k1 6 z ez (by decide), k1 7 z ez (by decide)]
    · rw [nT'] at b
      obtain ⟨y1, y2⟩ := rt.1 t a b
      refine ⟨?_, y2⟩
      show h4.1 (G.2.1 t) = _
      rw [old4 _ _ y1 (by omega) (by omega)]
      simp only [xT, nK', k0 8 t (by decide) (by decide) (by decide) (by decide), k0 9 t (by decide) (by decide) (by decide) (by decide), s_own_cg hA (fun j => k0 12 j (by decide) (by decide) (by decide) (by decide))]
    · rw [nT'] at b ⊢
      exact rt.2 t u a b
    · rw [nK'] at b
      obtain ⟨y1, y2, y3⟩ := rk.1 j a b
      refine ⟨?_, y2, fun z => ?_⟩
      · show h4.1 (G.2.2.1 j) = _
        rw [old4 _ _ y1 (by omega) (by omega)]
        simp only [xK, of', k0 12 j (by decide) (by decide) (by decide) (by decide), h2, e13, k0 14 j (by decide) (by decide) (by decide) (by decide), k0 16 j (by decide) (by decide) (by decide) (by decide), if_neg (ofr j a b)]
      · rw [ee] at z ⊢
        exact y3 z
    · rw [nK'] at b ⊢
      exact rk.2 j k a b
    · rw [nK'] at b
      rw [ee] at f
      obtain ⟨y1, y2, y3, y4⟩ := rv.1 j d a b e f
      refine ⟨?_, ?_, y3, y4⟩
      · show h4.1 (G.2.2.2.2.1 j d) = _
        rw [old4 _ _ y1 (by omega) (by omega)]
        have : s_P S' j d = s_P S j d := by
          unfold s_P
          rw [e13, of', k1 5 _ (ofr j a b) (by decide), k0 18 _ (by decide) (by decide) (by decide) (by decide)]
        simp only [xV, this]
      · show h4.1 (G.2.2.2.2.2 j d) = _
        rw [old4 _ _ y2 (by omega) (by omega)]
        have : xB S' j d = xB S j d := by
          unfold xB s_Lb
          apply List.map_congr_left
          intro k _
          rw [e13, k0 19 _ (by decide) (by decide) (by decide) (by decide)]
        rw [this]
    · rw [nK'] at b b'
      rw [ee] at g g'
      exact rv.2 j d k e a b f g a' b' f' g'
  · have e2 : h4.2 = (h.2.1 + 1, h.2.2 + 4) := by rw [w4.1, w3.1, w2.1, w1.2.2]; rfl
    refine ⟨fun q hq => ?_, by rw [e2]; show h.2.1 ≤ h.2.1 + 1; omega, by rw [e2]; show h.2.1 + 1 ≤ _; omega, by rw [e2]; show h.2.2 + 4 ≤ _; omega⟩
    rw [w4.2.2 q (by omega), w3.2.2 q (by omega), w2.2.2 q (by omega), w1.2.1 q (by omega)]
end Class8
