/-! link and back. -/
section Class10
variable {h : am_H} {o : Nat} {S : sS} {G : gM} {Q : am_H → Option Value → Prop} {nC nT nK : Nat}
theorem rep10 : List.replicate 10 (Value.int 0) = (List.range 10).map fun _ => Value.int 0 := by decide
theorem s_e_le (hv : s_iv S nC nT nK) {j : Nat} (a : 1 ≤ j) (b : j ≤ s_nK S) : s_e S j ≤ 10 := by
  rw [hv.nK] at b
  have := (hv.2.2.2.2.2.2.2.2.2 j a b).1
  unfold s_e
  split <;> omega
theorem c_link (r : RX h o S G) (J : s_J S nC nT nK) {x p : Int32} (hQ : cP o h Q (o_link S x p)) : am_Run (am_in 5 [.ref o, .int x, .int p] h) Q := by
  have hv := J.1
  have hK : nK ≤ 200 := hv.2.2.2.2.2.1
  refine B5_0 ⟨r.is, c_findTask r hv (fun hx => ?_) (fun hx => B5_5_1 ?_)⟩
  rotate_left
  · rw [o_link, if_pos hx] at hQ
    exact hQ h G r cF.rf.G
  obtain ⟨x1, x2, x3⟩ := hv.T hx
  have i2 : tn x ≤ s_nK S := by rw [hv.nK]; exact x2
  have tk := r.task x1 i2
  have tko := (r.2.2.2.2.1.1 (tn x) x1 i2).2.1
  rw [o_link, if_neg (fun z => z hx)] at hQ
  refine B5_5 (c_isProgram (fun q => B5_17 ⟨fun _ => ⟨_, ⟨_, tk, rfl⟩, fun q3 => ?_, fun q3 => ?_⟩, fun z => absurd z k_one⟩) (fun q => B5_17 ⟨fun z => absurd rfl z, fun _ => ?_⟩))
  rotate_left
  · rw [if_neg q, if_pos q3] at hQ
    exact hQ h G r cF.rf.G
  · rw [if_pos q] at hQ
    exact hQ h G r cF.rf.G
  rw [if_neg q, if_neg (fun z => z q3)] at hQ
  obtain ⟨gt, lv, lb, ee, l1, l10, l15, n0⟩ := c_top r hv x1 x2 (Or.inl q3)
  refine ⟨_, gt, _, ⟨_, lv, rfl⟩, fun q4 => ?_, fun q4 => ?_⟩
  rotate_left
  · have e10 : S.1 15 (tn x) = 10 := by
      rw [l15]
      have : s_lev S (tn x) = 10 := by
        rcases Nat.lt_or_ge (s_lev S (tn x)) 10 with z | z
        · exact absurd (nI_lt (b := 10) z (by decide)) q4
        · omega
      rw [this]
      rfl
    rw [if_pos e10] at hQ
    exact hQ h G r cF.rf.G
  have l9 : s_lev S (tn x) < 10 := (nI_ltI (b := 10) (by omega) (by decide)).mp q4
  have ne10 : ¬ S.1 15 (tn x) = 10 := by
    rw [l15]
    intro z
    have := (nI_eq (b := 10) (by omega) (by decide)).mp z
    omega
  rw [if_neg ne10] at hQ
  obtain ⟨rw, ro, rc, rt, rk, rv⟩ := id r
  have nx : o + 22 ≤ h.2.1 := rw.2
  have w1 := nw_new h (3, am_dfs 3) (am_dfs 3).length
  generalize am_new h (3, am_dfs 3) (am_dfs 3).length = h1 at w1 ⊢
  have old1 : ∀ y d, h.1 y = some d → h1.1 y = some d := fun y d hy => by rw [w1.2.1 y (r.next hy)]; exact hy
  have tk1 := old1 _ _ tk
  have gt1 : am_gr h1 (G.2.2.1 (tn x)) 4 7 (G.2.2.2.2.1 (tn x) (s_lev S (tn x))) := by
    obtain ⟨vs, a1, a2⟩ := gt
    exact ⟨vs, old1 _ _ a1, a2⟩
  have e21 : h1.2.1 = h.2.1 + 1 := by rw [w1.2.2]
  refine B5_52 ⟨_, gt1, _, ⟨_, old1 _ _ lv, rfl⟩, _, gt1, n_level w1.1 (by rw [e21]; omega) (fun h2 a2 b2 c2 d2 => ?_)⟩
  rw [e21] at a2 b2 c2
  have old2 : ∀ y d, h.1 y = some d → h2.1 y = some d := fun y d hy => by
    have l := rw.1 y d hy
    rw [c2 y (by omega) (by omega)]
    exact old1 y d hy
  refine B5_70 (wf_of (old2 _ _ tk) (show 7 < 8 by decide) (fun h3 w3 => ?_))
  have tklt := rw.1 _ _ tk
  have lvl3 : h3.1 h.2.1 = some (3, [.int p, .int (nI (s_lev S (tn x)) + 1), .ref (G.2.2.2.2.1 (tn x) (s_lev S (tn x))), .ref (h.2.1 + 1)]) := by rw [w3.2.2 _ (by omega)]; exact a2
  have lab3 : h3.1 (h.2.1 + 1) = some (100, List.replicate 10 (.int 0)) := by rw [w3.2.2 _ (by omega)]; exact b2
  refine B5_73 ⟨_, ⟨_, w3.2.1, rfl⟩, _, ⟨_, lvl3, rfl⟩, ?_⟩
  -- the state
  have at' := s_beg_at S (tn x) p
  generalize hS' : s_beg S (tn x) p = S' at at' hQ ⊢
  have hS2 : S'.2 = S.2 := by rw [← hS']; exact s_beg_2 S (tn x) p
  have k0 : ∀ a j, a ≠ 15 → a ≠ 18 → a ≠ 19 → S'.1 a j = S.1 a j := fun a j a1 a2 a3 => by rw [at', if_neg (by omega), if_neg (by omega), if_neg (by omega)]
  have e15i : S'.1 15 (tn x) = nI (s_lev S (tn x) + 1) := by rw [at', if_neg (by omega), if_neg (by omega), if_pos ⟨rfl, rfl⟩, l15, nI_1]
  have e15 : ∀ j, j ≠ tn x → S'.1 15 j = S.1 15 j := fun j e => by rw [at', if_neg (by omega), if_neg (by omega), if_neg (by omega)]
  have levi : s_lev S' (tn x) = s_lev S (tn x) + 1 := by unfold s_lev; rw [e15i]; exact nI_clamp (by unfold s_lev at l9; omega)
  have e13 : ∀ j, S'.1 13 j = S.1 13 j := fun j => k0 13 j (by decide) (by decide) (by decide)
  have ei : s_e S' (tn x) = s_lev S (tn x) + 1 := by unfold s_e; rw [e13, if_neg n0, levi]
  have ej : ∀ j, j ≠ tn x → s_e S' j = s_e S j := fun j e => by unfold s_e s_lev; rw [e13, e15 j e]
  have of' : ∀ j, s_of S' j = s_of S j := fun j => by unfold s_of; rw [k0 11 j (by decide) (by decide) (by decide)]
  have hQ' := hQ h3 (G.1, G.2.1, G.2.2.1, (fun j => if j = tn x then h.2.1 else G.2.2.2.1 j), (fun j d => if j = tn x ∧ d = s_lev S (tn x) + 1 then h.2.1 else G.2.2.2.2.1 j d), (fun j d => if j = tn x ∧ d = s_lev S (tn x) + 1 then h.2.1 + 1 else G.2.2.2.2.2 j d))
  rw [e15i] at hQ'
  rw [nI_1]
  have old3 : ∀ y d, h.1 y = some d → y ≠ G.2.2.1 (tn x) → h3.1 y = some d := fun y d hy e => by rw [w3.2.2 y e]; exact old2 y d hy
  have hw2 : hw h2 o := by
    refine ⟨fun y d hy => ?_, ?_⟩
    · rw [d2]
      show y < h1.2.1 + 1
      rw [e21]
      by_cases z1 : y = h.2.1
      · omega
      · by_cases z2 : y = h.2.1 + 1
        · omega
        · rw [c2 y z1 z2, w1.2.1 y z1] at hy
          have := rw.1 y d hy
          omega
    · rw [d2]
      show o + 22 ≤ h1.2.1 + 1
      omega
  refine hQ' (r.deep x1 i2 (w3.hw hw2 (old2 _ _ tk)) k0 hS2 rfl rfl rfl (fun j e => if_neg e) n0 e15 ?_ (fun _ => ?_) old3 (fun j d a b c e => ?_) (fun j d k e a b c f a' b' c' f' ge => ?_) (fun j e z => if_neg (fun w => e w.1))) ?_
  · rw [w3.2.1]
    simp only [xK, of', k0 12 (tn x) (by decide) (by decide) (by decide), hS2, e13, k0 14 (tn x) (by decide) (by decide) (by decide), k0 16 (tn x) (by decide) (by decide) (by decide), if_true]
    rfl
  · show (if tn x = tn x then h.2.1 else _) = (if tn x = tn x ∧ s_e S' (tn x) = s_lev S (tn x) + 1 then h.2.1 else _)
    rw [if_pos rfl, if_pos ⟨rfl, ei⟩]
  · by_cases ez : j = tn x ∧ d = s_lev S (tn x) + 1
    · show h3.1 (if j = tn x ∧ d = s_lev S (tn x) + 1 then h.2.1 else _) = _ ∧ h3.1 (if j = tn x ∧ d = s_lev S (tn x) + 1 then h.2.1 + 1 else _) = _ ∧ o + 22 ≤ (if j = tn x ∧ d = s_lev S (tn x) + 1 then h.2.1 else _) ∧ o + 22 ≤ (if j = tn x ∧ d = s_lev S (tn x) + 1 then h.2.1 + 1 else _)
      rw [if_pos ez, if_pos ez]
      obtain ⟨rfl, rfl⟩ := ez
      refine ⟨?_, ?_, by omega, by omega⟩
      · rw [lvl3]
        have eP : s_P S' (tn x) (s_lev S (tn x) + 1) = p := by
          unfold s_P
          rw [e13, if_neg n0, at', if_neg (by omega), if_pos ⟨rfl, rfl⟩]
        simp only [xV, eP, if_neg (show ¬ s_lev S (tn x) + 1 = 1 by omega), show s_lev S (tn x) + 1 - 1 = s_lev S (tn x) by omega, true_and, if_neg (show ¬ s_lev S (tn x) = s_lev S (tn x) + 1 by omega), and_self, if_true]
        rw [nI_1]
      · rw [lab3, rep10]
        unfold xB
        congr 2
        apply List.map_congr_left
        intro k hk9
        have hk9 := List.mem_range.mp hk9
        unfold s_Lb
        rw [e13, if_neg n0, at', if_pos ⟨rfl, by omega, by omega⟩]
    · show h3.1 (if j = tn x ∧ d = s_lev S (tn x) + 1 then h.2.1 else G.2.2.2.2.1 j d) = _ ∧ h3.1 (if j = tn x ∧ d = s_lev S (tn x) + 1 then h.2.1 + 1 else G.2.2.2.2.2 j d) = _ ∧ o + 22 ≤ (if j = tn x ∧ d = s_lev S (tn x) + 1 then h.2.1 else G.2.2.2.2.1 j d) ∧ o + 22 ≤ (if j = tn x ∧ d = s_lev S (tn x) + 1 then h.2.1 + 1 else G.2.2.2.2.2 j d)
      rw [if_neg ez, if_neg ez]
      have hd : d ≤ s_e S j := by
        by_cases ejx : j = tn x
        · rw [ejx] at e ⊢
          rw [ei] at e
          rw [ee]
          have : d ≠ s_lev S (tn x) + 1 := fun w => ez ⟨ejx, w⟩
          omega
        · rw [ej j ejx] at e
          exact e
      have hd10 := s_e_le hv a b
      obtain ⟨y1, y2, y3, y4⟩ := rv.1 j d a b c hd
      have nn : 11 * j + d ≠ 11 * tn x + (s_lev S (tn x) + 1) := fun w => ez (by omega)
      refine ⟨?_, ?_, y3, y4⟩
      · rw [old3 _ _ y1 (ne_kind y1 tk (by decide))]
        have eP : s_P S' j d = s_P S j d := by
          have e18 : S'.1 18 (11 * j + d) = S.1 18 (11 * j + d) := by rw [at', if_neg (by omega), if_neg (by omega), if_neg (by omega)]
          unfold s_P
          rw [e13, of', k0 5 _ (by decide) (by decide) (by decide), e18]
        simp only [xV, eP, if_neg ez]
        by_cases d1 : d = 1
        · rw [if_pos d1, if_pos d1]
        · rw [if_neg d1, if_neg d1, if_neg]
          rintro ⟨w1, w2⟩
          rw [w1, ee] at hd
          omega
      · rw [old3 _ _ y2 (ne_kind y2 tk (by decide))]
        have : xB S' j d = xB S j d := by
          unfold xB
          apply List.map_congr_left
          intro k hk9
          have hk9 := List.mem_range.mp hk9
          have e19 : S'.1 19 (10 * (11 * j + d) + k) = S.1 19 (10 * (11 * j + d) + k) := by rw [at', if_neg (by omega), if_neg (by omega), if_neg (by omega)]
          unfold s_Lb
          rw [e13, e19]
        rw [this]
  · have ge : (if j = tn x ∧ d = s_lev S (tn x) + 1 then h.2.1 + 1 else G.2.2.2.2.2 j d) = (if k = tn x ∧ e = s_lev S (tn x) + 1 then h.2.1 + 1 else G.2.2.2.2.2 k e) := ge
    have low : ∀ j d, 1 ≤ j → j ≤ s_nK S → 1 ≤ d → d ≤ s_e S' j → ¬ (j = tn x ∧ d = s_lev S (tn x) + 1) → d ≤ s_e S j := fun j d a b c e ez => by
      by_cases ejx : j = tn x
      · rw [ejx] at e ⊢
        rw [ei] at e
        rw [ee]
        have : d ≠ s_lev S (tn x) + 1 := fun w => ez ⟨ejx, w⟩
        omega
      · rw [ej j ejx] at e
        exact e
    by_cases z1 : j = tn x ∧ d = s_lev S (tn x) + 1
    · by_cases z2 : k = tn x ∧ e = s_lev S (tn x) + 1
      · exact ⟨by omega, by omega⟩
      · rw [if_pos z1, if_neg z2] at ge
        have := rw.1 _ _ (rv.1 k e a' b' c' (low k e a' b' c' f' z2)).2.1
        omega
    · by_cases z2 : k = tn x ∧ e = s_lev S (tn x) + 1
      · rw [if_neg z1, if_pos z2] at ge
        have := rw.1 _ _ (rv.1 j d a b c (low j d a b c f z1)).2.1
        omega
      · rw [if_neg z1, if_neg z2] at ge
        exact rv.2 j d k e a b c (low j d a b c f z1) a' b' c' (low k e a' b' c' f' z2) ge
  · have e2 : h3.2 = (h.2.1 + 1 + 1, h.2.2 + 4 + 10) := by rw [w3.1, d2, w1.2.2]; rfl
    refine ⟨fun q hq => ?_, by rw [e2]; show h.2.1 ≤ h.2.1 + 1 + 1; omega, by rw [e2]; show h.2.1 + 1 + 1 ≤ _; omega, by rw [e2]; show h.2.2 + 4 + 10 ≤ _; omega⟩
    rw [w3.2.2 q (by omega), c2 q (by omega) (by omega), w1.2.1 q (by omega)]
end Class10
