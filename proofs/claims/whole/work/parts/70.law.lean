/-! THE LAW. -/
theorem RM.keep {f g : Nat → Option am_C} {m : Nat} {S : sS} (hM : RM f m S) (e : ∀ q, m ≤ q → q < m + 16 → g q = f q) : RM g m S := by
  obtain ⟨⟨z, hz⟩, a, w⟩ := hM
  refine ⟨⟨z, ?_⟩, fun k k1 k2 k3 => ?_, ?_⟩
  · rw [e m (by omega) (by omega)]; exact hz
  · rw [e _ (by omega) (by omega)]; exact a k k1 k2 k3
  · rw [e _ (by omega) (by omega)]; exact w
theorem RX.keep {h h' : am_H} {o : Nat} {S : sS} {G : gM} (r : RX h o S G) (f : mF (o + 6) h h') : RX h' o S G := by
  obtain ⟨rw, ro, rc, rt, rk, rv⟩ := r
  refine ⟨⟨fun q c hq => ?_, by rw [f.1]; exact rw.2⟩, ⟨?_, ?_, ?_, ?_, ?_, ?_⟩, fun c a b => ?_, ⟨fun t a b => ?_, rt.2⟩, ⟨fun i a b => ?_, rk.2⟩, ⟨fun i d a b c e => ?_, rv.2⟩⟩
  · rw [f.1]
    by_cases e : o + 6 ≤ q ∧ q < o + 6 + 16
    · have := rw.2
      omega
    · rw [f.2 q e] at hq
      exact rw.1 q c hq
  · rw [f.2 _ (by omega)]; exact ro.1
  · rw [f.2 _ (by omega)]; exact ro.2.1
  · rw [f.2 _ (by omega)]; exact ro.2.2.1
  · rw [f.2 _ (by omega)]; exact ro.2.2.2.1
  · rw [f.2 _ (by omega)]; exact ro.2.2.2.2.1
  · rw [f.2 _ (by omega)]; exact ro.2.2.2.2.2
  · obtain ⟨y1, y2⟩ := rc c a b
    exact ⟨by rw [f.2 _ (by omega)]; exact y1, y2⟩
  · obtain ⟨y1, y2⟩ := rt.1 t a b
    exact ⟨by rw [f.2 _ (by omega)]; exact y1, y2⟩
  · obtain ⟨y1, y2, y3⟩ := rk.1 i a b
    exact ⟨by rw [f.2 _ (by omega)]; exact y1, y2, y3⟩
  · obtain ⟨y1, y2, y3, y4⟩ := rv.1 i d a b c e
    exact ⟨by rw [f.2 _ (by omega)]; exact y1, by rw [f.2 _ (by omega)]; exact y2, y3, y4⟩
theorem lw_lt {L i : Nat} (hL : L ≤ 2560) (hi : i ≤ 2560) : (Int32.ofNat L - 5) < nI i ↔ L < i + 5 := by
  rw [Int32.lt_iff_toInt_lt, Int32.toInt_sub, nI_toInt (by omega), show Int32.ofNat L = nI L from rfl, nI_toInt (by omega), show (5 : Int32).toInt = 5 by decide, Int.bmod_eq_of_le (by omega) (by omega)]
  omega
def scr (L : Nat) (xs : Nat → Int32) : List Value := (List.range L).map fun j => Value.int (xs j)
theorem scr_at {h : am_H} {b L : Nat} {xs : Nat → Int32} (hb : h.1 b = some (99, scr L xs)) (hL : L ≤ 2560) {j : Nat} (hj : j < L) {y : Int32} (e : y = nI j) : am_ai h b y (xs j) := by
  subst e
  refine ⟨scr L xs, ?_, nI_pos (by omega), ?_⟩
  · unfold am_arr
    rw [hb]
    rfl
  · rw [nI_clamp (by omega)]
    exact rg_get hj
def LI (b o L : Nat) (xs : Nat → Int32) (h : am_H) (n : Nat) (S : sS) (G : gM) : Prop := RX h o S G ∧ RM h.1 (o + 6) S ∧ sJ S ∧ h.1 b = some (99, scr L xs) ∧ h.2.1 ≤ o + 22 + 3 * n ∧ h.2.2 ≤ 26292 + 22 * n
abbrev lw_fin (o : Nat) (h : am_H) (r : Option Value) : Prop := r = some (.int 1) ∧ h.2.1 ≤ o + 600000 ∧ h.2.2 ≤ 7302250
theorem law_loop {b o L : Nat} {xs : Nat → Int32} (hL : L ≤ 2560) (hbo : b < o) : ∀ (d n : Nat), n ≤ 512 → L ≤ 5 * n + 5 * d → ∀ (h : am_H) (S : sS) (G : gM), LI b o L xs h n S G → am_Run (71, 18, [some (.ref b), some (.ref o), some (.ref (o + 6)), some (.int (nI (5 * n)))], [], h) (lw_fin o) := by
  intro d
  induction d with
  | zero =>
    intro n hn hd h S G I
    obtain ⟨r, rm, -, hb, n1, n2⟩ := I
    have len : (scr L xs).length = L := by unfold scr; rw [List.length_map, List.length_range]
    refine B71_18 ⟨L, ⟨_, _, hb, by decide, len.symm⟩, fun _ => ⟨rfl, by omega, by omega⟩, fun q => absurd ((lw_lt hL (by omega)).mpr (by omega)) q⟩
  | succ d ih =>
    intro n hn hd h S G I
    obtain ⟨r, rm, ⟨nC, nT, nK, J⟩, hb, n1, n2⟩ := I
    have len : (scr L xs).length = L := by unfold scr; rw [List.length_map, List.length_range]
    refine B71_18 ⟨L, ⟨_, _, hb, by decide, len.symm⟩, fun _ => ⟨rfl, by omega, by omega⟩, fun q => ?_⟩
    have hi : 5 * n + 5 ≤ L := by
      rcases Nat.lt_or_ge L (5 * n + 5) with z | z
      · exact absurd ((lw_lt hL (by omega)).mpr z) q
      · exact z
    have sc0 : ∀ g : am_H, g.1 b = some (99, scr L xs) → am_ai g b (nI (5 * n)) (xs (5 * n)) := fun g hg => scr_at hg hL (by omega) rfl
    have sc1 : ∀ g : am_H, g.1 b = some (99, scr L xs) → am_ai g b (nI (5 * n) + 1) (xs (5 * n + 1)) := fun g hg => scr_at hg hL (by omega) (nI_add (5 * n) 1)
    have sc2 : ∀ g : am_H, g.1 b = some (99, scr L xs) → am_ai g b (nI (5 * n) + 2) (xs (5 * n + 2)) := fun g hg => scr_at hg hL (by omega) (nI_add (5 * n) 2)
    have sc3 : ∀ g : am_H, g.1 b = some (99, scr L xs) → am_ai g b (nI (5 * n) + 3) (xs (5 * n + 3)) := fun g hg => scr_at hg hL (by omega) (nI_add (5 * n) 3)
    have sc4 : ∀ g : am_H, g.1 b = some (99, scr L xs) → am_ai g b (nI (5 * n) + 4) (xs (5 * n + 4)) := fun g hg => scr_at hg hL (by omega) (nI_add (5 * n) 4)
    have nxt : ∀ (g : am_H) (S' : sS) (G' : gM), LI b o L xs g (n + 1) S' G' → am_Run (71, 707, [some (.ref b), some (.ref o), some (.ref (o + 6)), some (.int (nI (5 * n)))], [], g) (lw_fin o) := by
      intro g S' G' I'
      refine B71_707 ?_
      rw [show nI (5 * n) + 5 = nI (5 * (n + 1)) from nI_add (5 * n) 5]
      exact ih (n + 1) (by omega) (by omega) g S' G' I'
    have hb1 : ∀ g : am_H, cG o h g → g.1 b = some (99, scr L xs) := fun g f => by rw [f.1 b (Or.inl hbo)]; exact hb
    have rm1 : ∀ g : am_H, cG o h g → RM g.1 (o + 6) S := fun g f => rm.keep (fun q q1 q2 => f.1 q (Or.inr ⟨q1, by omega⟩))
    have fin : ∀ {g k : am_H} {S' : sS} {G' : gM}, cG o h g → mF (o + 6) g k → RX g o S' G' → RM k.1 (o + 6) S' → sJ S' → am_Run (71, 707, [some (.ref b), some (.ref o), some (.ref (o + 6)), some (.int (nI (5 * n)))], [], k) (lw_fin o) := by
      intro g k S' G' f1 f2 r1 m2 j2
      refine nxt k S' G' ⟨r1.keep f2, m2, j2, ?_, ?_, ?_⟩
      · rw [f2.2 b (by omega)]
        exact hb1 g f1
      · have := f1.2.2.1
        rw [f2.1]
        omega
      · have := f1.2.2.2
        rw [f2.1]
        omega
    have fr := J.2.2.1 (nK + 1) (by omega)
    refine ⟨_, sc0 h hb, fun _ => nxt h S G ⟨r, rm, ⟨nC, nT, nK, J⟩, hb, by omega, by omega⟩, ?_, ?_, ?_, ?_, ?_, ?_, ?_, ?_, ?_, ?_, ?_, ?_, ?_, ?_, ?_, ?_, ?_⟩
    · exact fun _ => ⟨_, sc1 h hb, _, sc2 h hb, _, sc3 h hb, r.is, c_code r J (fun g G1 r1 f1 => B71_135 ⟨_, sc1 g (hb1 g f1), _, sc2 g (hb1 g f1), _, sc3 g (hb1 g f1), (rm1 g f1).is, m_code (rm1 g f1) J.1 (fun k m2 f2 => B71_154 ⟨fun _ => fin f1 f2 r1 m2 (j_code J _ _ _), fun z => absurd rfl z⟩)⟩)⟩
    · exact fun _ => ⟨r.is, c_term r J (fun g G1 r1 f1 => B71_163 ⟨(rm1 g f1).is, m_term (rm1 g f1) (fun k m2 f2 => B71_167 ⟨fun _ => fin f1 f2 r1 m2 (j_term J), fun z => absurd rfl z⟩)⟩)⟩
    · exact fun _ => ⟨_, sc1 h hb, _, sc2 h hb, _, sc3 h hb, _, sc4 h hb, r.is, c_start r J (fun g G1 r1 f1 => B71_206 ⟨_, sc1 g (hb1 g f1), _, sc2 g (hb1 g f1), _, sc3 g (hb1 g f1), _, sc4 g (hb1 g f1), (rm1 g f1).is, m_start (rm1 g f1) J.1 (fun _ => s_not_A fr.1) (fun _ => fr.2.1) (fun k m2 f2 => B71_240 ⟨fun _ => fin f1 f2 r1 m2 (j_start J _ _ _), fun z => absurd rfl z⟩)⟩)⟩
    · exact fun _ => ⟨_, sc1 h hb, _, sc2 h hb, _, sc3 h hb, r.is, c_event r J (fun g G1 r1 f1 => B71_264 ⟨_, sc1 g (hb1 g f1), _, sc2 g (hb1 g f1), _, sc3 g (hb1 g f1), (rm1 g f1).is, m_event (rm1 g f1) J.1 (fun k m2 f2 => B71_283 ⟨fun _ => fin f1 f2 r1 m2 (j_event J _ _ _), fun z => absurd rfl z⟩)⟩)⟩
    · exact fun _ => ⟨_, sc1 h hb, _, sc2 h hb, r.is, c_link r J (fun g G1 r1 f1 => B71_302 ⟨_, sc1 g (hb1 g f1), _, sc2 g (hb1 g f1), (rm1 g f1).is, m_link (rm1 g f1) J.1 (fun k m2 f2 => B71_316 ⟨fun _ => fin f1 f2 r1 m2 (j_link J _ _), fun z => absurd rfl z⟩)⟩)⟩
    · exact fun _ => ⟨_, sc1 h hb, _, sc2 h hb, _, sc3 h hb, r.is, c_back r J (fun g G1 r1 f1 => B71_340 ⟨_, sc1 g (hb1 g f1), _, sc2 g (hb1 g f1), _, sc3 g (hb1 g f1), (rm1 g f1).is, m_back (rm1 g f1) J.1 (fun k m2 f2 => B71_359 ⟨fun _ => fin f1 f2 r1 m2 (j_back J _ _ _), fun z => absurd rfl z⟩)⟩)⟩
    · exact fun _ => ⟨_, sc1 h hb, r.is, c_area r J (fun g G1 r1 f1 => B71_373 ⟨_, sc1 g (hb1 g f1), (rm1 g f1).is, m_area (rm1 g f1) J.1 (fun k m2 f2 => B71_382 ⟨fun _ => fin f1 f2 r1 m2 (by rw [o_area_2]; exact ⟨nC, nT, nK, J⟩), fun z => absurd rfl z⟩)⟩)⟩
    · exact fun _ => ⟨_, sc1 h hb, _, sc2 h hb, r.is, c_storage r J (fun g G1 r1 f1 => B71_401 ⟨_, sc1 g (hb1 g f1), _, sc2 g (hb1 g f1), (rm1 g f1).is, m_storage (rm1 g f1) J.1 (fun k m2 f2 => B71_415 ⟨fun _ => fin f1 f2 r1 m2 (j_storage J _ _), fun z => absurd rfl z⟩)⟩)⟩
    · exact fun _ => ⟨_, sc1 h hb, _, sc2 h hb, r.is, c_limit r J (fun g G1 r1 f1 => B71_434 ⟨_, sc1 g (hb1 g f1), _, sc2 g (hb1 g f1), (rm1 g f1).is, m_limit (rm1 g f1) J.1 (fun k m2 f2 => B71_448 ⟨fun _ => fin f1 f2 r1 m2 (j_limit J _ _), fun z => absurd rfl z⟩)⟩)⟩
    · exact fun _ => ⟨_, sc1 h hb, _, sc2 h hb, r.is, c_tick r J (fun g G1 r1 f1 => B71_477 ⟨_, sc1 g (hb1 g f1), _, sc2 g (hb1 g f1), (rm1 g f1).is, m_tick (rm1 g f1) J.1 (fun k m2 f2 => B71_501 ⟨fun _ => fin f1 f2 r1 m2 (j_tick J _), fun z => absurd rfl z⟩)⟩)⟩
    · exact fun _ => ⟨_, sc1 h hb, r.is, c_purge r J (fun g G1 r1 f1 => B71_515 ⟨_, sc1 g (hb1 g f1), (rm1 g f1).is, m_purge (rm1 g f1) J.1 (fun k m2 f2 => B71_524 ⟨fun _ => fin f1 f2 r1 m2 (j_purge J _), fun z => absurd rfl z⟩)⟩)⟩
    · exact fun _ => ⟨_, sc1 h hb, _, sc2 h hb, _, sc3 h hb, r.is, c_handle r J (fun g G1 r1 f1 => B71_548 ⟨_, sc1 g (hb1 g f1), _, sc2 g (hb1 g f1), _, sc3 g (hb1 g f1), (rm1 g f1).is, m_handle (rm1 g f1) J.1 (fun k m2 f2 => B71_567 ⟨fun _ => fin f1 f2 r1 m2 (j_handle J _ _ _), fun z => absurd rfl z⟩)⟩)⟩
    · exact fun _ => ⟨_, sc1 h hb, _, sc2 h hb, r.is, c_cond r J (fun g G1 r1 f1 => B71_586 ⟨_, sc1 g (hb1 g f1), _, sc2 g (hb1 g f1), (rm1 g f1).is, m_cond (rm1 g f1) J.1 (fun k m2 f2 => B71_600 ⟨fun _ => fin f1 f2 r1 m2 (j_cond J _ _), fun z => absurd rfl z⟩)⟩)⟩
    · exact fun _ => ⟨_, sc1 h hb, r.is, c_state r J (fun g G1 r1 f1 => B71_614 ⟨_, sc1 g (hb1 g f1), (rm1 g f1).is, m_state (rm1 g f1) J.1 (fun k m2 f2 => B71_623 ⟨fun _ => fin f1 f2 r1 m2 (by rw [o_state_2]; exact ⟨nC, nT, nK, J⟩), fun z => absurd rfl z⟩)⟩)⟩
    · exact fun _ => ⟨_, sc1 h hb, _, sc2 h hb, r.is, c_told r J (fun g G1 r1 f1 => B71_642 ⟨_, sc1 g (hb1 g f1), _, sc2 g (hb1 g f1), (rm1 g f1).is, m_told (rm1 g f1) J.1 (fun k m2 f2 => B71_656 ⟨fun _ => fin f1 f2 r1 m2 (by rw [o_told_2]; exact ⟨nC, nT, nK, J⟩), fun z => absurd rfl z⟩)⟩)⟩
    · exact fun _ => ⟨_, sc1 h hb, r.is, c_owner r J (fun g G1 r1 f1 => B71_670 ⟨_, sc1 g (hb1 g f1), (rm1 g f1).is, m_owner (rm1 g f1) J.1 (fun k m2 f2 => B71_679 ⟨fun _ => fin f1 f2 r1 m2 (by rw [o_owner_2]; exact ⟨nC, nT, nK, J⟩), fun z => absurd rfl z⟩)⟩)⟩
    · exact fun _ => ⟨_, sc1 h hb, r.is, c_count r J (fun g G1 r1 f1 => B71_693 ⟨_, sc1 g (hb1 g f1), (rm1 g f1).is, m_count (rm1 g f1) J.1 (fun k m2 f2 => B71_702 ⟨fun _ => fin f1 f2 r1 m2 (by rw [o_count_2]; exact ⟨nC, nT, nK, J⟩), fun z => absurd rfl z⟩)⟩)⟩
theorem xA_0 {n : Nat} {f : Nat → Nat} : xA n 0 f = List.replicate n .null := by
  unfold xA
  simp only [Nat.not_lt_zero, if_false]
  exact rep_map
theorem am_law_ok : am_law := by
  intro b base L xs hL hb
  have w1 := nw_new (am_h0 b base L xs) (0, am_dfs 0) (am_dfs 0).length
  refine B71_0 ?_
  generalize am_new (am_h0 b base L xs) (0, am_dfs 0) (am_dfs 0).length = h1 at w1 ⊢
  have w11 : h1.1 base = some (0, am_dfs 0) := w1.1
  have w12 : ∀ x, x ≠ base → h1.1 x = (am_h0 b base L xs).1 x := w1.2.1
  have w13 : h1.2 = (base + 1, 9) := w1.2.2
  show am_Run (71, 3, [some (.ref b), none, none, none], [.ref base], h1) (lw_fin base)
  refine B71_3 (n_class w11 w13 (fun h2 a0 a1 a2 a3 a4 a5 a6 a7 => B71_7 ?_))
  have w3 := nw_new h2 (5, am_dfs 5) (am_dfs 5).length
  generalize am_new h2 (5, am_dfs 5) (am_dfs 5).length = h3 at w3 ⊢
  have e2 : h2.2.1 = base + 6 := by rw [a7]
  rw [e2]
  have w31 : h3.1 (base + 6) = some (5, am_dfs 5) := by rw [← e2]; exact w3.1
  have w32 : ∀ x, x ≠ base + 6 → h3.1 x = h2.1 x := fun x hx => w3.2.1 x (by rw [e2]; exact hx)
  have w33 : h3.2 = (base + 6 + 1, 9 + 300 + 20) := by rw [w3.2.2, a7]; rfl
  refine B71_11 (n_model w31 w33 (fun h4 m0 m1 m2 m3 => B71_15 ?_))
  have lo : ∀ x, x < base + 6 → h4.1 x = h2.1 x := fun x hx => by rw [m1 x (by omega), w32 x (by omega)]
  have hi : ∀ x, base + 22 ≤ x → h4.1 x = none := fun x hx => by
    rw [m1 x (by omega), w32 x (by omega), a6 x (by omega), w12 x (by omega)]
    show (if x = b then _ else none) = none
    rw [if_neg (by omega)]
  have hs : h4.1 b = some (99, scr L xs) := by
    rw [lo b (by omega), a6 b (by omega), w12 b (by omega)]
    show (if b = b then _ else none) = _
    rw [if_pos rfl]
    rfl
  have e4 : h4.2.1 = base + 22 := by rw [m2]
  have e42 : h4.2.2 = 26292 := by rw [m2]
  refine law_loop hL hb 512 0 (by omega) (by omega) h4 s0 ((fun _ => 0), (fun _ => 0), (fun _ => 0), (fun _ => 0), (fun _ _ => 0), (fun _ _ => 0)) ⟨⟨⟨fun q c hq => ?_, by omega⟩, ⟨?_, ?_, ?_, ?_, ?_, ?_⟩, fun c c1 c2 => ?_, ⟨fun c c1 c2 => ?_, fun t u c1 c2 => ?_⟩, ⟨fun c c1 c2 => ?_, fun t u c1 c2 => ?_⟩, ⟨fun c d c1 c2 => ?_, fun t d u e c1 c2 => ?_⟩⟩, m0, ⟨0, 0, 0, j_0⟩, hs, by omega, by omega⟩
  · rw [e4]
    rcases Nat.lt_or_ge q (base + 22) with z | z
    · exact z
    · rw [hi q z] at hq
      cases hq
  · rw [lo _ (by omega)]; exact a0
  · rw [lo _ (by omega), a1, show s_nC s0 = 0 from rfl, xA_0]
  · rw [lo _ (by omega), a2, show s_nT s0 = 0 from rfl, xA_0]
  · rw [lo _ (by omega), a3, show s_nK s0 = 0 from rfl, xA_0]
  · rw [lo _ (by omega)]; exact a4
  · rw [lo _ (by omega), a5]; rfl
  · rw [show s_nC s0 = 0 from rfl] at c2; omega
  · rw [show s_nT s0 = 0 from rfl] at c2; omega
  · rw [show s_nT s0 = 0 from rfl] at c2; omega
  · rw [show s_nK s0 = 0 from rfl] at c2; omega
  · rw [show s_nK s0 = 0 from rfl] at c2; omega
  · rw [show s_nK s0 = 0 from rfl] at c2; omega
  · rw [show s_nK s0 = 0 from rfl] at c2; omega
