/-! One cell of the class's is written: its cells for the new state. -/
section Class5
variable {h h' : am_H} {o : Nat} {S S' : sS} {G : gM} {nC nT nK : Nat}
theorem s_cnt_cg (hA : ∀ j, s_A S' j ↔ s_A S j) (hc : ∀ j, s_cl S' j = s_cl S j) (c : Int32) : ∀ n, s_cnt S' c n = s_cnt S c n
  | 0 => rfl
  | n + 1 => by
    rw [s_cnt, s_cnt, s_cnt_cg hA hc c n]
    simp only [hA, hc]
theorem s_own_cg (hA : ∀ j, s_A S' j ↔ s_A S j) (hc : ∀ j, S'.1 12 j = S.1 12 j) (t : Int32) : ∀ n, s_own S' t n = s_own S t n
  | 0 => rfl
  | n + 1 => by
    rw [s_own, s_own, s_own_cg hA hc t n]
    simp only [hA, hc]
theorem RX.w4 (r : RX h o S G) {i : Nat} (i1 : 1 ≤ i) (i2 : i ≤ s_nK S) (w : wr h h' (G.2.2.1 i) (4, xK S' G i)) (hk : ∀ a j, a ≠ 13 → a ≠ 14 → a ≠ 16 → S'.1 a j = S.1 a j) (h2 : S'.2 = S.2) (hj : ∀ j, j ≠ i → S'.1 13 j = S.1 13 j ∧ S'.1 14 j = S.1 14 j ∧ S'.1 16 j = S.1 16 j) (hA : ∀ j, s_A S' j ↔ s_A S j)
    (hq : (S'.1 13 i = 0 ∧ S.1 13 i = 0) ∨ (¬ S'.1 13 i = 0 ∧ ¬ S.1 13 i = 0) ∨ (¬ S'.1 13 i = 0 ∧ s_lev S i = 0)) : RX h' o S' G := by
  have tk := r.task i1 i2
  have tko := (r.2.2.2.2.1.1 i i1 i2).2.1
  have hc : ∀ j, s_cl S' j = s_cl S j := fun j => by
    unfold s_cl s_of
    rw [hk 11 j (by decide) (by decide) (by decide), hk 6 _ (by decide) (by decide) (by decide)]
  have nK' : s_nK S' = s_nK S := by unfold s_nK; rw [hk 3 0 (by decide) (by decide) (by decide)]
  have of' : ∀ j, s_of S' j = s_of S j := fun j => by unfold s_of; rw [hk 11 j (by decide) (by decide) (by decide)]
  have lev' : ∀ j, s_lev S' j = s_lev S j := fun j => by unfold s_lev; rw [hk 15 j (by decide) (by decide) (by decide)]
  have same : ∀ j, (S'.1 13 j = 0 ↔ S.1 13 j = 0) ∨ (j = i ∧ ¬ S'.1 13 j = 0 ∧ s_lev S j = 0) := by
    intro j
    by_cases e : j = i
    · subst e
      rcases hq with ⟨a, b⟩ | ⟨a, b⟩ | ⟨a, b⟩
      · exact Or.inl ⟨fun _ => b, fun _ => a⟩
      · exact Or.inl ⟨fun z => absurd z a, fun z => absurd z b⟩
      · exact Or.inr ⟨rfl, a, b⟩
    · rw [(hj j e).1]
      exact Or.inl Iff.rfl
  refine r.mod i1 i2 (w.hw r.1 tk) (fun a j ha => hk a j (by omega) (by omega) (by omega)) h2 hj (fun j d a b c e => ?_) (fun j a b e => ?_) w.2.1 ?_ (fun t t1 t2 => ?_) (fun x x1 _ _ => w.2.2 x x1)
  · rcases same j with s | ⟨_, s2, s3⟩
    · have ee : s_e S' j = s_e S j := by
        unfold s_e
        by_cases z : S.1 13 j = 0
        · rw [if_pos z, if_pos (s.mpr z)]
        · rw [if_neg z, if_neg (fun y => z (s.mp y)), lev']
      refine ⟨by rw [← ee]; exact e, ?_, fun k _ => ?_⟩
      · unfold s_P
        by_cases z : S.1 13 j = 0
        · rw [if_pos z, if_pos (s.mpr z), of', hk 5 _ (by decide) (by decide) (by decide)]
        · rw [if_neg z, if_neg (fun y => z (s.mp y)), hk 18 _ (by decide) (by decide) (by decide)]
      · unfold s_Lb
        by_cases z : S.1 13 j = 0
        · rw [if_pos z, if_pos (s.mpr z)]
        · rw [if_neg z, if_neg (fun y => z (s.mp y)), hk 19 _ (by decide) (by decide) (by decide)]
    · exfalso
      unfold s_e at e
      rw [if_neg s2, lev', s3] at e
      omega
  · rcases same j with s | ⟨_, s2, s3⟩
    · unfold s_e
      by_cases z : S.1 13 j = 0
      · rw [if_pos z, if_pos (s.mpr z)]
      · rw [if_neg z, if_neg (fun y => z (s.mp y)), lev']
    · exfalso
      unfold s_e at e
      rw [if_neg s2, lev', s3] at e
      omega
  · rw [w.2.2 _ (by omega), r.2.1.2.2.2.2.2]
    have : xN S' = xN S := by
      unfold xN
      apply List.map_congr_left
      intro j _
      rw [nK', s_cnt_cg hA hc]
    rw [this]
  · have tm := r.term t1 t2
    rw [w.2.2 _ (ne_kind tm tk (by decide)), tm]
    simp only [xT, hk 8 t (by decide) (by decide) (by decide), hk 9 t (by decide) (by decide) (by decide), nK', s_own_cg hA (fun j => hk 12 j (by decide) (by decide) (by decide))]
/-- the families of cells, for a state that differs nowhere that they show -/
theorem RX.rest (r : RX h o S G) (hw' : hw h' o) (hk : ∀ a j, a ≠ 8 → a ≠ 9 → a ≠ 10 → a ≠ 19 → S'.1 a j = S.1 a j) (h2 : S'.2.1 = S.2.1)
    (c0 : h'.1 o = some (0, xO o S')) (c4 : h'.1 (o + 4) = some (100, xL S')) (ct : ∀ t, 1 ≤ t → t ≤ s_nT S → h'.1 (G.2.1 t) = some (2, xT S' t)) (cB : ∀ i d, 1 ≤ i → i ≤ s_nK S → 1 ≤ d → d ≤ s_e S i → h'.1 (G.2.2.2.2.2 i d) = some (100, xB S' i d))
    (oth : ∀ x k u, h.1 x = some (k, u) → x ≠ o → x ≠ o + 4 → k ≠ 2 → (k = 100 → x = o + 5) → h'.1 x = h.1 x) : RX h' o S' G := by
  obtain ⟨rw, ro, rc, rt, rk, rv⟩ := r
  have nC' : s_nC S' = s_nC S := by unfold s_nC; rw [hk 1 0 (by decide) (by decide) (by decide) (by decide)]
  have nT' : s_nT S' = s_nT S := by unfold s_nT; rw [hk 2 0 (by decide) (by decide) (by decide) (by decide)]
  have nK' : s_nK S' = s_nK S := by unfold s_nK; rw [hk 3 0 (by decide) (by decide) (by decide) (by decide)]
  have of' : ∀ j, s_of S' j = s_of S j := fun j => by unfold s_of; rw [hk 11 j (by decide) (by decide) (by decide) (by decide)]
  have lev' : ∀ j, s_lev S' j = s_lev S j := fun j => by unfold s_lev; rw [hk 15 j (by decide) (by decide) (by decide) (by decide)]
  have e13 : ∀ j, S'.1 13 j = S.1 13 j := fun j => hk 13 j (by decide) (by decide) (by decide) (by decide)
  have ee : ∀ j, s_e S' j = s_e S j := fun j => by unfold s_e; rw [e13, lev']
  have hA : ∀ j, s_A S' j ↔ s_A S j := fun j => by unfold s_A; rw [e13]
  have hc : ∀ j, s_cl S' j = s_cl S j := fun j => by unfold s_cl; rw [of', hk 6 _ (by decide) (by decide) (by decide) (by decide)]
  refine ⟨hw', ⟨c0, ?_, ?_, ?_, c4, ?_⟩, fun c a b => ?_, ⟨fun t a b => ?_, fun t u a b c d => ?_⟩, ⟨fun j a b => ?_, fun j k a b c d => ?_⟩, ⟨fun j d a b c e => ?_, fun j d k e a b c f a' b' c' f' => ?_⟩⟩
  · rw [oth _ _ _ ro.2.1 (by omega) (by omega) (by decide) (fun z => absurd z (by decide)), ro.2.1, nC']
  · rw [oth _ _ _ ro.2.2.1 (by omega) (by omega) (by decide) (fun z => absurd z (by decide)), ro.2.2.1, nT']
  · rw [oth _ _ _ ro.2.2.2.1 (by omega) (by omega) (by decide) (fun z => absurd z (by decide)), ro.2.2.2.1, nK']
  · rw [oth _ _ _ ro.2.2.2.2.2 (by omega) (by omega) (by decide) (fun _ => rfl), ro.2.2.2.2.2]
    have : xN S' = xN S := by
      unfold xN
      apply List.map_congr_left
      intro j _
      rw [nK', s_cnt_cg hA hc]
    rw [this]
  · rw [nC'] at b
    obtain ⟨e1, e2⟩ := rc c a b
    refine ⟨?_, e2⟩
    rw [oth _ _ _ e1 (by omega) (by omega) (by decide) (fun z => absurd z (by decide)), e1]
    simp only [xC, hk 5 c (by decide) (by decide) (by decide) (by decide), hk 6 c (by decide) (by decide) (by decide) (by decide), hk 7 c (by decide) (by decide) (by decide) (by decide)]
  · rw [nT'] at b
    exact ⟨ct t a b, (rt.1 t a b).2⟩
  · rw [nT'] at b d
    exact rt.2 t u a b c d
  · rw [nK'] at b
    obtain ⟨e1, e2, e3⟩ := rk.1 j a b
    refine ⟨?_, e2, fun z => ?_⟩
    · rw [oth _ _ _ e1 (by omega) (by omega) (by decide) (fun z => absurd z (by decide)), e1]
      simp only [xK, of', hk 12 j (by decide) (by decide) (by decide) (by decide), h2, e13, hk 14 j (by decide) (by decide) (by decide) (by decide), hk 16 j (by decide) (by decide) (by decide) (by decide)]
    · rw [ee] at z ⊢
      exact e3 z
  · rw [nK'] at b d
    exact rk.2 j k a b c d
  · rw [nK'] at b
    rw [ee] at e
    obtain ⟨e1, e2, e3, e4⟩ := rv.1 j d a b c e
    refine ⟨?_, cB j d a b c e, e3, e4⟩
    rw [oth _ _ _ e1 (by omega) (by omega) (by decide) (fun z => absurd z (by decide)), e1]
    have : s_P S' j d = s_P S j d := by
      unfold s_P
      rw [e13, of', hk 5 _ (by decide) (by decide) (by decide) (by decide), hk 18 _ (by decide) (by decide) (by decide) (by decide)]
    simp only [xV, this]
  · rw [nK'] at b b'
    rw [ee] at f f'
    exact rv.2 j d k e a b c f a' b' c' f'
theorem xO_cg (hk : ∀ a j, a ≠ 8 → a ≠ 9 → a ≠ 10 → a ≠ 19 → S'.1 a j = S.1 a j) (h2 : S'.2 = S.2) : xO o S' = xO o S := by
  simp only [xO, hk 1 0 (by decide) (by decide) (by decide) (by decide), hk 2 0 (by decide) (by decide) (by decide) (by decide), hk 3 0 (by decide) (by decide) (by decide) (by decide), h2]
theorem xT_cg (hk : ∀ a j, a ≠ 8 → a ≠ 9 → a ≠ 10 → a ≠ 19 → S'.1 a j = S.1 a j) {t : Nat} (h8 : S'.1 8 t = S.1 8 t) (h9 : S'.1 9 t = S.1 9 t) : xT S' t = xT S t := by
  have nK' : s_nK S' = s_nK S := by unfold s_nK; rw [hk 3 0 (by decide) (by decide) (by decide) (by decide)]
  simp only [xT, h8, h9, nK', s_own_cg (fun j => by unfold s_A; rw [hk 13 j (by decide) (by decide) (by decide) (by decide)]) (fun j => hk 12 j (by decide) (by decide) (by decide) (by decide))]
theorem xB_cg (hk : ∀ a j, a ≠ 8 → a ≠ 9 → a ≠ 10 → a ≠ 19 → S'.1 a j = S.1 a j) {i d : Nat} (h19 : ∀ k, k < 10 → S'.1 19 (10 * (11 * i + d) + k) = S.1 19 (10 * (11 * i + d) + k)) : xB S' i d = xB S i d := by
  unfold xB
  apply List.map_congr_left
  intro k hk9
  unfold s_Lb
  rw [hk 13 i (by decide) (by decide) (by decide) (by decide), h19 k (List.mem_range.mp hk9)]
theorem RX.w2 (r : RX h o S G) {t : Nat} (t1 : 1 ≤ t) (t2 : t ≤ s_nT S) (w : wr h h' (G.2.1 t) (2, xT S' t)) (hk : ∀ a j, (a ≠ 8 ∧ a ≠ 9) ∨ j ≠ t → S'.1 a j = S.1 a j) (h2 : S'.2 = S.2) : RX h' o S' G := by
  have tm := r.term t1 t2
  have tmo := (r.2.2.2.1.1 t t1 t2).2
  have k0 : ∀ a j, a ≠ 8 → a ≠ 9 → a ≠ 10 → a ≠ 19 → S'.1 a j = S.1 a j := fun a j a1 a2 _ _ => hk a j (Or.inl ⟨a1, a2⟩)
  refine r.rest (w.hw r.1 tm) k0 (by rw [h2]) ?_ ?_ (fun u u1 u2 => ?_) (fun i d a b c e => ?_) (fun x k u hx _ _ k2 _ => w.2.2 x (ne_kind hx tm k2))
  · rw [w.2.2 _ (by omega), xO_cg k0 h2]; exact r.2.1.1
  · rw [w.2.2 _ (by omega), r.2.1.2.2.2.2.1]
    have : xL S' = xL S := by
      unfold xL
      apply List.map_congr_left
      intro j _
      rw [hk 10 j (Or.inl ⟨by decide, by decide⟩)]
    rw [this]
  · by_cases e : u = t
    · subst e; exact w.2.1
    · rw [w.2.2 _ (fun z => e (r.2.2.2.1.2 u t u1 u2 t1 t2 z)), xT_cg k0 (hk 8 u (Or.inr e)) (hk 9 u (Or.inr e))]
      exact r.term u1 u2
  · rw [w.2.2 _ (ne_kind (r.lab a b c e) tm (by decide)), xB_cg k0 (fun k _ => hk 19 _ (Or.inl ⟨by decide, by decide⟩))]
    exact r.lab a b c e
theorem RX.wL (r : RX h o S G) (w : wr h h' (o + 4) (100, xL S')) (hk : ∀ a j, a ≠ 10 → S'.1 a j = S.1 a j) (h2 : S'.2 = S.2) : RX h' o S' G := by
  have k0 : ∀ a j, a ≠ 8 → a ≠ 9 → a ≠ 10 → a ≠ 19 → S'.1 a j = S.1 a j := fun a j _ _ a1 _ => hk a j a1
  refine r.rest (w.hw r.1 r.2.1.2.2.2.2.1) k0 (by rw [h2]) ?_ w.2.1 (fun u u1 u2 => ?_) (fun i d a b c e => ?_) (fun x k u hx _ x4 _ _ => w.2.2 x x4)
  · rw [w.2.2 _ (by omega), xO_cg k0 h2]; exact r.2.1.1
  · have := (r.2.2.2.1.1 u u1 u2).2
    rw [w.2.2 _ (by omega), xT_cg k0 (hk 8 u (by decide)) (hk 9 u (by decide))]
    exact r.term u1 u2
  · have := (r.2.2.2.2.2.1 i d a b c e).2.2.2
    rw [w.2.2 _ (by omega), xB_cg k0 (fun k _ => hk 19 _ (by decide))]
    exact r.lab a b c e
theorem RX.w0 (r : RX h o S G) (w : wr h h' o (0, xO o S')) (h1 : S'.1 = S.1) (h2 : S'.2.1 = S.2.1) : RX h' o S' G := by
  have k0 : ∀ a j, a ≠ 8 → a ≠ 9 → a ≠ 10 → a ≠ 19 → S'.1 a j = S.1 a j := fun a j _ _ _ _ => by rw [h1]
  refine r.rest (w.hw r.1 r.2.1.1) k0 h2 w.2.1 ?_ (fun u u1 u2 => ?_) (fun i d a b c e => ?_) (fun x k u hx x0 _ _ _ => w.2.2 x x0)
  · rw [w.2.2 _ (by omega), r.2.1.2.2.2.2.1]
    unfold xL
    rw [h1]
  · have := (r.2.2.2.1.1 u u1 u2).2
    rw [w.2.2 _ (by omega), xT_cg k0 (by rw [h1]) (by rw [h1])]
    exact r.term u1 u2
  · have := (r.2.2.2.2.2.1 i d a b c e).2.2.2
    rw [w.2.2 _ (by omega), xB_cg k0 (fun k _ => by rw [h1])]
    exact r.lab a b c e
theorem RX.wB (r : RX h o S G) {i d : Nat} (i1 : 1 ≤ i) (i2 : i ≤ s_nK S) (d1 : 1 ≤ d) (d2 : d ≤ s_e S i) (hle : ∀ j, 1 ≤ j → j ≤ s_nK S → s_e S j ≤ 10) (w : wr h h' (G.2.2.2.2.2 i d) (100, xB S' i d)) (hk : ∀ a j, a ≠ 19 → S'.1 a j = S.1 a j) (h19 : ∀ j, (j < 10 * (11 * i + d) ∨ 10 * (11 * i + d) + 10 ≤ j) → S'.1 19 j = S.1 19 j) (h2 : S'.2 = S.2) : RX h' o S' G := by
  have k0 : ∀ a j, a ≠ 8 → a ≠ 9 → a ≠ 10 → a ≠ 19 → S'.1 a j = S.1 a j := fun a j _ _ _ a1 => hk a j a1
  have lb := r.lab i1 i2 d1 d2
  have lbo := (r.2.2.2.2.2.1 i d i1 i2 d1 d2).2.2.2
  refine r.rest (w.hw r.1 lb) k0 (by rw [h2]) ?_ ?_ (fun u u1 u2 => ?_) (fun j e a b c f => ?_) (fun x k u hx x0 x4 k2 k100 => w.2.2 x (fun z => ?_))
  · rw [w.2.2 _ (by omega), xO_cg k0 h2]; exact r.2.1.1
  · rw [w.2.2 _ (by omega), r.2.1.2.2.2.2.1]
    have : xL S' = xL S := by
      unfold xL
      apply List.map_congr_left
      intro j _
      rw [hk 10 j (by decide)]
    rw [this]
  · have tm := r.term u1 u2
    rw [w.2.2 _ (ne_kind tm lb (by decide)), xT_cg k0 (hk 8 u (by decide)) (hk 9 u (by decide))]
    exact tm
  · by_cases ez : j = i ∧ e = d
    · obtain ⟨rfl, rfl⟩ := ez
      exact w.2.1
    · rw [w.2.2 _ (fun z => ez (r.2.2.2.2.2.2 j e i d a b c f i1 i2 d1 d2 z)), xB_cg k0 (fun k hk9 => h19 _ ?_)]
      · exact r.lab a b c f
      · have l1 := hle j a b
        have l2 := hle i i1 i2
        have : 11 * j + e ≠ 11 * i + d := fun z => ez (by omega)
        omega
  · rw [z, lb] at hx
    cases hx
    have := k100 rfl
    omega
end Class5
