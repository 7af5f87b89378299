/-! A task's cell, the count of its class and its terminal's cell have changed: the class's cells for the new state. -/
section Class3
variable {h h' : am_H} {o : Nat} {S S' : sS} {G : gM} {Q : am_H → Option Value → Prop} {nC nT nK : Nat}
theorem RX.mod (r : RX h o S G) {i : Nat} (i1 : 1 ≤ i) (i2 : i ≤ s_nK S) (hw' : hw h' o)
    (hk : ∀ a j, (a = 1 ∨ a = 2 ∨ a = 3 ∨ a = 5 ∨ a = 6 ∨ a = 7 ∨ a = 10 ∨ a = 11 ∨ a = 12) → S'.1 a j = S.1 a j) (h2 : S'.2 = S.2)
    (hj : ∀ j, j ≠ i → S'.1 13 j = S.1 13 j ∧ S'.1 14 j = S.1 14 j ∧ S'.1 16 j = S.1 16 j)
    (lv : ∀ j d, 1 ≤ j → j ≤ s_nK S → 1 ≤ d → d ≤ s_e S' j → d ≤ s_e S j ∧ s_P S' j d = s_P S j d ∧ ∀ k, k < 10 → s_Lb S' j d k = s_Lb S j d k)
    (tp : ∀ j, 1 ≤ j → j ≤ s_nK S → 1 ≤ s_e S' j → s_e S' j = s_e S j)
    (c1 : h'.1 (G.2.2.1 i) = some (4, xK S' G i)) (c2 : h'.1 (o + 5) = some (100, xN S')) (c3 : ∀ t, 1 ≤ t → t ≤ s_nT S → h'.1 (G.2.1 t) = some (2, xT S' t))
    (oth : ∀ x, x ≠ G.2.2.1 i → x ≠ o + 5 → (∀ t, 1 ≤ t → t ≤ s_nT S → x ≠ G.2.1 t) → h'.1 x = h.1 x) : RX h' o S' G := by
  obtain ⟨rw, ro, rc, rt, rk, rv⟩ := r
  have nC' : s_nC S' = s_nC S := by unfold s_nC; rw [hk 1 0 (by omega)]
  have nT' : s_nT S' = s_nT S := by unfold s_nT; rw [hk 2 0 (by omega)]
  have nK' : s_nK S' = s_nK S := by unfold s_nK; rw [hk 3 0 (by omega)]
  have of' : ∀ j, s_of S' j = s_of S j := fun j => by unfold s_of; rw [hk 11 j (by omega)]
  have tki := rk.1 i i1 i2
  have low : ∀ x, o ≤ x → x < o + 5 → h'.1 x = h.1 x := fun x a b => oth x (by omega) (by omega) (fun t t1 t2 => by have := (rt.1 t t1 t2).2; omega)
  have hi : ∀ x k u, h.1 x = some (k, u) → k ≠ 4 → k ≠ 2 → o + 22 ≤ x → h'.1 x = h.1 x := fun x k u hx k4 k2 hb => oth x (ne_kind hx tki.1 k4) (by omega) (fun t t1 t2 => ne_kind hx (rt.1 t t1 t2).1 k2)
  refine ⟨hw', ⟨?_, ?_, ?_, ?_, ?_, c2⟩, fun c a b => ?_, ⟨fun t a b => ?_, fun t u a b c d => ?_⟩, ⟨fun j a b => ?_, fun j k a b c d => ?_⟩, ⟨fun j d a b c e => ?_, fun j d k e a b c f a' b' c' f' => ?_⟩⟩
  · rw [low o (by omega) (by omega), ro.1]
    simp only [xO, hk 1 0 (by omega), hk 2 0 (by omega), hk 3 0 (by omega), h2]
  · rw [low _ (by omega) (by omega), ro.2.1, nC']
  · rw [low _ (by omega) (by omega), ro.2.2.1, nT']
  · rw [low _ (by omega) (by omega), ro.2.2.2.1, nK']
  · rw [low _ (by omega) (by omega), ro.2.2.2.2.1]
    have : xL S' = xL S := by
      unfold xL
      congr 1
      funext j
      rw [hk 10 j (by omega)]
    rw [this]
  · rw [nC'] at b
    obtain ⟨e1, e2⟩ := rc c a b
    refine ⟨?_, e2⟩
    rw [hi _ _ _ e1 (by decide) (by decide) e2, e1]
    simp only [xC, hk 5 c (by omega), hk 6 c (by omega), hk 7 c (by omega)]
  · rw [nT'] at b
    exact ⟨c3 t a b, (rt.1 t a b).2⟩
  · rw [nT'] at b d
    exact rt.2 t u a b c d
  · rw [nK'] at b
    obtain ⟨e1, e2, e3⟩ := rk.1 j a b
    refine ⟨?_, e2, fun z => ?_⟩
    · by_cases e : j = i
      · rw [e]; exact c1
      · have ne : G.2.2.1 j ≠ G.2.2.1 i := fun w => e (rk.2 j i a b i1 i2 w)
        rw [oth _ ne (by omega) (fun t t1 t2 => ne_kind e1 (rt.1 t t1 t2).1 (by decide)), e1]
        obtain ⟨f1, f2, f3⟩ := hj j e
        simp only [xK, of', hk 12 j (by omega), h2, f1, f2, f3]
    · have et := tp j a b z
      rw [et] at z ⊢
      exact e3 z
  · rw [nK'] at b d
    exact rk.2 j k a b c d
  · rw [nK'] at b
    obtain ⟨l1, l2, l3⟩ := lv j d a b c e
    obtain ⟨e1, e2, e3, e4⟩ := rv.1 j d a b c l1
    refine ⟨?_, ?_, e3, e4⟩
    · rw [hi _ _ _ e1 (by decide) (by decide) e3, e1]
      simp only [xV, l2]
    · rw [hi _ _ _ e2 (by decide) (by decide) e4, e2]
      have : xB S' j d = xB S j d := by
        unfold xB
        apply List.map_congr_left
        intro k hk9
        rw [l3 k (List.mem_range.mp hk9)]
      rw [this]
  · rw [nK'] at b b'
    exact rv.2 j d k e a b c (lv j d a b c f).1 a' b' c' (lv k e a' b' c' f').1
theorem xK_set4 (S : sS) (G : gM) (i : Nat) (v : Value) : (xK S G i).set 4 v = [.int (nI i), .ref (G.1 (s_of S i)), if S.1 12 i = 0 then .null else .ref (G.2.1 (tn (S.1 12 i))), .long (S.2.1 i), v, .int (S.1 14 i), .int (S.1 16 i), .ref (G.2.2.2.1 i)] := rfl
theorem c_begin (r : RX h o S G) (hv : s_iv S nC nT nK) {i : Nat} (h1 : 1 ≤ i) (h2 : i ≤ nK) (hm : s_may S i) (hQ : ∀ h', RX h' o (s_st1 S i) G → cF o h h' → Q h' none) : am_Run (am_in 34 [.ref o, .ref (G.2.2.1 i)] h) Q := by
  have hK : nK ≤ 200 := hv.2.2.2.2.2.1
  have hT : nT ≤ 20 := hv.2.2.2.1
  have i2 : i ≤ s_nK S := by rw [hv.nK]; exact h2
  have tk := r.task h1 i2
  have tko := (r.2.2.2.2.1.1 i h1 i2).2.1
  obtain ⟨c1, c2, c3⟩ := hv.2.2.2.2.2.2.2.1 i h1 h2
  obtain ⟨d1, d2⟩ := hv.cl h1 h2
  have cd := r.code c1 (by rw [hv.nC']; exact c2)
  have cdo := (r.2.2.1 _ c1 (by rw [hv.nC']; exact c2)).2
  obtain ⟨t, t1, t2⟩ := hv.2.2.2.2.2.2.2.2.1 i h1 h2
  have nA : ¬ s_A S i := s_not_A hm.1
  obtain ⟨l0, l1⟩ := hv.lev0 h1 h2 hm.1
  have hcle := s_cnt_le S (s_cl S i) (s_nK S)
  rw [hv.nK] at hcle
  -- the walk
  refine B34_0 (wf_of tk (show 4 < 8 by decide) (fun ha wa => ?_))
  have ao : ha.1 o = some (0, xO o S) := by rw [wa.2.2 o (by omega)]; exact r.2.1.1
  have an : ha.1 (o + 5) = some (100, xN S) := by rw [wa.2.2 _ (by omega)]; exact r.2.1.2.2.2.2.2
  have ac : ha.1 (G.1 (s_of S i)) = some (1, xC S (s_of S i)) := by rw [wa.2.2 _ (ne_kind cd tk (by decide))]; exact cd
  have gx : (xN S)[tn (s_cl S i)]? = some (.int (nI (s_cnt S (s_cl S i) (s_nK S)))) := by
    unfold xN
    rw [rg_get d1]
    exact congrArg (fun z => some (Value.int (nI (s_cnt S z (s_nK S))))) d2.symm
  refine B34_5 ⟨_, ⟨_, ao, rfl⟩, _, ⟨_, wa.2.1, rfl⟩, _, (⟨_, ac, rfl⟩ : am_gi ha (G.1 (s_of S i)) 1 2 (s_cl S i)), _, ai_of an d2 (by omega) gx, wi_of an d2 (by unfold xN; rw [List.length_map, List.length_range]; exact d1) (by unfold xN; rw [List.length_map, List.length_range]; decide) (fun hb wb => ?_)⟩
  have bk : hb.1 (G.2.2.1 i) = some (4, (xK S G i).set 4 (.int 1)) := by rw [wb.2.2 _ (by omega)]; exact wa.2.1
  have hwb : hw hb o := wb.hw (wa.hw r.1 tk) an
  have e13 : (s_st1 S i).1 13 i = 1 := by rw [s_st1_13, if_pos rfl]
  have e14 : (s_st1 S i).1 14 i = S.1 14 i := s_st1_k S i (by decide) (by decide) (by decide) (by decide) i
  have e16 : (s_st1 S i).1 16 i = S.1 16 i := s_st1_k S i (by decide) (by decide) (by decide) (by decide) i
  have e12 : ∀ j, (s_st1 S i).1 12 j = S.1 12 j := s_st1_k S i (by decide) (by decide) (by decide) (by decide)
  have xk : (xK S G i).set 4 (.int 1) = xK (s_st1 S i) G i := by
    rw [xK_set4]
    simp only [xK, s_st1_of, e12, e13, e14, e16, s_st1_2]
  have xn : (xN S).set (tn (s_cl S i)) (.int (nI (s_cnt S (s_cl S i) (s_nK S)) + 1)) = xN (s_st1 S i) := by
    unfold xN
    rw [rg_set (g' := fun j => Value.int (nI (s_cnt (s_st1 S i) (nI j) (s_nK (s_st1 S i)))))]
    intro j hj
    rw [s_st1_nK, s_cnt_st1 h1 nA]
    by_cases e : j = tn (s_cl S i)
    · rw [if_pos e, e, ← d2, if_pos ⟨i2, rfl⟩, nI_1]
    · rw [if_neg e, if_neg (fun z => e ?_)]
      · rfl
      · rw [z.2]
        unfold tn
        rw [nI_clamp (by omega)]
  -- what is the same for every end
  have fin : ∀ hz : am_H, hw hz o → hz.1 (G.2.2.1 i) = some (4, xK (s_st1 S i) G i) → hz.1 (o + 5) = some (100, xN (s_st1 S i)) → (∀ u, 1 ≤ u → u ≤ s_nT S → hz.1 (G.2.1 u) = some (2, xT (s_st1 S i) u)) → (∀ x, x ≠ G.2.2.1 i → x ≠ o + 5 → (∀ u, 1 ≤ u → u ≤ s_nT S → x ≠ G.2.1 u) → hz.1 x = h.1 x) → RX hz o (s_st1 S i) G := by
    intro hz z1 z2 z3 z4 z5
    refine r.mod h1 i2 z1 (fun a j ha9 => s_st1_k S i (by omega) (by omega) (by omega) (by omega) j) (s_st1_2 S i) (fun j e => ⟨by rw [s_st1_13, if_neg e], s_st1_k S i (by decide) (by decide) (by decide) (by decide) j, s_st1_k S i (by decide) (by decide) (by decide) (by decide) j⟩) (fun j d a b c e => ?_) (fun j a b e => ?_) z2 z3 z4 z5
    · rw [hv.nK] at b
      obtain ⟨m1, m2, -⟩ := (hv.st1 h1 h2 hm.1).2.2.2.2.2.2.2.2.2 j a b
      by_cases ej : j = i
      · subst ej
        have en : ¬ (s_st1 S j).1 13 j = 0 := by rw [e13]; decide
        have el : s_lev (s_st1 S j) j = 1 := by
          unfold s_lev
          rw [s_st1_15, if_pos rfl, l1]
          rfl
        have e1 : d = 1 := by
          unfold s_e at e
          rw [if_neg en, el] at e
          omega
        subst e1
        refine ⟨by unfold s_e; rw [if_pos hm.1]; exact Nat.le_refl _, ?_, fun k hk9 => ?_⟩
        · unfold s_P
          rw [if_neg en, if_pos hm.1, s_st1_at, if_neg (by omega), if_pos ⟨rfl, by rw [l0]⟩]
        · unfold s_Lb
          rw [if_neg en, if_pos hm.1, s_st1_at, if_pos ⟨rfl, by rw [l0]; omega, by rw [l0]; omega⟩]
      · have e13j : (s_st1 S i).1 13 j = S.1 13 j := by rw [s_st1_13, if_neg ej]
        have elj : s_lev (s_st1 S i) j = s_lev S j := by
          unfold s_lev
          rw [s_st1_15, if_neg ej]
        have ee : s_e (s_st1 S i) j = s_e S j := by unfold s_e; rw [e13j, elj]
        have hd : d ≤ 10 := by
          rw [ee] at e
          unfold s_e at e
          rw [elj] at m1
          split at e <;> omega
        refine ⟨by rw [← ee]; exact e, ?_, fun k hk9 => ?_⟩
        · unfold s_P
          have e18 : (s_st1 S i).1 18 (11 * j + d) = S.1 18 (11 * j + d) := by rw [s_st1_at S i 18, if_neg (by omega), if_neg (by rw [l0]; omega), if_neg (by omega), if_neg (by omega)]
          rw [e13j, s_st1_of, s_st1_k S i (a := 5) (by decide) (by decide) (by decide) (by decide), e18]
        · unfold s_Lb
          have e19 : (s_st1 S i).1 19 (10 * (11 * j + d) + k) = S.1 19 (10 * (11 * j + d) + k) := by rw [s_st1_at S i 19, if_neg (by rw [l0]; omega), if_neg (by omega), if_neg (by omega), if_neg (by omega)]
          rw [e13j, e19]
    · by_cases ej : j = i
      · subst ej
        have en : ¬ (s_st1 S j).1 13 j = 0 := by rw [e13]; decide
        unfold s_e
        rw [if_neg en, if_pos hm.1]
        unfold s_lev
        rw [s_st1_15, if_pos rfl, l1]
        rfl
      · unfold s_e s_lev
        rw [s_st1_13, if_neg ej, s_st1_15, if_neg ej]
  have bn : hb.1 (o + 5) = some (100, xN (s_st1 S i)) := by rw [← xn]; exact wb.2.1
  have both : ∀ x, x ≠ G.2.2.1 i → x ≠ o + 5 → hb.1 x = h.1 x := fun x x1 x2 => by rw [wb.2.2 x x2, wa.2.2 x x1]
  have fab : cF o h hb := (wa.cF (by omega) (by omega)).tr (wb.cF (by omega) (by omega))
  have tne : ∀ u, 1 ≤ u → u ≤ s_nT S → G.2.1 u ≠ G.2.2.1 i ∧ G.2.1 u ≠ o + 5 := fun u u1 u2 => by
    obtain ⟨y1, y2⟩ := r.2.2.2.1.1 u u1 u2
    exact ⟨ne_kind y1 tk (by decide), by omega⟩
  have xt : ∀ u : Nat, ¬ S.1 12 i = nI u → xT (s_st1 S i) u = xT S u := fun u hu => by
    simp only [xT, s_st1_nK, s_own_st1_ne hu, s_st1_k S i (a := 8) (by decide) (by decide) (by decide) (by decide), s_st1_k S i (a := 9) (by decide) (by decide) (by decide) (by decide)]
  by_cases e3 : S.1 12 i = 0
  · refine B34_21 (Or.inl ⟨⟨_, bk, by rw [xK_set4, if_pos e3]; rfl⟩, hQ hb (fin hb hwb (by rw [← xk]; exact bk) bn (fun u u1 u2 => ?_) (fun x x1 x2 _ => both x x1 x2)) fab⟩)
    obtain ⟨y1, y2⟩ := tne u u1 u2
    rw [both _ y1 y2, xt u (fun w => ?_)]
    · exact r.term u1 u2
    · rw [e3, ← nI_0] at w
      rw [hv.nT'] at u2
      have := (nI_eq (by decide) (by omega)).mp w
      omega
  · have tt : tn (S.1 12 i) = t := by unfold tn; rw [t2]; exact nI_clamp (by omega)
    have tpos : 1 ≤ t := by
      rcases Nat.eq_zero_or_pos t with z | z
      · exfalso; rw [z] at t2; exact e3 t2
      · exact z
    have t3 : t ≤ s_nT S := by rw [hv.nT']; exact t1
    have gt : am_gr hb (G.2.2.1 i) 4 2 (G.2.1 t) := ⟨_, bk, by rw [xK_set4, if_neg e3, tt]; rfl⟩
    obtain ⟨y1, y2⟩ := tne t tpos t3
    have tmb : hb.1 (G.2.1 t) = some (2, xT S t) := by rw [both _ y1 y2]; exact r.term tpos t3
    have tmo := (r.2.2.2.1.1 t tpos t3).2
    refine B34_21 (Or.inr ⟨_, gt, Or.inr ⟨_, gt, _, ⟨_, bk, rfl⟩, wf_of tmb (show 3 < 4 by decide) (fun hc wc => B34_39 (hQ hc (fin hc (wc.hw hwb tmb) ?_ ?_ (fun u u1 u2 => ?_) (fun x x1 x2 x3 => ?_)) (fab.tr (wc.cF (by omega) (by omega)))))⟩⟩)
    · rw [wc.2.2 _ (fun w => y1 w.symm), ← xk]; exact bk
    · rw [wc.2.2 _ (by omega)]; exact bn
    · by_cases eu : u = t
      · subst eu
        have ow : s_own (s_st1 S i) (nI u) (s_nK S) = i := by
          refine s_own_1 (s_nK S) h1 i2 ((s_st1_A S i i).mpr (Or.inl rfl)) (by rw [e12]; exact t2) (fun j j1 j2 ja je => ?_)
          rcases (s_st1_A S i j).mp ja with z | z
          · exact z
          · exfalso
            rw [e12] at je
            rcases hm.2.2.1 with w | w
            · exact e3 w
            · exact (s_own_0 (s_nK S)).mp w j j1 j2 z (by rw [je, t2])
        rw [wc.2.1]
        simp only [xT, s_st1_nK, ow, s_st1_k S i (a := 8) (by decide) (by decide) (by decide) (by decide), s_st1_k S i (a := 9) (by decide) (by decide) (by decide) (by decide)]
        rfl
      · have ne : G.2.1 u ≠ G.2.1 t := fun w => eu (r.2.2.2.1.2 u t u1 u2 tpos t3 w)
        obtain ⟨w1, w2⟩ := tne u u1 u2
        rw [wc.2.2 _ ne, both _ w1 w2, xt u (fun w => eu ?_)]
        · exact r.term u1 u2
        · rw [t2] at w
          rw [hv.nT'] at u2
          exact ((nI_eq (by omega) (by omega)).mp w).symm
    · rw [wc.2.2 x (x3 t tpos t3)]
      exact both x x1 x2
end Class3
