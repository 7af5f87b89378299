/-! The class starts all that may, and a task leaves. -/
section Class4
variable {h : am_H} {o : Nat} {S : sS} {G : gM} {Q : am_H → Option Value → Prop} {nC nT nK : Nat}
theorem c_loop : ∀ (f : Nat) (S : sS) (h : am_H) (n : Nat) (t3 : Option Value), (t3 = none ∨ ∃ z, t3 = some (.ref z)) → RX h o S G → s_iv S nC nT nK → s_q S nK ≤ f → n + s_q S nK ≤ nK → (∀ h', RX h' o (s_sa f S).1 G → cF o h h' → Q h' (some (.int (nI (n + (s_sa f S).2))))) → am_Run (31, 4, [some (.ref o), some (.int (nI n)), some (.int (nI n)), t3], [], h) Q := by
  intro f
  induction f with
  | zero =>
    intro S h n t3 ht r hv hq hn hQ
    have hK : nK ≤ 200 := hv.2.2.2.2.2.1
    have p0 : s_pick S nK = 0 := s_q_pick S (by omega)
    have fin : Q h (some (.int (nI n))) := hQ h r cF.rf
    rcases ht with rfl | ⟨z, rfl⟩
    · exact B31_4 ⟨_, r.g7, fun _ => fin, fun _ => ⟨r.is, c_first r hv (fun q => absurd p0 q) (fun _ => B31_16_1 fin)⟩⟩
    · exact B31_4_1 ⟨_, r.g7, fun _ => fin, fun _ => ⟨r.is, c_first r hv (fun q => absurd p0 q) (fun _ => B31_16_3 fin)⟩⟩
  | succ f ih =>
    intro S h n t3 ht r hv hq hn hQ
    have hK : nK ≤ 200 := hv.2.2.2.2.2.1
    rw [s_sa, hv.nK] at hQ
    by_cases e : s_pick S nK = 0
    · rw [if_pos e] at hQ
      have fin : Q h (some (.int (nI n))) := hQ h r cF.rf
      rcases ht with rfl | ⟨z, rfl⟩
      · exact B31_4 ⟨_, r.g7, fun _ => fin, fun _ => ⟨r.is, c_first r hv (fun q => absurd e q) (fun _ => B31_16_1 fin)⟩⟩
      · exact B31_4_1 ⟨_, r.g7, fun _ => fin, fun _ => ⟨r.is, c_first r hv (fun q => absurd e q) (fun _ => B31_16_3 fin)⟩⟩
    · rw [if_neg e] at hQ
      have hle := s_pick_le S nK
      have hm := s_pick_may S nK e
      have h3 := s_q_st1 S (i := s_pick S nK) (by omega) hm.1 nK
      rw [if_pos hle] at h3
      have nlt : ¬ S.1 3 0 ≤ nI n := by rw [hv.2.2.2.2.1]; exact nI_ge (by omega) (by omega)
      have go : am_Run (am_in 34 [.ref o, .ref (G.2.2.1 (s_pick S nK))] h) (fun h1 v => am_Run (am_bk (31, 29, [some (.ref o), some (.int (nI n)), some (.int (nI n)), some (.ref (G.2.2.1 (s_pick S nK)))], [], h) h1 v) Q) := by
        refine c_begin r hv (by omega) hle hm (fun h1 r1 f1 => B31_29 ?_)
        rw [nI_1]
        refine ih (s_st1 S (s_pick S nK)) h1 (n + 1) _ (Or.inr ⟨_, rfl⟩) r1 (hv.st1 (by omega) hle hm.1) (by omega) (by omega) (fun h' r' f' => ?_)
        have := hQ h' r' (f1.tr f')
        rw [show n + 1 + (s_sa f (s_st1 S (s_pick S nK))).2 = n + ((s_sa f (s_st1 S (s_pick S nK))).2 + 1) by omega]
        exact this
      rcases ht with rfl | ⟨z, rfl⟩
      · exact B31_4 ⟨_, r.g7, fun q => absurd q nlt, fun _ => ⟨r.is, c_first r hv (fun _ => B31_16 ⟨r.is, go⟩) (fun q => absurd q e)⟩⟩
      · exact B31_4_1 ⟨_, r.g7, fun q => absurd q nlt, fun _ => ⟨r.is, c_first r hv (fun _ => B31_16_2 ⟨r.is, go⟩) (fun q => absurd q e)⟩⟩
theorem c_startAll (r : RX h o S G) (hv : s_iv S nC nT nK) (hQ : ∀ h', RX h' o (s_all S).1 G → cF o h h' → Q h' (some (.int (nI (s_all S).2)))) : am_Run (am_in 31 [.ref o] h) Q := by
  have := c_loop (Q := Q) (o := o) (G := G) (nC := nC) (nT := nT) (nK := nK) 200 S h 0 none (Or.inl rfl) r hv (Nat.le_trans (s_q_le S nK) hv.2.2.2.2.2.1) (by have := s_q_le S nK; omega) (fun h' a b => by rw [Nat.zero_add]; exact hQ h' a b)
  exact B31_0 this
theorem c_leave (r : RX h o S G) (hv : s_iv S nC nT nK) (hu : s_u S nK) {i : Nat} {z : Int32} (h1 : 1 ≤ i) (h2 : i ≤ nK) (hA : s_A S i) (z0 : z ≠ 0) (z1 : z ≠ 1) (z2 : z ≠ 2) (hQ : ∀ h', RX h' o (s_end S i z) G → cF o h h' → Q h' none) : am_Run (am_in 30 [.ref o, .ref (G.2.2.1 i), .int z] h) Q := by
  have hK : nK ≤ 200 := hv.2.2.2.2.2.1
  have hT : nT ≤ 20 := hv.2.2.2.1
  have i2 : i ≤ s_nK S := by rw [hv.nK]; exact h2
  have tk := r.task h1 i2
  have tko := (r.2.2.2.2.1.1 i h1 i2).2.1
  obtain ⟨c1, c2, c3⟩ := hv.2.2.2.2.2.2.2.1 i h1 h2
  obtain ⟨d1, d2⟩ := hv.cl h1 h2
  have cd := r.code c1 (by rw [hv.nC']; exact c2)
  obtain ⟨t, t1, t2⟩ := hv.2.2.2.2.2.2.2.2.1 i h1 h2
  have hcle := s_cnt_le S (s_cl S i) (s_nK S)
  rw [hv.nK] at hcle
  refine B30_0 (wf_of tk (show 4 < 8 by decide) (fun h3 w3 => ?_))
  refine B30_5 (wf_of w3.2.1 (show 5 < 8 by decide) (fun h4 w4 => ?_))
  refine B30_10 (wf_of w4.2.1 (show 6 < 8 by decide) (fun ha w5 => ?_))
  have oth5 : ∀ x, x ≠ G.2.2.1 i → ha.1 x = h.1 x := fun x hx => by rw [w5.2.2 x hx, w4.2.2 x hx, w3.2.2 x hx]
  have hwa : hw ha o := w5.hw (w4.hw (w3.hw r.1 tk) w3.2.1) w4.2.1
  have fa : cF o h ha := ((w3.cF (by omega) (by omega)).tr (w4.cF (by omega) (by omega))).tr (w5.cF (by omega) (by omega))
  have e12 : ∀ j, (s_e1 S i z).1 12 j = S.1 12 j := s_e1_k S i z (by decide) (by decide) (by decide) (by decide)
  have e13 : (s_e1 S i z).1 13 i = z := by rw [s_e1_13, if_pos rfl]
  have xk : (((xK S G i).set 4 (.int z)).set 5 (.int (-1))).set 6 (.int 0) = xK (s_e1 S i z) G i := by
    have e14 : (s_e1 S i z).1 14 i = -1 := by rw [s_e1_at, if_neg (by omega), if_neg (by omega), if_pos ⟨rfl, rfl⟩]
    have e16 : (s_e1 S i z).1 16 i = 0 := by rw [s_e1_at, if_pos ⟨rfl, rfl⟩]
    have e2 : (s_e1 S i z).2 = S.2 := rfl
    show [Value.int (nI i), .ref (G.1 (s_of S i)), if S.1 12 i = 0 then .null else .ref (G.2.1 (tn (S.1 12 i))), .long (S.2.1 i), .int z, .int (-1), .int 0, .ref (G.2.2.2.1 i)] = _
    simp only [xK, s_e1_of, e12, e13, e14, e16, e2]
  have ak : ha.1 (G.2.2.1 i) = some (4, xK (s_e1 S i z) G i) := by rw [← xk]; exact w5.2.1
  have ao : ha.1 o = some (0, xO o S) := by rw [oth5 o (by omega)]; exact r.2.1.1
  have an : ha.1 (o + 5) = some (100, xN S) := by rw [oth5 _ (by omega)]; exact r.2.1.2.2.2.2.2
  have ac : ha.1 (G.1 (s_of S i)) = some (1, xC S (s_of S i)) := by rw [oth5 _ (ne_kind cd tk (by decide))]; exact cd
  have gx : (xN S)[tn (s_cl S i)]? = some (.int (nI (s_cnt S (s_cl S i) (s_nK S)))) := by
    unfold xN
    rw [rg_get d1]
    exact congrArg (fun y => some (Value.int (nI (s_cnt S y (s_nK S))))) d2.symm
  have gcode : am_gr ha (G.2.2.1 i) 4 1 (G.1 (s_of S i)) := ⟨_, w5.2.1, rfl⟩
  refine B30_15 ⟨_, ⟨_, ao, rfl⟩, _, gcode, _, (⟨_, ac, rfl⟩ : am_gi ha (G.1 (s_of S i)) 1 2 (s_cl S i)), _, ai_of an d2 (by omega) gx, wi_of an d2 (by unfold xN; rw [List.length_map, List.length_range]; exact d1) (by unfold xN; rw [List.length_map, List.length_range]; decide) (fun hb wb => ?_)⟩
  have bk : hb.1 (G.2.2.1 i) = some (4, xK (s_e1 S i z) G i) := by rw [wb.2.2 _ (by omega)]; exact ak
  have hwb : hw hb o := wb.hw hwa an
  have enK : s_nK (s_e1 S i z) = s_nK S := by unfold s_nK; rw [s_e1_k S i z (by decide) (by decide) (by decide) (by decide)]
  have xn : (xN S).set (tn (s_cl S i)) (.int (nI (s_cnt S (s_cl S i) (s_nK S)) - 1)) = xN (s_e1 S i z) := by
    unfold xN
    rw [rg_set (g' := fun j => Value.int (nI (s_cnt (s_e1 S i z) (nI j) (s_nK (s_e1 S i z)))))]
    intro j hj
    rw [enK]
    have cc := s_cnt_e1 (i := i) (z := z) h1 hA z1 z2 (nI j) (s_nK S)
    by_cases e : j = tn (s_cl S i)
    · rw [if_pos e]
      have ej : s_cl S i = nI j := by rw [e]; exact d2
      rw [if_pos ⟨i2, ej⟩] at cc
      rw [ej, ← cc, nI_pred]
    · rw [if_neg e]
      have ej : ¬ s_cl S i = nI j := fun w => e (by
        rw [w]
        unfold tn
        rw [nI_clamp (by omega)])
      rw [if_neg (fun w => ej w.2)] at cc
      rw [← cc]
      rfl
  have bn : hb.1 (o + 5) = some (100, xN (s_e1 S i z)) := by rw [← xn]; exact wb.2.1
  have both : ∀ x, x ≠ G.2.2.1 i → x ≠ o + 5 → hb.1 x = h.1 x := fun x x1 x2 => by rw [wb.2.2 x x2, oth5 x x1]
  have fab : cF o h hb := fa.tr (wb.cF (by omega) (by omega))
  have fin : ∀ hz : am_H, cF o h hz → hw hz o → hz.1 (G.2.2.1 i) = some (4, xK (s_e1 S i z) G i) → hz.1 (o + 5) = some (100, xN (s_e1 S i z)) → (∀ u, 1 ≤ u → u ≤ s_nT S → hz.1 (G.2.1 u) = some (2, xT (s_e1 S i z) u)) → (∀ x, x ≠ G.2.2.1 i → x ≠ o + 5 → (∀ u, 1 ≤ u → u ≤ s_nT S → x ≠ G.2.1 u) → hz.1 x = h.1 x) → am_Run (30, 46, [some (.ref o), some (.ref (G.2.2.1 i)), some (.int z)], [], hz) Q := by
    intro hz fz y1 y2 y3 y4 y5
    have rz : RX hz o (s_e1 S i z) G := by
      refine r.mod h1 i2 y1 (fun a j ha9 => s_e1_k S i z (by omega) (by omega) (by omega) (by omega) j) rfl (fun j e => ⟨by rw [s_e1_13, if_neg e], by rw [s_e1_at, if_neg (by omega), if_neg (by omega), if_neg (by omega), if_neg (by omega)], by rw [s_e1_at, if_neg (by omega), if_neg (by omega), if_neg (by omega), if_neg (by omega)]⟩) (fun j d a b c e => ?_) (fun j a b e => ?_) y2 y3 y4 y5
      · by_cases ej : j = i
        · exfalso
          subst ej
          have l0 : s_lev (s_e1 S j z) j = 0 := by
            unfold s_lev
            rw [s_e1_15, if_pos rfl]
            rfl
          unfold s_e at e
          rw [e13, if_neg z0, l0] at e
          omega
        · have e13j : (s_e1 S i z).1 13 j = S.1 13 j := by rw [s_e1_13, if_neg ej]
          have elj : s_lev (s_e1 S i z) j = s_lev S j := by
            unfold s_lev
            rw [s_e1_15, if_neg ej]
          have ee : s_e (s_e1 S i z) j = s_e S j := by unfold s_e; rw [e13j, elj]
          refine ⟨by rw [← ee]; exact e, ?_, fun k hk9 => ?_⟩
          · unfold s_P
            rw [e13j, s_e1_of, s_e1_k S i z (a := 5) (by decide) (by decide) (by decide) (by decide), s_e1_k S i z (a := 18) (by decide) (by decide) (by decide) (by decide)]
          · unfold s_Lb
            rw [e13j, s_e1_k S i z (a := 19) (by decide) (by decide) (by decide) (by decide)]
      · by_cases ej : j = i
        · exfalso
          subst ej
          have l0 : s_lev (s_e1 S j z) j = 0 := by
            unfold s_lev
            rw [s_e1_15, if_pos rfl]
            rfl
          unfold s_e at e
          rw [e13, if_neg z0, l0] at e
          omega
        · unfold s_e s_lev
          rw [s_e1_13, if_neg ej, s_e1_15, if_neg ej]
    exact B30_46 ⟨rz.is, c_startAll rz (hv.e1 (i := i) z1 z2) (fun h9 r9 f9 => B30_50 (hQ h9 r9 (fz.tr f9)))⟩
  have tne : ∀ u, 1 ≤ u → u ≤ s_nT S → G.2.1 u ≠ G.2.2.1 i ∧ G.2.1 u ≠ o + 5 := fun u u1 u2 => by
    obtain ⟨y1, y2⟩ := r.2.2.2.1.1 u u1 u2
    exact ⟨ne_kind y1 tk (by decide), by omega⟩
  have xt : ∀ u : Nat, ¬ S.1 12 i = nI u → xT (s_e1 S i z) u = xT S u := fun u hu9 => by
    simp only [xT, enK, s_own_e1_ne z1 z2 hu9, s_e1_k S i z (a := 8) (by decide) (by decide) (by decide) (by decide), s_e1_k S i z (a := 9) (by decide) (by decide) (by decide) (by decide)]
  by_cases e3 : S.1 12 i = 0
  · refine B30_31 (Or.inl ⟨⟨_, bk, by unfold xK; rw [e12, if_pos e3]; rfl⟩, fin hb fab hwb bk bn (fun u u1 u2 => ?_) (fun x x1 x2 _ => both x x1 x2)⟩)
    obtain ⟨y1, y2⟩ := tne u u1 u2
    rw [both _ y1 y2, xt u (fun w => ?_)]
    · exact r.term u1 u2
    · rw [e3, ← nI_0] at w
      rw [hv.nT'] at u2
      have := (nI_eq (by decide) (by omega)).mp w
      omega
  · have tt : tn (S.1 12 i) = t := by unfold tn; rw [t2]; exact nI_clamp (by omega)
    have tpos : 1 ≤ t := by
      rcases Nat.eq_zero_or_pos t with w | w
      · exfalso; rw [w] at t2; exact e3 t2
      · exact w
    have t3 : t ≤ s_nT S := by rw [hv.nT']; exact t1
    have gt : am_gr hb (G.2.2.1 i) 4 2 (G.2.1 t) := ⟨_, bk, by unfold xK; rw [e12, if_neg e3, tt]; rfl⟩
    obtain ⟨y1, y2⟩ := tne t tpos t3
    have tmb : hb.1 (G.2.1 t) = some (2, xT S t) := by rw [both _ y1 y2]; exact r.term tpos t3
    have tmo := (r.2.2.2.1.1 t tpos t3).2
    refine B30_31 (Or.inr ⟨_, gt, Or.inr ⟨_, gt, wf_of tmb (show 3 < 4 by decide) (fun hc wc => fin hc (fab.tr (wc.cF (by omega) (by omega))) (wc.hw hwb tmb) ?_ ?_ (fun u u1 u2 => ?_) (fun x x1 x2 x3 => ?_))⟩⟩)
    · rw [wc.2.2 _ (fun w => y1 w.symm)]; exact bk
    · rw [wc.2.2 _ (by omega)]; exact bn
    · by_cases eu : u = t
      · subst eu
        have ow : s_own (s_e1 S i z) (nI u) (s_nK S) = 0 := by
          refine (s_own_0 (s_nK S)).mpr (fun j j1 j2 ja je => ?_)
          rw [e12] at je
          obtain ⟨ne, ja⟩ := (s_e1_A S i z1 z2 j).mp ja
          rw [hv.nK] at j2
          exact ne (hu i j h1 h2 j1 j2 hA ja e3 (by rw [je, t2])).symm
        rw [wc.2.1]
        simp only [xT, enK, ow, s_e1_k S i z (a := 8) (by decide) (by decide) (by decide) (by decide), s_e1_k S i z (a := 9) (by decide) (by decide) (by decide) (by decide)]
        rfl
      · have ne : G.2.1 u ≠ G.2.1 t := fun w => eu (r.2.2.2.1.2 u t u1 u2 tpos t3 w)
        obtain ⟨w1, w2⟩ := tne u u1 u2
        rw [wc.2.2 _ ne, both _ w1 w2, xt u (fun w => eu ?_)]
        · exact r.term u1 u2
        · rw [t2] at w
          rw [hv.nT'] at u2
          exact ((nI_eq (by omega) (by omega)).mp w).symm
    · rw [wc.2.2 x (x3 t tpos t3)]
      exact both x x1 x2
end Class4
