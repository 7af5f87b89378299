/-! start: a task is made. -/
section Class12
variable {h : am_H} {o : Nat} {S : sS} {G : gM} {Q : am_H → Option Value → Prop} {nC nT nK : Nat}
theorem RX.made {h' : am_H} (r : RX h o S G) (hv : s_iv S nC nT nK) (fr : S.1 13 (nK + 1) = 0 ∧ S.1 16 (nK + 1) = 0) (hK : nK < 200) {c t : Nat} {w : Int64} (c1 : 1 ≤ c) (c2 : c ≤ nC) (t2 : t ≤ nT) (hw' : hw h' o)
    (e0 : h'.1 o = some (0, (xO o S).set 7 (.int (S.1 3 0 + 1)))) (e3 : h'.1 (o + 3) = some (104, (xA 200 nK G.2.2.1).set nK (.ref h.2.1)))
    (eq : h'.1 h.2.1 = some (4, [.int (nI (nK + 1)), .ref (G.1 c), if t = 0 then .null else .ref (G.2.1 t), .long w, .int 0, .int (-1), .int 0, .ref (h.2.1 + 1)]))
    (el : h'.1 (h.2.1 + 1) = some (3, [.int (S.1 5 c), .int 1, .null, .ref (h.2.1 + 2)])) (eb : h'.1 (h.2.1 + 2) = some (100, List.replicate 10 (.int 0)))
    (old : ∀ x d, h.1 x = some d → x ≠ o → x ≠ o + 3 → h'.1 x = some d) :
    RX h' o (s_new S (nI c) (nI t) w) (G.1, G.2.1, (fun j => if j = nK + 1 then h.2.1 else G.2.2.1 j), (fun j => if j = nK + 1 then h.2.1 + 1 else G.2.2.2.1 j), (fun j d => if j = nK + 1 then h.2.1 + 1 else G.2.2.2.2.1 j d), (fun j d => if j = nK + 1 then h.2.1 + 2 else G.2.2.2.2.2 j d)) := by
  have hC : nC ≤ 60 := hv.2.1
  have hT : nT ≤ 20 := hv.2.2.2.1
  have en : tn (S.1 3 0 + 1) = nK + 1 := by rw [hv.2.2.2.2.1, tn_1 (by omega)]
  have at' : ∀ a j, (s_new S (nI c) (nI t) w).1 a j = if a = 14 ∧ j = nK + 1 then -1 else if a = 12 ∧ j = nK + 1 then nI t else if a = 11 ∧ j = nK + 1 then nI c else if a = 3 ∧ j = 0 then S.1 3 0 + 1 else S.1 a j := fun a j => by rw [← en]; rfl
  have w1 : ∀ j, (s_new S (nI c) (nI t) w).2.1 j = if j = nK + 1 then w else S.2.1 j := fun j => by rw [← en]; rfl
  have w2 : (s_new S (nI c) (nI t) w).2.2 = S.2.2 := rfl
  generalize s_new S (nI c) (nI t) w = S' at at' w1 w2 ⊢
  obtain ⟨rw, ro, rc, rt, rk, rv⟩ := id r
  have nx : o + 22 ≤ h.2.1 := rw.2
  have k0 : ∀ a j, a ≠ 14 → a ≠ 12 → a ≠ 11 → a ≠ 3 → S'.1 a j = S.1 a j := fun a j a1 a2 a3 a4 => by rw [at', if_neg (by omega), if_neg (by omega), if_neg (by omega), if_neg (by omega)]
  have k1 : ∀ a j, j ≠ nK + 1 → a ≠ 3 → S'.1 a j = S.1 a j := fun a j a1 a2 => by rw [at', if_neg (by omega), if_neg (by omega), if_neg (by omega), if_neg (by omega)]
  have e30 : S'.1 3 0 = S.1 3 0 + 1 := by rw [at', if_neg (by omega), if_neg (by omega), if_neg (by omega), if_pos ⟨rfl, rfl⟩]
  have nC' : s_nC S' = nC := by unfold s_nC; rw [k0 1 0 (by decide) (by decide) (by decide) (by decide)]; exact hv.nC'
  have nT' : s_nT S' = nT := by unfold s_nT; rw [k0 2 0 (by decide) (by decide) (by decide) (by decide)]; exact hv.nT'
  have nK' : s_nK S' = nK + 1 := by unfold s_nK; rw [e30]; exact en
  have hnC := hv.nC'
  have hnT := hv.nT'
  have hnK := hv.nK
  have of' : ∀ j, j ≠ nK + 1 → s_of S' j = s_of S j := fun j e => by unfold s_of; rw [k1 11 j e (by decide)]
  have ofn : s_of S' (nK + 1) = c := by unfold s_of; rw [at', if_neg (by omega), if_neg (by omega), if_pos ⟨rfl, rfl⟩]; exact nI_clamp (by omega)
  have e13 : ∀ j, S'.1 13 j = S.1 13 j := fun j => k0 13 j (by decide) (by decide) (by decide) (by decide)
  have hA : ∀ j, s_A S' j ↔ s_A S j := fun j => by unfold s_A; rw [e13]
  have nA : ¬ s_A S' (nK + 1) := fun z => s_not_A fr.1 ((hA _).mp z)
  have ee : ∀ j, s_e S' j = s_e S j := fun j => by unfold s_e s_lev; rw [e13, k0 15 j (by decide) (by decide) (by decide) (by decide)]
  have een : s_e S (nK + 1) = 1 := by unfold s_e; rw [if_pos fr.1]
  have cnt : ∀ z n, n ≤ nK → s_cnt S' z n = s_cnt S z n := by
    intro z n
    induction n with
    | zero => intro _; rfl
    | succ n ih =>
      intro hn
      rw [s_cnt, s_cnt, ih (by omega)]
      have : s_cl S' (n + 1) = s_cl S (n + 1) := by unfold s_cl; rw [of' (n + 1) (by omega), k0 6 _ (by decide) (by decide) (by decide) (by decide)]
      simp only [hA, this]
  have cntn : ∀ z, s_cnt S' z (nK + 1) = s_cnt S z nK := fun z => by
    rw [s_cnt, cnt z nK (Nat.le_refl _), if_neg (fun y => nA y.1)]
    rfl
  have own : ∀ z n, n ≤ nK → s_own S' z n = s_own S z n := by
    intro z n
    induction n with
    | zero => intro _; rfl
    | succ n ih =>
      intro hn
      rw [s_own, s_own, ih (by omega), k1 12 (n + 1) (by omega) (by decide)]
      simp only [hA]
  have ownn : ∀ z, s_own S' z (nK + 1) = s_own S z nK := fun z => by rw [s_own, own z nK (Nat.le_refl _), if_neg (fun y => nA y.1)]
  refine ⟨hw', ⟨?_, ?_, ?_, ?_, ?_, ?_⟩, fun z a b => ?_, ⟨fun z a b => ?_, fun z u a b => ?_⟩, ⟨fun j a b => ?_, fun j k a b a' b' e => ?_⟩, ⟨fun j d a b e f => ?_, fun j d k e a b f g a' b' f' g' ge => ?_⟩⟩
  · rw [e0]
    simp only [xO, e30, w2, k0 1 0 (by decide) (by decide) (by decide) (by decide), k0 2 0 (by decide) (by decide) (by decide) (by decide)]
    rfl
  · rw [old _ _ ro.2.1 (by omega) (by omega), nC', hnC]
  · rw [old _ _ ro.2.2.1 (by omega) (by omega), nT', hnT]
  · rw [e3, nK', xA_set (by omega)]
  · rw [old _ _ ro.2.2.2.2.1 (by omega) (by omega)]
    have : xL S' = xL S := by
      unfold xL
      apply List.map_congr_left
      intro j _
      rw [k0 10 j (by decide) (by decide) (by decide) (by decide)]
    rw [this]
  · rw [old _ _ ro.2.2.2.2.2 (by omega) (by omega)]
    have : xN S' = xN S := by
      unfold xN
      apply List.map_congr_left
      intro j _
      rw [nK', cntn, hnK]
    rw [this]
  · rw [nC'] at b
    obtain ⟨y1, y2⟩ := rc z a (by rw [hnC]; exact b)
    refine ⟨?_, y2⟩
    show h'.1 (G.1 z) = _
    rw [old _ _ y1 (by omega) (by omega)]
    simp only [xC, k0 5 z (by decide) (by decide) (by decide) (by decide), k0 6 z (by decide) (by decide) (by decide) (by decide), k0 7 z (by decide) (by decide) (by decide) (by decide)]
  · rw [nT'] at b
    obtain ⟨y1, y2⟩ := rt.1 z a (by rw [hnT]; exact b)
    refine ⟨?_, y2⟩
    show h'.1 (G.2.1 z) = _
    rw [old _ _ y1 (by omega) (by omega)]
    simp only [xT, nK', ownn, hnK, k0 8 z (by decide) (by decide) (by decide) (by decide), k0 9 z (by decide) (by decide) (by decide) (by decide)]
  · rw [nT'] at b ⊢
    rw [← hnT] at b ⊢
    exact rt.2 z u a b
  · rw [nK'] at b
    show h'.1 (if j = nK + 1 then h.2.1 else G.2.2.1 j) = _ ∧ o + 22 ≤ (if j = nK + 1 then h.2.1 else G.2.2.1 j) ∧ (1 ≤ s_e S' j → (if j = nK + 1 then h.2.1 + 1 else G.2.2.2.1 j) = (if j = nK + 1 then h.2.1 + 1 else G.2.2.2.2.1 j (s_e S' j)))
    by_cases ej : j = nK + 1
    · rw [if_pos ej, if_pos ej, if_pos ej]
      refine ⟨?_, nx, fun _ => rfl⟩
      rw [eq]
      subst ej
      have x12 : S'.1 12 (nK + 1) = nI t := by rw [at', if_neg (by omega), if_pos ⟨rfl, rfl⟩]
      have x14 : S'.1 14 (nK + 1) = -1 := by rw [at', if_pos ⟨rfl, rfl⟩]
      have ht : tn (nI t) = t := nI_clamp (by omega)
      simp only [xK, ofn, x12, x14, w1, e13, fr.1, k0 16 _ (by decide) (by decide) (by decide) (by decide), fr.2, if_true, ht]
      by_cases et : t = 0
      · rw [if_pos et, if_pos (by rw [et]; rfl)]
      · rw [if_neg et, if_neg (nI_ne0 (by omega) (by omega))]
    · rw [if_neg ej, if_neg ej, if_neg ej]
      obtain ⟨y1, y2, y3⟩ := rk.1 j a (by rw [hnK]; omega)
      refine ⟨?_, y2, fun z => ?_⟩
      · rw [old _ _ y1 (by omega) (by omega)]
        simp only [xK, of' j ej, k1 12 j ej (by decide), w1, e13, k1 14 j ej (by decide), k1 16 j ej (by decide), if_neg ej]
      · rw [ee] at z ⊢
        exact y3 z
  · rw [nK'] at b b'
    have e : (if j = nK + 1 then h.2.1 else G.2.2.1 j) = (if k = nK + 1 then h.2.1 else G.2.2.1 k) := e
    by_cases ej : j = nK + 1
    · by_cases ek : k = nK + 1
      · omega
      · rw [if_pos ej, if_neg ek] at e
        exact absurd e.symm (r.next (rk.1 k a' (by rw [hnK]; omega)).1)
    · by_cases ek : k = nK + 1
      · rw [if_neg ej, if_pos ek] at e
        exact absurd e (r.next (rk.1 j a (by rw [hnK]; omega)).1)
      · rw [if_neg ej, if_neg ek] at e
        exact rk.2 j k a (by rw [hnK]; omega) a' (by rw [hnK]; omega) e
  · rw [nK'] at b
    rw [ee] at f
    show h'.1 (if j = nK + 1 then h.2.1 + 1 else G.2.2.2.2.1 j d) = _ ∧ h'.1 (if j = nK + 1 then h.2.1 + 2 else G.2.2.2.2.2 j d) = _ ∧ o + 22 ≤ (if j = nK + 1 then h.2.1 + 1 else G.2.2.2.2.1 j d) ∧ o + 22 ≤ (if j = nK + 1 then h.2.1 + 2 else G.2.2.2.2.2 j d)
    by_cases ej : j = nK + 1
    · rw [if_pos ej, if_pos ej]
      subst ej
      have d1 : d = 1 := by omega
      subst d1
      refine ⟨?_, ?_, by omega, by omega⟩
      · rw [el]
        have eP : s_P S' (nK + 1) 1 = S.1 5 c := by
          unfold s_P
          rw [e13, if_pos fr.1, ofn, k0 5 _ (by decide) (by decide) (by decide) (by decide)]
        simp only [xV, eP, if_true]
        rfl
      · rw [eb, rep10]
        unfold xB s_Lb
        rw [e13, fr.1]
        rfl
    · rw [if_neg ej, if_neg ej]
      obtain ⟨y1, y2, y3, y4⟩ := rv.1 j d a (by rw [hnK]; omega) e f
      refine ⟨?_, ?_, y3, y4⟩
      · rw [old _ _ y1 (by omega) (by omega)]
        have eP : s_P S' j d = s_P S j d := by
          unfold s_P
          rw [e13, of' j ej, k0 5 _ (by decide) (by decide) (by decide) (by decide), k0 18 _ (by decide) (by decide) (by decide) (by decide)]
        simp only [xV, eP, if_neg ej]
      · rw [old _ _ y2 (by omega) (by omega)]
        have : xB S' j d = xB S j d := by
          unfold xB s_Lb
          apply List.map_congr_left
          intro k _
          rw [e13, k0 19 _ (by decide) (by decide) (by decide) (by decide)]
        rw [this]
  · rw [nK'] at b b'
    rw [ee] at g g'
    have ge : (if j = nK + 1 then h.2.1 + 2 else G.2.2.2.2.2 j d) = (if k = nK + 1 then h.2.1 + 2 else G.2.2.2.2.2 k e) := ge
    by_cases ej : j = nK + 1
    · by_cases ek : k = nK + 1
      · subst ej
        subst ek
        exact ⟨rfl, by omega⟩
      · rw [if_pos ej, if_neg ek] at ge
        have := rw.1 _ _ (rv.1 k e a' (by rw [hnK]; omega) f' g').2.1
        omega
    · by_cases ek : k = nK + 1
      · rw [if_neg ej, if_pos ek] at ge
        have := rw.1 _ _ (rv.1 j d a (by rw [hnK]; omega) f g).2.1
        omega
      · rw [if_neg ej, if_neg ek] at ge
        exact rv.2 j d k e a (by rw [hnK]; omega) f g a' (by rw [hnK]; omega) f' g' ge
theorem n_taskR {a c2 t2 : Nat} {n p : Int32} {w : Int64} (ha : h.1 a = some (4, am_dfs 4)) (hlt : a < h.2.1) {cr : List Value} (hc : h.1 c2 = some (1, cr)) (hp : cr[1]? = some (.int p)) (hclt : c2 < h.2.1) (hQ : ∀ h', h'.1 a = some (4, [.int n, .ref c2, .ref t2, .long w, .int 0, .int (-1), .int 0, .ref h.2.1]) → h'.1 h.2.1 = some (3, [.int p, .int 1, .null, .ref (h.2.1 + 1)]) → h'.1 (h.2.1 + 1) = some (100, List.replicate 10 (.int 0)) → (∀ x, x ≠ a → x ≠ h.2.1 → x ≠ h.2.1 + 1 → h'.1 x = h.1 x) → h'.2 = (h.2.1 + 2, h.2.2 + 14) → Q h' none) : am_Run (am_in 68 [.ref a, .int n, .ref c2, .ref t2, .long w] h) Q := by
  refine B68_0 (wf_of ha (show 0 < 8 by decide) (fun h1 w1 => B68_9 (wf_of w1.2.1 (show 1 < 8 by decide) (fun h2 w2 => B68_14 (wf_of w2.2.1 (show 2 < 8 by decide) (fun h3 w3 => B68_19 (wf_of w3.2.1 (show 3 < 8 by decide) (fun h4 w4 => B68_25 (wf_of w4.2.1 (show 4 < 8 by decide) (fun h5 w5 => B68_30 (wf_of w5.2.1 (show 5 < 8 by decide) (fun h6 w6 => B68_35 ?_))))))))))))
  have e2 : h6.2 = h.2 := by rw [w6.1, w5.1, w4.1, w3.1, w2.1, w1.1]
  have e21 : h6.2.1 = h.2.1 := by rw [e2]
  have s6 : ∀ x, x ≠ a → h6.1 x = h.1 x := fun x hx => by rw [w6.2.2 x hx, w5.2.2 x hx, w4.2.2 x hx, w3.2.2 x hx, w2.2.2 x hx, w1.2.2 x hx]
  have w7 := nw_new h6 (3, am_dfs 3) (am_dfs 3).length
  generalize am_new h6 (3, am_dfs 3) (am_dfs 3).length = h7 at w7 ⊢
  rw [e21]
  have e71 : h7.2.1 = h.2.1 + 1 := by rw [w7.2.2, e2]
  have w71 : h7.1 h.2.1 = some (3, am_dfs 3) := by rw [← e21]; exact w7.1
  have s7 : ∀ x, x ≠ h.2.1 → h7.1 x = h6.1 x := fun x hx => w7.2.1 x (by rw [e21]; exact hx)
  have hc7 : h7.1 c2 = some (1, cr) := by rw [s7 c2 (by omega), s6 c2 (ne_kind hc ha (by decide))]; exact hc
  refine B68_39 ⟨_, ⟨_, hc7, hp⟩, n_levelN w71 (by rw [e71]; omega) (fun h8 a8 b8 c8 d8 => ?_)⟩
  rw [e71] at a8 b8 c8
  have k8 : h8.1 a = some (4, [.int n, .ref c2, .ref t2, .long w, .int 0, .int (-1), .int 0, .null]) := by rw [c8 a (by omega) (by omega), s7 a (by omega)]; exact w6.2.1
  refine B68_49 (wf_of k8 (show 7 < 8 by decide) (fun h9 w9 => B68_52 (hQ h9 w9.2.1 ?_ ?_ (fun x x1 x2 x3 => ?_) ?_)))
  · rw [w9.2.2 _ (by omega)]; exact a8
  · rw [w9.2.2 _ (by omega)]; exact b8
  · rw [w9.2.2 x x1, c8 x x2 x3, s7 x x2, s6 x x1]
  · rw [w9.1, d8, w7.2.2, e2]
    rfl
theorem c_mkR (r : RX h o S G) (hv : s_iv S nC nT nK) (fr : S.1 13 (nK + 1) = 0 ∧ S.1 15 (nK + 1) = 0 ∧ S.1 16 (nK + 1) = 0) (hK : nK < 200) {c t : Nat} {x1 x2 : Int32} {w : Int64} (c1 : 1 ≤ c) (c2 : c ≤ nC) (t1 : 1 ≤ t) (t2 : t ≤ nT) (hQ : ∀ h' G', RX h' o (s_all (s_new S (nI c) (nI t) w)).1 G' → cG o h h' → Q h' (some (.int (S.1 3 0 + 1)))) : am_Run (3, 83, [some (.ref o), some (.int x1), some (.int x2), some (.long w), none, some (.ref (G.2.1 t)), some (.ref (G.1 c))], [], h) Q := by
  have hC : nC ≤ 60 := hv.2.1
  have hT : nT ≤ 20 := hv.2.2.2.1
  obtain ⟨rw, ro, rc, rt, rk, rv⟩ := id r
  have nx : o + 22 ≤ h.2.1 := rw.2
  obtain ⟨cc, cco⟩ := rc c c1 (by rw [hv.nC']; exact c2)
  refine B3_83 ⟨_, r.g2, _, r.g7, ?_⟩
  have w1 := nw_new h (4, am_dfs 4) (am_dfs 4).length
  generalize am_new h (4, am_dfs 4) (am_dfs 4).length = h1 at w1 ⊢
  have old1 : ∀ y d, h.1 y = some d → h1.1 y = some d := fun y d hy => by rw [w1.2.1 y (r.next hy)]; exact hy
  have e11 : h1.2.1 = h.2.1 + 1 := by rw [w1.2.2]
  have clt := rw.1 _ _ cc
  refine B3_94 ⟨_, ⟨_, old1 _ _ ro.1, rfl⟩, n_taskR w1.1 (by omega) (old1 _ _ cc) rfl (by omega) (fun h2 a2 b2 b3 s2 d2 => ?_)⟩
  rw [e11] at a2 b2 b3 s2
  have old2 : ∀ y d, h.1 y = some d → h2.1 y = some d := fun y d hy => by
    have := rw.1 y d hy
    rw [s2 y (by omega) (by omega) (by omega)]
    exact old1 y d hy
  have hw2 : hw h2 o := by
    refine ⟨fun y d hy => ?_, ?_⟩
    · rw [d2]
      show y < h1.2.1 + 2
      rw [e11]
      by_cases z1 : y = h.2.1
      · omega
      · by_cases z2 : y = h.2.1 + 1
        · omega
        · by_cases z3 : y = h.2.1 + 1 + 1
          · omega
          · rw [s2 y z1 z2 z3, w1.2.1 y z1] at hy
            have := rw.1 y d hy
            omega
    · rw [d2]
      show o + 22 ≤ h1.2.1 + 2
      omega
  have o3 := old2 _ _ ro.2.2.2.1
  rw [hv.nK] at o3
  refine B3_109 (wr_of o3 a2 (Or.inr (Or.inr ⟨rfl, rfl⟩)) hv.2.2.2.2.1 (by rw [xA_len]; omega) (by rw [xA_len]; decide) (fun h3 w3 => ?_))
  have oo3 : h3.1 o = some (0, xO o S) := by rw [w3.2.2 o (by omega)]; exact old2 _ _ ro.1
  refine B3_110 ⟨_, ⟨_, oo3, rfl⟩, wf_of oo3 (show 7 < 9 by decide) (fun h4 w4 => ?_)⟩
  have hw4 : hw h4 o := w4.hw (w3.hw hw2 o3) oo3
  have r4 := r.made (h' := h4) (t := t) (w := w) hv ⟨fr.1, fr.2.2⟩ hK c1 c2 t2 hw4 w4.2.1 (by rw [w4.2.2 _ (by omega)]; exact w3.2.1) (by
      rw [w4.2.2 _ (by omega), w3.2.2 _ (by omega), a2, hv.2.2.2.2.1, nI_1, if_neg (by omega)]) (by rw [w4.2.2 _ (by omega), w3.2.2 _ (by omega)]; exact b2) (by rw [w4.2.2 _ (by omega), w3.2.2 _ (by omega)]; exact b3) (fun y d hy y0 y3 => by rw [w4.2.2 y y0, w3.2.2 y y3]; exact old2 y d hy)
  have e3 : S.1 3 0 = nI nK := hv.2.2.2.2.1
  have isc : isC S (nI c) := by
    refine ⟨nI_lt (a := 0) (by omega) (by omega), ?_⟩
    rw [hv.1]
    exact (nI_leI (by omega) (by omega)).mpr c2
  have niv := s_new_iv hv isc (t := (nI t)) (Or.inr ⟨nI_lt (a := 0) (by omega) (by omega), by rw [hv.2.2.1]; exact (nI_leI (by omega) (by omega)).mpr t2⟩) (by rw [e3]; intro z; have := (nI_eq (b := 200) (by omega) (by decide)).mp z; omega) w (s_not_A fr.1) fr.2.1
  have niv2 := (s_all_ok niv).1
  refine B3_120 ⟨r4.is, c_startAll r4 niv (fun h5 r5 f5 => B3_124 ⟨_, r5.g7, ?_⟩)⟩
  rw [niv2.2.2.2.2.1, ← nI_1, ← e3]
  refine hQ h5 _ r5 ?_
  have e42 : h4.2 = (h.2.1 + 3, h.2.2 + 22) := by rw [w4.1, w3.1, d2, w1.2.2]; rfl
  have e52 : h5.2 = (h.2.1 + 3, h.2.2 + 22) := by rw [f5.1]; exact e42
  refine ⟨fun q hq => ?_, by rw [e52]; show h.2.1 ≤ h.2.1 + 3; omega, by rw [e52]; show h.2.1 + 3 ≤ _; omega, by rw [e52]; show h.2.2 + 22 ≤ _; omega⟩
  rw [f5.2 q hq, w4.2.2 q (by omega), w3.2.2 q (by omega), s2 q (by omega) (by omega) (by omega), w1.2.1 q (by omega)]
theorem n_taskN {a c2 : Nat} {n p : Int32} {w : Int64} (ha : h.1 a = some (4, am_dfs 4)) (hlt : a < h.2.1) {cr : List Value} (hc : h.1 c2 = some (1, cr)) (hp : cr[1]? = some (.int p)) (hclt : c2 < h.2.1) (hQ : ∀ h', h'.1 a = some (4, [.int n, .ref c2, .null, .long w, .int 0, .int (-1), .int 0, .ref h.2.1]) → h'.1 h.2.1 = some (3, [.int p, .int 1, .null, .ref (h.2.1 + 1)]) → h'.1 (h.2.1 + 1) = some (100, List.replicate 10 (.int 0)) → (∀ x, x ≠ a → x ≠ h.2.1 → x ≠ h.2.1 + 1 → h'.1 x = h.1 x) → h'.2 = (h.2.1 + 2, h.2.2 + 14) → Q h' none) : am_Run (am_in 68 [.ref a, .int n, .ref c2, .null, .long w] h) Q := by
  refine B68_0_1 (wf_of ha (show 0 < 8 by decide) (fun h1 w1 => B68_9_1 (wf_of w1.2.1 (show 1 < 8 by decide) (fun h2 w2 => B68_14_1 (wf_of w2.2.1 (show 2 < 8 by decide) (fun h3 w3 => B68_19_1 (wf_of w3.2.1 (show 3 < 8 by decide) (fun h4 w4 => B68_25_1 (wf_of w4.2.1 (show 4 < 8 by decide) (fun h5 w5 => B68_30_1 (wf_of w5.2.1 (show 5 < 8 by decide) (fun h6 w6 => B68_35_1 ?_))))))))))))
  have e2 : h6.2 = h.2 := by rw [w6.1, w5.1, w4.1, w3.1, w2.1, w1.1]
  have e21 : h6.2.1 = h.2.1 := by rw [e2]
  have s6 : ∀ x, x ≠ a → h6.1 x = h.1 x := fun x hx => by rw [w6.2.2 x hx, w5.2.2 x hx, w4.2.2 x hx, w3.2.2 x hx, w2.2.2 x hx, w1.2.2 x hx]
  have w7 := nw_new h6 (3, am_dfs 3) (am_dfs 3).length
  generalize am_new h6 (3, am_dfs 3) (am_dfs 3).length = h7 at w7 ⊢
  rw [e21]
  have e71 : h7.2.1 = h.2.1 + 1 := by rw [w7.2.2, e2]
  have w71 : h7.1 h.2.1 = some (3, am_dfs 3) := by rw [← e21]; exact w7.1
  have s7 : ∀ x, x ≠ h.2.1 → h7.1 x = h6.1 x := fun x hx => w7.2.1 x (by rw [e21]; exact hx)
  have hc7 : h7.1 c2 = some (1, cr) := by rw [s7 c2 (by omega), s6 c2 (ne_kind hc ha (by decide))]; exact hc
  refine B68_39_1 ⟨_, ⟨_, hc7, hp⟩, n_levelN w71 (by rw [e71]; omega) (fun h8 a8 b8 c8 d8 => ?_)⟩
  rw [e71] at a8 b8 c8
  have k8 : h8.1 a = some (4, [.int n, .ref c2, .null, .long w, .int 0, .int (-1), .int 0, .null]) := by rw [c8 a (by omega) (by omega), s7 a (by omega)]; exact w6.2.1
  refine B68_49_1 (wf_of k8 (show 7 < 8 by decide) (fun h9 w9 => B68_52_1 (hQ h9 w9.2.1 ?_ ?_ (fun x x1 x2 x3 => ?_) ?_)))
  · rw [w9.2.2 _ (by omega)]; exact a8
  · rw [w9.2.2 _ (by omega)]; exact b8
  · rw [w9.2.2 x x1, c8 x x2 x3, s7 x x2, s6 x x1]
  · rw [w9.1, d8, w7.2.2, e2]
    rfl
theorem c_mkN (r : RX h o S G) (hv : s_iv S nC nT nK) (fr : S.1 13 (nK + 1) = 0 ∧ S.1 15 (nK + 1) = 0 ∧ S.1 16 (nK + 1) = 0) (hK : nK < 200) {c : Nat} {x1 x2 : Int32} {w : Int64} (c1 : 1 ≤ c) (c2 : c ≤ nC) (hQ : ∀ h' G', RX h' o (s_all (s_new S (nI c) 0 w)).1 G' → cG o h h' → Q h' (some (.int (S.1 3 0 + 1)))) : am_Run (3, 83, [some (.ref o), some (.int x1), some (.int x2), some (.long w), none, some (.null), some (.ref (G.1 c))], [], h) Q := by
  have hC : nC ≤ 60 := hv.2.1
  have hT : nT ≤ 20 := hv.2.2.2.1
  obtain ⟨rw, ro, rc, rt, rk, rv⟩ := id r
  have nx : o + 22 ≤ h.2.1 := rw.2
  obtain ⟨cc, cco⟩ := rc c c1 (by rw [hv.nC']; exact c2)
  refine B3_83_1 ⟨_, r.g2, _, r.g7, ?_⟩
  have w1 := nw_new h (4, am_dfs 4) (am_dfs 4).length
  generalize am_new h (4, am_dfs 4) (am_dfs 4).length = h1 at w1 ⊢
  have old1 : ∀ y d, h.1 y = some d → h1.1 y = some d := fun y d hy => by rw [w1.2.1 y (r.next hy)]; exact hy
  have e11 : h1.2.1 = h.2.1 + 1 := by rw [w1.2.2]
  have clt := rw.1 _ _ cc
  refine B3_94_1 ⟨_, ⟨_, old1 _ _ ro.1, rfl⟩, n_taskN w1.1 (by omega) (old1 _ _ cc) rfl (by omega) (fun h2 a2 b2 b3 s2 d2 => ?_)⟩
  rw [e11] at a2 b2 b3 s2
  have old2 : ∀ y d, h.1 y = some d → h2.1 y = some d := fun y d hy => by
    have := rw.1 y d hy
    rw [s2 y (by omega) (by omega) (by omega)]
    exact old1 y d hy
  have hw2 : hw h2 o := by
    refine ⟨fun y d hy => ?_, ?_⟩
    · rw [d2]
      show y < h1.2.1 + 2
      rw [e11]
      by_cases z1 : y = h.2.1
      · omega
      · by_cases z2 : y = h.2.1 + 1
        · omega
        · by_cases z3 : y = h.2.1 + 1 + 1
          · omega
          · rw [s2 y z1 z2 z3, w1.2.1 y z1] at hy
            have := rw.1 y d hy
            omega
    · rw [d2]
      show o + 22 ≤ h1.2.1 + 2
      omega
  have o3 := old2 _ _ ro.2.2.2.1
  rw [hv.nK] at o3
  refine B3_109_1 (wr_of o3 a2 (Or.inr (Or.inr ⟨rfl, rfl⟩)) hv.2.2.2.2.1 (by rw [xA_len]; omega) (by rw [xA_len]; decide) (fun h3 w3 => ?_))
  have oo3 : h3.1 o = some (0, xO o S) := by rw [w3.2.2 o (by omega)]; exact old2 _ _ ro.1
  refine B3_110_1 ⟨_, ⟨_, oo3, rfl⟩, wf_of oo3 (show 7 < 9 by decide) (fun h4 w4 => ?_)⟩
  have hw4 : hw h4 o := w4.hw (w3.hw hw2 o3) oo3
  have r4 := r.made (h' := h4) (t := 0) (w := w) hv ⟨fr.1, fr.2.2⟩ hK c1 c2 (by omega) hw4 w4.2.1 (by rw [w4.2.2 _ (by omega)]; exact w3.2.1) (by
      rw [w4.2.2 _ (by omega), w3.2.2 _ (by omega), a2, hv.2.2.2.2.1, nI_1, if_pos rfl]) (by rw [w4.2.2 _ (by omega), w3.2.2 _ (by omega)]; exact b2) (by rw [w4.2.2 _ (by omega), w3.2.2 _ (by omega)]; exact b3) (fun y d hy y0 y3 => by rw [w4.2.2 y y0, w3.2.2 y y3]; exact old2 y d hy)
  rw [nI_0] at r4
  have e3 : S.1 3 0 = nI nK := hv.2.2.2.2.1
  have isc : isC S (nI c) := by
    refine ⟨nI_lt (a := 0) (by omega) (by omega), ?_⟩
    rw [hv.1]
    exact (nI_leI (by omega) (by omega)).mpr c2
  have niv := s_new_iv hv isc (t := 0) (Or.inl rfl) (by rw [e3]; intro z; have := (nI_eq (b := 200) (by omega) (by decide)).mp z; omega) w (s_not_A fr.1) fr.2.1
  have niv2 := (s_all_ok niv).1
  refine B3_120_1 ⟨r4.is, c_startAll r4 niv (fun h5 r5 f5 => B3_124_1 ⟨_, r5.g7, ?_⟩)⟩
  rw [niv2.2.2.2.2.1, ← nI_1, ← e3]
  refine hQ h5 _ r5 ?_
  have e42 : h4.2 = (h.2.1 + 3, h.2.2 + 22) := by rw [w4.1, w3.1, d2, w1.2.2]; rfl
  have e52 : h5.2 = (h.2.1 + 3, h.2.2 + 22) := by rw [f5.1]; exact e42
  refine ⟨fun q hq => ?_, by rw [e52]; show h.2.1 ≤ h.2.1 + 3; omega, by rw [e52]; show h.2.1 + 3 ≤ _; omega, by rw [e52]; show h.2.2 + 22 ≤ _; omega⟩
  rw [f5.2 q hq, w4.2.2 q (by omega), w3.2.2 q (by omega), s2 q (by omega) (by omega) (by omega), w1.2.1 q (by omega)]
theorem s_new_8 (its t : Int32) (w : Int64) (j : Nat) (v : Int32) : s_new (sU S 8 j v) its t w = sU (s_new S its t w) 8 j v := by
  have e3 : (sU S 8 j v).1 3 0 = S.1 3 0 := rfl
  unfold s_new
  rw [e3]
  have : ∀ (f : Nat → Nat → Int32) (a1 b1 a2 b2 : Nat) (v1 v2 : Int32), a1 ≠ a2 → s_up (s_up f a1 b1 v1) a2 b2 v2 = s_up (s_up f a2 b2 v2) a1 b1 v1 := by
    intro f a1 b1 a2 b2 v1 v2 ne
    funext a b
    unfold s_up
    by_cases z1 : a = a2 ∧ b = b2
    · rw [if_pos z1, if_neg (by omega), if_pos z1]
    · rw [if_neg z1, if_neg z1]
  show (s_up (s_up (s_up (s_up (s_up S.1 8 j v) 3 0 _) 11 _ its) 12 _ t) 14 _ (-1), _) = (s_up (s_up (s_up (s_up (s_up S.1 3 0 _) 11 _ its) 12 _ t) 14 _ (-1)) 8 j v, _)
  rw [this _ 8 j 3 0 v _ (by decide), this _ 8 j 11 _ v _ (by decide), this _ 8 j 12 _ v _ (by decide), this _ 8 j 14 _ v _ (by decide)]
  rfl
theorem c_start (r : RX h o S G) (J : s_J S nC nT nK) {c t : Int32} {w : Int64} (hQ : cP o h Q (o_start S c t w)) : am_Run (am_in 3 [.ref o, .int c, .int t, .long w] h) Q := by
  have hv := J.1
  have hC : nC ≤ 60 := hv.2.1
  have hT : nT ≤ 20 := hv.2.2.2.1
  have hK : nK ≤ 200 := hv.2.2.2.2.2.1
  have no : (¬ isC S (s_its S c t) ∨ (¬ t = 0 ∧ ¬ isM S t)) → Q h (some (.int (-2))) := fun q => by
    rw [o_start, if_pos q] at hQ
    exact hQ h G r cF.rf.G
  have neg : ¬ (¬ isC S (s_its S c t) ∨ (¬ t = 0 ∧ ¬ isM S t)) → ¬ 0 ≤ lg_cmp w 0 → Q h (some (.int (-4))) := fun q1 q2 => by
    rw [o_start, if_neg q1, if_pos (Int64.not_le.mp (fun z => q2 (lg_ge.mpr z)))] at hQ
    exact hQ h G r cF.rf.G
  have full : ¬ (¬ isC S (s_its S c t) ∨ (¬ t = 0 ∧ ¬ isM S t)) → 0 ≤ lg_cmp w 0 → ¬ S.1 3 0 < 200 → Q h (some (.int (-1))) := fun q1 q2 q3 => by
    rw [o_start, if_neg q1, if_neg (Int64.not_lt.mpr (lg_ge.mp q2)), if_pos] at hQ
    · exact hQ h G r cF.rf.G
    · rw [hv.2.2.2.2.1] at q3 ⊢
      exact Classical.not_not.mp (fun z => q3 ((lt200 hK).mpr z))
  have room : S.1 3 0 < 200 → nK < 200 ∧ ¬ S.1 3 0 = 200 := fun q => by
    rw [hv.2.2.2.2.1] at q ⊢
    have h2 := (lt200 hK).mp q
    refine ⟨?_, h2⟩
    have : nK ≠ 200 := fun z => h2 (by rw [z]; rfl)
    omega
  have goes : ¬ (¬ isC S (s_its S c t) ∨ (¬ t = 0 ∧ ¬ isM S t)) → 0 ≤ lg_cmp w 0 → S.1 3 0 < 200 → cP o h Q (S.1 3 0 + 1, (s_all (s_new2 S c t w)).1) := fun q1 q2 q3 => by
    rw [o_start, if_neg q1, if_neg (Int64.not_lt.mpr (lg_ge.mp q2)), if_neg (room q3).2] at hQ
    exact hQ
  have fr : nK < 200 → S.1 13 (nK + 1) = 0 ∧ S.1 15 (nK + 1) = 0 ∧ S.1 16 (nK + 1) = 0 := fun _ => J.2.2.1 (nK + 1) (by omega)
  refine B3_0 ⟨r.is, c_findTerminal r hv (fun hx => B3_5 ?_) (fun hx => B3_5_1 ⟨fun q => ?_, fun q => no (Or.inr ⟨q, hx⟩)⟩)⟩
  · obtain ⟨t1, t2, t3⟩ := hv.M hx
    have t2' : tn t ≤ s_nT S := by rw [hv.nT']; exact t2
    have tm := r.term t1 t2'
    have tmo := (r.2.2.2.1.1 (tn t) t1 t2').2
    refine B3_19 ⟨fun q => ⟨r.is, c_findCode r hv (fun hc => ?_) (fun hc => B3_37_1 (no (Or.inl ?_)))⟩, fun q => ⟨r.is, B28_0 ⟨_, ⟨_, tm, rfl⟩, r.is, c_findCode r hv (fun hc => B28_16 (B3_29 ?_)) (fun hc => B28_16_1 (B3_29_1 (B3_37_1 (no (Or.inl ?_)))))⟩⟩⟩
    · have its : s_its S c t = c := by unfold s_its; rw [if_neg (fun y => q y.1)]
      have ok : ¬ (¬ isC S (s_its S c t) ∨ (¬ t = 0 ∧ ¬ isM S t)) := by
        rw [its]
        rintro (z | z)
        · exact z hc
        · exact z.2 hx
      obtain ⟨c1, c2, c3⟩ := hv.C hc
      refine B3_37 ⟨fun q2 => ⟨_, r.g7, fun q3 => ⟨fun _ => ?_, fun z => absurd z q⟩, fun q3 => full ok q2 q3⟩, fun q2 => neg ok q2⟩
      have g := goes ok q2 q3
      rw [s_new2, if_neg q, its] at g
      refine c_mkR r hv (fr (room q3).1) (room q3).1 c1 c2 t1 t2 (fun h' G' r' f' => ?_)
      rw [← c3, ← t3] at r'
      exact g h' G' r' f'
    · have its : s_its S c t = c := by unfold s_its; rw [if_neg (fun y => q y.1)]
      rw [its]
      exact hc
    · have its : s_its S c t = S.1 8 (tn t) := by unfold s_its; rw [if_pos ⟨q, hx⟩]
      have ok : ¬ (¬ isC S (s_its S c t) ∨ (¬ t = 0 ∧ ¬ isM S t)) := by
        rw [its]
        rintro (z | z)
        · exact z hc
        · exact z.2 hx
      obtain ⟨c1, c2, c3⟩ := hv.C hc
      refine B3_37 ⟨fun q2 => ⟨_, r.g7, fun q3 => ⟨fun z => absurd q z, fun _ => wf_of tm (show 1 < 4 by decide) (fun h1 w1 => ?_)⟩, fun q3 => full ok q2 q3⟩, fun q2 => neg ok q2⟩
      have g := goes ok q2 q3
      rw [s_new2, if_pos q, its, ← s_new_8] at g
      have k2 : ∀ b j, b ≠ 8 → (sU S 8 (tn t) 0).1 b j = S.1 b j := fun b j b1 => by rw [up_at, if_neg (by omega)]
      have hA : ∀ j, s_A (sU S 8 (tn t) 0) j ↔ s_A S j := fun j => by simp only [s_A, k2 13 j (by decide)]
      have w12 : wr h h1 (G.2.1 (tn t)) (2, xT (sU S 8 (tn t) 0) (tn t)) := by
        refine ⟨w1.1, ?_, w1.2.2⟩
        rw [w1.2.1]
        have e8 : (sU S 8 (tn t) 0).1 8 (tn t) = 0 := by rw [up_at, if_pos ⟨rfl, rfl⟩]
        have eK : s_nK (sU S 8 (tn t) 0) = s_nK S := by unfold s_nK; rw [k2 3 0 (by decide)]
        simp only [xT, e8, eK, k2 9 (tn t) (by decide), s_own_cg hA (fun j => k2 12 j (by decide))]
        rfl
      have r1 := r.w2 t1 t2' w12 (fun b j hb => by rw [up_at, if_neg (by omega)]) rfl
      refine c_mkR r1 (hv.u8 8 (Or.inl rfl) _ _) (fr (room q3).1) (room q3).1 c1 c2 t1 t2 (fun h' G' r' f' => ?_)
      rw [← c3, ← t3] at r'
      refine g h' G' r' ?_
      have f1 := w1.cF (o := o) (by omega) (by omega)
      refine ⟨fun z hz => ?_, ?_, ?_, ?_⟩
      · rw [f'.1 z hz, f1.2 z hz]
      · have := f'.2.1; rw [f1.1] at this; exact this
      · have := f'.2.2.1; rw [f1.1] at this; exact this
      · have := f'.2.2.2; rw [f1.1] at this; exact this
    · have its : s_its S c t = S.1 8 (tn t) := by unfold s_its; rw [if_pos ⟨q, hx⟩]
      rw [its]
      exact hc
  · have its : s_its S c t = c := by unfold s_its; rw [if_neg (fun y => hx y.2)]
    refine B3_19_1 ⟨fun q1 => ⟨r.is, c_findCode r hv (fun hc => ?_) (fun hc => B3_37_3 (no (Or.inl ?_)))⟩, fun q1 => ⟨r.is, B28_0_1 (B3_29_3 (B3_37_3 (no (Or.inl ?_))))⟩⟩
    · have ok : ¬ (¬ isC S (s_its S c t) ∨ (¬ t = 0 ∧ ¬ isM S t)) := by
        rw [its]
        rintro (z | z)
        · exact z hc
        · exact z.1 q
      obtain ⟨c1, c2, c3⟩ := hv.C hc
      refine B3_37_2 ⟨fun q2 => ⟨_, r.g7, fun q3 => ⟨fun _ => ?_, fun z => absurd z q1⟩, fun q3 => full ok q2 q3⟩, fun q2 => neg ok q2⟩
      have g := goes ok q2 q3
      rw [s_new2, if_neg q1, its, q] at g
      refine c_mkN r hv (fr (room q3).1) (room q3).1 c1 c2 (fun h' G' r' f' => ?_)
      rw [← c3] at r'
      exact g h' G' r' f'
    · rw [its]
      exact hc
    · rw [its, q1]
      exact fun z => absurd z.1 (by decide)
end Class12
