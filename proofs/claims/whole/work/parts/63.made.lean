/-! THE TWO OBJECTS ARE MADE. -/
def s0 : sS := (fun a j => if a = 10 ∧ j < 10 then 50 else 0, fun _ => 0, 0)
def NP (h0 h : am_H) (m cls k : Nat) (vs : List Value) (A : Nat → am_C) (N : Nat) : Prop := h.1 m = some (cls, vs) ∧ h.2 = (m + 1 + k, N) ∧ (∀ j, j < k → h.1 (m + 1 + j) = some (A j)) ∧ ∀ x, x < m ∨ m + 1 + k ≤ x → h.1 x = h0.1 x
theorem n_st {h0 h : am_H} {m cls k b n N : Nat} (n' : Nat) {vs : List Value} (vs' : List Value) {A : Nat → am_C} {c : am_C} {K : am_H → Prop} (P : NP h0 h m cls k vs A N) (hb : b < vs.length) (hA : A k = c) (hn : n = n') (hs : vs.set b (.ref (m + 1 + k)) = vs') (kk : ∀ h', NP h0 h' m cls (k + 1) vs' A (N + n') → K h') : am_wf (am_new h c n) m cls b (.ref h.2.1) K := by
  subst hn
  subst hs
  obtain ⟨p1, p2, p3, p4⟩ := P
  have e : h.2.1 = m + 1 + k := by rw [p2]
  have w := nw_new h c n
  generalize am_new h c n = h1 at w ⊢
  rw [e]
  unfold nw at w
  rw [e] at w
  refine wf_of (vs := vs) (by rw [w.2.1 m (by omega)]; exact p1) hb (fun h2 w2 => kk h2 ⟨w2.2.1, ?_, fun j hj => ?_, fun x hx => ?_⟩)
  · rw [w2.1, w.2.2, p2]
    rfl
  · rw [w2.2.2 _ (by omega)]
    by_cases ej : j = k
    · rw [ej, hA]; exact w.1
    · rw [w.2.1 _ (by omega)]; exact p3 j (by omega)
  · rw [w2.2.2 x (by omega), w.2.1 x (by omega)]
    exact p4 x (by omega)
theorem rep_map {n : Nat} {v : Value} : (List.range n).map (fun _ => v) = List.replicate n v := by
  rw [List.map_const', List.length_range]
def lim (i : Nat) : List Value := (List.range 10).map fun j => Value.int (if j < i then 50 else 0)
theorem lim_0 : lim 0 = List.replicate 10 (.int 0) := by decide
theorem lim_10 : lim 10 = xL s0 := by decide
theorem lim_len (i : Nat) : (lim i).length = 10 := by unfold lim; rw [List.length_map, List.length_range]
theorem lim_set {i : Nat} (hi : i < 10) : (lim i).set i (.int 50) = lim (i + 1) := by
  unfold lim
  rw [rg_set]
  intro j hj
  by_cases e : j = i
  · rw [if_pos e, if_pos (by omega)]
  · rw [if_neg e]
    by_cases e2 : j < i
    · rw [if_pos e2, if_pos (by omega)]
    · rw [if_neg e2, if_neg (by omega)]
section Made
variable {h : am_H} {Q : am_H → Option Value → Prop}
def kA : Nat → am_C
  | 0 => (102, List.replicate 60 .null)
  | 1 => (103, List.replicate 20 .null)
  | 2 => (104, List.replicate 200 .null)
  | _ => (100, List.replicate 10 (.int 0))
def mB : Nat → am_C
  | 12 => (101, List.replicate 201 (.long 0))
  | j => (100, List.replicate (sl (j + 5)) (.int 0))
theorem mB_0 : mB 0 = (100, List.replicate (61 : Int32).toNatClampNeg (am_df 100)) := by
  rw [show (61 : Int32).toNatClampNeg = 61 by decide]
  rfl
theorem mB_1 : mB 1 = (100, List.replicate (61 : Int32).toNatClampNeg (am_df 100)) := by
  rw [show (61 : Int32).toNatClampNeg = 61 by decide]
  rfl
theorem mB_2 : mB 2 = (100, List.replicate (61 : Int32).toNatClampNeg (am_df 100)) := by
  rw [show (61 : Int32).toNatClampNeg = 61 by decide]
  rfl
theorem mB_3 : mB 3 = (100, List.replicate (21 : Int32).toNatClampNeg (am_df 100)) := by
  rw [show (21 : Int32).toNatClampNeg = 21 by decide]
  rfl
theorem mB_4 : mB 4 = (100, List.replicate (21 : Int32).toNatClampNeg (am_df 100)) := by
  rw [show (21 : Int32).toNatClampNeg = 21 by decide]
  rfl
theorem mB_5 : mB 5 = (100, List.replicate (10 : Int32).toNatClampNeg (am_df 100)) := by
  rw [show (10 : Int32).toNatClampNeg = 10 by decide]
  rfl
theorem mB_6 : mB 6 = (100, List.replicate (201 : Int32).toNatClampNeg (am_df 100)) := by
  rw [show (201 : Int32).toNatClampNeg = 201 by decide]
  rfl
theorem mB_7 : mB 7 = (100, List.replicate (201 : Int32).toNatClampNeg (am_df 100)) := by
  rw [show (201 : Int32).toNatClampNeg = 201 by decide]
  rfl
theorem mB_8 : mB 8 = (100, List.replicate (201 : Int32).toNatClampNeg (am_df 100)) := by
  rw [show (201 : Int32).toNatClampNeg = 201 by decide]
  rfl
theorem mB_9 : mB 9 = (100, List.replicate (201 : Int32).toNatClampNeg (am_df 100)) := by
  rw [show (201 : Int32).toNatClampNeg = 201 by decide]
  rfl
theorem mB_10 : mB 10 = (100, List.replicate (201 : Int32).toNatClampNeg (am_df 100)) := by
  rw [show (201 : Int32).toNatClampNeg = 201 by decide]
  rfl
theorem mB_11 : mB 11 = (100, List.replicate (201 : Int32).toNatClampNeg (am_df 100)) := by
  rw [show (201 : Int32).toNatClampNeg = 201 by decide]
  rfl
theorem mB_12 : mB 12 = (101, List.replicate (201 : Int32).toNatClampNeg (am_df 101)) := by
  rw [show (201 : Int32).toNatClampNeg = 201 by decide]
  rfl
theorem mB_13 : mB 13 = (100, List.replicate (2211 : Int32).toNatClampNeg (am_df 100)) := by
  rw [show (2211 : Int32).toNatClampNeg = 2211 by decide]
  rfl
theorem mB_14 : mB 14 = (100, List.replicate (22110 : Int32).toNatClampNeg (am_df 100)) := by
  rw [show (22110 : Int32).toNatClampNeg = 22110 by decide]
  rfl
theorem n_lim0 {o : Nat} {vs : List Value} (hv : vs[3]? = some (.ref (o + 4))) : ∀ (d i : Nat), i + d = 10 → ∀ h : am_H, h.1 o = some (0, vs) → h.1 (o + 4) = some (100, lim i) → (∀ h', h'.1 (o + 4) = some (100, lim 10) → (∀ x, x ≠ o + 4 → h'.1 x = h.1 x) → h'.2 = h.2 → Q h' none) → am_Run (0, 50, [some (.ref o), some (.int (nI i))], [], h) Q := by
  intro d
  induction d with
  | zero =>
    intro i hi h h1 h2 hQ
    have e : i = 10 := by omega
    subst e
    exact B0_50 ⟨fun _ => hQ h h2 (fun _ _ => rfl) rfl, fun q => absurd (by decide) q⟩
  | succ d ih =>
    intro i hi h h1 h2 hQ
    refine B0_50 ⟨fun q => absurd q (nI_ge (b := 10) (by omega) (by omega)), fun _ => ⟨_, ⟨_, h1, hv⟩, wi_of h2 rfl (by rw [lim_len]; omega) (by rw [lim_len]; decide) (fun h3 w3 => B0_64 ?_)⟩⟩
    rw [nI_1]
    have l3 := w3.2.1
    rw [lim_set (by omega)] at l3
    refine ih (i + 1) (by omega) h3 (by rw [w3.2.2 _ (by omega)]; exact h1) l3 (fun h' a1 a2 a3 => hQ h' a1 (fun x hx => ?_) (a3.trans w3.1))
    rw [a2 x hx, w3.2.2 x hx]
theorem n_lim35 {o : Nat} {vs : List Value} (hv : vs[10]? = some (.ref (o + 6))) : ∀ (d i : Nat), i + d = 10 → ∀ h : am_H, h.1 o = some (5, vs) → h.1 (o + 6) = some (100, lim i) → (∀ h', h'.1 (o + 6) = some (100, lim 10) → (∀ x, x ≠ o + 6 → h'.1 x = h.1 x) → h'.2 = h.2 → Q h' none) → am_Run (35, 135, [some (.ref o), some (.int (nI i))], [], h) Q := by
  intro d
  induction d with
  | zero =>
    intro i hi h h1 h2 hQ
    have e : i = 10 := by omega
    subst e
    exact B35_135 ⟨fun _ => hQ h h2 (fun _ _ => rfl) rfl, fun q => absurd (by decide) q⟩
  | succ d ih =>
    intro i hi h h1 h2 hQ
    refine B35_135 ⟨fun q => absurd q (nI_ge (b := 10) (by omega) (by omega)), fun _ => ⟨_, ⟨_, h1, hv⟩, wi_of h2 rfl (by rw [lim_len]; omega) (by rw [lim_len]; decide) (fun h3 w3 => B35_149 ?_)⟩⟩
    rw [nI_1]
    have l3 := w3.2.1
    rw [lim_set (by omega)] at l3
    refine ih (i + 1) (by omega) h3 (by rw [w3.2.2 _ (by omega)]; exact h1) l3 (fun h' a1 a2 a3 => hQ h' a1 (fun x hx => ?_) (a3.trans w3.1))
    rw [a2 x hx, w3.2.2 x hx]
theorem n_class {o N : Nat} (h1 : h.1 o = some (0, am_dfs 0)) (h2 : h.2 = (o + 1, N)) (hQ : ∀ h', h'.1 o = some (0, xO o s0) → h'.1 (o + 1) = some (102, List.replicate 60 .null) → h'.1 (o + 2) = some (103, List.replicate 20 .null) → h'.1 (o + 3) = some (104, List.replicate 200 .null) → h'.1 (o + 4) = some (100, xL s0) → h'.1 (o + 5) = some (100, List.replicate 10 (.int 0)) → (∀ x, x < o ∨ o + 6 ≤ x → h'.1 x = h.1 x) → h'.2 = (o + 6, N + 300) → Q h' none) : am_Run (am_in 0 [.ref o] h) Q := by
  have P0 : NP h h o 0 0 (am_dfs 0) kA N := ⟨h1, h2, fun j hj => by omega, fun x _ => rfl⟩
  refine B0_0 (B0_10 (n_st 60 [.ref (o + 1), .null, .null, .null, .null, .int 0, .int 0, .int 0, .long 0] P0 (show 0 < 9 by decide) rfl (by decide) rfl (fun g1 P1 => B0_13 (B0_19 (n_st 20 [.ref (o + 1), .ref (o + 2), .null, .null, .null, .int 0, .int 0, .int 0, .long 0] P1 (show 1 < 9 by decide) rfl (by decide) rfl (fun g2 P2 => B0_22 (B0_29 (n_st 200 [.ref (o + 1), .ref (o + 2), .ref (o + 3), .null, .null, .int 0, .int 0, .int 0, .long 0] P2 (show 2 < 9 by decide) rfl (by decide) rfl (fun g3 P3 => B0_32 (B0_37 (n_st 10 [.ref (o + 1), .ref (o + 2), .ref (o + 3), .ref (o + 4), .null, .int 0, .int 0, .int 0, .long 0] P3 (show 3 < 9 by decide) rfl (by decide) rfl (fun g4 P4 => B0_40 (B0_45 (n_st 10 [.ref (o + 1), .ref (o + 2), .ref (o + 3), .ref (o + 4), .ref (o + 5), .int 0, .int 0, .int 0, .long 0] P4 (show 4 < 9 by decide) rfl (by decide) rfl (fun g5 P5 => B0_48 ?_)))))))))))))))
  obtain ⟨p1, p2, p3, p4⟩ := P5
  refine n_lim0 (vs := _) rfl 10 0 rfl g5 p1 (by rw [lim_0]; exact p3 3 (by decide)) (fun h' a1 a2 a3 => ?_)
  refine hQ h' (by rw [a2 o (by omega)]; exact p1) (by rw [a2 _ (by omega)]; exact p3 0 (by decide)) (by rw [a2 _ (by omega)]; exact p3 1 (by decide)) (by rw [a2 _ (by omega)]; exact p3 2 (by decide)) (by rw [a1, lim_10]) (by rw [a2 _ (by omega)]; exact p3 4 (by decide)) (fun x hx => ?_) ?_
  · rw [a2 x (by omega)]
    exact p4 x (by omega)
  · rw [a3, p2]
theorem n_model {m N : Nat} (h1 : h.1 m = some (5, am_dfs 5)) (h2 : h.2 = (m + 1, N)) (hQ : ∀ h', RM h'.1 m s0 → (∀ x, x < m ∨ m + 16 ≤ x → h'.1 x = h.1 x) → h'.2 = (m + 16, N + 25963) → (∀ x, m ≤ x → x < m + 16 → ∃ c, h'.1 x = some c) → Q h' none) : am_Run (am_in 35 [.ref m] h) Q := by
  have P0 : NP h h m 5 0 (am_dfs 5) mB N := ⟨h1, h2, fun j hj => by omega, fun x _ => rfl⟩
  refine B35_0 (B35_9 (n_st 61 [.int 0, .int 0, .int 0, .int 0, .long 0, .ref (m + 1), .null, .null, .null, .null, .null, .null, .null, .null, .null, .null, .null, .null, .null, .null] P0 (show 5 < 20 by decide) mB_0 (by decide) rfl (fun g1 P1 => B35_12 (B35_17 (n_st 61 [.int 0, .int 0, .int 0, .int 0, .long 0, .ref (m + 1), .ref (m + 2), .null, .null, .null, .null, .null, .null, .null, .null, .null, .null, .null, .null, .null] P1 (show 6 < 20 by decide) mB_1 (by decide) rfl (fun g2 P2 => B35_20 (B35_25 (n_st 61 [.int 0, .int 0, .int 0, .int 0, .long 0, .ref (m + 1), .ref (m + 2), .ref (m + 3), .null, .null, .null, .null, .null, .null, .null, .null, .null, .null, .null, .null] P2 (show 7 < 20 by decide) mB_2 (by decide) rfl (fun g3 P3 => B35_28 (B35_33 (n_st 21 [.int 0, .int 0, .int 0, .int 0, .long 0, .ref (m + 1), .ref (m + 2), .ref (m + 3), .ref (m + 4), .null, .null, .null, .null, .null, .null, .null, .null, .null, .null, .null] P3 (show 8 < 20 by decide) mB_3 (by decide) rfl (fun g4 P4 => B35_36 (B35_41 (n_st 21 [.int 0, .int 0, .int 0, .int 0, .long 0, .ref (m + 1), .ref (m + 2), .ref (m + 3), .ref (m + 4), .ref (m + 5), .null, .null, .null, .null, .null, .null, .null, .null, .null, .null] P4 (show 9 < 20 by decide) mB_4 (by decide) rfl (fun g5 P5 => B35_44 (B35_49 (n_st 10 [.int 0, .int 0, .int 0, .int 0, .long 0, .ref (m + 1), .ref (m + 2), .ref (m + 3), .ref (m + 4), .ref (m + 5), .ref (m + 6), .null, .null, .null, .null, .null, .null, .null, .null, .null] P5 (show 10 < 20 by decide) mB_5 (by decide) rfl (fun g6 P6 => B35_52 (B35_58 (n_st 201 [.int 0, .int 0, .int 0, .int 0, .long 0, .ref (m + 1), .ref (m + 2), .ref (m + 3), .ref (m + 4), .ref (m + 5), .ref (m + 6), .ref (m + 7), .null, .null, .null, .null, .null, .null, .null, .null] P6 (show 11 < 20 by decide) mB_6 (by decide) rfl (fun g7 P7 => B35_61 (B35_67 (n_st 201 [.int 0, .int 0, .int 0, .int 0, .long 0, .ref (m + 1), .ref (m + 2), .ref (m + 3), .ref (m + 4), .ref (m + 5), .ref (m + 6), .ref (m + 7), .ref (m + 8), .null, .null, .null, .null, .null, .null, .null] P7 (show 12 < 20 by decide) mB_7 (by decide) rfl (fun g8 P8 => B35_70 (B35_76 (n_st 201 [.int 0, .int 0, .int 0, .int 0, .long 0, .ref (m + 1), .ref (m + 2), .ref (m + 3), .ref (m + 4), .ref (m + 5), .ref (m + 6), .ref (m + 7), .ref (m + 8), .ref (m + 9), .null, .null, .null, .null, .null, .null] P8 (show 13 < 20 by decide) mB_8 (by decide) rfl (fun g9 P9 => B35_79 (B35_85 (n_st 201 [.int 0, .int 0, .int 0, .int 0, .long 0, .ref (m + 1), .ref (m + 2), .ref (m + 3), .ref (m + 4), .ref (m + 5), .ref (m + 6), .ref (m + 7), .ref (m + 8), .ref (m + 9), .ref (m + 10), .null, .null, .null, .null, .null] P9 (show 14 < 20 by decide) mB_9 (by decide) rfl (fun g10 P10 => B35_88 (B35_94 (n_st 201 [.int 0, .int 0, .int 0, .int 0, .long 0, .ref (m + 1), .ref (m + 2), .ref (m + 3), .ref (m + 4), .ref (m + 5), .ref (m + 6), .ref (m + 7), .ref (m + 8), .ref (m + 9), .ref (m + 10), .ref (m + 11), .null, .null, .null, .null] P10 (show 15 < 20 by decide) mB_10 (by decide) rfl (fun g11 P11 => B35_97 (B35_103 (n_st 201 [.int 0, .int 0, .int 0, .int 0, .long 0, .ref (m + 1), .ref (m + 2), .ref (m + 3), .ref (m + 4), .ref (m + 5), .ref (m + 6), .ref (m + 7), .ref (m + 8), .ref (m + 9), .ref (m + 10), .ref (m + 11), .ref (m + 12), .null, .null, .null] P11 (show 16 < 20 by decide) mB_11 (by decide) rfl (fun g12 P12 => B35_106 (B35_112 (n_st 201 [.int 0, .int 0, .int 0, .int 0, .long 0, .ref (m + 1), .ref (m + 2), .ref (m + 3), .ref (m + 4), .ref (m + 5), .ref (m + 6), .ref (m + 7), .ref (m + 8), .ref (m + 9), .ref (m + 10), .ref (m + 11), .ref (m + 12), .ref (m + 13), .null, .null] P12 (show 17 < 20 by decide) mB_12 (by decide) rfl (fun g13 P13 => B35_115 (B35_121 (n_st 2211 [.int 0, .int 0, .int 0, .int 0, .long 0, .ref (m + 1), .ref (m + 2), .ref (m + 3), .ref (m + 4), .ref (m + 5), .ref (m + 6), .ref (m + 7), .ref (m + 8), .ref (m + 9), .ref (m + 10), .ref (m + 11), .ref (m + 12), .ref (m + 13), .ref (m + 14), .null] P13 (show 18 < 20 by decide) mB_13 (by decide) rfl (fun g14 P14 => B35_124 (B35_130 (n_st 22110 [.int 0, .int 0, .int 0, .int 0, .long 0, .ref (m + 1), .ref (m + 2), .ref (m + 3), .ref (m + 4), .ref (m + 5), .ref (m + 6), .ref (m + 7), .ref (m + 8), .ref (m + 9), .ref (m + 10), .ref (m + 11), .ref (m + 12), .ref (m + 13), .ref (m + 14), .ref (m + 15)] P14 (show 19 < 20 by decide) mB_14 (by decide) rfl (fun g15 P15 => B35_133 ?_)))))))))))))))))))))))))))))))))))))))))))))
  obtain ⟨p1, p2, p3, p4⟩ := P15
  refine n_lim35 (vs := _) rfl 10 0 rfl g15 p1 (by rw [lim_0]; exact p3 5 (by decide)) (fun h' a1 a2 a3 => ?_)
  refine hQ h' ⟨⟨0, ?_⟩, fun k k1 k2 k3 => ?_, ?_⟩ (fun x hx => ?_) ?_ (fun x x1 x2 => ?_)
  · rw [a2 m (by omega)]; exact p1
  · by_cases e : k = 10
    · subst e
      rw [a1, lim_10]
      rfl
    · rw [a2 _ (by omega), show m + (k - 4) = m + 1 + (k - 5) by omega, p3 (k - 5) (by omega)]
      have e1 : mB (k - 5) = (100, List.replicate (sl k) (.int 0)) := by
        have : k = k - 5 + 5 := by omega
        generalize k - 5 = j at this ⊢
        subst this
        have : j ≠ 12 := by omega
        unfold mB
        split
        · omega
        · rfl
      rw [e1]
      unfold mA s0
      simp only [e, false_and, if_false]
      rw [rep_map]
  · rw [a2 _ (by omega), show m + 13 = m + 1 + 12 by omega, p3 12 (by decide)]
    show some (mB 12) = some (101, (List.range 201).map fun _ => Value.long 0)
    rw [rep_map]
    rfl
  · rw [a2 x (by omega)]
    exact p4 x (by omega)
  · exact (a3.trans p2).trans (Prod.ext rfl (by show N + 61 + 61 + 61 + 21 + 21 + 10 + 201 + 201 + 201 + 201 + 201 + 201 + 201 + 2211 + 22110 = N + 25963; omega))
  · by_cases e : x = m + 6
    · rw [e]; exact ⟨_, a1⟩
    · rw [a2 x e]
      by_cases e0 : x = m
      · rw [e0]; exact ⟨_, p1⟩
      · have := p3 (x - (m + 1)) (by omega)
        rw [show m + 1 + (x - (m + 1)) = x by omega] at this
        exact ⟨_, this⟩
end Made
