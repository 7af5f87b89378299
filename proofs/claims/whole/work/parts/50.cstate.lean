/-! THE CLASS'S CELLS for a state: one object at o with five arrays behind it; codes, terminals, tasks, levels and labels wherever they lie. -/
abbrev gM : Type := (Nat → Nat) × (Nat → Nat) × (Nat → Nat) × (Nat → Nat) × (Nat → Nat → Nat) × (Nat → Nat → Nat)
def s_nC (S : sS) : Nat := tn (S.1 1 0)
def s_nT (S : sS) : Nat := tn (S.1 2 0)
def xO (o : Nat) (S : sS) : List Value := [.ref (o + 1), .ref (o + 2), .ref (o + 3), .ref (o + 4), .ref (o + 5), .int (S.1 1 0), .int (S.1 2 0), .int (S.1 3 0), .long S.2.2]
def xA (n k : Nat) (f : Nat → Nat) : List Value := (List.range n).map fun j => if j < k then Value.ref (f (j + 1)) else .null
def xL (S : sS) : List Value := (List.range 10).map fun j => Value.int (S.1 10 j)
def xN (S : sS) : List Value := (List.range 10).map fun j => Value.int (nI (s_cnt S (nI j) (s_nK S)))
def xC (S : sS) (c : Nat) : List Value := [.int (nI c), .int (S.1 5 c), .int (S.1 6 c), .int (S.1 7 c)]
def xT (S : sS) (t : Nat) : List Value := [.int (nI t), .int (S.1 8 t), .int (S.1 9 t), .int (nI (s_own S (nI t) (s_nK S)))]
def xK (S : sS) (G : gM) (i : Nat) : List Value := [.int (nI i), .ref (G.1 (s_of S i)), if S.1 12 i = 0 then .null else .ref (G.2.1 (tn (S.1 12 i))), .long (S.2.1 i), .int (S.1 13 i), .int (S.1 14 i), .int (S.1 16 i), .ref (G.2.2.2.1 i)]
/-- how deep a task's levels are: a queued one has its first level already -/
def s_e (S : sS) (i : Nat) : Nat := if S.1 13 i = 0 then 1 else s_lev S i
def s_P (S : sS) (i d : Nat) : Int32 := if S.1 13 i = 0 then S.1 5 (s_of S i) else S.1 18 (11 * i + d)
def s_Lb (S : sS) (i d k : Nat) : Int32 := if S.1 13 i = 0 then 0 else S.1 19 (10 * (11 * i + d) + k)
def xV (S : sS) (G : gM) (i d : Nat) : List Value := [.int (s_P S i d), .int (nI d), if d = 1 then .null else .ref (G.2.2.2.2.1 i (d - 1)), .ref (G.2.2.2.2.2 i d)]
def xB (S : sS) (i d : Nat) : List Value := (List.range 10).map fun k => Value.int (s_Lb S i d k)
def RCc (h : am_H) (o : Nat) (S : sS) (G : gM) : Prop := ∀ c, 1 ≤ c → c ≤ s_nC S → h.1 (G.1 c) = some (1, xC S c) ∧ o + 22 ≤ G.1 c
def RCt (h : am_H) (o : Nat) (S : sS) (G : gM) : Prop := (∀ t, 1 ≤ t → t ≤ s_nT S → h.1 (G.2.1 t) = some (2, xT S t) ∧ o + 22 ≤ G.2.1 t) ∧ ∀ t u, 1 ≤ t → t ≤ s_nT S → 1 ≤ u → u ≤ s_nT S → G.2.1 t = G.2.1 u → t = u
def RCk (h : am_H) (o : Nat) (S : sS) (G : gM) : Prop := (∀ i, 1 ≤ i → i ≤ s_nK S → h.1 (G.2.2.1 i) = some (4, xK S G i) ∧ o + 22 ≤ G.2.2.1 i ∧ (1 ≤ s_e S i → G.2.2.2.1 i = G.2.2.2.2.1 i (s_e S i))) ∧ ∀ i j, 1 ≤ i → i ≤ s_nK S → 1 ≤ j → j ≤ s_nK S → G.2.2.1 i = G.2.2.1 j → i = j
def RCv (h : am_H) (o : Nat) (S : sS) (G : gM) : Prop := (∀ i d, 1 ≤ i → i ≤ s_nK S → 1 ≤ d → d ≤ s_e S i → h.1 (G.2.2.2.2.1 i d) = some (3, xV S G i d) ∧ h.1 (G.2.2.2.2.2 i d) = some (100, xB S i d) ∧ o + 22 ≤ G.2.2.2.2.1 i d ∧ o + 22 ≤ G.2.2.2.2.2 i d) ∧
  ∀ i d j e, 1 ≤ i → i ≤ s_nK S → 1 ≤ d → d ≤ s_e S i → 1 ≤ j → j ≤ s_nK S → 1 ≤ e → e ≤ s_e S j → G.2.2.2.2.2 i d = G.2.2.2.2.2 j e → i = j ∧ d = e
def RCo (h : am_H) (o : Nat) (S : sS) (G : gM) : Prop := h.1 o = some (0, xO o S) ∧ h.1 (o + 1) = some (102, xA 60 (s_nC S) G.1) ∧ h.1 (o + 2) = some (103, xA 20 (s_nT S) G.2.1) ∧ h.1 (o + 3) = some (104, xA 200 (s_nK S) G.2.2.1) ∧ h.1 (o + 4) = some (100, xL S) ∧ h.1 (o + 5) = some (100, xN S)
def hw (h : am_H) (o : Nat) : Prop := (∀ q c, h.1 q = some c → q < h.2.1) ∧ o + 22 ≤ h.2.1
def RX (h : am_H) (o : Nat) (S : sS) (G : gM) : Prop := hw h o ∧ RCo h o S G ∧ RCc h o S G ∧ RCt h o S G ∧ RCk h o S G ∧ RCv h o S G
/-- the class's own cells alone have changed, and none was made -/
def cF (o : Nat) (h h' : am_H) : Prop := h'.2 = h.2 ∧ ∀ q, (q < o ∨ (o + 6 ≤ q ∧ q < o + 22)) → h'.1 q = h.1 q
theorem cF.rf {o : Nat} {h : am_H} : cF o h h := ⟨rfl, fun _ _ => rfl⟩
theorem cF.tr {o : Nat} {h h1 h2 : am_H} (a : cF o h h1) (b : cF o h1 h2) : cF o h h2 := ⟨b.1.trans a.1, fun q hq => (b.2 q hq).trans (a.2 q hq)⟩
theorem ne_kind {h : am_H} {a b k l : Nat} {u v : List Value} (h1 : h.1 a = some (k, u)) (h2 : h.1 b = some (l, v)) (hk : k ≠ l) : a ≠ b := fun e => by
  rw [e, h2] at h1
  cases h1
  exact hk rfl
/-- a field is written: the heap behind it by its cells -/
def wr (h h' : am_H) (q : Nat) (c : am_C) : Prop := h'.2 = h.2 ∧ h'.1 q = some c ∧ ∀ x, x ≠ q → h'.1 x = h.1 x
theorem wr_set (h : am_H) (q : Nat) (c : am_C) : wr h (am_set h q c) q c := ⟨rfl, am_set_same, fun _ e => am_set_other e⟩
theorem wr.cF {o : Nat} {h h' : am_H} {q : Nat} {c : am_C} (w : wr h h' q c) (hq : o ≤ q) (hq2 : q < o + 6 ∨ o + 22 ≤ q) : cF o h h' := ⟨w.1, fun x hx => w.2.2 x (by omega)⟩
theorem wr.hw {o : Nat} {h h' : am_H} {q k : Nat} {vs ws : List Value} (w : wr h h' q (k, ws)) (hh : hw h o) (hq : h.1 q = some (k, vs)) : hw h' o := by
  refine ⟨fun x c hx => ?_, by rw [w.1]; exact hh.2⟩
  rw [w.1]
  by_cases e : x = q
  · rw [e]; exact hh.1 q _ hq
  · rw [w.2.2 x e] at hx; exact hh.1 x c hx
theorem wf_of {h : am_H} {q k b : Nat} {v : Value} {vs : List Value} {K : am_H → Prop} (hc : h.1 q = some (k, vs)) (hl : b < vs.length) (kk : ∀ h', wr h h' q (k, vs.set b v) → K h') : am_wf h q k b v K := ⟨vs, hc, hl, kk _ (wr_set h q _)⟩
theorem wi_of {h : am_H} {q t : Nat} {x y : Int32} {vs : List Value} {K : am_H → Prop} (hc : h.1 q = some (100, vs)) (ey : y = nI t) (ht : t < vs.length) (hs : vs.length < 65536) (kk : ∀ h', wr h h' q (100, vs.set t (.int x)) → K h') : am_wi h q y x K := by
  subst ey
  refine ⟨vs, hc, nI_pos (by omega), ?_, ?_⟩
  · rw [nI_clamp (by omega)]; exact ht
  · rw [nI_clamp (by omega)]; exact kk _ (wr_set h q _)
theorem ai_of {h : am_H} {q t : Nat} {y v : Int32} {vs : List Value} (hc : h.1 q = some (100, vs)) (ey : y = nI t) (hs : t < 65536) (hv : vs[t]? = some (.int v)) : am_ai h q y v := by
  subst ey
  refine ⟨vs, ?_, nI_pos (by omega), ?_⟩
  · unfold am_arr
    rw [hc]
    rfl
  · rw [nI_clamp (by omega)]; exact hv
theorem ar_of {h : am_H} {q ck t v : Nat} {y : Int32} {vs : List Value} (hc : h.1 q = some (ck, vs)) (hk : ck = 102 ∨ ck = 103 ∨ ck = 104) (ey : y = nI t) (hs : t < 65536) (hv : vs[t]? = some (.ref v)) : am_ar h q y v := by
  subst ey
  refine ⟨ck, vs, hc, ?_, ?_⟩
  · rintro (z | z | z)
    · omega
    · exact nI_pos (by omega) z
    · rcases hk with rfl | rfl | rfl <;> exact absurd z (by decide)
  · rw [nI_clamp (by omega)]; exact hv
theorem xA_get {n k j : Nat} {f : Nat → Nat} (h1 : j < n) (h2 : j < k) : (xA n k f)[j]? = some (.ref (f (j + 1))) := by
  unfold xA
  rw [rg_get h1, if_pos h2]
section CState
variable {h : am_H} {o : Nat} {S : sS} {G : gM}
theorem RX.is (r : RX h o S G) : am_is h o 0 := ⟨_, r.2.1.1⟩
theorem RX.g0 (r : RX h o S G) : am_gr h o 0 0 (o + 1) := ⟨_, r.2.1.1, rfl⟩
theorem RX.g1 (r : RX h o S G) : am_gr h o 0 1 (o + 2) := ⟨_, r.2.1.1, rfl⟩
theorem RX.g2 (r : RX h o S G) : am_gr h o 0 2 (o + 3) := ⟨_, r.2.1.1, rfl⟩
theorem RX.g3 (r : RX h o S G) : am_gr h o 0 3 (o + 4) := ⟨_, r.2.1.1, rfl⟩
theorem RX.g4 (r : RX h o S G) : am_gr h o 0 4 (o + 5) := ⟨_, r.2.1.1, rfl⟩
theorem RX.g5 (r : RX h o S G) : am_gi h o 0 5 (S.1 1 0) := ⟨_, r.2.1.1, rfl⟩
theorem RX.g6 (r : RX h o S G) : am_gi h o 0 6 (S.1 2 0) := ⟨_, r.2.1.1, rfl⟩
theorem RX.g7 (r : RX h o S G) : am_gi h o 0 7 (S.1 3 0) := ⟨_, r.2.1.1, rfl⟩
theorem RX.g8 (r : RX h o S G) : am_gl h o 0 8 S.2.2 := ⟨_, r.2.1.1, rfl⟩
theorem RX.code (r : RX h o S G) {c : Nat} (h1 : 1 ≤ c) (h2 : c ≤ s_nC S) : h.1 (G.1 c) = some (1, xC S c) := (r.2.2.1 c h1 h2).1
theorem RX.term (r : RX h o S G) {t : Nat} (h1 : 1 ≤ t) (h2 : t ≤ s_nT S) : h.1 (G.2.1 t) = some (2, xT S t) := (r.2.2.2.1.1 t h1 h2).1
theorem RX.task (r : RX h o S G) {i : Nat} (h1 : 1 ≤ i) (h2 : i ≤ s_nK S) : h.1 (G.2.2.1 i) = some (4, xK S G i) := (r.2.2.2.2.1.1 i h1 h2).1
theorem RX.lev (r : RX h o S G) {i d : Nat} (h1 : 1 ≤ i) (h2 : i ≤ s_nK S) (h3 : 1 ≤ d) (h4 : d ≤ s_e S i) : h.1 (G.2.2.2.2.1 i d) = some (3, xV S G i d) := (r.2.2.2.2.2.1 i d h1 h2 h3 h4).1
theorem RX.lab (r : RX h o S G) {i d : Nat} (h1 : 1 ≤ i) (h2 : i ≤ s_nK S) (h3 : 1 ≤ d) (h4 : d ≤ s_e S i) : h.1 (G.2.2.2.2.2 i d) = some (100, xB S i d) := (r.2.2.2.2.2.1 i d h1 h2 h3 h4).2.1
end CState
theorem s_iv.nC' {S : sS} {nC nT nK : Nat} (h : s_iv S nC nT nK) : s_nC S = nC := by
  unfold s_nC tn
  rw [h.1, nI_clamp (by have := h.2.1; omega)]
theorem s_iv.nT' {S : sS} {nC nT nK : Nat} (h : s_iv S nC nT nK) : s_nT S = nT := by
  unfold s_nT tn
  rw [h.2.2.1, nI_clamp (by have := h.2.2.2.1; omega)]
