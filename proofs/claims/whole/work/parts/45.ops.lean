/-! WHAT EACH CALL ANSWERS AND DOES, as a function of the state. -/
abbrev tn (x : Int32) : Nat := x.toNatClampNeg
abbrev bd (x n : Int32) : Prop := x < 0 ∨ n < x
abbrev isC (S : sS) (x : Int32) : Prop := 0 < x ∧ x ≤ S.1 1 0
abbrev isM (S : sS) (x : Int32) : Prop := 0 < x ∧ x ≤ S.1 2 0
abbrev isT (S : sS) (x : Int32) : Prop := 0 < x ∧ x ≤ S.1 3 0
theorem ix_of {x : Int32} {n : Nat} (hn : n < 2147483648) (h : 0 < x ∧ x ≤ nI n) : 1 ≤ tn x ∧ tn x ≤ n ∧ x = nI (tn x) := by
  obtain ⟨j, hj, rfl⟩ := nI_of (x := x) (fun q => by
    have h1 := Int32.lt_iff_toInt_lt.mp h.1
    have h2 := Int32.lt_iff_toInt_lt.mp q
    omega)
  have h1 : (nI 0) < nI j := by rw [nI_0]; exact h.1
  have h2 := (nI_ltI (by decide) hj).mp h1
  have h3 := (nI_leI hj hn).mp h.2
  unfold tn
  rw [nI_clamp hj]
  exact ⟨by omega, h3, rfl⟩
theorem bd_ix {x : Int32} {n : Nat} (hn : n < 2147483648) (h : ¬ bd x (nI n)) : tn x ≤ n ∧ x = nI (tn x) := by
  obtain ⟨j, hj, rfl⟩ := nI_of (x := x) (fun q => h (Or.inl q))
  unfold tn
  rw [nI_clamp hj]
  refine ⟨?_, rfl⟩
  rcases Nat.lt_or_ge n j with q | q
  · exact absurd (Or.inr (nI_lt q hj)) h
  · exact q
theorem s_iv.C {S : sS} {nC nT nK : Nat} (hv : s_iv S nC nT nK) {x : Int32} (h : isC S x) : 1 ≤ tn x ∧ tn x ≤ nC ∧ x = nI (tn x) := ix_of (by have := hv.2.1; omega) ⟨h.1, by rw [← hv.1]; exact h.2⟩
theorem s_iv.M {S : sS} {nC nT nK : Nat} (hv : s_iv S nC nT nK) {x : Int32} (h : isM S x) : 1 ≤ tn x ∧ tn x ≤ nT ∧ x = nI (tn x) := ix_of (by have := hv.2.2.2.1; omega) ⟨h.1, by rw [← hv.2.2.1]; exact h.2⟩
theorem s_iv.T {S : sS} {nC nT nK : Nat} (hv : s_iv S nC nT nK) {x : Int32} (h : isT S x) : 1 ≤ tn x ∧ tn x ≤ nK ∧ x = nI (tn x) := ix_of (by have := hv.2.2.2.2.2.1; omega) ⟨h.1, by rw [← hv.2.2.2.2.1]; exact h.2⟩
abbrev oR : Type := Int32 × sS
def o_code (S : sS) (p c r : Int32) : oR := if bd p 99 ∨ bd c 9 ∨ bd r 255 then (-4, S) else if S.1 1 0 = 60 then (-1, S) else
  (S.1 1 0 + 1, sU (sU (sU (sU S 1 0 (S.1 1 0 + 1)) 5 (tn (S.1 1 0 + 1)) p) 6 (tn (S.1 1 0 + 1)) c) 7 (tn (S.1 1 0 + 1)) r)
def o_term (S : sS) : oR := if S.1 2 0 = 20 then (-1, S) else (S.1 2 0 + 1, sU S 2 0 (S.1 2 0 + 1))
def s_its (S : sS) (c t : Int32) : Int32 := if c = 0 ∧ isM S t then S.1 8 (tn t) else c
def s_new (S : sS) (its t : Int32) (w : Int64) : sS := sU (sW (sU (sU (sU S 3 0 (S.1 3 0 + 1)) 11 (tn (S.1 3 0 + 1)) its) 12 (tn (S.1 3 0 + 1)) t) (tn (S.1 3 0 + 1)) w) 14 (tn (S.1 3 0 + 1)) (-1)
def s_new2 (S : sS) (c t : Int32) (w : Int64) : sS := if c = 0 then sU (s_new S (s_its S c t) t w) 8 (tn t) 0 else s_new S (s_its S c t) t w
noncomputable def o_start (S : sS) (c t : Int32) (w : Int64) : oR := if ¬ isC S (s_its S c t) ∨ (¬ t = 0 ∧ ¬ isM S t) then (-2, S) else if w < 0 then (-4, S) else if S.1 3 0 = 200 then (-1, S) else
  (S.1 3 0 + 1, (s_all (s_new2 S c t w)).1)
noncomputable def o_tick (S : sS) (w : Int64) : oR := if w < S.2.2 then (-4, S) else (nI (s_all (sT S w)).2, (s_all (sT S w)).1)
noncomputable def o_limit (S : sS) (c n : Int32) : oR := if bd c 9 ∨ bd n 50 then (-4, S) else (S.1 10 (tn c), (s_all (sU S 10 (tn c) n)).1)
def s_e1 (S : sS) (i : Nat) (z : Int32) : sS := sU (sU (sU (sU S 13 i z) 14 i (-1)) 15 i 0) 16 i 0
noncomputable def s_end (S : sS) (i : Nat) (z : Int32) : sS := (s_all (s_e1 S i z)).1
def s_ev (S : sS) (i : Nat) (k v : Int32) : sS := sU (sU S 13 i (if k = 0 then 2 else 1)) 14 i (if k = 0 then v else -1)
noncomputable def o_event (S : sS) (x k v : Int32) : oR := if ¬ isT S x then (-2, S) else if bd k 2 ∨ (k < 2 ∧ bd v 15) then (-4, S) else
  if (k = 1 ∧ (¬ S.1 13 (tn x) = 2 ∨ ¬ S.1 14 (tn x) = v)) ∨ (¬ k = 1 ∧ ¬ S.1 13 (tn x) = 1) then (-5, S) else
  if k = 2 then ((s_end S (tn x) 3).1 13 (tn x), s_end S (tn x) 3) else ((s_ev S (tn x) k v).1 13 (tn x), s_ev S (tn x) k v)
def o_link (S : sS) (x p : Int32) : oR := if ¬ isT S x then (-2, S) else if bd p 99 then (-4, S) else if ¬ S.1 13 (tn x) = 1 then (-5, S) else if S.1 15 (tn x) = 10 then (-1, S) else ((s_beg S (tn x) p).1 15 (tn x), s_beg S (tn x) p)
abbrev s_kp (S : sS) (i : Nat) : Prop := S.1 15 i = 1 ∧ ¬ S.1 12 i = 0
def s_kept (S : sS) (i : Nat) (n a : Int32) : sS := if s_kp S i then sU (sU S 8 (tn (S.1 12 i)) n) 9 (tn (S.1 12 i)) a else S
noncomputable def o_back (S : sS) (x n a : Int32) : oR := if ¬ isT S x then (-2, S) else if (¬ n = 0 ∧ ¬ isC S n) ∨ bd a 9999 then (-4, S) else if ¬ S.1 13 (tn x) = 1 then (-5, S) else
  if ¬ s_kp S (tn x) ∧ (¬ n = 0 ∨ ¬ a = 0) then (0, S) else if ¬ S.1 15 (tn x) ≤ 1 then (1, sU S 15 (tn x) (S.1 15 (tn x) - 1)) else (1, s_end (s_kept S (tn x) n a) (tn x) 3)
noncomputable def o_purge (S : sS) (x : Int32) : oR := if ¬ isT S x then (-2, S) else if ¬ S.1 13 (tn x) = 0 ∧ ¬ S.1 13 (tn x) = 2 then (0, S) else (1, s_end S (tn x) 5)
def o_storage (S : sS) (x n : Int32) : oR := if ¬ isT S x then (-2, S) else if bd n 10000 then (-4, S) else if ¬ s_A S (tn x) then (-5, S) else if ¬ S.1 16 (tn x) + n ≤ 30000 then (-1, S) else (S.1 16 (tn x) + n, sU S 16 (tn x) (S.1 16 (tn x) + n))
def s_lx (S : sS) (i : Nat) (k : Nat) : Nat := 10 * (11 * i + s_lev S i) + k
def o_handle (S : sS) (x k l : Int32) : oR := if ¬ isT S x then (-2, S) else if bd k 9 ∨ bd l 9999 then (-4, S) else if ¬ S.1 13 (tn x) = 1 then (-5, S) else (S.1 19 (s_lx S (tn x) (tn k)), sU S 19 (s_lx S (tn x) (tn k)) l)
def s_by (S : sS) (i : Nat) (k : Int32) : Int32 := if S.1 19 (s_lx S i (tn k)) = 0 then S.1 19 (s_lx S i 0) else S.1 19 (s_lx S i (tn k))
noncomputable def o_cond (S : sS) (x k : Int32) : oR := if ¬ isT S x then (-2, S) else if bd k 9 then (-4, S) else if ¬ S.1 13 (tn x) = 1 then (-5, S) else if ¬ s_by S (tn x) k = 0 then (s_by S (tn x) k, S) else (-1000 - k, s_end S (tn x) 4)
def o_area (S : sS) (t : Int32) : oR := if isM S t then (S.1 9 (tn t), S) else (-2, S)
def o_state (S : sS) (x : Int32) : oR := if isT S x then (S.1 13 (tn x), S) else (-2, S)
def o_told (S : sS) (x w : Int32) : oR := if ¬ isT S x then (-1, S) else if w = 0 then (S.1 15 (tn x), S) else if w = 1 then (if S.1 15 (tn x) = 0 then (-1, S) else (S.1 18 (11 * tn x + s_lev S (tn x)), S)) else if w = 2 then (S.1 16 (tn x), S) else if w = 3 then (S.1 11 (tn x), S) else if w = 4 then (S.1 12 (tn x), S) else if w = 5 then (S.1 14 (tn x), S) else (-1, S)
def o_owner (S : sS) (t : Int32) : oR := if isM S t then (nI (s_own S t (s_nK S)), S) else (-2, S)
def s_ac (S : sS) : Nat → Nat
  | 0 => 0
  | n + 1 => s_ac S n + (if s_A S (n + 1) then 1 else 0)
def s_sum (S : sS) : Nat → Int32
  | 0 => 0
  | n + 1 => s_sum S n + S.1 16 (n + 1)
def o_count (S : sS) (w : Int32) : oR := if w = 0 then (S.1 1 0, S) else if w = 1 then (S.1 2 0, S) else if w = 2 then (S.1 3 0, S) else if w = 3 then (nI (s_q S (s_nK S)), S) else if w = 4 then (nI (s_ac S (s_nK S)), S) else if w = 5 then (s_sum S (s_nK S), S) else if 9 < w ∧ w < 20 then (nI (s_cnt S (w - 10) (s_nK S)), S) else (-1, S)
/-- the reference's way to end: what it then holds, and its answer -/
abbrev mP (m : Nat) (h : am_H) (Q : am_H → Option Value → Prop) (o : oR) : Prop := ∀ h', RM h'.1 m o.2 → mF m h h' → Q h' (some (.int o.1))
