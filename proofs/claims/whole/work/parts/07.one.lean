section AmOne
variable {p : Program} {l : Launch} {e : Env} {R : Room} {s : State} {m : MethodId} {args : Array Value} {below : List Frame} {meth : Method} {c : Code} {Q : State → Prop} {D : va_G} {dA : Nat → ClassId} {scr : Cell} {base n0 s0 mi pc a b : Nat} {M : am_M} {L L' : am_L} {st r : List Value} {h : am_H}
/-- what all classes of the table have -/
def am_clk : Prop := ∀ (a : Nat) (C : String) (F : u_T) (N : Nat), am_cl[a]? = some (C, F, N) → a < 99 ∧ (∀ w ∈ u_ws C F N, w ∈ am_G) ∧ (∀ x, x < N → ∀ y, y < N → x ≠ y → (F x).2.1 ≠ (F y).2.1) ∧ (∀ k, k < N → parseFieldDescriptor (F k).2.2.1 = some (am_fty a k)) ∧ (am_dfs a).length = N ∧ (∀ k, k < N → defaultValue (am_fty a k) = vp_V (am_dfs a) k) ∧ am_oty a = .object C
set_option maxHeartbeats 4000000 in
theorem am_one {i : Instr} {k : Value} {y : am_S} (hcl : am_clk) (X : am_Cx p s m args meth c D dA scr M) (hd : decode M.2.1 pc = .ok (i, am_len i b)) (ho : am_oko M pc i a b k) (hfr : M.2.2.2.2.1 ≤ R.frames ∧ M.2.2.2.2.2 ≤ R.locals) (hroom : y.2.2.2.2.2.1 ≤ n0 + R.cells ∧ y.2.2.2.2.2.2 ≤ s0 + R.slots) (hst : am_do i a b k mi pc L st h = some (.inl y)) (ht : am_T p l e R s m args below meth c Q D dA scr base n0 s0 M.2.2.1 y) : am_T p l e R s m args below meth c Q D dA scr base n0 s0 M.2.2.1 (mi, pc, L, st, h) := by
  cases i
  case iconst n =>
    obtain ⟨v, rfl, hv⟩ := ho
    simp only [am_do, am_go, Option.some.injEq, Sum.inl.injEq] at hst
    subst hst
    exact am_o_iconst X hd hv ht
  case bipush n =>
    obtain ⟨v, rfl, hv⟩ := ho
    simp only [am_do, am_go, Option.some.injEq, Sum.inl.injEq] at hst
    subst hst
    exact am_o_bipush X hd hv ht
  case sipush n =>
    obtain ⟨v, rfl, hv⟩ := ho
    simp only [am_do, am_go, Option.some.injEq, Sum.inl.injEq] at hst
    subst hst
    exact am_o_sipush X hd hv ht
  case lconst n =>
    obtain ⟨v, rfl, hv⟩ := ho
    simp only [am_do, am_go, Option.some.injEq, Sum.inl.injEq] at hst
    subst hst
    exact am_o_lconst X hd hv ht
  case ldc n =>
    obtain ⟨v, rfl, hv⟩ := ho
    simp only [am_do, am_go, Option.some.injEq, Sum.inl.injEq] at hst
    subst hst
    exact am_o_ldc X hd hv ht
  case ldc2_w n =>
    obtain ⟨v, rfl, hv⟩ := ho
    simp only [am_do, am_go, Option.some.injEq, Sum.inl.injEq] at hst
    subst hst
    exact am_o_ldc2 X hd hv ht
  case aconst_null =>
    simp only [am_do, am_go, Option.some.injEq, Sum.inl.injEq] at hst
    subst hst
    exact am_o_null X hd ht
  case iload_n n =>
    simp only [am_do] at hst
    split at hst
    · rename_i v hl; simp only [am_go, Option.some.injEq, Sum.inl.injEq] at hst; subst hst; exact am_o_iload_n X hd ho hl ht
    · cases hst
  case iload n =>
    have ho : n = a := ho
    subst ho
    simp only [am_do] at hst
    split at hst
    · rename_i v hl; simp only [am_go, Option.some.injEq, Sum.inl.injEq] at hst; subst hst; exact am_o_iload X hd hl ht
    · cases hst
  case lload_n n =>
    simp only [am_do] at hst
    split at hst
    · rename_i v hl; simp only [am_go, Option.some.injEq, Sum.inl.injEq] at hst; subst hst; exact am_o_lload_n X hd ho hl ht
    · cases hst
  case lload n =>
    have ho : n = a := ho
    subst ho
    simp only [am_do] at hst
    split at hst
    · rename_i v hl; simp only [am_go, Option.some.injEq, Sum.inl.injEq] at hst; subst hst; exact am_o_lload X hd hl ht
    · cases hst
  case aload_n n =>
    simp only [am_do] at hst
    split at hst
    · rename_i v hl; simp only [am_go, Option.some.injEq, Sum.inl.injEq] at hst; subst hst; exact am_o_aload_n X hd ho hl ht
    · rename_i hl; simp only [am_go, Option.some.injEq, Sum.inl.injEq] at hst; subst hst; exact am_o_aload_nN X hd ho hl ht
    · cases hst
  case aload n =>
    have ho : n = a := ho
    subst ho
    simp only [am_do] at hst
    split at hst
    · rename_i v hl; simp only [am_go, Option.some.injEq, Sum.inl.injEq] at hst; subst hst; exact am_o_aload X hd hl ht
    · rename_i hl; simp only [am_go, Option.some.injEq, Sum.inl.injEq] at hst; subst hst; exact am_o_aloadN X hd hl ht
    · cases hst
  case istore_n n =>
    simp only [am_do] at hst
    split at hst
    · split at hst
      · rename_i hs; simp only [am_go, Option.some.injEq, Sum.inl.injEq] at hst; subst hst; exact am_o_istore_n X hd ho hs ht
      · cases hst
    · cases hst
  case istore n =>
    have ho : n = a := ho
    subst ho
    simp only [am_do] at hst
    split at hst
    · split at hst
      · rename_i hs; simp only [am_go, Option.some.injEq, Sum.inl.injEq] at hst; subst hst; exact am_o_istore X hd hs ht
      · cases hst
    · cases hst
  case lstore_n n =>
    simp only [am_do] at hst
    split at hst
    · split at hst
      · rename_i hs; simp only [am_go, Option.some.injEq, Sum.inl.injEq] at hst; subst hst; exact am_o_lstore_n X hd ho hs ht
      · cases hst
    · cases hst
  case lstore n =>
    have ho : n = a := ho
    subst ho
    simp only [am_do] at hst
    split at hst
    · split at hst
      · rename_i hs; simp only [am_go, Option.some.injEq, Sum.inl.injEq] at hst; subst hst; exact am_o_lstore X hd hs ht
      · cases hst
    · cases hst
  case astore_n n =>
    simp only [am_do] at hst
    split at hst
    · split at hst
      · rename_i hs; simp only [am_go, Option.some.injEq, Sum.inl.injEq] at hst; subst hst; exact am_o_astore_n X hd ho hs ht
      · cases hst
    · split at hst
      · rename_i hs; simp only [am_go, Option.some.injEq, Sum.inl.injEq] at hst; subst hst; exact am_o_astore_nN X hd ho hs ht
      · cases hst
    · cases hst
  case astore n =>
    have ho : n = a := ho
    subst ho
    simp only [am_do] at hst
    split at hst
    · split at hst
      · rename_i hs; simp only [am_go, Option.some.injEq, Sum.inl.injEq] at hst; subst hst; exact am_o_astore X hd hs ht
      · cases hst
    · split at hst
      · rename_i hs; simp only [am_go, Option.some.injEq, Sum.inl.injEq] at hst; subst hst; exact am_o_astoreN X hd hs ht
      · cases hst
    · cases hst
  case iinc n z =>
    obtain ⟨ho, w, rfl, hw⟩ := ho
    subst ho
    simp only [am_do] at hst
    split at hst
    · rename_i hl hz
      cases hz
      split at hst
      · rename_i hs; simp only [am_go, Option.some.injEq, Sum.inl.injEq] at hst; subst hst; exact am_o_iinc X hd hw hl hs ht
      · cases hst
    · cases hst
  case iadd =>
    simp only [am_do, am_bin] at hst
    split at hst
    · simp only [am_go, Option.some.injEq, Sum.inl.injEq] at hst; subst hst; exact am_o_iadd X hd ht
    · cases hst
  case isub =>
    simp only [am_do, am_bin] at hst
    split at hst
    · simp only [am_go, Option.some.injEq, Sum.inl.injEq] at hst; subst hst; exact am_o_isub X hd ht
    · cases hst
  case imul =>
    simp only [am_do, am_bin] at hst
    split at hst
    · simp only [am_go, Option.some.injEq, Sum.inl.injEq] at hst; subst hst; exact am_o_imul X hd ht
    · cases hst
  case iand =>
    simp only [am_do, am_bin] at hst
    split at hst
    · simp only [am_go, Option.some.injEq, Sum.inl.injEq] at hst; subst hst; exact am_o_iand X hd ht
    · cases hst
  case ior =>
    simp only [am_do, am_bin] at hst
    split at hst
    · simp only [am_go, Option.some.injEq, Sum.inl.injEq] at hst; subst hst; exact am_o_ior X hd ht
    · cases hst
  case ladd =>
    simp only [am_do, am_binL] at hst
    split at hst
    · simp only [am_go, Option.some.injEq, Sum.inl.injEq] at hst; subst hst; exact am_o_ladd X hd ht
    · cases hst
  case lsub =>
    simp only [am_do, am_binL] at hst
    split at hst
    · simp only [am_go, Option.some.injEq, Sum.inl.injEq] at hst; subst hst; exact am_o_lsub X hd ht
    · cases hst
  case land =>
    simp only [am_do, am_binL] at hst
    split at hst
    · simp only [am_go, Option.some.injEq, Sum.inl.injEq] at hst; subst hst; exact am_o_land X hd ht
    · cases hst
  case lor =>
    simp only [am_do, am_binL] at hst
    split at hst
    · simp only [am_go, Option.some.injEq, Sum.inl.injEq] at hst; subst hst; exact am_o_lor X hd ht
    · cases hst
  case i2l =>
    simp only [am_do] at hst
    split at hst
    · simp only [am_go, Option.some.injEq, Sum.inl.injEq] at hst; subst hst; exact am_o_i2l X hd ht
    · cases hst
  case lshl =>
    simp only [am_do] at hst
    split at hst
    · simp only [am_go, Option.some.injEq, Sum.inl.injEq] at hst; subst hst; exact am_o_lshl X hd ht
    · cases hst
  case lcmp =>
    simp only [am_do] at hst
    split at hst
    · simp only [am_go, Option.some.injEq, Sum.inl.injEq] at hst; subst hst; exact am_o_lcmp X hd ht
    · cases hst
  case dup =>
    simp only [am_do] at hst
    split at hst
    · split at hst
      · rename_i hv; simp only [am_go, Option.some.injEq, Sum.inl.injEq] at hst; subst hst; exact am_o_dup X hd hv ht
      · cases hst
    · cases hst
  case pop =>
    simp only [am_do] at hst
    split at hst
    · split at hst
      · rename_i hv; simp only [am_go, Option.some.injEq, Sum.inl.injEq] at hst; subst hst; exact am_o_pop X hd hv ht
      · cases hst
    · cases hst
  case dup_x1 =>
    simp only [am_do] at hst
    split at hst
    · split at hst
      · rename_i hv; simp only [am_go, Option.some.injEq, Sum.inl.injEq] at hst; subst hst; exact am_o_dup_x1 X hd hv.1 hv.2 ht
      · cases hst
    · cases hst
  case dup2 =>
    simp only [am_do] at hst
    split at hst
    · split at hst
      · rename_i hv; simp only [am_go, Option.some.injEq, Sum.inl.injEq] at hst; subst hst; exact am_o_dup2 X hd hv.1 hv.2 ht
      · cases hst
    · cases hst
  case goto o =>
    simp only [am_do, am_go, Option.some.injEq, Sum.inl.injEq] at hst
    subst hst
    exact am_o_goto X hd ho ht
  case if_icmp cc o =>
    simp only [am_do] at hst
    split at hst
    · cases cc <;> simp only [am_icmp] at hst
      · split at hst
        · rename_i hq; simp only [am_go, Option.some.injEq, Sum.inl.injEq] at hst; subst hst; exact am_o_icmp_eq X hd ho (fun _ => ht) (fun q => absurd hq q)
        · rename_i hq; simp only [am_go, Option.some.injEq, Sum.inl.injEq] at hst; subst hst; exact am_o_icmp_eq X hd ho (fun q => absurd q hq) (fun _ => ht)
      · split at hst
        · rename_i hq; simp only [am_go, Option.some.injEq, Sum.inl.injEq] at hst; subst hst; exact am_o_icmp_ne X hd ho (fun _ => ht) (fun q => absurd q hq)
        · rename_i hq; simp only [am_go, Option.some.injEq, Sum.inl.injEq] at hst; subst hst; exact am_o_icmp_ne X hd ho (fun q => absurd q hq) (fun _ => ht)
      · split at hst
        · rename_i hq; simp only [am_go, Option.some.injEq, Sum.inl.injEq] at hst; subst hst; exact am_o_icmp_lt X hd ho (fun _ => ht) (fun q => absurd hq q)
        · rename_i hq; simp only [am_go, Option.some.injEq, Sum.inl.injEq] at hst; subst hst; exact am_o_icmp_lt X hd ho (fun q => absurd q hq) (fun _ => ht)
      · split at hst
        · rename_i hq; simp only [am_go, Option.some.injEq, Sum.inl.injEq] at hst; subst hst; exact am_o_icmp_ge X hd ho (fun _ => ht) (fun q => absurd hq q)
        · rename_i hq; simp only [am_go, Option.some.injEq, Sum.inl.injEq] at hst; subst hst; exact am_o_icmp_ge X hd ho (fun q => absurd q hq) (fun _ => ht)
      · split at hst
        · rename_i hq; simp only [am_go, Option.some.injEq, Sum.inl.injEq] at hst; subst hst; exact am_o_icmp_gt X hd ho (fun _ => ht) (fun q => absurd hq q)
        · rename_i hq; simp only [am_go, Option.some.injEq, Sum.inl.injEq] at hst; subst hst; exact am_o_icmp_gt X hd ho (fun q => absurd q hq) (fun _ => ht)
      · split at hst
        · rename_i hq; simp only [am_go, Option.some.injEq, Sum.inl.injEq] at hst; subst hst; exact am_o_icmp_le X hd ho (fun _ => ht) (fun q => absurd hq q)
        · rename_i hq; simp only [am_go, Option.some.injEq, Sum.inl.injEq] at hst; subst hst; exact am_o_icmp_le X hd ho (fun q => absurd q hq) (fun _ => ht)
    · cases hst
  case ifCond cc o =>
    simp only [am_do] at hst
    split at hst
    · cases cc <;> simp only [am_icmp] at hst
      · split at hst
        · rename_i hq; simp only [am_go, Option.some.injEq, Sum.inl.injEq] at hst; subst hst; exact am_o_if_eq X hd ho (fun _ => ht) (fun q => absurd hq q)
        · rename_i hq; simp only [am_go, Option.some.injEq, Sum.inl.injEq] at hst; subst hst; exact am_o_if_eq X hd ho (fun q => absurd q hq) (fun _ => ht)
      · split at hst
        · rename_i hq; simp only [am_go, Option.some.injEq, Sum.inl.injEq] at hst; subst hst; exact am_o_if_ne X hd ho (fun _ => ht) (fun q => absurd q hq)
        · rename_i hq; simp only [am_go, Option.some.injEq, Sum.inl.injEq] at hst; subst hst; exact am_o_if_ne X hd ho (fun q => absurd q hq) (fun _ => ht)
      · split at hst
        · rename_i hq; simp only [am_go, Option.some.injEq, Sum.inl.injEq] at hst; subst hst; exact am_o_if_lt X hd ho (fun _ => ht) (fun q => absurd hq q)
        · rename_i hq; simp only [am_go, Option.some.injEq, Sum.inl.injEq] at hst; subst hst; exact am_o_if_lt X hd ho (fun q => absurd q hq) (fun _ => ht)
      · split at hst
        · rename_i hq; simp only [am_go, Option.some.injEq, Sum.inl.injEq] at hst; subst hst; exact am_o_if_ge X hd ho (fun _ => ht) (fun q => absurd hq q)
        · rename_i hq; simp only [am_go, Option.some.injEq, Sum.inl.injEq] at hst; subst hst; exact am_o_if_ge X hd ho (fun q => absurd q hq) (fun _ => ht)
      · split at hst
        · rename_i hq; simp only [am_go, Option.some.injEq, Sum.inl.injEq] at hst; subst hst; exact am_o_if_gt X hd ho (fun _ => ht) (fun q => absurd hq q)
        · rename_i hq; simp only [am_go, Option.some.injEq, Sum.inl.injEq] at hst; subst hst; exact am_o_if_gt X hd ho (fun q => absurd q hq) (fun _ => ht)
      · split at hst
        · rename_i hq; simp only [am_go, Option.some.injEq, Sum.inl.injEq] at hst; subst hst; exact am_o_if_le X hd ho (fun _ => ht) (fun q => absurd hq q)
        · rename_i hq; simp only [am_go, Option.some.injEq, Sum.inl.injEq] at hst; subst hst; exact am_o_if_le X hd ho (fun q => absurd q hq) (fun _ => ht)
    · cases hst
  case ifnull o =>
    simp only [am_do] at hst
    split at hst
    · simp only [am_go, Option.some.injEq, Sum.inl.injEq] at hst; subst hst; exact am_o_ifnullN X hd ho ht
    · simp only [am_go, Option.some.injEq, Sum.inl.injEq] at hst; subst hst; exact am_o_ifnull X hd ht
    · cases hst
  case ifnonnull o =>
    simp only [am_do] at hst
    split at hst
    · simp only [am_go, Option.some.injEq, Sum.inl.injEq] at hst; subst hst; exact am_o_ifnonnullN X hd ht
    · simp only [am_go, Option.some.injEq, Sum.inl.injEq] at hst; subst hst; exact am_o_ifnonnull X hd ho ht
    · cases hst
  case tableswitch d lo hi offs =>
    simp only [am_do] at hst
    split at hst
    · split at hst
      · rename_i hx; simp only [am_go, Option.some.injEq, Sum.inl.injEq] at hst; subst hst; exact am_o_tabOut X hd hx (Int.toNat_of_nonneg ho).symm ht
      · rename_i hx
        split at hst
        · rename_i o hk
          split at hst
          · rename_i hp; simp only [am_go, Option.some.injEq, Sum.inl.injEq] at hst; subst hst; exact am_o_tabIn X hd hx hk (Int.toNat_of_nonneg hp).symm ht
          · cases hst
        · cases hst
    · cases hst
  case getfield idx =>
    obtain ⟨C, F, N, hc, hbN, hC, hlk⟩ := ho
    obtain ⟨c1, c2, c3, c4, c5, c6, -⟩ := hcl a C F N hc
    simp only [am_do] at hst
    split at hst
    · split at hst
      · rename_i hh
        split at hst
        · rename_i hk
          subst hk
          split at hst
          · rename_i hv; simp only [am_go, Option.some.injEq, Sum.inl.injEq] at hst; subst hst; exact am_o_getf X hd hc c1 c2 hbN hC hlk hh hv ht
          · cases hst
        · cases hst
      · cases hst
    · cases hst
  case putfield idx =>
    obtain ⟨C, F, N, hc, hbN, hC, hlk, hfin⟩ := ho
    obtain ⟨c1, c2, c3, c4, c5, c6, -⟩ := hcl a C F N hc
    simp only [am_do] at hst
    split at hst
    · split at hst
      · rename_i hh
        split at hst
        · rename_i hk
          simp only [Bool.and_eq_true, decide_eq_true_eq] at hk
          obtain ⟨⟨hk, hk2⟩, hk3⟩ := hk
          subst hk
          simp only [am_go, Option.some.injEq, Sum.inl.injEq] at hst; subst hst
          exact am_o_putf X hd hc c1 c2 c3 c4 hbN hC hlk hfin (am_fit_ok hk3).1 (am_fit_ok hk3).2 hh ht
        · cases hst
      · cases hst
    · cases hst
  case iaload =>
    simp only [am_do] at hst
    split at hst
    · split at hst
      · rename_i vs hv0
        split at hst
        · cases hst
        · rename_i hj
          split at hst
          · rename_i hv
            simp only [am_go, Option.some.injEq, Sum.inl.injEq] at hst; subst hst
            unfold am_arr at hv0
            split at hv0
            · rename_i kk vv hh
              split at hv0
              · rename_i e9
                subst e9
                simp only [if_true, Option.some.injEq] at hv0
                subst hv0
                exact am_o_sald X hd hh hj hv ht
              · split at hv0
                · cases hv0
                · split at hv0
                  · rename_i e8 e7
                    cases hv0
                    exact am_o_iald X hd (by omega) e7 hh hj hv ht
                  · cases hv0
            · cases hv0
          · cases hst
      · cases hst
    · cases hst
  case laload =>
    simp only [am_do] at hst
    split at hst
    · split at hst
      · rename_i vs hv0
        split at hst
        · cases hst
        · rename_i hj
          split at hst
          · rename_i hv
            simp only [am_go, Option.some.injEq, Sum.inl.injEq] at hst; subst hst
            unfold am_arr at hv0
            split at hv0
            · rename_i kk vv hh
              split at hv0
              · rename_i e9
                subst e9
                simp at hv0
              · split at hv0
                · cases hv0
                · split at hv0
                  · rename_i e8 e7
                    cases hv0
                    exact am_o_lald X hd (by omega) e7 hh hj hv ht
                  · cases hv0
            · cases hv0
          · cases hst
      · cases hst
    · cases hst
  case aaload =>
    simp only [am_do] at hst
    split at hst
    · split at hst
      · rename_i hh
        split at hst
        · cases hst
        · rename_i hq
          split at hst
          · rename_i hv
            simp only [am_go, Option.some.injEq, Sum.inl.injEq] at hst; subst hst
            have h1 := fun q => hq (Or.inl q)
            have h2 := fun q => hq (Or.inr (Or.inl q))
            have h3 := fun q => hq (Or.inr (Or.inr q))
            obtain ⟨ty, e1, e2⟩ := am_refk_ok (Bool.of_not_eq_false h3)
            exact am_o_aald X hd (by omega) e1 e2 hh h2 hv ht
          · cases hst
      · cases hst
    · cases hst
  case iastore =>
    simp only [am_do] at hst
    split at hst
    · split at hst
      · rename_i hh
        split at hst
        · cases hst
        · rename_i hq
          simp only [am_go, Option.some.injEq, Sum.inl.injEq] at hst; subst hst
          have h1 := fun q => hq (Or.inl q)
          have h2 := fun q => hq (Or.inr (Or.inl q))
          have h3 := fun q => hq (Or.inr (Or.inr (Or.inl q)))
          have h4 := fun q => hq (Or.inr (Or.inr (Or.inr q)))
          exact am_o_iast X hd (by omega) (Classical.not_not.mp h4) hh h2 (by omega) ht
      · cases hst
    · cases hst
  case lastore =>
    simp only [am_do] at hst
    split at hst
    · split at hst
      · rename_i hh
        split at hst
        · cases hst
        · rename_i hq
          simp only [am_go, Option.some.injEq, Sum.inl.injEq] at hst; subst hst
          have h1 := fun q => hq (Or.inl q)
          have h2 := fun q => hq (Or.inr (Or.inl q))
          have h3 := fun q => hq (Or.inr (Or.inr (Or.inl q)))
          have h4 := fun q => hq (Or.inr (Or.inr (Or.inr q)))
          exact am_o_last X hd (by omega) (Classical.not_not.mp h4) hh h2 (by omega) ht
      · cases hst
    · cases hst
  case aastore =>
    simp only [am_do] at hst
    split at hst
    · split at hst
      · rename_i hh hx0
        split at hst
        · cases hst
        · rename_i hq
          simp only [am_go, Option.some.injEq, Sum.inl.injEq] at hst; subst hst
          have h1 := fun q => hq (Or.inl q)
          have h0 := fun q => hq (Or.inr (Or.inl q))
          have h2 := fun q => hq (Or.inr (Or.inr (Or.inl q)))
          have h3 := fun q => hq (Or.inr (Or.inr (Or.inr (Or.inl q))))
          have h4 := Classical.not_not.mp (fun q => hq (Or.inr (Or.inr (Or.inr (Or.inr q)))))
          intro H ls locs cells slots hR
          obtain ⟨⟨C0, F9, N9⟩, e1, -⟩ := (hR.1.2.2 _ _ _ hx0).1.1 (by omega)
          rw [(hcl _ _ _ _ e1).2.2.2.2.2.2] at h4
          exact am_o_aast X hd (by omega) (by omega) e1 h4 hh hx0 h2 (by omega) ht H ls locs cells slots hR
      · cases hst
    · cases hst
  case arraylength =>
    simp only [am_do] at hst
    split at hst
    · split at hst
      · rename_i kk vs hh
        split at hst
        · cases hst
        · rename_i hq
          simp only [am_go, Option.some.injEq, Sum.inl.injEq] at hst; subst hst
          by_cases e9 : kk = 99
          · subst e9
            exact am_o_slen X hd hh ht
          · intro H ls locs cells slots hR
            obtain ⟨ty, e1, -⟩ := (hR.1.2.2 _ _ _ hh).1.2.2 (by omega)
            exact am_o_alen X hd (by omega) e1 hh ht H ls locs cells slots hR
      · cases hst
    · cases hst
  case new idx =>
    obtain ⟨C, F, N, hc, hlk, hins, hini⟩ := ho
    obtain ⟨c1, c2, c3, c4, c5, c6, -⟩ := hcl a C F N hc
    simp only [am_do, am_go, Option.some.injEq, Sum.inl.injEq] at hst
    subst hst
    rw [c5] at ht hroom
    exact am_o_new X hd hc c1 c2 c4 c5 c6 hlk hins hini hroom ht
  case newarray t =>
    obtain ⟨ha, hty, harr, hdf⟩ := ho
    simp only [am_do] at hst
    split at hst
    · split at hst
      · cases hst
      · rename_i hq
        simp only [am_go, Option.some.injEq, Sum.inl.injEq] at hst; subst hst
        rw [hdf] at ht
        exact am_o_newa X hd ha hty harr (fun q => hq (Or.inl q)) (by omega) hroom ht
    · cases hst
  case anewarray idx =>
    obtain ⟨ha, C, hty, hlk⟩ := ho
    simp only [am_do] at hst
    split at hst
    · split at hst
      · cases hst
      · rename_i hq
        simp only [am_go, Option.some.injEq, Sum.inl.injEq] at hst; subst hst
        exact am_o_anew X hd ha hty hlk (fun q => hq (Or.inl q)) (by omega) hroom ht
    · cases hst
  case invokestatic idx =>
    simp only [am_do] at hst
    split at hst <;> cases hst
  case invokevirtual idx =>
    simp only [am_do] at hst
    split at hst
    · split at hst
      · split at hst <;> cases hst
      · cases hst
    · cases hst
  case invokespecial idx =>
    simp only [am_do] at hst
    split at hst
    · rename_i hdr
      split at hst
      · cases hst
      · rename_i hq
        split at hst
        · rename_i h9
          simp only [am_go, Option.some.injEq, Sum.inl.injEq] at hst; subst hst
          rcases ho with ⟨-, hb0, h1, h2, h3, h4, h5⟩ | ⟨ho, -⟩
          · subst hb0
            rw [List.drop_zero] at hdr
            subst hdr
            exact am_o_obj X hd h1 h2 h3 (Nat.le_trans h4 hfr.1) (Nat.le_trans h5 hfr.2) (by omega) ht
          · exact absurd h9 ho
        · cases hst
    · cases hst
  case ireturn =>
    simp only [am_do] at hst
    split at hst
    · split at hst <;> cases hst
    · cases hst
  case areturn =>
    simp only [am_do] at hst
    split at hst <;> cases hst
  case return_ =>
    simp only [am_do] at hst
    split at hst <;> cases hst
  all_goals (simp only [am_do] at hst; cases hst)
end AmOne
