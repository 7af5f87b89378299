theorem B71_0_1  {h : am_H} {Q : am_H → Option Value → Prop} (F : am_Run (71, 3, [some (.null), none, none, none], [.ref h.2.1], (am_new h (0, am_dfs 0) (am_dfs 0).length)) Q) : am_Run (71, 0, [some (.null), none, none, none], [], h) Q := by
  exact ar_new i_71_0 F
theorem B71_0 {a0 : Nat} {h : am_H} {Q : am_H → Option Value → Prop} (F : am_Run (71, 3, [some (.ref a0), none, none, none], [.ref h.2.1], (am_new h (0, am_dfs 0) (am_dfs 0).length)) Q) : am_Run (71, 0, [some (.ref a0), none, none, none], [], h) Q := by
  exact ar_new i_71_0 F
theorem B71_3_1 {b0 : Nat} {h : am_H} {Q : am_H → Option Value → Prop} (F : am_Run (am_in 0 [.ref b0] h) (fun h1 v => am_Run (am_bk (71, 7, [some (.null), none, none, none], [.ref b0], h) h1 v) Q)) : am_Run (71, 3, [some (.null), none, none, none], [.ref b0], h) Q := by
  refine ar_dup i_71_3 rfl ?_
  exact ar_callI i_71_4 (by decide) rfl rfl (Nat.le_of_ble_eq_true rfl) (Nat.le_of_ble_eq_true rfl) F
theorem B71_3 {a0 : Nat} {b0 : Nat} {h : am_H} {Q : am_H → Option Value → Prop} (F : am_Run (am_in 0 [.ref b0] h) (fun h1 v => am_Run (am_bk (71, 7, [some (.ref a0), none, none, none], [.ref b0], h) h1 v) Q)) : am_Run (71, 3, [some (.ref a0), none, none, none], [.ref b0], h) Q := by
  refine ar_dup i_71_3 rfl ?_
  exact ar_callI i_71_4 (by decide) rfl rfl (Nat.le_of_ble_eq_true rfl) (Nat.le_of_ble_eq_true rfl) F
theorem B71_7_1 {b0 : Nat} {h : am_H} {Q : am_H → Option Value → Prop} (F : am_Run (71, 11, [some (.null), some (.ref b0), none, none], [.ref h.2.1], (am_new h (5, am_dfs 5) (am_dfs 5).length)) Q) : am_Run (71, 7, [some (.null), none, none, none], [.ref b0], h) Q := by
  refine ar_astore_n i_71_7 rfl ?_
  exact ar_new i_71_8 F
theorem B71_7 {a0 : Nat} {b0 : Nat} {h : am_H} {Q : am_H → Option Value → Prop} (F : am_Run (71, 11, [some (.ref a0), some (.ref b0), none, none], [.ref h.2.1], (am_new h (5, am_dfs 5) (am_dfs 5).length)) Q) : am_Run (71, 7, [some (.ref a0), none, none, none], [.ref b0], h) Q := by
  refine ar_astore_n i_71_7 rfl ?_
  exact ar_new i_71_8 F
theorem B71_11_1 {a1 : Nat} {b0 : Nat} {h : am_H} {Q : am_H → Option Value → Prop} (F : am_Run (am_in 35 [.ref b0] h) (fun h1 v => am_Run (am_bk (71, 15, [some (.null), some (.ref a1), none, none], [.ref b0], h) h1 v) Q)) : am_Run (71, 11, [some (.null), some (.ref a1), none, none], [.ref b0], h) Q := by
  refine ar_dup i_71_11 rfl ?_
  exact ar_callI i_71_12 (by decide) rfl rfl (Nat.le_of_ble_eq_true rfl) (Nat.le_of_ble_eq_true rfl) F
theorem B71_11 {a0 : Nat} {a1 : Nat} {b0 : Nat} {h : am_H} {Q : am_H → Option Value → Prop} (F : am_Run (am_in 35 [.ref b0] h) (fun h1 v => am_Run (am_bk (71, 15, [some (.ref a0), some (.ref a1), none, none], [.ref b0], h) h1 v) Q)) : am_Run (71, 11, [some (.ref a0), some (.ref a1), none, none], [.ref b0], h) Q := by
  refine ar_dup i_71_11 rfl ?_
  exact ar_callI i_71_12 (by decide) rfl rfl (Nat.le_of_ble_eq_true rfl) (Nat.le_of_ble_eq_true rfl) F
theorem B71_15_1 {a1 : Nat} {b0 : Nat} {h : am_H} {Q : am_H → Option Value → Prop} (F : am_Run (71, 18, [some (.null), some (.ref a1), some (.ref b0), some (.int 0)], [], h) Q) : am_Run (71, 15, [some (.null), some (.ref a1), none, none], [.ref b0], h) Q := by
  refine ar_astore_n i_71_15 rfl ?_
  refine ar_iconst i_71_16 ?_
  refine ar_istore_n i_71_17 rfl ?_
  exact F
theorem B71_15 {a0 : Nat} {a1 : Nat} {b0 : Nat} {h : am_H} {Q : am_H → Option Value → Prop} (F : am_Run (71, 18, [some (.ref a0), some (.ref a1), some (.ref b0), some (.int 0)], [], h) Q) : am_Run (71, 15, [some (.ref a0), some (.ref a1), none, none], [.ref b0], h) Q := by
  refine ar_astore_n i_71_15 rfl ?_
  refine ar_iconst i_71_16 ?_
  refine ar_istore_n i_71_17 rfl ?_
  exact F
theorem B71_18_1 {a1 : Nat} {a2 : Nat} {x3 : Int32} {h : am_H} {Q : am_H → Option Value → Prop} (F : False) : am_Run (71, 18, [some (.null), some (.ref a1), some (.ref a2), some (.int x3)], [], h) Q := by
  refine ar_iload_n i_71_18 rfl ?_
  refine ar_aload_nN i_71_19 rfl ?_
  exact False.elim F
theorem B71_18 {a0 : Nat} {a1 : Nat} {a2 : Nat} {x3 : Int32} {h : am_H} {Q : am_H → Option Value → Prop} (F : (∃ n1 : Nat, am_ln h a0 n1 ∧ ((((Int32.ofNat n1) - 5) < x3 → Q h (some (.int 1))) ∧ (¬ ((Int32.ofNat n1) - 5) < x3 → (∃ v2 : Int32, am_ai h a0 x3 v2 ∧ ((((v2 &&& 31).toInt < 0 ∨ 16 < (v2 &&& 31).toInt) → am_Run (71, 707, [some (.ref a0), some (.ref a1), some (.ref a2), some (.int x3)], [], h) Q) ∧ ((v2 &&& 31) = nI 0 → (∃ v3 : Int32, am_ai h a0 (x3 + 1) v3 ∧ (∃ v4 : Int32, am_ai h a0 (x3 + 2) v4 ∧ (∃ v5 : Int32, am_ai h a0 (x3 + 3) v5 ∧ (am_is h a1 0 ∧ am_Run (am_in 1 [.ref a1, .int v3, .int v4, .int v5] h) (fun h1 v => am_Run (am_bk (71, 135, [some (.ref a0), some (.ref a1), some (.ref a2), some (.int x3)], [], h) h1 v) Q)))))) ∧ ((v2 &&& 31) = nI 1 → (am_is h a1 0 ∧ am_Run (am_in 2 [.ref a1] h) (fun h1 v => am_Run (am_bk (71, 163, [some (.ref a0), some (.ref a1), some (.ref a2), some (.int x3)], [], h) h1 v) Q))) ∧ ((v2 &&& 31) = nI 2 → (∃ v6 : Int32, am_ai h a0 (x3 + 1) v6 ∧ (∃ v7 : Int32, am_ai h a0 (x3 + 2) v7 ∧ (∃ v8 : Int32, am_ai h a0 (x3 + 3) v8 ∧ (∃ v9 : Int32, am_ai h a0 (x3 + 4) v9 ∧ (am_is h a1 0 ∧ am_Run (am_in 3 [.ref a1, .int v6, .int v7, .long ((v8.toInt64 <<< ((32 : Int32).toInt64 &&& 63)) ||| (v9.toInt64 &&& 4294967295))] h) (fun h1 v => am_Run (am_bk (71, 206, [some (.ref a0), some (.ref a1), some (.ref a2), some (.int x3)], [], h) h1 v) Q))))))) ∧ ((v2 &&& 31) = nI 3 → (∃ v10 : Int32, am_ai h a0 (x3 + 1) v10 ∧ (∃ v11 : Int32, am_ai h a0 (x3 + 2) v11 ∧ (∃ v12 : Int32, am_ai h a0 (x3 + 3) v12 ∧ (am_is h a1 0 ∧ am_Run (am_in 4 [.ref a1, .int v10, .int v11, .int v12] h) (fun h1 v => am_Run (am_bk (71, 264, [some (.ref a0), some (.ref a1), some (.ref a2), some (.int x3)], [], h) h1 v) Q)))))) ∧ ((v2 &&& 31) = nI 4 → (∃ v13 : Int32, am_ai h a0 (x3 + 1) v13 ∧ (∃ v14 : Int32, am_ai h a0 (x3 + 2) v14 ∧ (am_is h a1 0 ∧ am_Run (am_in 5 [.ref a1, .int v13, .int v14] h) (fun h1 v => am_Run (am_bk (71, 302, [some (.ref a0), some (.ref a1), some (.ref a2), some (.int x3)], [], h) h1 v) Q))))) ∧ ((v2 &&& 31) = nI 5 → (∃ v15 : Int32, am_ai h a0 (x3 + 1) v15 ∧ (∃ v16 : Int32, am_ai h a0 (x3 + 2) v16 ∧ (∃ v17 : Int32, am_ai h a0 (x3 + 3) v17 ∧ (am_is h a1 0 ∧ am_Run (am_in 6 [.ref a1, .int v15, .int v16, .int v17] h) (fun h1 v => am_Run (am_bk (71, 340, [some (.ref a0), some (.ref a1), some (.ref a2), some (.int x3)], [], h) h1 v) Q)))))) ∧ ((v2 &&& 31) = nI 6 → (∃ v18 : Int32, am_ai h a0 (x3 + 1) v18 ∧ (am_is h a1 0 ∧ am_Run (am_in 7 [.ref a1, .int v18] h) (fun h1 v => am_Run (am_bk (71, 373, [some (.ref a0), some (.ref a1), some (.ref a2), some (.int x3)], [], h) h1 v) Q)))) ∧ ((v2 &&& 31) = nI 7 → (∃ v19 : Int32, am_ai h a0 (x3 + 1) v19 ∧ (∃ v20 : Int32, am_ai h a0 (x3 + 2) v20 ∧ (am_is h a1 0 ∧ am_Run (am_in 8 [.ref a1, .int v19, .int v20] h) (fun h1 v => am_Run (am_bk (71, 401, [some (.ref a0), some (.ref a1), some (.ref a2), some (.int x3)], [], h) h1 v) Q))))) ∧ ((v2 &&& 31) = nI 8 → (∃ v21 : Int32, am_ai h a0 (x3 + 1) v21 ∧ (∃ v22 : Int32, am_ai h a0 (x3 + 2) v22 ∧ (am_is h a1 0 ∧ am_Run (am_in 9 [.ref a1, .int v21, .int v22] h) (fun h1 v => am_Run (am_bk (71, 434, [some (.ref a0), some (.ref a1), some (.ref a2), some (.int x3)], [], h) h1 v) Q))))) ∧ ((v2 &&& 31) = nI 9 → (∃ v23 : Int32, am_ai h a0 (x3 + 1) v23 ∧ (∃ v24 : Int32, am_ai h a0 (x3 + 2) v24 ∧ (am_is h a1 0 ∧ am_Run (am_in 10 [.ref a1, .long ((v23.toInt64 <<< ((32 : Int32).toInt64 &&& 63)) ||| (v24.toInt64 &&& 4294967295))] h) (fun h1 v => am_Run (am_bk (71, 477, [some (.ref a0), some (.ref a1), some (.ref a2), some (.int x3)], [], h) h1 v) Q))))) ∧ ((v2 &&& 31) = nI 10 → (∃ v25 : Int32, am_ai h a0 (x3 + 1) v25 ∧ (am_is h a1 0 ∧ am_Run (am_in 11 [.ref a1, .int v25] h) (fun h1 v => am_Run (am_bk (71, 515, [some (.ref a0), some (.ref a1), some (.ref a2), some (.int x3)], [], h) h1 v) Q)))) ∧ ((v2 &&& 31) = nI 11 → (∃ v26 : Int32, am_ai h a0 (x3 + 1) v26 ∧ (∃ v27 : Int32, am_ai h a0 (x3 + 2) v27 ∧ (∃ v28 : Int32, am_ai h a0 (x3 + 3) v28 ∧ (am_is h a1 0 ∧ am_Run (am_in 12 [.ref a1, .int v26, .int v27, .int v28] h) (fun h1 v => am_Run (am_bk (71, 548, [some (.ref a0), some (.ref a1), some (.ref a2), some (.int x3)], [], h) h1 v) Q)))))) ∧ ((v2 &&& 31) = nI 12 → (∃ v29 : Int32, am_ai h a0 (x3 + 1) v29 ∧ (∃ v30 : Int32, am_ai h a0 (x3 + 2) v30 ∧ (am_is h a1 0 ∧ am_Run (am_in 13 [.ref a1, .int v29, .int v30] h) (fun h1 v => am_Run (am_bk (71, 586, [some (.ref a0), some (.ref a1), some (.ref a2), some (.int x3)], [], h) h1 v) Q))))) ∧ ((v2 &&& 31) = nI 13 → (∃ v31 : Int32, am_ai h a0 (x3 + 1) v31 ∧ (am_is h a1 0 ∧ am_Run (am_in 14 [.ref a1, .int v31] h) (fun h1 v => am_Run (am_bk (71, 614, [some (.ref a0), some (.ref a1), some (.ref a2), some (.int x3)], [], h) h1 v) Q)))) ∧ ((v2 &&& 31) = nI 14 → (∃ v32 : Int32, am_ai h a0 (x3 + 1) v32 ∧ (∃ v33 : Int32, am_ai h a0 (x3 + 2) v33 ∧ (am_is h a1 0 ∧ am_Run (am_in 15 [.ref a1, .int v32, .int v33] h) (fun h1 v => am_Run (am_bk (71, 642, [some (.ref a0), some (.ref a1), some (.ref a2), some (.int x3)], [], h) h1 v) Q))))) ∧ ((v2 &&& 31) = nI 15 → (∃ v34 : Int32, am_ai h a0 (x3 + 1) v34 ∧ (am_is h a1 0 ∧ am_Run (am_in 16 [.ref a1, .int v34] h) (fun h1 v => am_Run (am_bk (71, 670, [some (.ref a0), some (.ref a1), some (.ref a2), some (.int x3)], [], h) h1 v) Q)))) ∧ ((v2 &&& 31) = nI 16 → (∃ v35 : Int32, am_ai h a0 (x3 + 1) v35 ∧ (am_is h a1 0 ∧ am_Run (am_in 17 [.ref a1, .int v35] h) (fun h1 v => am_Run (am_bk (71, 693, [some (.ref a0), some (.ref a1), some (.ref a2), some (.int x3)], [], h) h1 v) Q)))))))))) : am_Run (71, 18, [some (.ref a0), some (.ref a1), some (.ref a2), some (.int x3)], [], h) Q := by
  refine ar_iload_n i_71_18 rfl ?_
  refine ar_aload_n i_71_19 rfl ?_
  obtain ⟨n1, g_n1, F⟩ := F
  refine ar_alen i_71_20 g_n1 ?_
  refine ar_iconst i_71_21 ?_
  refine ar_isub i_71_22 ?_
  refine ar_icmp_gt i_71_23 (fun q => ?_) (fun q => ?_)
  · replace F := F.1 q
    refine ar_iconst i_71_713 ?_
    exact ar_iret i_71_714 rfl F
  · replace F := F.2 q
    refine ar_aload_n i_71_26 rfl ?_
    refine ar_iload_n i_71_27 rfl ?_
    obtain ⟨v2, g_v2, F⟩ := F
    refine ar_iald i_71_28 g_v2 ?_
    refine ar_bipush i_71_29 ?_
    refine ar_iand i_71_31 ?_
    refine ar_tab i_71_32 (fun q => ?_) (fun j o hj hx ho => ?_) (by decide) (by decide)
    · replace F := F.1 q
      show am_Run (71, 707, [some (.ref a0), some (.ref a1), some (.ref a2), some (.int x3)], [], h) Q
      exact F
    · have hj2 : j < 17 := by omega
      replace F := F.2
      match j, hj2, hx, ho with
      | 0, _, hx, ho =>
        cases ho
        refine ⟨by decide, ?_⟩
        replace F := F.1 hx
        show am_Run (71, 116, [some (.ref a0), some (.ref a1), some (.ref a2), some (.int x3)], [], h) Q
        refine ar_aload_n i_71_116 rfl ?_
        refine ar_aload_n i_71_117 rfl ?_
        refine ar_iload_n i_71_118 rfl ?_
        refine ar_iconst i_71_119 ?_
        refine ar_iadd i_71_120 ?_
        obtain ⟨v3, g_v3, F⟩ := F
        refine ar_iald i_71_121 g_v3 ?_
        refine ar_aload_n i_71_122 rfl ?_
        refine ar_iload_n i_71_123 rfl ?_
        refine ar_iconst i_71_124 ?_
        refine ar_iadd i_71_125 ?_
        obtain ⟨v4, g_v4, F⟩ := F
        refine ar_iald i_71_126 g_v4 ?_
        refine ar_aload_n i_71_127 rfl ?_
        refine ar_iload_n i_71_128 rfl ?_
        refine ar_iconst i_71_129 ?_
        refine ar_iadd i_71_130 ?_
        obtain ⟨v5, g_v5, F⟩ := F
        refine ar_iald i_71_131 g_v5 ?_
        exact ar_callV i_71_132 rfl rfl F.1 (Nat.le_of_ble_eq_true rfl) (Nat.le_of_ble_eq_true rfl) F.2
      | 1, _, hx, ho =>
        cases ho
        refine ⟨by decide, ?_⟩
        replace F := F.2.1 hx
        show am_Run (71, 159, [some (.ref a0), some (.ref a1), some (.ref a2), some (.int x3)], [], h) Q
        refine ar_aload_n i_71_159 rfl ?_
        exact ar_callV i_71_160 rfl rfl F.1 (Nat.le_of_ble_eq_true rfl) (Nat.le_of_ble_eq_true rfl) F.2
      | 2, _, hx, ho =>
        cases ho
        refine ⟨by decide, ?_⟩
        replace F := F.2.2.1 hx
        show am_Run (71, 172, [some (.ref a0), some (.ref a1), some (.ref a2), some (.int x3)], [], h) Q
        refine ar_aload_n i_71_172 rfl ?_
        refine ar_aload_n i_71_173 rfl ?_
        refine ar_iload_n i_71_174 rfl ?_
        refine ar_iconst i_71_175 ?_
        refine ar_iadd i_71_176 ?_
        obtain ⟨v6, g_v6, F⟩ := F
        refine ar_iald i_71_177 g_v6 ?_
        refine ar_aload_n i_71_178 rfl ?_
        refine ar_iload_n i_71_179 rfl ?_
        refine ar_iconst i_71_180 ?_
        refine ar_iadd i_71_181 ?_
        obtain ⟨v7, g_v7, F⟩ := F
        refine ar_iald i_71_182 g_v7 ?_
        refine ar_aload_n i_71_183 rfl ?_
        refine ar_iload_n i_71_184 rfl ?_
        refine ar_iconst i_71_185 ?_
        refine ar_iadd i_71_186 ?_
        obtain ⟨v8, g_v8, F⟩ := F
        refine ar_iald i_71_187 g_v8 ?_
        refine ar_i2l i_71_188 ?_
        refine ar_bipush i_71_189 ?_
        refine ar_lshl i_71_191 ?_
        refine ar_aload_n i_71_192 rfl ?_
        refine ar_iload_n i_71_193 rfl ?_
        refine ar_iconst i_71_194 ?_
        refine ar_iadd i_71_195 ?_
        obtain ⟨v9, g_v9, F⟩ := F
        refine ar_iald i_71_196 g_v9 ?_
        refine ar_i2l i_71_197 ?_
        refine ar_ldc2_w i_71_198 ?_
        refine ar_land i_71_201 ?_
        refine ar_lor i_71_202 ?_
        exact ar_callV i_71_203 rfl rfl F.1 (Nat.le_of_ble_eq_true rfl) (Nat.le_of_ble_eq_true rfl) F.2
      | 3, _, hx, ho =>
        cases ho
        refine ⟨by decide, ?_⟩
        replace F := F.2.2.2.1 hx
        show am_Run (71, 245, [some (.ref a0), some (.ref a1), some (.ref a2), some (.int x3)], [], h) Q
        refine ar_aload_n i_71_245 rfl ?_
        refine ar_aload_n i_71_246 rfl ?_
        refine ar_iload_n i_71_247 rfl ?_
        refine ar_iconst i_71_248 ?_
        refine ar_iadd i_71_249 ?_
        obtain ⟨v10, g_v10, F⟩ := F
        refine ar_iald i_71_250 g_v10 ?_
        refine ar_aload_n i_71_251 rfl ?_
        refine ar_iload_n i_71_252 rfl ?_
        refine ar_iconst i_71_253 ?_
        refine ar_iadd i_71_254 ?_
        obtain ⟨v11, g_v11, F⟩ := F
        refine ar_iald i_71_255 g_v11 ?_
        refine ar_aload_n i_71_256 rfl ?_
        refine ar_iload_n i_71_257 rfl ?_
        refine ar_iconst i_71_258 ?_
        refine ar_iadd i_71_259 ?_
        obtain ⟨v12, g_v12, F⟩ := F
        refine ar_iald i_71_260 g_v12 ?_
        exact ar_callV i_71_261 rfl rfl F.1 (Nat.le_of_ble_eq_true rfl) (Nat.le_of_ble_eq_true rfl) F.2
      | 4, _, hx, ho =>
        cases ho
        refine ⟨by decide, ?_⟩
        replace F := F.2.2.2.2.1 hx
        show am_Run (71, 288, [some (.ref a0), some (.ref a1), some (.ref a2), some (.int x3)], [], h) Q
        refine ar_aload_n i_71_288 rfl ?_
        refine ar_aload_n i_71_289 rfl ?_
        refine ar_iload_n i_71_290 rfl ?_
        refine ar_iconst i_71_291 ?_
        refine ar_iadd i_71_292 ?_
        obtain ⟨v13, g_v13, F⟩ := F
        refine ar_iald i_71_293 g_v13 ?_
        refine ar_aload_n i_71_294 rfl ?_
        refine ar_iload_n i_71_295 rfl ?_
        refine ar_iconst i_71_296 ?_
        refine ar_iadd i_71_297 ?_
        obtain ⟨v14, g_v14, F⟩ := F
        refine ar_iald i_71_298 g_v14 ?_
        exact ar_callV i_71_299 rfl rfl F.1 (Nat.le_of_ble_eq_true rfl) (Nat.le_of_ble_eq_true rfl) F.2
      | 5, _, hx, ho =>
        cases ho
        refine ⟨by decide, ?_⟩
        replace F := F.2.2.2.2.2.1 hx
        show am_Run (71, 321, [some (.ref a0), some (.ref a1), some (.ref a2), some (.int x3)], [], h) Q
        refine ar_aload_n i_71_321 rfl ?_
        refine ar_aload_n i_71_322 rfl ?_
        refine ar_iload_n i_71_323 rfl ?_
        refine ar_iconst i_71_324 ?_
        refine ar_iadd i_71_325 ?_
        obtain ⟨v15, g_v15, F⟩ := F
        refine ar_iald i_71_326 g_v15 ?_
        refine ar_aload_n i_71_327 rfl ?_
        refine ar_iload_n i_71_328 rfl ?_
        refine ar_iconst i_71_329 ?_
        refine ar_iadd i_71_330 ?_
        obtain ⟨v16, g_v16, F⟩ := F
        refine ar_iald i_71_331 g_v16 ?_
        refine ar_aload_n i_71_332 rfl ?_
        refine ar_iload_n i_71_333 rfl ?_
        refine ar_iconst i_71_334 ?_
        refine ar_iadd i_71_335 ?_
        obtain ⟨v17, g_v17, F⟩ := F
        refine ar_iald i_71_336 g_v17 ?_
        exact ar_callV i_71_337 rfl rfl F.1 (Nat.le_of_ble_eq_true rfl) (Nat.le_of_ble_eq_true rfl) F.2
      | 6, _, hx, ho =>
        cases ho
        refine ⟨by decide, ?_⟩
        replace F := F.2.2.2.2.2.2.1 hx
        show am_Run (71, 364, [some (.ref a0), some (.ref a1), some (.ref a2), some (.int x3)], [], h) Q
        refine ar_aload_n i_71_364 rfl ?_
        refine ar_aload_n i_71_365 rfl ?_
        refine ar_iload_n i_71_366 rfl ?_
        refine ar_iconst i_71_367 ?_
        refine ar_iadd i_71_368 ?_
        obtain ⟨v18, g_v18, F⟩ := F
        refine ar_iald i_71_369 g_v18 ?_
        exact ar_callV i_71_370 rfl rfl F.1 (Nat.le_of_ble_eq_true rfl) (Nat.le_of_ble_eq_true rfl) F.2
      | 7, _, hx, ho =>
        cases ho
        refine ⟨by decide, ?_⟩
        replace F := F.2.2.2.2.2.2.2.1 hx
        show am_Run (71, 387, [some (.ref a0), some (.ref a1), some (.ref a2), some (.int x3)], [], h) Q
        refine ar_aload_n i_71_387 rfl ?_
        refine ar_aload_n i_71_388 rfl ?_
        refine ar_iload_n i_71_389 rfl ?_
        refine ar_iconst i_71_390 ?_
        refine ar_iadd i_71_391 ?_
        obtain ⟨v19, g_v19, F⟩ := F
        refine ar_iald i_71_392 g_v19 ?_
        refine ar_aload_n i_71_393 rfl ?_
        refine ar_iload_n i_71_394 rfl ?_
        refine ar_iconst i_71_395 ?_
        refine ar_iadd i_71_396 ?_
        obtain ⟨v20, g_v20, F⟩ := F
        refine ar_iald i_71_397 g_v20 ?_
        exact ar_callV i_71_398 rfl rfl F.1 (Nat.le_of_ble_eq_true rfl) (Nat.le_of_ble_eq_true rfl) F.2
      | 8, _, hx, ho =>
        cases ho
        refine ⟨by decide, ?_⟩
        replace F := F.2.2.2.2.2.2.2.2.1 hx
        show am_Run (71, 420, [some (.ref a0), some (.ref a1), some (.ref a2), some (.int x3)], [], h) Q
        refine ar_aload_n i_71_420 rfl ?_
        refine ar_aload_n i_71_421 rfl ?_
        refine ar_iload_n i_71_422 rfl ?_
        refine ar_iconst i_71_423 ?_
        refine ar_iadd i_71_424 ?_
        obtain ⟨v21, g_v21, F⟩ := F
        refine ar_iald i_71_425 g_v21 ?_
        refine ar_aload_n i_71_426 rfl ?_
        refine ar_iload_n i_71_427 rfl ?_
        refine ar_iconst i_71_428 ?_
        refine ar_iadd i_71_429 ?_
        obtain ⟨v22, g_v22, F⟩ := F
        refine ar_iald i_71_430 g_v22 ?_
        exact ar_callV i_71_431 rfl rfl F.1 (Nat.le_of_ble_eq_true rfl) (Nat.le_of_ble_eq_true rfl) F.2
      | 9, _, hx, ho =>
        cases ho
        refine ⟨by decide, ?_⟩
        replace F := F.2.2.2.2.2.2.2.2.2.1 hx
        show am_Run (71, 453, [some (.ref a0), some (.ref a1), some (.ref a2), some (.int x3)], [], h) Q
        refine ar_aload_n i_71_453 rfl ?_
        refine ar_aload_n i_71_454 rfl ?_
        refine ar_iload_n i_71_455 rfl ?_
        refine ar_iconst i_71_456 ?_
        refine ar_iadd i_71_457 ?_
        obtain ⟨v23, g_v23, F⟩ := F
        refine ar_iald i_71_458 g_v23 ?_
        refine ar_i2l i_71_459 ?_
        refine ar_bipush i_71_460 ?_
        refine ar_lshl i_71_462 ?_
        refine ar_aload_n i_71_463 rfl ?_
        refine ar_iload_n i_71_464 rfl ?_
        refine ar_iconst i_71_465 ?_
        refine ar_iadd i_71_466 ?_
        obtain ⟨v24, g_v24, F⟩ := F
        refine ar_iald i_71_467 g_v24 ?_
        refine ar_i2l i_71_468 ?_
        refine ar_ldc2_w i_71_469 ?_
        refine ar_land i_71_472 ?_
        refine ar_lor i_71_473 ?_
        exact ar_callV i_71_474 rfl rfl F.1 (Nat.le_of_ble_eq_true rfl) (Nat.le_of_ble_eq_true rfl) F.2
      | 10, _, hx, ho =>
        cases ho
        refine ⟨by decide, ?_⟩
        replace F := F.2.2.2.2.2.2.2.2.2.2.1 hx
        show am_Run (71, 506, [some (.ref a0), some (.ref a1), some (.ref a2), some (.int x3)], [], h) Q
        refine ar_aload_n i_71_506 rfl ?_
        refine ar_aload_n i_71_507 rfl ?_
        refine ar_iload_n i_71_508 rfl ?_
        refine ar_iconst i_71_509 ?_
        refine ar_iadd i_71_510 ?_
        obtain ⟨v25, g_v25, F⟩ := F
        refine ar_iald i_71_511 g_v25 ?_
        exact ar_callV i_71_512 rfl rfl F.1 (Nat.le_of_ble_eq_true rfl) (Nat.le_of_ble_eq_true rfl) F.2
      | 11, _, hx, ho =>
        cases ho
        refine ⟨by decide, ?_⟩
        replace F := F.2.2.2.2.2.2.2.2.2.2.2.1 hx
        show am_Run (71, 529, [some (.ref a0), some (.ref a1), some (.ref a2), some (.int x3)], [], h) Q
        refine ar_aload_n i_71_529 rfl ?_
        refine ar_aload_n i_71_530 rfl ?_
        refine ar_iload_n i_71_531 rfl ?_
        refine ar_iconst i_71_532 ?_
        refine ar_iadd i_71_533 ?_
        obtain ⟨v26, g_v26, F⟩ := F
        refine ar_iald i_71_534 g_v26 ?_
        refine ar_aload_n i_71_535 rfl ?_
        refine ar_iload_n i_71_536 rfl ?_
        refine ar_iconst i_71_537 ?_
        refine ar_iadd i_71_538 ?_
        obtain ⟨v27, g_v27, F⟩ := F
        refine ar_iald i_71_539 g_v27 ?_
        refine ar_aload_n i_71_540 rfl ?_
        refine ar_iload_n i_71_541 rfl ?_
        refine ar_iconst i_71_542 ?_
        refine ar_iadd i_71_543 ?_
        obtain ⟨v28, g_v28, F⟩ := F
        refine ar_iald i_71_544 g_v28 ?_
        exact ar_callV i_71_545 rfl rfl F.1 (Nat.le_of_ble_eq_true rfl) (Nat.le_of_ble_eq_true rfl) F.2
      | 12, _, hx, ho =>
        cases ho
        refine ⟨by decide, ?_⟩
        replace F := F.2.2.2.2.2.2.2.2.2.2.2.2.1 hx
        show am_Run (71, 572, [some (.ref a0), some (.ref a1), some (.ref a2), some (.int x3)], [], h) Q
        refine ar_aload_n i_71_572 rfl ?_
        refine ar_aload_n i_71_573 rfl ?_
        refine ar_iload_n i_71_574 rfl ?_
        refine ar_iconst i_71_575 ?_
        refine ar_iadd i_71_576 ?_
        obtain ⟨v29, g_v29, F⟩ := F
        refine ar_iald i_71_577 g_v29 ?_
        refine ar_aload_n i_71_578 rfl ?_
        refine ar_iload_n i_71_579 rfl ?_
        refine ar_iconst i_71_580 ?_
        refine ar_iadd i_71_581 ?_
        obtain ⟨v30, g_v30, F⟩ := F
        refine ar_iald i_71_582 g_v30 ?_
        exact ar_callV i_71_583 rfl rfl F.1 (Nat.le_of_ble_eq_true rfl) (Nat.le_of_ble_eq_true rfl) F.2
      | 13, _, hx, ho =>
        cases ho
        refine ⟨by decide, ?_⟩
        replace F := F.2.2.2.2.2.2.2.2.2.2.2.2.2.1 hx
        show am_Run (71, 605, [some (.ref a0), some (.ref a1), some (.ref a2), some (.int x3)], [], h) Q
        refine ar_aload_n i_71_605 rfl ?_
        refine ar_aload_n i_71_606 rfl ?_
        refine ar_iload_n i_71_607 rfl ?_
        refine ar_iconst i_71_608 ?_
        refine ar_iadd i_71_609 ?_
        obtain ⟨v31, g_v31, F⟩ := F
        refine ar_iald i_71_610 g_v31 ?_
        exact ar_callV i_71_611 rfl rfl F.1 (Nat.le_of_ble_eq_true rfl) (Nat.le_of_ble_eq_true rfl) F.2
      | 14, _, hx, ho =>
        cases ho
        refine ⟨by decide, ?_⟩
        replace F := F.2.2.2.2.2.2.2.2.2.2.2.2.2.2.1 hx
        show am_Run (71, 628, [some (.ref a0), some (.ref a1), some (.ref a2), some (.int x3)], [], h) Q
        refine ar_aload_n i_71_628 rfl ?_
        refine ar_aload_n i_71_629 rfl ?_
        refine ar_iload_n i_71_630 rfl ?_
        refine ar_iconst i_71_631 ?_
        refine ar_iadd i_71_632 ?_
        obtain ⟨v32, g_v32, F⟩ := F
        refine ar_iald i_71_633 g_v32 ?_
        refine ar_aload_n i_71_634 rfl ?_
        refine ar_iload_n i_71_635 rfl ?_
        refine ar_iconst i_71_636 ?_
        refine ar_iadd i_71_637 ?_
        obtain ⟨v33, g_v33, F⟩ := F
        refine ar_iald i_71_638 g_v33 ?_
        exact ar_callV i_71_639 rfl rfl F.1 (Nat.le_of_ble_eq_true rfl) (Nat.le_of_ble_eq_true rfl) F.2
      | 15, _, hx, ho =>
        cases ho
        refine ⟨by decide, ?_⟩
        replace F := F.2.2.2.2.2.2.2.2.2.2.2.2.2.2.2.1 hx
        show am_Run (71, 661, [some (.ref a0), some (.ref a1), some (.ref a2), some (.int x3)], [], h) Q
        refine ar_aload_n i_71_661 rfl ?_
        refine ar_aload_n i_71_662 rfl ?_
        refine ar_iload_n i_71_663 rfl ?_
        refine ar_iconst i_71_664 ?_
        refine ar_iadd i_71_665 ?_
        obtain ⟨v34, g_v34, F⟩ := F
        refine ar_iald i_71_666 g_v34 ?_
        exact ar_callV i_71_667 rfl rfl F.1 (Nat.le_of_ble_eq_true rfl) (Nat.le_of_ble_eq_true rfl) F.2
      | 16, _, hx, ho =>
        cases ho
        refine ⟨by decide, ?_⟩
        replace F := F.2.2.2.2.2.2.2.2.2.2.2.2.2.2.2.2 hx
        show am_Run (71, 684, [some (.ref a0), some (.ref a1), some (.ref a2), some (.int x3)], [], h) Q
        refine ar_aload_n i_71_684 rfl ?_
        refine ar_aload_n i_71_685 rfl ?_
        refine ar_iload_n i_71_686 rfl ?_
        refine ar_iconst i_71_687 ?_
        refine ar_iadd i_71_688 ?_
        obtain ⟨v35, g_v35, F⟩ := F
        refine ar_iald i_71_689 g_v35 ?_
        exact ar_callV i_71_690 rfl rfl F.1 (Nat.le_of_ble_eq_true rfl) (Nat.le_of_ble_eq_true rfl) F.2
theorem B71_135 {a0 : Nat} {a1 : Nat} {a2 : Nat} {x3 : Int32} {y0 : Int32} {h : am_H} {Q : am_H → Option Value → Prop} (F : (∃ v1 : Int32, am_ai h a0 (x3 + 1) v1 ∧ (∃ v2 : Int32, am_ai h a0 (x3 + 2) v2 ∧ (∃ v3 : Int32, am_ai h a0 (x3 + 3) v3 ∧ (am_is h a2 5 ∧ am_Run (am_in 40 [.ref a2, .int v1, .int v2, .int v3] h) (fun h1 v => am_Run (am_bk (71, 154, [some (.ref a0), some (.ref a1), some (.ref a2), some (.int x3)], [.int y0], h) h1 v) Q)))))) : am_Run (71, 135, [some (.ref a0), some (.ref a1), some (.ref a2), some (.int x3)], [.int y0], h) Q := by
  refine ar_aload_n i_71_135 rfl ?_
  refine ar_aload_n i_71_136 rfl ?_
  refine ar_iload_n i_71_137 rfl ?_
  refine ar_iconst i_71_138 ?_
  refine ar_iadd i_71_139 ?_
  obtain ⟨v1, g_v1, F⟩ := F
  refine ar_iald i_71_140 g_v1 ?_
  refine ar_aload_n i_71_141 rfl ?_
  refine ar_iload_n i_71_142 rfl ?_
  refine ar_iconst i_71_143 ?_
  refine ar_iadd i_71_144 ?_
  obtain ⟨v2, g_v2, F⟩ := F
  refine ar_iald i_71_145 g_v2 ?_
  refine ar_aload_n i_71_146 rfl ?_
  refine ar_iload_n i_71_147 rfl ?_
  refine ar_iconst i_71_148 ?_
  refine ar_iadd i_71_149 ?_
  obtain ⟨v3, g_v3, F⟩ := F
  refine ar_iald i_71_150 g_v3 ?_
  exact ar_callV i_71_151 rfl rfl F.1 (Nat.le_of_ble_eq_true rfl) (Nat.le_of_ble_eq_true rfl) F.2
theorem B71_154 {a0 : Nat} {a1 : Nat} {a2 : Nat} {x3 : Int32} {y1 : Int32} {y0 : Int32} {h : am_H} {Q : am_H → Option Value → Prop} (F : ((y0 = y1 → am_Run (71, 707, [some (.ref a0), some (.ref a1), some (.ref a2), some (.int x3)], [], h) Q) ∧ (¬ y0 = y1 → Q h (some (.int 0))))) : am_Run (71, 154, [some (.ref a0), some (.ref a1), some (.ref a2), some (.int x3)], [.int y1, .int y0], h) Q := by
  refine ar_icmp_eq i_71_154 (fun q => ?_) (fun q => ?_)
  · replace F := F.1 q
    exact F
  · replace F := F.2 q
    refine ar_iconst i_71_157 ?_
    exact ar_iret i_71_158 rfl F
theorem B71_163 {a0 : Nat} {a1 : Nat} {a2 : Nat} {x3 : Int32} {y0 : Int32} {h : am_H} {Q : am_H → Option Value → Prop} (F : (am_is h a2 5 ∧ am_Run (am_in 41 [.ref a2] h) (fun h1 v => am_Run (am_bk (71, 167, [some (.ref a0), some (.ref a1), some (.ref a2), some (.int x3)], [.int y0], h) h1 v) Q))) : am_Run (71, 163, [some (.ref a0), some (.ref a1), some (.ref a2), some (.int x3)], [.int y0], h) Q := by
  refine ar_aload_n i_71_163 rfl ?_
  exact ar_callV i_71_164 rfl rfl F.1 (Nat.le_of_ble_eq_true rfl) (Nat.le_of_ble_eq_true rfl) F.2
theorem B71_167 {a0 : Nat} {a1 : Nat} {a2 : Nat} {x3 : Int32} {y1 : Int32} {y0 : Int32} {h : am_H} {Q : am_H → Option Value → Prop} (F : ((y0 = y1 → am_Run (71, 707, [some (.ref a0), some (.ref a1), some (.ref a2), some (.int x3)], [], h) Q) ∧ (¬ y0 = y1 → Q h (some (.int 0))))) : am_Run (71, 167, [some (.ref a0), some (.ref a1), some (.ref a2), some (.int x3)], [.int y1, .int y0], h) Q := by
  refine ar_icmp_eq i_71_167 (fun q => ?_) (fun q => ?_)
  · replace F := F.1 q
    exact F
  · replace F := F.2 q
    refine ar_iconst i_71_170 ?_
    exact ar_iret i_71_171 rfl F
theorem B71_206 {a0 : Nat} {a1 : Nat} {a2 : Nat} {x3 : Int32} {y0 : Int32} {h : am_H} {Q : am_H → Option Value → Prop} (F : (∃ v1 : Int32, am_ai h a0 (x3 + 1) v1 ∧ (∃ v2 : Int32, am_ai h a0 (x3 + 2) v2 ∧ (∃ v3 : Int32, am_ai h a0 (x3 + 3) v3 ∧ (∃ v4 : Int32, am_ai h a0 (x3 + 4) v4 ∧ (am_is h a2 5 ∧ am_Run (am_in 48 [.ref a2, .int v1, .int v2, .long ((v3.toInt64 <<< ((32 : Int32).toInt64 &&& 63)) ||| (v4.toInt64 &&& 4294967295))] h) (fun h1 v => am_Run (am_bk (71, 240, [some (.ref a0), some (.ref a1), some (.ref a2), some (.int x3)], [.int y0], h) h1 v) Q))))))) : am_Run (71, 206, [some (.ref a0), some (.ref a1), some (.ref a2), some (.int x3)], [.int y0], h) Q := by
  refine ar_aload_n i_71_206 rfl ?_
  refine ar_aload_n i_71_207 rfl ?_
  refine ar_iload_n i_71_208 rfl ?_
  refine ar_iconst i_71_209 ?_
  refine ar_iadd i_71_210 ?_
  obtain ⟨v1, g_v1, F⟩ := F
  refine ar_iald i_71_211 g_v1 ?_
  refine ar_aload_n i_71_212 rfl ?_
  refine ar_iload_n i_71_213 rfl ?_
  refine ar_iconst i_71_214 ?_
  refine ar_iadd i_71_215 ?_
  obtain ⟨v2, g_v2, F⟩ := F
  refine ar_iald i_71_216 g_v2 ?_
  refine ar_aload_n i_71_217 rfl ?_
  refine ar_iload_n i_71_218 rfl ?_
  refine ar_iconst i_71_219 ?_
  refine ar_iadd i_71_220 ?_
  obtain ⟨v3, g_v3, F⟩ := F
  refine ar_iald i_71_221 g_v3 ?_
  refine ar_i2l i_71_222 ?_
  refine ar_bipush i_71_223 ?_
  refine ar_lshl i_71_225 ?_
  refine ar_aload_n i_71_226 rfl ?_
  refine ar_iload_n i_71_227 rfl ?_
  refine ar_iconst i_71_228 ?_
  refine ar_iadd i_71_229 ?_
  obtain ⟨v4, g_v4, F⟩ := F
  refine ar_iald i_71_230 g_v4 ?_
  refine ar_i2l i_71_231 ?_
  refine ar_ldc2_w i_71_232 ?_
  refine ar_land i_71_235 ?_
  refine ar_lor i_71_236 ?_
  exact ar_callV i_71_237 rfl rfl F.1 (Nat.le_of_ble_eq_true rfl) (Nat.le_of_ble_eq_true rfl) F.2
theorem B71_240 {a0 : Nat} {a1 : Nat} {a2 : Nat} {x3 : Int32} {y1 : Int32} {y0 : Int32} {h : am_H} {Q : am_H → Option Value → Prop} (F : ((y0 = y1 → am_Run (71, 707, [some (.ref a0), some (.ref a1), some (.ref a2), some (.int x3)], [], h) Q) ∧ (¬ y0 = y1 → Q h (some (.int 0))))) : am_Run (71, 240, [some (.ref a0), some (.ref a1), some (.ref a2), some (.int x3)], [.int y1, .int y0], h) Q := by
  refine ar_icmp_eq i_71_240 (fun q => ?_) (fun q => ?_)
  · replace F := F.1 q
    exact F
  · replace F := F.2 q
    refine ar_iconst i_71_243 ?_
    exact ar_iret i_71_244 rfl F
theorem B71_264 {a0 : Nat} {a1 : Nat} {a2 : Nat} {x3 : Int32} {y0 : Int32} {h : am_H} {Q : am_H → Option Value → Prop} (F : (∃ v1 : Int32, am_ai h a0 (x3 + 1) v1 ∧ (∃ v2 : Int32, am_ai h a0 (x3 + 2) v2 ∧ (∃ v3 : Int32, am_ai h a0 (x3 + 3) v3 ∧ (am_is h a2 5 ∧ am_Run (am_in 52 [.ref a2, .int v1, .int v2, .int v3] h) (fun h1 v => am_Run (am_bk (71, 283, [some (.ref a0), some (.ref a1), some (.ref a2), some (.int x3)], [.int y0], h) h1 v) Q)))))) : am_Run (71, 264, [some (.ref a0), some (.ref a1), some (.ref a2), some (.int x3)], [.int y0], h) Q := by
  refine ar_aload_n i_71_264 rfl ?_
  refine ar_aload_n i_71_265 rfl ?_
  refine ar_iload_n i_71_266 rfl ?_
  refine ar_iconst i_71_267 ?_
  refine ar_iadd i_71_268 ?_
  obtain ⟨v1, g_v1, F⟩ := F
  refine ar_iald i_71_269 g_v1 ?_
  refine ar_aload_n i_71_270 rfl ?_
  refine ar_iload_n i_71_271 rfl ?_
  refine ar_iconst i_71_272 ?_
  refine ar_iadd i_71_273 ?_
  obtain ⟨v2, g_v2, F⟩ := F
  refine ar_iald i_71_274 g_v2 ?_
  refine ar_aload_n i_71_275 rfl ?_
  refine ar_iload_n i_71_276 rfl ?_
  refine ar_iconst i_71_277 ?_
  refine ar_iadd i_71_278 ?_
  obtain ⟨v3, g_v3, F⟩ := F
  refine ar_iald i_71_279 g_v3 ?_
  exact ar_callV i_71_280 rfl rfl F.1 (Nat.le_of_ble_eq_true rfl) (Nat.le_of_ble_eq_true rfl) F.2
theorem B71_283 {a0 : Nat} {a1 : Nat} {a2 : Nat} {x3 : Int32} {y1 : Int32} {y0 : Int32} {h : am_H} {Q : am_H → Option Value → Prop} (F : ((y0 = y1 → am_Run (71, 707, [some (.ref a0), some (.ref a1), some (.ref a2), some (.int x3)], [], h) Q) ∧ (¬ y0 = y1 → Q h (some (.int 0))))) : am_Run (71, 283, [some (.ref a0), some (.ref a1), some (.ref a2), some (.int x3)], [.int y1, .int y0], h) Q := by
  refine ar_icmp_eq i_71_283 (fun q => ?_) (fun q => ?_)
  · replace F := F.1 q
    exact F
  · replace F := F.2 q
    refine ar_iconst i_71_286 ?_
    exact ar_iret i_71_287 rfl F
theorem B71_302 {a0 : Nat} {a1 : Nat} {a2 : Nat} {x3 : Int32} {y0 : Int32} {h : am_H} {Q : am_H → Option Value → Prop} (F : (∃ v1 : Int32, am_ai h a0 (x3 + 1) v1 ∧ (∃ v2 : Int32, am_ai h a0 (x3 + 2) v2 ∧ (am_is h a2 5 ∧ am_Run (am_in 53 [.ref a2, .int v1, .int v2] h) (fun h1 v => am_Run (am_bk (71, 316, [some (.ref a0), some (.ref a1), some (.ref a2), some (.int x3)], [.int y0], h) h1 v) Q))))) : am_Run (71, 302, [some (.ref a0), some (.ref a1), some (.ref a2), some (.int x3)], [.int y0], h) Q := by
  refine ar_aload_n i_71_302 rfl ?_
  refine ar_aload_n i_71_303 rfl ?_
  refine ar_iload_n i_71_304 rfl ?_
  refine ar_iconst i_71_305 ?_
  refine ar_iadd i_71_306 ?_
  obtain ⟨v1, g_v1, F⟩ := F
  refine ar_iald i_71_307 g_v1 ?_
  refine ar_aload_n i_71_308 rfl ?_
  refine ar_iload_n i_71_309 rfl ?_
  refine ar_iconst i_71_310 ?_
  refine ar_iadd i_71_311 ?_
  obtain ⟨v2, g_v2, F⟩ := F
  refine ar_iald i_71_312 g_v2 ?_
  exact ar_callV i_71_313 rfl rfl F.1 (Nat.le_of_ble_eq_true rfl) (Nat.le_of_ble_eq_true rfl) F.2
theorem B71_316 {a0 : Nat} {a1 : Nat} {a2 : Nat} {x3 : Int32} {y1 : Int32} {y0 : Int32} {h : am_H} {Q : am_H → Option Value → Prop} (F : ((y0 = y1 → am_Run (71, 707, [some (.ref a0), some (.ref a1), some (.ref a2), some (.int x3)], [], h) Q) ∧ (¬ y0 = y1 → Q h (some (.int 0))))) : am_Run (71, 316, [some (.ref a0), some (.ref a1), some (.ref a2), some (.int x3)], [.int y1, .int y0], h) Q := by
  refine ar_icmp_eq i_71_316 (fun q => ?_) (fun q => ?_)
  · replace F := F.1 q
    exact F
  · replace F := F.2 q
    refine ar_iconst i_71_319 ?_
    exact ar_iret i_71_320 rfl F
theorem B71_340 {a0 : Nat} {a1 : Nat} {a2 : Nat} {x3 : Int32} {y0 : Int32} {h : am_H} {Q : am_H → Option Value → Prop} (F : (∃ v1 : Int32, am_ai h a0 (x3 + 1) v1 ∧ (∃ v2 : Int32, am_ai h a0 (x3 + 2) v2 ∧ (∃ v3 : Int32, am_ai h a0 (x3 + 3) v3 ∧ (am_is h a2 5 ∧ am_Run (am_in 54 [.ref a2, .int v1, .int v2, .int v3] h) (fun h1 v => am_Run (am_bk (71, 359, [some (.ref a0), some (.ref a1), some (.ref a2), some (.int x3)], [.int y0], h) h1 v) Q)))))) : am_Run (71, 340, [some (.ref a0), some (.ref a1), some (.ref a2), some (.int x3)], [.int y0], h) Q := by
  refine ar_aload_n i_71_340 rfl ?_
  refine ar_aload_n i_71_341 rfl ?_
  refine ar_iload_n i_71_342 rfl ?_
  refine ar_iconst i_71_343 ?_
  refine ar_iadd i_71_344 ?_
  obtain ⟨v1, g_v1, F⟩ := F
  refine ar_iald i_71_345 g_v1 ?_
  refine ar_aload_n i_71_346 rfl ?_
  refine ar_iload_n i_71_347 rfl ?_
  refine ar_iconst i_71_348 ?_
  refine ar_iadd i_71_349 ?_
  obtain ⟨v2, g_v2, F⟩ := F
  refine ar_iald i_71_350 g_v2 ?_
  refine ar_aload_n i_71_351 rfl ?_
  refine ar_iload_n i_71_352 rfl ?_
  refine ar_iconst i_71_353 ?_
  refine ar_iadd i_71_354 ?_
  obtain ⟨v3, g_v3, F⟩ := F
  refine ar_iald i_71_355 g_v3 ?_
  exact ar_callV i_71_356 rfl rfl F.1 (Nat.le_of_ble_eq_true rfl) (Nat.le_of_ble_eq_true rfl) F.2
theorem B71_359 {a0 : Nat} {a1 : Nat} {a2 : Nat} {x3 : Int32} {y1 : Int32} {y0 : Int32} {h : am_H} {Q : am_H → Option Value → Prop} (F : ((y0 = y1 → am_Run (71, 707, [some (.ref a0), some (.ref a1), some (.ref a2), some (.int x3)], [], h) Q) ∧ (¬ y0 = y1 → Q h (some (.int 0))))) : am_Run (71, 359, [some (.ref a0), some (.ref a1), some (.ref a2), some (.int x3)], [.int y1, .int y0], h) Q := by
  refine ar_icmp_eq i_71_359 (fun q => ?_) (fun q => ?_)
  · replace F := F.1 q
    exact F
  · replace F := F.2 q
    refine ar_iconst i_71_362 ?_
    exact ar_iret i_71_363 rfl F
theorem B71_373 {a0 : Nat} {a1 : Nat} {a2 : Nat} {x3 : Int32} {y0 : Int32} {h : am_H} {Q : am_H → Option Value → Prop} (F : (∃ v1 : Int32, am_ai h a0 (x3 + 1) v1 ∧ (am_is h a2 5 ∧ am_Run (am_in 60 [.ref a2, .int v1] h) (fun h1 v => am_Run (am_bk (71, 382, [some (.ref a0), some (.ref a1), some (.ref a2), some (.int x3)], [.int y0], h) h1 v) Q)))) : am_Run (71, 373, [some (.ref a0), some (.ref a1), some (.ref a2), some (.int x3)], [.int y0], h) Q := by
  refine ar_aload_n i_71_373 rfl ?_
  refine ar_aload_n i_71_374 rfl ?_
  refine ar_iload_n i_71_375 rfl ?_
  refine ar_iconst i_71_376 ?_
  refine ar_iadd i_71_377 ?_
  obtain ⟨v1, g_v1, F⟩ := F
  refine ar_iald i_71_378 g_v1 ?_
  exact ar_callV i_71_379 rfl rfl F.1 (Nat.le_of_ble_eq_true rfl) (Nat.le_of_ble_eq_true rfl) F.2
theorem B71_382 {a0 : Nat} {a1 : Nat} {a2 : Nat} {x3 : Int32} {y1 : Int32} {y0 : Int32} {h : am_H} {Q : am_H → Option Value → Prop} (F : ((y0 = y1 → am_Run (71, 707, [some (.ref a0), some (.ref a1), some (.ref a2), some (.int x3)], [], h) Q) ∧ (¬ y0 = y1 → Q h (some (.int 0))))) : am_Run (71, 382, [some (.ref a0), some (.ref a1), some (.ref a2), some (.int x3)], [.int y1, .int y0], h) Q := by
  refine ar_icmp_eq i_71_382 (fun q => ?_) (fun q => ?_)
  · replace F := F.1 q
    exact F
  · replace F := F.2 q
    refine ar_iconst i_71_385 ?_
    exact ar_iret i_71_386 rfl F
theorem B71_401 {a0 : Nat} {a1 : Nat} {a2 : Nat} {x3 : Int32} {y0 : Int32} {h : am_H} {Q : am_H → Option Value → Prop} (F : (∃ v1 : Int32, am_ai h a0 (x3 + 1) v1 ∧ (∃ v2 : Int32, am_ai h a0 (x3 + 2) v2 ∧ (am_is h a2 5 ∧ am_Run (am_in 56 [.ref a2, .int v1, .int v2] h) (fun h1 v => am_Run (am_bk (71, 415, [some (.ref a0), some (.ref a1), some (.ref a2), some (.int x3)], [.int y0], h) h1 v) Q))))) : am_Run (71, 401, [some (.ref a0), some (.ref a1), some (.ref a2), some (.int x3)], [.int y0], h) Q := by
  refine ar_aload_n i_71_401 rfl ?_
  refine ar_aload_n i_71_402 rfl ?_
  refine ar_iload_n i_71_403 rfl ?_
  refine ar_iconst i_71_404 ?_
  refine ar_iadd i_71_405 ?_
  obtain ⟨v1, g_v1, F⟩ := F
  refine ar_iald i_71_406 g_v1 ?_
  refine ar_aload_n i_71_407 rfl ?_
  refine ar_iload_n i_71_408 rfl ?_
  refine ar_iconst i_71_409 ?_
  refine ar_iadd i_71_410 ?_
  obtain ⟨v2, g_v2, F⟩ := F
  refine ar_iald i_71_411 g_v2 ?_
  exact ar_callV i_71_412 rfl rfl F.1 (Nat.le_of_ble_eq_true rfl) (Nat.le_of_ble_eq_true rfl) F.2
theorem B71_415 {a0 : Nat} {a1 : Nat} {a2 : Nat} {x3 : Int32} {y1 : Int32} {y0 : Int32} {h : am_H} {Q : am_H → Option Value → Prop} (F : ((y0 = y1 → am_Run (71, 707, [some (.ref a0), some (.ref a1), some (.ref a2), some (.int x3)], [], h) Q) ∧ (¬ y0 = y1 → Q h (some (.int 0))))) : am_Run (71, 415, [some (.ref a0), some (.ref a1), some (.ref a2), some (.int x3)], [.int y1, .int y0], h) Q := by
  refine ar_icmp_eq i_71_415 (fun q => ?_) (fun q => ?_)
  · replace F := F.1 q
    exact F
  · replace F := F.2 q
    refine ar_iconst i_71_418 ?_
    exact ar_iret i_71_419 rfl F
theorem B71_434 {a0 : Nat} {a1 : Nat} {a2 : Nat} {x3 : Int32} {y0 : Int32} {h : am_H} {Q : am_H → Option Value → Prop} (F : (∃ v1 : Int32, am_ai h a0 (x3 + 1) v1 ∧ (∃ v2 : Int32, am_ai h a0 (x3 + 2) v2 ∧ (am_is h a2 5 ∧ am_Run (am_in 50 [.ref a2, .int v1, .int v2] h) (fun h1 v => am_Run (am_bk (71, 448, [some (.ref a0), some (.ref a1), some (.ref a2), some (.int x3)], [.int y0], h) h1 v) Q))))) : am_Run (71, 434, [some (.ref a0), some (.ref a1), some (.ref a2), some (.int x3)], [.int y0], h) Q := by
  refine ar_aload_n i_71_434 rfl ?_
  refine ar_aload_n i_71_435 rfl ?_
  refine ar_iload_n i_71_436 rfl ?_
  refine ar_iconst i_71_437 ?_
  refine ar_iadd i_71_438 ?_
  obtain ⟨v1, g_v1, F⟩ := F
  refine ar_iald i_71_439 g_v1 ?_
  refine ar_aload_n i_71_440 rfl ?_
  refine ar_iload_n i_71_441 rfl ?_
  refine ar_iconst i_71_442 ?_
  refine ar_iadd i_71_443 ?_
  obtain ⟨v2, g_v2, F⟩ := F
  refine ar_iald i_71_444 g_v2 ?_
  exact ar_callV i_71_445 rfl rfl F.1 (Nat.le_of_ble_eq_true rfl) (Nat.le_of_ble_eq_true rfl) F.2
theorem B71_448 {a0 : Nat} {a1 : Nat} {a2 : Nat} {x3 : Int32} {y1 : Int32} {y0 : Int32} {h : am_H} {Q : am_H → Option Value → Prop} (F : ((y0 = y1 → am_Run (71, 707, [some (.ref a0), some (.ref a1), some (.ref a2), some (.int x3)], [], h) Q) ∧ (¬ y0 = y1 → Q h (some (.int 0))))) : am_Run (71, 448, [some (.ref a0), some (.ref a1), some (.ref a2), some (.int x3)], [.int y1, .int y0], h) Q := by
  refine ar_icmp_eq i_71_448 (fun q => ?_) (fun q => ?_)
  · replace F := F.1 q
    exact F
  · replace F := F.2 q
    refine ar_iconst i_71_451 ?_
    exact ar_iret i_71_452 rfl F
theorem B71_477 {a0 : Nat} {a1 : Nat} {a2 : Nat} {x3 : Int32} {y0 : Int32} {h : am_H} {Q : am_H → Option Value → Prop} (F : (∃ v1 : Int32, am_ai h a0 (x3 + 1) v1 ∧ (∃ v2 : Int32, am_ai h a0 (x3 + 2) v2 ∧ (am_is h a2 5 ∧ am_Run (am_in 49 [.ref a2, .long ((v1.toInt64 <<< ((32 : Int32).toInt64 &&& 63)) ||| (v2.toInt64 &&& 4294967295))] h) (fun h1 v => am_Run (am_bk (71, 501, [some (.ref a0), some (.ref a1), some (.ref a2), some (.int x3)], [.int y0], h) h1 v) Q))))) : am_Run (71, 477, [some (.ref a0), some (.ref a1), some (.ref a2), some (.int x3)], [.int y0], h) Q := by
  refine ar_aload_n i_71_477 rfl ?_
  refine ar_aload_n i_71_478 rfl ?_
  refine ar_iload_n i_71_479 rfl ?_
  refine ar_iconst i_71_480 ?_
  refine ar_iadd i_71_481 ?_
  obtain ⟨v1, g_v1, F⟩ := F
  refine ar_iald i_71_482 g_v1 ?_
  refine ar_i2l i_71_483 ?_
  refine ar_bipush i_71_484 ?_
  refine ar_lshl i_71_486 ?_
  refine ar_aload_n i_71_487 rfl ?_
  refine ar_iload_n i_71_488 rfl ?_
  refine ar_iconst i_71_489 ?_
  refine ar_iadd i_71_490 ?_
  obtain ⟨v2, g_v2, F⟩ := F
  refine ar_iald i_71_491 g_v2 ?_
  refine ar_i2l i_71_492 ?_
  refine ar_ldc2_w i_71_493 ?_
  refine ar_land i_71_496 ?_
  refine ar_lor i_71_497 ?_
  exact ar_callV i_71_498 rfl rfl F.1 (Nat.le_of_ble_eq_true rfl) (Nat.le_of_ble_eq_true rfl) F.2
theorem B71_501 {a0 : Nat} {a1 : Nat} {a2 : Nat} {x3 : Int32} {y1 : Int32} {y0 : Int32} {h : am_H} {Q : am_H → Option Value → Prop} (F : ((y0 = y1 → am_Run (71, 707, [some (.ref a0), some (.ref a1), some (.ref a2), some (.int x3)], [], h) Q) ∧ (¬ y0 = y1 → Q h (some (.int 0))))) : am_Run (71, 501, [some (.ref a0), some (.ref a1), some (.ref a2), some (.int x3)], [.int y1, .int y0], h) Q := by
  refine ar_icmp_eq i_71_501 (fun q => ?_) (fun q => ?_)
  · replace F := F.1 q
    exact F
  · replace F := F.2 q
    refine ar_iconst i_71_504 ?_
    exact ar_iret i_71_505 rfl F
theorem B71_515 {a0 : Nat} {a1 : Nat} {a2 : Nat} {x3 : Int32} {y0 : Int32} {h : am_H} {Q : am_H → Option Value → Prop} (F : (∃ v1 : Int32, am_ai h a0 (x3 + 1) v1 ∧ (am_is h a2 5 ∧ am_Run (am_in 55 [.ref a2, .int v1] h) (fun h1 v => am_Run (am_bk (71, 524, [some (.ref a0), some (.ref a1), some (.ref a2), some (.int x3)], [.int y0], h) h1 v) Q)))) : am_Run (71, 515, [some (.ref a0), some (.ref a1), some (.ref a2), some (.int x3)], [.int y0], h) Q := by
  refine ar_aload_n i_71_515 rfl ?_
  refine ar_aload_n i_71_516 rfl ?_
  refine ar_iload_n i_71_517 rfl ?_
  refine ar_iconst i_71_518 ?_
  refine ar_iadd i_71_519 ?_
  obtain ⟨v1, g_v1, F⟩ := F
  refine ar_iald i_71_520 g_v1 ?_
  exact ar_callV i_71_521 rfl rfl F.1 (Nat.le_of_ble_eq_true rfl) (Nat.le_of_ble_eq_true rfl) F.2
theorem B71_524 {a0 : Nat} {a1 : Nat} {a2 : Nat} {x3 : Int32} {y1 : Int32} {y0 : Int32} {h : am_H} {Q : am_H → Option Value → Prop} (F : ((y0 = y1 → am_Run (71, 707, [some (.ref a0), some (.ref a1), some (.ref a2), some (.int x3)], [], h) Q) ∧ (¬ y0 = y1 → Q h (some (.int 0))))) : am_Run (71, 524, [some (.ref a0), some (.ref a1), some (.ref a2), some (.int x3)], [.int y1, .int y0], h) Q := by
  refine ar_icmp_eq i_71_524 (fun q => ?_) (fun q => ?_)
  · replace F := F.1 q
    exact F
  · replace F := F.2 q
    refine ar_iconst i_71_527 ?_
    exact ar_iret i_71_528 rfl F
theorem B71_548 {a0 : Nat} {a1 : Nat} {a2 : Nat} {x3 : Int32} {y0 : Int32} {h : am_H} {Q : am_H → Option Value → Prop} (F : (∃ v1 : Int32, am_ai h a0 (x3 + 1) v1 ∧ (∃ v2 : Int32, am_ai h a0 (x3 + 2) v2 ∧ (∃ v3 : Int32, am_ai h a0 (x3 + 3) v3 ∧ (am_is h a2 5 ∧ am_Run (am_in 58 [.ref a2, .int v1, .int v2, .int v3] h) (fun h1 v => am_Run (am_bk (71, 567, [some (.ref a0), some (.ref a1), some (.ref a2), some (.int x3)], [.int y0], h) h1 v) Q)))))) : am_Run (71, 548, [some (.ref a0), some (.ref a1), some (.ref a2), some (.int x3)], [.int y0], h) Q := by
  refine ar_aload_n i_71_548 rfl ?_
  refine ar_aload_n i_71_549 rfl ?_
  refine ar_iload_n i_71_550 rfl ?_
  refine ar_iconst i_71_551 ?_
  refine ar_iadd i_71_552 ?_
  obtain ⟨v1, g_v1, F⟩ := F
  refine ar_iald i_71_553 g_v1 ?_
  refine ar_aload_n i_71_554 rfl ?_
  refine ar_iload_n i_71_555 rfl ?_
  refine ar_iconst i_71_556 ?_
  refine ar_iadd i_71_557 ?_
  obtain ⟨v2, g_v2, F⟩ := F
  refine ar_iald i_71_558 g_v2 ?_
  refine ar_aload_n i_71_559 rfl ?_
  refine ar_iload_n i_71_560 rfl ?_
  refine ar_iconst i_71_561 ?_
  refine ar_iadd i_71_562 ?_
  obtain ⟨v3, g_v3, F⟩ := F
  refine ar_iald i_71_563 g_v3 ?_
  exact ar_callV i_71_564 rfl rfl F.1 (Nat.le_of_ble_eq_true rfl) (Nat.le_of_ble_eq_true rfl) F.2
theorem B71_567 {a0 : Nat} {a1 : Nat} {a2 : Nat} {x3 : Int32} {y1 : Int32} {y0 : Int32} {h : am_H} {Q : am_H → Option Value → Prop} (F : ((y0 = y1 → am_Run (71, 707, [some (.ref a0), some (.ref a1), some (.ref a2), some (.int x3)], [], h) Q) ∧ (¬ y0 = y1 → Q h (some (.int 0))))) : am_Run (71, 567, [some (.ref a0), some (.ref a1), some (.ref a2), some (.int x3)], [.int y1, .int y0], h) Q := by
  refine ar_icmp_eq i_71_567 (fun q => ?_) (fun q => ?_)
  · replace F := F.1 q
    exact F
  · replace F := F.2 q
    refine ar_iconst i_71_570 ?_
    exact ar_iret i_71_571 rfl F
theorem B71_586 {a0 : Nat} {a1 : Nat} {a2 : Nat} {x3 : Int32} {y0 : Int32} {h : am_H} {Q : am_H → Option Value → Prop} (F : (∃ v1 : Int32, am_ai h a0 (x3 + 1) v1 ∧ (∃ v2 : Int32, am_ai h a0 (x3 + 2) v2 ∧ (am_is h a2 5 ∧ am_Run (am_in 59 [.ref a2, .int v1, .int v2] h) (fun h1 v => am_Run (am_bk (71, 600, [some (.ref a0), some (.ref a1), some (.ref a2), some (.int x3)], [.int y0], h) h1 v) Q))))) : am_Run (71, 586, [some (.ref a0), some (.ref a1), some (.ref a2), some (.int x3)], [.int y0], h) Q := by
  refine ar_aload_n i_71_586 rfl ?_
  refine ar_aload_n i_71_587 rfl ?_
  refine ar_iload_n i_71_588 rfl ?_
  refine ar_iconst i_71_589 ?_
  refine ar_iadd i_71_590 ?_
  obtain ⟨v1, g_v1, F⟩ := F
  refine ar_iald i_71_591 g_v1 ?_
  refine ar_aload_n i_71_592 rfl ?_
  refine ar_iload_n i_71_593 rfl ?_
  refine ar_iconst i_71_594 ?_
  refine ar_iadd i_71_595 ?_
  obtain ⟨v2, g_v2, F⟩ := F
  refine ar_iald i_71_596 g_v2 ?_
  exact ar_callV i_71_597 rfl rfl F.1 (Nat.le_of_ble_eq_true rfl) (Nat.le_of_ble_eq_true rfl) F.2
theorem B71_600 {a0 : Nat} {a1 : Nat} {a2 : Nat} {x3 : Int32} {y1 : Int32} {y0 : Int32} {h : am_H} {Q : am_H → Option Value → Prop} (F : ((y0 = y1 → am_Run (71, 707, [some (.ref a0), some (.ref a1), some (.ref a2), some (.int x3)], [], h) Q) ∧ (¬ y0 = y1 → Q h (some (.int 0))))) : am_Run (71, 600, [some (.ref a0), some (.ref a1), some (.ref a2), some (.int x3)], [.int y1, .int y0], h) Q := by
  refine ar_icmp_eq i_71_600 (fun q => ?_) (fun q => ?_)
  · replace F := F.1 q
    exact F
  · replace F := F.2 q
    refine ar_iconst i_71_603 ?_
    exact ar_iret i_71_604 rfl F
theorem B71_614 {a0 : Nat} {a1 : Nat} {a2 : Nat} {x3 : Int32} {y0 : Int32} {h : am_H} {Q : am_H → Option Value → Prop} (F : (∃ v1 : Int32, am_ai h a0 (x3 + 1) v1 ∧ (am_is h a2 5 ∧ am_Run (am_in 61 [.ref a2, .int v1] h) (fun h1 v => am_Run (am_bk (71, 623, [some (.ref a0), some (.ref a1), some (.ref a2), some (.int x3)], [.int y0], h) h1 v) Q)))) : am_Run (71, 614, [some (.ref a0), some (.ref a1), some (.ref a2), some (.int x3)], [.int y0], h) Q := by
  refine ar_aload_n i_71_614 rfl ?_
  refine ar_aload_n i_71_615 rfl ?_
  refine ar_iload_n i_71_616 rfl ?_
  refine ar_iconst i_71_617 ?_
  refine ar_iadd i_71_618 ?_
  obtain ⟨v1, g_v1, F⟩ := F
  refine ar_iald i_71_619 g_v1 ?_
  exact ar_callV i_71_620 rfl rfl F.1 (Nat.le_of_ble_eq_true rfl) (Nat.le_of_ble_eq_true rfl) F.2
theorem B71_623 {a0 : Nat} {a1 : Nat} {a2 : Nat} {x3 : Int32} {y1 : Int32} {y0 : Int32} {h : am_H} {Q : am_H → Option Value → Prop} (F : ((y0 = y1 → am_Run (71, 707, [some (.ref a0), some (.ref a1), some (.ref a2), some (.int x3)], [], h) Q) ∧ (¬ y0 = y1 → Q h (some (.int 0))))) : am_Run (71, 623, [some (.ref a0), some (.ref a1), some (.ref a2), some (.int x3)], [.int y1, .int y0], h) Q := by
  refine ar_icmp_eq i_71_623 (fun q => ?_) (fun q => ?_)
  · replace F := F.1 q
    exact F
  · replace F := F.2 q
    refine ar_iconst i_71_626 ?_
    exact ar_iret i_71_627 rfl F
theorem B71_642 {a0 : Nat} {a1 : Nat} {a2 : Nat} {x3 : Int32} {y0 : Int32} {h : am_H} {Q : am_H → Option Value → Prop} (F : (∃ v1 : Int32, am_ai h a0 (x3 + 1) v1 ∧ (∃ v2 : Int32, am_ai h a0 (x3 + 2) v2 ∧ (am_is h a2 5 ∧ am_Run (am_in 62 [.ref a2, .int v1, .int v2] h) (fun h1 v => am_Run (am_bk (71, 656, [some (.ref a0), some (.ref a1), some (.ref a2), some (.int x3)], [.int y0], h) h1 v) Q))))) : am_Run (71, 642, [some (.ref a0), some (.ref a1), some (.ref a2), some (.int x3)], [.int y0], h) Q := by
  refine ar_aload_n i_71_642 rfl ?_
  refine ar_aload_n i_71_643 rfl ?_
  refine ar_iload_n i_71_644 rfl ?_
  refine ar_iconst i_71_645 ?_
  refine ar_iadd i_71_646 ?_
  obtain ⟨v1, g_v1, F⟩ := F
  refine ar_iald i_71_647 g_v1 ?_
  refine ar_aload_n i_71_648 rfl ?_
  refine ar_iload_n i_71_649 rfl ?_
  refine ar_iconst i_71_650 ?_
  refine ar_iadd i_71_651 ?_
  obtain ⟨v2, g_v2, F⟩ := F
  refine ar_iald i_71_652 g_v2 ?_
  exact ar_callV i_71_653 rfl rfl F.1 (Nat.le_of_ble_eq_true rfl) (Nat.le_of_ble_eq_true rfl) F.2
theorem B71_656 {a0 : Nat} {a1 : Nat} {a2 : Nat} {x3 : Int32} {y1 : Int32} {y0 : Int32} {h : am_H} {Q : am_H → Option Value → Prop} (F : ((y0 = y1 → am_Run (71, 707, [some (.ref a0), some (.ref a1), some (.ref a2), some (.int x3)], [], h) Q) ∧ (¬ y0 = y1 → Q h (some (.int 0))))) : am_Run (71, 656, [some (.ref a0), some (.ref a1), some (.ref a2), some (.int x3)], [.int y1, .int y0], h) Q := by
  refine ar_icmp_eq i_71_656 (fun q => ?_) (fun q => ?_)
  · replace F := F.1 q
    exact F
  · replace F := F.2 q
    refine ar_iconst i_71_659 ?_
    exact ar_iret i_71_660 rfl F
theorem B71_670 {a0 : Nat} {a1 : Nat} {a2 : Nat} {x3 : Int32} {y0 : Int32} {h : am_H} {Q : am_H → Option Value → Prop} (F : (∃ v1 : Int32, am_ai h a0 (x3 + 1) v1 ∧ (am_is h a2 5 ∧ am_Run (am_in 63 [.ref a2, .int v1] h) (fun h1 v => am_Run (am_bk (71, 679, [some (.ref a0), some (.ref a1), some (.ref a2), some (.int x3)], [.int y0], h) h1 v) Q)))) : am_Run (71, 670, [some (.ref a0), some (.ref a1), some (.ref a2), some (.int x3)], [.int y0], h) Q := by
  refine ar_aload_n i_71_670 rfl ?_
  refine ar_aload_n i_71_671 rfl ?_
  refine ar_iload_n i_71_672 rfl ?_
  refine ar_iconst i_71_673 ?_
  refine ar_iadd i_71_674 ?_
  obtain ⟨v1, g_v1, F⟩ := F
  refine ar_iald i_71_675 g_v1 ?_
  exact ar_callV i_71_676 rfl rfl F.1 (Nat.le_of_ble_eq_true rfl) (Nat.le_of_ble_eq_true rfl) F.2
theorem B71_679 {a0 : Nat} {a1 : Nat} {a2 : Nat} {x3 : Int32} {y1 : Int32} {y0 : Int32} {h : am_H} {Q : am_H → Option Value → Prop} (F : ((y0 = y1 → am_Run (71, 707, [some (.ref a0), some (.ref a1), some (.ref a2), some (.int x3)], [], h) Q) ∧ (¬ y0 = y1 → Q h (some (.int 0))))) : am_Run (71, 679, [some (.ref a0), some (.ref a1), some (.ref a2), some (.int x3)], [.int y1, .int y0], h) Q := by
  refine ar_icmp_eq i_71_679 (fun q => ?_) (fun q => ?_)
  · replace F := F.1 q
    exact F
  · replace F := F.2 q
    refine ar_iconst i_71_682 ?_
    exact ar_iret i_71_683 rfl F
theorem B71_693 {a0 : Nat} {a1 : Nat} {a2 : Nat} {x3 : Int32} {y0 : Int32} {h : am_H} {Q : am_H → Option Value → Prop} (F : (∃ v1 : Int32, am_ai h a0 (x3 + 1) v1 ∧ (am_is h a2 5 ∧ am_Run (am_in 64 [.ref a2, .int v1] h) (fun h1 v => am_Run (am_bk (71, 702, [some (.ref a0), some (.ref a1), some (.ref a2), some (.int x3)], [.int y0], h) h1 v) Q)))) : am_Run (71, 693, [some (.ref a0), some (.ref a1), some (.ref a2), some (.int x3)], [.int y0], h) Q := by
  refine ar_aload_n i_71_693 rfl ?_
  refine ar_aload_n i_71_694 rfl ?_
  refine ar_iload_n i_71_695 rfl ?_
  refine ar_iconst i_71_696 ?_
  refine ar_iadd i_71_697 ?_
  obtain ⟨v1, g_v1, F⟩ := F
  refine ar_iald i_71_698 g_v1 ?_
  exact ar_callV i_71_699 rfl rfl F.1 (Nat.le_of_ble_eq_true rfl) (Nat.le_of_ble_eq_true rfl) F.2
theorem B71_702 {a0 : Nat} {a1 : Nat} {a2 : Nat} {x3 : Int32} {y1 : Int32} {y0 : Int32} {h : am_H} {Q : am_H → Option Value → Prop} (F : ((y0 = y1 → am_Run (71, 707, [some (.ref a0), some (.ref a1), some (.ref a2), some (.int x3)], [], h) Q) ∧ (¬ y0 = y1 → Q h (some (.int 0))))) : am_Run (71, 702, [some (.ref a0), some (.ref a1), some (.ref a2), some (.int x3)], [.int y1, .int y0], h) Q := by
  refine ar_icmp_eq i_71_702 (fun q => ?_) (fun q => ?_)
  · replace F := F.1 q
    exact F
  · replace F := F.2 q
    refine ar_iconst i_71_705 ?_
    exact ar_iret i_71_706 rfl F
theorem B71_707 {a0 : Nat} {a1 : Nat} {a2 : Nat} {x3 : Int32} {h : am_H} {Q : am_H → Option Value → Prop} (F : am_Run (71, 18, [some (.ref a0), some (.ref a1), some (.ref a2), some (.int (x3 + 5))], [], h) Q) : am_Run (71, 707, [some (.ref a0), some (.ref a1), some (.ref a2), some (.int x3)], [], h) Q := by
  refine ar_iinc i_71_707 rfl rfl ?_
  refine ar_goto i_71_710 ?_
  exact F
