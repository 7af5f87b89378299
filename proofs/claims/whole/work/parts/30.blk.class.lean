theorem B0_0 {a0 : Nat} {h : am_H} {Q : am_H → Option Value → Prop} (F : am_Run (0, 10, [some (.ref a0), none], [.ref h.2.1, .ref a0], (am_new h (102, List.replicate (60 : Int32).toNatClampNeg .null) (60 : Int32).toNatClampNeg)) Q) : am_Run (0, 0, [some (.ref a0), none], [], h) Q := by
  refine ar_aload_n i_0_0 rfl ?_
  refine ar_obj i_0_1 (Nat.le_of_ble_eq_true rfl) ?_
  refine ar_aload_n i_0_4 rfl ?_
  refine ar_bipush i_0_5 ?_
  exact ar_anew i_0_7 (by decide) F
theorem B0_10 {a0 : Nat} {b1 : Nat} {b0 : Nat} {h : am_H} {Q : am_H → Option Value → Prop} (F : am_wf h b0 0 0 (.ref b1) (fun h1 => am_Run (0, 13, [some (.ref a0), none], [], h1) Q)) : am_Run (0, 10, [some (.ref a0), none], [.ref b1, .ref b0], h) Q := by
  exact ar_put i_0_10 rfl F
theorem B0_13 {a0 : Nat} {h : am_H} {Q : am_H → Option Value → Prop} (F : am_Run (0, 19, [some (.ref a0), none], [.ref h.2.1, .ref a0], (am_new h (103, List.replicate (20 : Int32).toNatClampNeg .null) (20 : Int32).toNatClampNeg)) Q) : am_Run (0, 13, [some (.ref a0), none], [], h) Q := by
  refine ar_aload_n i_0_13 rfl ?_
  refine ar_bipush i_0_14 ?_
  exact ar_anew i_0_16 (by decide) F
theorem B0_19 {a0 : Nat} {b1 : Nat} {b0 : Nat} {h : am_H} {Q : am_H → Option Value → Prop} (F : am_wf h b0 0 1 (.ref b1) (fun h1 => am_Run (0, 22, [some (.ref a0), none], [], h1) Q)) : am_Run (0, 19, [some (.ref a0), none], [.ref b1, .ref b0], h) Q := by
  exact ar_put i_0_19 rfl F
theorem B0_22 {a0 : Nat} {h : am_H} {Q : am_H → Option Value → Prop} (F : am_Run (0, 29, [some (.ref a0), none], [.ref h.2.1, .ref a0], (am_new h (104, List.replicate (200 : Int32).toNatClampNeg .null) (200 : Int32).toNatClampNeg)) Q) : am_Run (0, 22, [some (.ref a0), none], [], h) Q := by
  refine ar_aload_n i_0_22 rfl ?_
  refine ar_sipush i_0_23 ?_
  exact ar_anew i_0_26 (by decide) F
theorem B0_29 {a0 : Nat} {b1 : Nat} {b0 : Nat} {h : am_H} {Q : am_H → Option Value → Prop} (F : am_wf h b0 0 2 (.ref b1) (fun h1 => am_Run (0, 32, [some (.ref a0), none], [], h1) Q)) : am_Run (0, 29, [some (.ref a0), none], [.ref b1, .ref b0], h) Q := by
  exact ar_put i_0_29 rfl F
theorem B0_32 {a0 : Nat} {h : am_H} {Q : am_H → Option Value → Prop} (F : am_Run (0, 37, [some (.ref a0), none], [.ref h.2.1, .ref a0], (am_new h (100, List.replicate (10 : Int32).toNatClampNeg (am_df 100)) (10 : Int32).toNatClampNeg)) Q) : am_Run (0, 32, [some (.ref a0), none], [], h) Q := by
  refine ar_aload_n i_0_32 rfl ?_
  refine ar_bipush i_0_33 ?_
  exact ar_newa i_0_35 (by decide) F
theorem B0_37 {a0 : Nat} {b1 : Nat} {b0 : Nat} {h : am_H} {Q : am_H → Option Value → Prop} (F : am_wf h b0 0 3 (.ref b1) (fun h1 => am_Run (0, 40, [some (.ref a0), none], [], h1) Q)) : am_Run (0, 37, [some (.ref a0), none], [.ref b1, .ref b0], h) Q := by
  exact ar_put i_0_37 rfl F
theorem B0_40 {a0 : Nat} {h : am_H} {Q : am_H → Option Value → Prop} (F : am_Run (0, 45, [some (.ref a0), none], [.ref h.2.1, .ref a0], (am_new h (100, List.replicate (10 : Int32).toNatClampNeg (am_df 100)) (10 : Int32).toNatClampNeg)) Q) : am_Run (0, 40, [some (.ref a0), none], [], h) Q := by
  refine ar_aload_n i_0_40 rfl ?_
  refine ar_bipush i_0_41 ?_
  exact ar_newa i_0_43 (by decide) F
theorem B0_45 {a0 : Nat} {b1 : Nat} {b0 : Nat} {h : am_H} {Q : am_H → Option Value → Prop} (F : am_wf h b0 0 4 (.ref b1) (fun h1 => am_Run (0, 48, [some (.ref a0), none], [], h1) Q)) : am_Run (0, 45, [some (.ref a0), none], [.ref b1, .ref b0], h) Q := by
  exact ar_put i_0_45 rfl F
theorem B0_48 {a0 : Nat} {h : am_H} {Q : am_H → Option Value → Prop} (F : am_Run (0, 50, [some (.ref a0), some (.int 0)], [], h) Q) : am_Run (0, 48, [some (.ref a0), none], [], h) Q := by
  refine ar_iconst i_0_48 ?_
  refine ar_istore_n i_0_49 rfl ?_
  exact F
theorem B0_50 {a0 : Nat} {x1 : Int32} {h : am_H} {Q : am_H → Option Value → Prop} (F : ((10 ≤ x1 → Q h none) ∧ (¬ 10 ≤ x1 → (∃ r1 : Nat, am_gr h a0 0 3 r1 ∧ am_wi h r1 x1 50 (fun h1 => am_Run (0, 64, [some (.ref a0), some (.int x1)], [], h1) Q))))) : am_Run (0, 50, [some (.ref a0), some (.int x1)], [], h) Q := by
  refine ar_iload_n i_0_50 rfl ?_
  refine ar_bipush i_0_51 ?_
  refine ar_icmp_ge i_0_53 (fun q => ?_) (fun q => ?_)
  · replace F := F.1 q
    exact ar_vret i_0_70 F
  · replace F := F.2 q
    refine ar_aload_n i_0_56 rfl ?_
    obtain ⟨r1, g_r1, F⟩ := F
    refine ar_getR i_0_57 g_r1 ?_
    refine ar_iload_n i_0_60 rfl ?_
    refine ar_bipush i_0_61 ?_
    exact ar_iast i_0_63 F
theorem B0_64 {a0 : Nat} {x1 : Int32} {h : am_H} {Q : am_H → Option Value → Prop} (F : am_Run (0, 50, [some (.ref a0), some (.int (x1 + 1))], [], h) Q) : am_Run (0, 64, [some (.ref a0), some (.int x1)], [], h) Q := by
  refine ar_iinc i_0_64 rfl rfl ?_
  refine ar_goto i_0_67 ?_
  exact F
theorem B1_0 {a0 : Nat} {x1 : Int32} {x2 : Int32} {x3 : Int32} {h : am_H} {Q : am_H → Option Value → Prop} (F : am_Run (am_in 22 [.int x1] h) (fun h1 v => am_Run (am_bk (1, 4, [some (.ref a0), some (.int x1), some (.int x2), some (.int x3)], [], h) h1 v) Q)) : am_Run (1, 0, [some (.ref a0), some (.int x1), some (.int x2), some (.int x3)], [], h) Q := by
  refine ar_iload_n i_1_0 rfl ?_
  exact ar_callS i_1_1 (Nat.le_of_ble_eq_true rfl) rfl rfl (Nat.le_of_ble_eq_true rfl) (Nat.le_of_ble_eq_true rfl) F
theorem B1_4 {a0 : Nat} {x1 : Int32} {x2 : Int32} {x3 : Int32} {y0 : Int32} {h : am_H} {Q : am_H → Option Value → Prop} (F : ((y0 = 0 → Q h (some (.int ((-4))))) ∧ (¬ y0 = 0 → am_Run (am_in 23 [.int x2] h) (fun h1 v => am_Run (am_bk (1, 11, [some (.ref a0), some (.int x1), some (.int x2), some (.int x3)], [], h) h1 v) Q)))) : am_Run (1, 4, [some (.ref a0), some (.int x1), some (.int x2), some (.int x3)], [.int y0], h) Q := by
  refine ar_if_eq i_1_4 (fun q => ?_) (fun q => ?_)
  · replace F := F.1 q
    refine ar_bipush i_1_24 ?_
    exact ar_iret i_1_26 rfl F
  · replace F := F.2 q
    refine ar_iload_n i_1_7 rfl ?_
    exact ar_callS i_1_8 (Nat.le_of_ble_eq_true rfl) rfl rfl (Nat.le_of_ble_eq_true rfl) (Nat.le_of_ble_eq_true rfl) F
theorem B1_11 {a0 : Nat} {x1 : Int32} {x2 : Int32} {x3 : Int32} {y0 : Int32} {h : am_H} {Q : am_H → Option Value → Prop} (F : ((y0 = 0 → Q h (some (.int ((-4))))) ∧ (¬ y0 = 0 → am_Run (am_in 21 [.int x3, .int 255] h) (fun h1 v => am_Run (am_bk (1, 21, [some (.ref a0), some (.int x1), some (.int x2), some (.int x3)], [], h) h1 v) Q)))) : am_Run (1, 11, [some (.ref a0), some (.int x1), some (.int x2), some (.int x3)], [.int y0], h) Q := by
  refine ar_if_eq i_1_11 (fun q => ?_) (fun q => ?_)
  · replace F := F.1 q
    refine ar_bipush i_1_24 ?_
    exact ar_iret i_1_26 rfl F
  · replace F := F.2 q
    refine ar_iload_n i_1_14 rfl ?_
    refine ar_sipush i_1_15 ?_
    exact ar_callS i_1_18 (Nat.le_of_ble_eq_true rfl) rfl rfl (Nat.le_of_ble_eq_true rfl) (Nat.le_of_ble_eq_true rfl) F
theorem B1_21 {a0 : Nat} {x1 : Int32} {x2 : Int32} {x3 : Int32} {y0 : Int32} {h : am_H} {Q : am_H → Option Value → Prop} (F : ((¬ y0 = 0 → (∃ v1 : Int32, am_gi h a0 0 5 v1 ∧ ((v1 < 60 → (∃ r2 : Nat, am_gr h a0 0 0 r2 ∧ (∃ v3 : Int32, am_gi h a0 0 5 v3 ∧ am_Run (1, 49, [some (.ref a0), some (.int x1), some (.int x2), some (.int x3)], [.ref h.2.1, .int v3, .ref r2], (am_new h (1, am_dfs 1) (am_dfs 1).length)) Q))) ∧ (¬ v1 < 60 → Q h (some (.int ((-1)))))))) ∧ (y0 = 0 → Q h (some (.int ((-4))))))) : am_Run (1, 21, [some (.ref a0), some (.int x1), some (.int x2), some (.int x3)], [.int y0], h) Q := by
  refine ar_if_ne i_1_21 (fun q => ?_) (fun q => ?_)
  · replace F := F.1 q
    refine ar_aload_n i_1_27 rfl ?_
    obtain ⟨v1, g_v1, F⟩ := F
    refine ar_getI i_1_28 g_v1 ?_
    refine ar_bipush i_1_31 ?_
    refine ar_icmp_lt i_1_33 (fun q => ?_) (fun q => ?_)
    · replace F := F.1 q
      refine ar_aload_n i_1_38 rfl ?_
      obtain ⟨r2, g_r2, F⟩ := F
      refine ar_getR i_1_39 g_r2 ?_
      refine ar_aload_n i_1_42 rfl ?_
      obtain ⟨v3, g_v3, F⟩ := F
      refine ar_getI i_1_43 g_v3 ?_
      exact ar_new i_1_46 F
    · replace F := F.2 q
      refine ar_iconst i_1_36 ?_
      exact ar_iret i_1_37 rfl F
  · replace F := F.2 q
    refine ar_bipush i_1_24 ?_
    exact ar_iret i_1_26 rfl F
theorem B1_49 {a0 : Nat} {x1 : Int32} {x2 : Int32} {x3 : Int32} {b2 : Nat} {y1 : Int32} {b0 : Nat} {h : am_H} {Q : am_H → Option Value → Prop} (F : (∃ v1 : Int32, am_gi h a0 0 5 v1 ∧ am_Run (am_in 65 [.ref b2, .int (v1 + 1), .int x1, .int x2, .int x3] h) (fun h1 v => am_Run (am_bk (1, 62, [some (.ref a0), some (.int x1), some (.int x2), some (.int x3)], [.ref b2, .int y1, .ref b0], h) h1 v) Q))) : am_Run (1, 49, [some (.ref a0), some (.int x1), some (.int x2), some (.int x3)], [.ref b2, .int y1, .ref b0], h) Q := by
  refine ar_dup i_1_49 rfl ?_
  refine ar_aload_n i_1_50 rfl ?_
  obtain ⟨v1, g_v1, F⟩ := F
  refine ar_getI i_1_51 g_v1 ?_
  refine ar_iconst i_1_54 ?_
  refine ar_iadd i_1_55 ?_
  refine ar_iload_n i_1_56 rfl ?_
  refine ar_iload_n i_1_57 rfl ?_
  refine ar_iload_n i_1_58 rfl ?_
  exact ar_callI i_1_59 (by decide) rfl rfl (Nat.le_of_ble_eq_true rfl) (Nat.le_of_ble_eq_true rfl) F
theorem B1_62 {a0 : Nat} {x1 : Int32} {x2 : Int32} {x3 : Int32} {b2 : Nat} {y1 : Int32} {b0 : Nat} {h : am_H} {Q : am_H → Option Value → Prop} (F : am_wr h b0 y1 b2 (fun h1 => am_Run (1, 63, [some (.ref a0), some (.int x1), some (.int x2), some (.int x3)], [], h1) Q)) : am_Run (1, 62, [some (.ref a0), some (.int x1), some (.int x2), some (.int x3)], [.ref b2, .int y1, .ref b0], h) Q := by
  exact ar_aast i_1_62 F
theorem B1_63 {a0 : Nat} {x1 : Int32} {x2 : Int32} {x3 : Int32} {h : am_H} {Q : am_H → Option Value → Prop} (F : (∃ v1 : Int32, am_gi h a0 0 5 v1 ∧ am_wf h a0 0 5 (.int (v1 + 1)) (fun h1 => am_Run (1, 73, [some (.ref a0), some (.int x1), some (.int x2), some (.int x3)], [], h1) Q))) : am_Run (1, 63, [some (.ref a0), some (.int x1), some (.int x2), some (.int x3)], [], h) Q := by
  refine ar_aload_n i_1_63 rfl ?_
  refine ar_dup i_1_64 rfl ?_
  obtain ⟨v1, g_v1, F⟩ := F
  refine ar_getI i_1_65 g_v1 ?_
  refine ar_iconst i_1_68 ?_
  refine ar_iadd i_1_69 ?_
  exact ar_put i_1_70 rfl F
theorem B1_73 {a0 : Nat} {x1 : Int32} {x2 : Int32} {x3 : Int32} {h : am_H} {Q : am_H → Option Value → Prop} (F : (∃ v1 : Int32, am_gi h a0 0 5 v1 ∧ Q h (some (.int v1)))) : am_Run (1, 73, [some (.ref a0), some (.int x1), some (.int x2), some (.int x3)], [], h) Q := by
  refine ar_aload_n i_1_73 rfl ?_
  obtain ⟨v1, g_v1, F⟩ := F
  refine ar_getI i_1_74 g_v1 ?_
  exact ar_iret i_1_77 rfl F
theorem B2_0 {a0 : Nat} {h : am_H} {Q : am_H → Option Value → Prop} (F : (∃ v1 : Int32, am_gi h a0 0 6 v1 ∧ ((v1 < 20 → (∃ r2 : Nat, am_gr h a0 0 1 r2 ∧ (∃ v3 : Int32, am_gi h a0 0 6 v3 ∧ am_Run (2, 22, [some (.ref a0)], [.ref h.2.1, .int v3, .ref r2], (am_new h (2, am_dfs 2) (am_dfs 2).length)) Q))) ∧ (¬ v1 < 20 → Q h (some (.int ((-1)))))))) : am_Run (2, 0, [some (.ref a0)], [], h) Q := by
  refine ar_aload_n i_2_0 rfl ?_
  obtain ⟨v1, g_v1, F⟩ := F
  refine ar_getI i_2_1 g_v1 ?_
  refine ar_bipush i_2_4 ?_
  refine ar_icmp_lt i_2_6 (fun q => ?_) (fun q => ?_)
  · replace F := F.1 q
    refine ar_aload_n i_2_11 rfl ?_
    obtain ⟨r2, g_r2, F⟩ := F
    refine ar_getR i_2_12 g_r2 ?_
    refine ar_aload_n i_2_15 rfl ?_
    obtain ⟨v3, g_v3, F⟩ := F
    refine ar_getI i_2_16 g_v3 ?_
    exact ar_new i_2_19 F
  · replace F := F.2 q
    refine ar_iconst i_2_9 ?_
    exact ar_iret i_2_10 rfl F
theorem B2_22 {a0 : Nat} {b2 : Nat} {y1 : Int32} {b0 : Nat} {h : am_H} {Q : am_H → Option Value → Prop} (F : (∃ v1 : Int32, am_gi h a0 0 6 v1 ∧ am_Run (am_in 70 [.ref b2, .int (v1 + 1)] h) (fun h1 v => am_Run (am_bk (2, 32, [some (.ref a0)], [.ref b2, .int y1, .ref b0], h) h1 v) Q))) : am_Run (2, 22, [some (.ref a0)], [.ref b2, .int y1, .ref b0], h) Q := by
  refine ar_dup i_2_22 rfl ?_
  refine ar_aload_n i_2_23 rfl ?_
  obtain ⟨v1, g_v1, F⟩ := F
  refine ar_getI i_2_24 g_v1 ?_
  refine ar_iconst i_2_27 ?_
  refine ar_iadd i_2_28 ?_
  exact ar_callI i_2_29 (by decide) rfl rfl (Nat.le_of_ble_eq_true rfl) (Nat.le_of_ble_eq_true rfl) F
theorem B2_32 {a0 : Nat} {b2 : Nat} {y1 : Int32} {b0 : Nat} {h : am_H} {Q : am_H → Option Value → Prop} (F : am_wr h b0 y1 b2 (fun h1 => am_Run (2, 33, [some (.ref a0)], [], h1) Q)) : am_Run (2, 32, [some (.ref a0)], [.ref b2, .int y1, .ref b0], h) Q := by
  exact ar_aast i_2_32 F
theorem B2_33 {a0 : Nat} {h : am_H} {Q : am_H → Option Value → Prop} (F : (∃ v1 : Int32, am_gi h a0 0 6 v1 ∧ am_wf h a0 0 6 (.int (v1 + 1)) (fun h1 => am_Run (2, 43, [some (.ref a0)], [], h1) Q))) : am_Run (2, 33, [some (.ref a0)], [], h) Q := by
  refine ar_aload_n i_2_33 rfl ?_
  refine ar_dup i_2_34 rfl ?_
  obtain ⟨v1, g_v1, F⟩ := F
  refine ar_getI i_2_35 g_v1 ?_
  refine ar_iconst i_2_38 ?_
  refine ar_iadd i_2_39 ?_
  exact ar_put i_2_40 rfl F
theorem B2_43 {a0 : Nat} {h : am_H} {Q : am_H → Option Value → Prop} (F : (∃ v1 : Int32, am_gi h a0 0 6 v1 ∧ Q h (some (.int v1)))) : am_Run (2, 43, [some (.ref a0)], [], h) Q := by
  refine ar_aload_n i_2_43 rfl ?_
  obtain ⟨v1, g_v1, F⟩ := F
  refine ar_getI i_2_44 g_v1 ?_
  exact ar_iret i_2_47 rfl F
theorem B3_0 {a0 : Nat} {x1 : Int32} {x2 : Int32} {l3 : Int64} {h : am_H} {Q : am_H → Option Value → Prop} (F : (am_is h a0 0 ∧ am_Run (am_in 26 [.ref a0, .int x2] h) (fun h1 v => am_Run (am_bk (3, 5, [some (.ref a0), some (.int x1), some (.int x2), some (.long l3), none, none, none], [], h) h1 v) Q))) : am_Run (3, 0, [some (.ref a0), some (.int x1), some (.int x2), some (.long l3), none, none, none], [], h) Q := by
  refine ar_aload_n i_3_0 rfl ?_
  refine ar_iload_n i_3_1 rfl ?_
  exact ar_callV i_3_2 rfl rfl F.1 (Nat.le_of_ble_eq_true rfl) (Nat.le_of_ble_eq_true rfl) F.2
theorem B3_5_1 {a0 : Nat} {x1 : Int32} {x2 : Int32} {l3 : Int64} {h : am_H} {Q : am_H → Option Value → Prop} (F : ((x2 = 0 → am_Run (3, 19, [some (.ref a0), some (.int x1), some (.int x2), some (.long l3), none, some (.null), none], [], h) Q) ∧ (¬ x2 = 0 → Q h (some (.int ((-2))))))) : am_Run (3, 5, [some (.ref a0), some (.int x1), some (.int x2), some (.long l3), none, none, none], [.null], h) Q := by
  refine ar_astoreN i_3_5 rfl ?_
  refine ar_aloadN i_3_7 rfl ?_
  refine ar_ifnonnullN i_3_9 ?_
  refine ar_iload_n i_3_12 rfl ?_
  refine ar_if_eq i_3_13 (fun q => ?_) (fun q => ?_)
  · replace F := F.1 q
    exact F
  · replace F := F.2 q
    refine ar_bipush i_3_16 ?_
    exact ar_iret i_3_18 rfl F
theorem B3_5 {a0 : Nat} {x1 : Int32} {x2 : Int32} {l3 : Int64} {b0 : Nat} {h : am_H} {Q : am_H → Option Value → Prop} (F : am_Run (3, 19, [some (.ref a0), some (.int x1), some (.int x2), some (.long l3), none, some (.ref b0), none], [], h) Q) : am_Run (3, 5, [some (.ref a0), some (.int x1), some (.int x2), some (.long l3), none, none, none], [.ref b0], h) Q := by
  refine ar_astore i_3_5 rfl ?_
  refine ar_aload i_3_7 rfl ?_
  refine ar_ifnonnull i_3_9 ?_
  exact F
theorem B3_19_1 {a0 : Nat} {x1 : Int32} {x2 : Int32} {l3 : Int64} {h : am_H} {Q : am_H → Option Value → Prop} (F : ((¬ x1 = 0 → (am_is h a0 0 ∧ am_Run (am_in 25 [.ref a0, .int x1] h) (fun h1 v => am_Run (am_bk (3, 37, [some (.ref a0), some (.int x1), some (.int x2), some (.long l3), none, some (.null), none], [], h) h1 v) Q))) ∧ (x1 = 0 → (am_is h a0 0 ∧ am_Run (am_in 28 [.ref a0, .null] h) (fun h1 v => am_Run (am_bk (3, 29, [some (.ref a0), some (.int x1), some (.int x2), some (.long l3), none, some (.null), none], [], h) h1 v) Q))))) : am_Run (3, 19, [some (.ref a0), some (.int x1), some (.int x2), some (.long l3), none, some (.null), none], [], h) Q := by
  refine ar_iload_n i_3_19 rfl ?_
  refine ar_if_ne i_3_20 (fun q => ?_) (fun q => ?_)
  · replace F := F.1 q
    refine ar_aload_n i_3_32 rfl ?_
    refine ar_iload_n i_3_33 rfl ?_
    exact ar_callV i_3_34 rfl rfl F.1 (Nat.le_of_ble_eq_true rfl) (Nat.le_of_ble_eq_true rfl) F.2
  · replace F := F.2 q
    refine ar_aload_n i_3_23 rfl ?_
    refine ar_aloadN i_3_24 rfl ?_
    exact ar_callV i_3_26 rfl rfl F.1 (Nat.le_of_ble_eq_true rfl) (Nat.le_of_ble_eq_true rfl) F.2
theorem B3_19 {a0 : Nat} {x1 : Int32} {x2 : Int32} {l3 : Int64} {a5 : Nat} {h : am_H} {Q : am_H → Option Value → Prop} (F : ((¬ x1 = 0 → (am_is h a0 0 ∧ am_Run (am_in 25 [.ref a0, .int x1] h) (fun h1 v => am_Run (am_bk (3, 37, [some (.ref a0), some (.int x1), some (.int x2), some (.long l3), none, some (.ref a5), none], [], h) h1 v) Q))) ∧ (x1 = 0 → (am_is h a0 0 ∧ am_Run (am_in 28 [.ref a0, .ref a5] h) (fun h1 v => am_Run (am_bk (3, 29, [some (.ref a0), some (.int x1), some (.int x2), some (.long l3), none, some (.ref a5), none], [], h) h1 v) Q))))) : am_Run (3, 19, [some (.ref a0), some (.int x1), some (.int x2), some (.long l3), none, some (.ref a5), none], [], h) Q := by
  refine ar_iload_n i_3_19 rfl ?_
  refine ar_if_ne i_3_20 (fun q => ?_) (fun q => ?_)
  · replace F := F.1 q
    refine ar_aload_n i_3_32 rfl ?_
    refine ar_iload_n i_3_33 rfl ?_
    exact ar_callV i_3_34 rfl rfl F.1 (Nat.le_of_ble_eq_true rfl) (Nat.le_of_ble_eq_true rfl) F.2
  · replace F := F.2 q
    refine ar_aload_n i_3_23 rfl ?_
    refine ar_aload i_3_24 rfl ?_
    exact ar_callV i_3_26 rfl rfl F.1 (Nat.le_of_ble_eq_true rfl) (Nat.le_of_ble_eq_true rfl) F.2
theorem B3_29_3 {a0 : Nat} {x1 : Int32} {x2 : Int32} {l3 : Int64} {h : am_H} {Q : am_H → Option Value → Prop} (F : am_Run (3, 37, [some (.ref a0), some (.int x1), some (.int x2), some (.long l3), none, some (.null), none], [.null], h) Q) : am_Run (3, 29, [some (.ref a0), some (.int x1), some (.int x2), some (.long l3), none, some (.null), none], [.null], h) Q := by
  refine ar_goto i_3_29 ?_
  exact F
theorem B3_29_2 {a0 : Nat} {x1 : Int32} {x2 : Int32} {l3 : Int64} {b0 : Nat} {h : am_H} {Q : am_H → Option Value → Prop} (F : am_Run (3, 37, [some (.ref a0), some (.int x1), some (.int x2), some (.long l3), none, some (.null), none], [.ref b0], h) Q) : am_Run (3, 29, [some (.ref a0), some (.int x1), some (.int x2), some (.long l3), none, some (.null), none], [.ref b0], h) Q := by
  refine ar_goto i_3_29 ?_
  exact F
theorem B3_29_1 {a0 : Nat} {x1 : Int32} {x2 : Int32} {l3 : Int64} {a5 : Nat} {h : am_H} {Q : am_H → Option Value → Prop} (F : am_Run (3, 37, [some (.ref a0), some (.int x1), some (.int x2), some (.long l3), none, some (.ref a5), none], [.null], h) Q) : am_Run (3, 29, [some (.ref a0), some (.int x1), some (.int x2), some (.long l3), none, some (.ref a5), none], [.null], h) Q := by
  refine ar_goto i_3_29 ?_
  exact F
theorem B3_29 {a0 : Nat} {x1 : Int32} {x2 : Int32} {l3 : Int64} {a5 : Nat} {b0 : Nat} {h : am_H} {Q : am_H → Option Value → Prop} (F : am_Run (3, 37, [some (.ref a0), some (.int x1), some (.int x2), some (.long l3), none, some (.ref a5), none], [.ref b0], h) Q) : am_Run (3, 29, [some (.ref a0), some (.int x1), some (.int x2), some (.long l3), none, some (.ref a5), none], [.ref b0], h) Q := by
  refine ar_goto i_3_29 ?_
  exact F
theorem B3_37_3 {a0 : Nat} {x1 : Int32} {x2 : Int32} {l3 : Int64} {h : am_H} {Q : am_H → Option Value → Prop} (F : Q h (some (.int ((-2))))) : am_Run (3, 37, [some (.ref a0), some (.int x1), some (.int x2), some (.long l3), none, some (.null), none], [.null], h) Q := by
  refine ar_astoreN i_3_37 rfl ?_
  refine ar_aloadN i_3_39 rfl ?_
  refine ar_ifnonnullN i_3_41 ?_
  refine ar_bipush i_3_44 ?_
  exact ar_iret i_3_46 rfl F
theorem B3_37_2 {a0 : Nat} {x1 : Int32} {x2 : Int32} {l3 : Int64} {b0 : Nat} {h : am_H} {Q : am_H → Option Value → Prop} (F : ((0 ≤ (lg_cmp l3 0) → (∃ v1 : Int32, am_gi h a0 0 7 v1 ∧ ((v1 < 200 → ((¬ x1 = 0 → am_Run (3, 83, [some (.ref a0), some (.int x1), some (.int x2), some (.long l3), none, some (.null), some (.ref b0)], [], h) Q) ∧ (x1 = 0 → am_Run (3, 83, [some (.ref a0), some (.int x1), some (.int x2), some (.long l3), none, some (.null), some (.ref b0)], [], h) Q))) ∧ (¬ v1 < 200 → Q h (some (.int ((-1)))))))) ∧ (¬ 0 ≤ (lg_cmp l3 0) → Q h (some (.int ((-4))))))) : am_Run (3, 37, [some (.ref a0), some (.int x1), some (.int x2), some (.long l3), none, some (.null), none], [.ref b0], h) Q := by
  refine ar_astore i_3_37 rfl ?_
  refine ar_aload i_3_39 rfl ?_
  refine ar_ifnonnull i_3_41 ?_
  refine ar_lload_n i_3_47 rfl ?_
  refine ar_lconst i_3_48 ?_
  refine ar_lcmp i_3_49 ?_
  refine ar_if_ge i_3_50 (fun q => ?_) (fun q => ?_)
  · replace F := F.1 q
    refine ar_aload_n i_3_56 rfl ?_
    obtain ⟨v1, g_v1, F⟩ := F
    refine ar_getI i_3_57 g_v1 ?_
    refine ar_sipush i_3_60 ?_
    refine ar_icmp_lt i_3_63 (fun q => ?_) (fun q => ?_)
    · replace F := F.1 q
      refine ar_iload_n i_3_68 rfl ?_
      refine ar_if_ne i_3_69 (fun q => ?_) (fun q => ?_)
      · replace F := F.1 q
        exact F
      · replace F := F.2 q
        refine ar_aloadN i_3_72 rfl ?_
        refine ar_ifnullN i_3_74 ?_
        exact F
    · replace F := F.2 q
      refine ar_iconst i_3_66 ?_
      exact ar_iret i_3_67 rfl F
  · replace F := F.2 q
    refine ar_bipush i_3_53 ?_
    exact ar_iret i_3_55 rfl F
theorem B3_37_1 {a0 : Nat} {x1 : Int32} {x2 : Int32} {l3 : Int64} {a5 : Nat} {h : am_H} {Q : am_H → Option Value → Prop} (F : Q h (some (.int ((-2))))) : am_Run (3, 37, [some (.ref a0), some (.int x1), some (.int x2), some (.long l3), none, some (.ref a5), none], [.null], h) Q := by
  refine ar_astoreN i_3_37 rfl ?_
  refine ar_aloadN i_3_39 rfl ?_
  refine ar_ifnonnullN i_3_41 ?_
  refine ar_bipush i_3_44 ?_
  exact ar_iret i_3_46 rfl F
theorem B3_37 {a0 : Nat} {x1 : Int32} {x2 : Int32} {l3 : Int64} {a5 : Nat} {b0 : Nat} {h : am_H} {Q : am_H → Option Value → Prop} (F : ((0 ≤ (lg_cmp l3 0) → (∃ v1 : Int32, am_gi h a0 0 7 v1 ∧ ((v1 < 200 → ((¬ x1 = 0 → am_Run (3, 83, [some (.ref a0), some (.int x1), some (.int x2), some (.long l3), none, some (.ref a5), some (.ref b0)], [], h) Q) ∧ (x1 = 0 → am_wf h a5 2 1 (.int 0) (fun h1 => am_Run (3, 83, [some (.ref a0), some (.int x1), some (.int x2), some (.long l3), none, some (.ref a5), some (.ref b0)], [], h1) Q)))) ∧ (¬ v1 < 200 → Q h (some (.int ((-1)))))))) ∧ (¬ 0 ≤ (lg_cmp l3 0) → Q h (some (.int ((-4))))))) : am_Run (3, 37, [some (.ref a0), some (.int x1), some (.int x2), some (.long l3), none, some (.ref a5), none], [.ref b0], h) Q := by
  refine ar_astore i_3_37 rfl ?_
  refine ar_aload i_3_39 rfl ?_
  refine ar_ifnonnull i_3_41 ?_
  refine ar_lload_n i_3_47 rfl ?_
  refine ar_lconst i_3_48 ?_
  refine ar_lcmp i_3_49 ?_
  refine ar_if_ge i_3_50 (fun q => ?_) (fun q => ?_)
  · replace F := F.1 q
    refine ar_aload_n i_3_56 rfl ?_
    obtain ⟨v1, g_v1, F⟩ := F
    refine ar_getI i_3_57 g_v1 ?_
    refine ar_sipush i_3_60 ?_
    refine ar_icmp_lt i_3_63 (fun q => ?_) (fun q => ?_)
    · replace F := F.1 q
      refine ar_iload_n i_3_68 rfl ?_
      refine ar_if_ne i_3_69 (fun q => ?_) (fun q => ?_)
      · replace F := F.1 q
        exact F
      · replace F := F.2 q
        refine ar_aload i_3_72 rfl ?_
        refine ar_ifnull i_3_74 ?_
        refine ar_aload i_3_77 rfl ?_
        refine ar_iconst i_3_79 ?_
        exact ar_put i_3_80 rfl F
    · replace F := F.2 q
      refine ar_iconst i_3_66 ?_
      exact ar_iret i_3_67 rfl F
  · replace F := F.2 q
    refine ar_bipush i_3_53 ?_
    exact ar_iret i_3_55 rfl F
theorem B3_83_1 {a0 : Nat} {x1 : Int32} {x2 : Int32} {l3 : Int64} {a6 : Nat} {h : am_H} {Q : am_H → Option Value → Prop} (F : (∃ r1 : Nat, am_gr h a0 0 2 r1 ∧ (∃ v2 : Int32, am_gi h a0 0 7 v2 ∧ am_Run (3, 94, [some (.ref a0), some (.int x1), some (.int x2), some (.long l3), none, some (.null), some (.ref a6)], [.ref h.2.1, .int v2, .ref r1], (am_new h (4, am_dfs 4) (am_dfs 4).length)) Q))) : am_Run (3, 83, [some (.ref a0), some (.int x1), some (.int x2), some (.long l3), none, some (.null), some (.ref a6)], [], h) Q := by
  refine ar_aload_n i_3_83 rfl ?_
  obtain ⟨r1, g_r1, F⟩ := F
  refine ar_getR i_3_84 g_r1 ?_
  refine ar_aload_n i_3_87 rfl ?_
  obtain ⟨v2, g_v2, F⟩ := F
  refine ar_getI i_3_88 g_v2 ?_
  exact ar_new i_3_91 F
theorem B3_83 {a0 : Nat} {x1 : Int32} {x2 : Int32} {l3 : Int64} {a5 : Nat} {a6 : Nat} {h : am_H} {Q : am_H → Option Value → Prop} (F : (∃ r1 : Nat, am_gr h a0 0 2 r1 ∧ (∃ v2 : Int32, am_gi h a0 0 7 v2 ∧ am_Run (3, 94, [some (.ref a0), some (.int x1), some (.int x2), some (.long l3), none, some (.ref a5), some (.ref a6)], [.ref h.2.1, .int v2, .ref r1], (am_new h (4, am_dfs 4) (am_dfs 4).length)) Q))) : am_Run (3, 83, [some (.ref a0), some (.int x1), some (.int x2), some (.long l3), none, some (.ref a5), some (.ref a6)], [], h) Q := by
  refine ar_aload_n i_3_83 rfl ?_
  obtain ⟨r1, g_r1, F⟩ := F
  refine ar_getR i_3_84 g_r1 ?_
  refine ar_aload_n i_3_87 rfl ?_
  obtain ⟨v2, g_v2, F⟩ := F
  refine ar_getI i_3_88 g_v2 ?_
  exact ar_new i_3_91 F
theorem B3_94_1 {a0 : Nat} {x1 : Int32} {x2 : Int32} {l3 : Int64} {a6 : Nat} {b2 : Nat} {y1 : Int32} {b0 : Nat} {h : am_H} {Q : am_H → Option Value → Prop} (F : (∃ v1 : Int32, am_gi h a0 0 7 v1 ∧ am_Run (am_in 68 [.ref b2, .int (v1 + 1), .ref a6, .null, .long l3] h) (fun h1 v => am_Run (am_bk (3, 109, [some (.ref a0), some (.int x1), some (.int x2), some (.long l3), none, some (.null), some (.ref a6)], [.ref b2, .int y1, .ref b0], h) h1 v) Q))) : am_Run (3, 94, [some (.ref a0), some (.int x1), some (.int x2), some (.long l3), none, some (.null), some (.ref a6)], [.ref b2, .int y1, .ref b0], h) Q := by
  refine ar_dup i_3_94 rfl ?_
  refine ar_aload_n i_3_95 rfl ?_
  obtain ⟨v1, g_v1, F⟩ := F
  refine ar_getI i_3_96 g_v1 ?_
  refine ar_iconst i_3_99 ?_
  refine ar_iadd i_3_100 ?_
  refine ar_aload i_3_101 rfl ?_
  refine ar_aloadN i_3_103 rfl ?_
  refine ar_lload_n i_3_105 rfl ?_
  exact ar_callI i_3_106 (by decide) rfl rfl (Nat.le_of_ble_eq_true rfl) (Nat.le_of_ble_eq_true rfl) F
theorem B3_94 {a0 : Nat} {x1 : Int32} {x2 : Int32} {l3 : Int64} {a5 : Nat} {a6 : Nat} {b2 : Nat} {y1 : Int32} {b0 : Nat} {h : am_H} {Q : am_H → Option Value → Prop} (F : (∃ v1 : Int32, am_gi h a0 0 7 v1 ∧ am_Run (am_in 68 [.ref b2, .int (v1 + 1), .ref a6, .ref a5, .long l3] h) (fun h1 v => am_Run (am_bk (3, 109, [some (.ref a0), some (.int x1), some (.int x2), some (.long l3), none, some (.ref a5), some (.ref a6)], [.ref b2, .int y1, .ref b0], h) h1 v) Q))) : am_Run (3, 94, [some (.ref a0), some (.int x1), some (.int x2), some (.long l3), none, some (.ref a5), some (.ref a6)], [.ref b2, .int y1, .ref b0], h) Q := by
  refine ar_dup i_3_94 rfl ?_
  refine ar_aload_n i_3_95 rfl ?_
  obtain ⟨v1, g_v1, F⟩ := F
  refine ar_getI i_3_96 g_v1 ?_
  refine ar_iconst i_3_99 ?_
  refine ar_iadd i_3_100 ?_
  refine ar_aload i_3_101 rfl ?_
  refine ar_aload i_3_103 rfl ?_
  refine ar_lload_n i_3_105 rfl ?_
  exact ar_callI i_3_106 (by decide) rfl rfl (Nat.le_of_ble_eq_true rfl) (Nat.le_of_ble_eq_true rfl) F
theorem B3_109_1 {a0 : Nat} {x1 : Int32} {x2 : Int32} {l3 : Int64} {a6 : Nat} {b2 : Nat} {y1 : Int32} {b0 : Nat} {h : am_H} {Q : am_H → Option Value → Prop} (F : am_wr h b0 y1 b2 (fun h1 => am_Run (3, 110, [some (.ref a0), some (.int x1), some (.int x2), some (.long l3), none, some (.null), some (.ref a6)], [], h1) Q)) : am_Run (3, 109, [some (.ref a0), some (.int x1), some (.int x2), some (.long l3), none, some (.null), some (.ref a6)], [.ref b2, .int y1, .ref b0], h) Q := by
  exact ar_aast i_3_109 F
theorem B3_109 {a0 : Nat} {x1 : Int32} {x2 : Int32} {l3 : Int64} {a5 : Nat} {a6 : Nat} {b2 : Nat} {y1 : Int32} {b0 : Nat} {h : am_H} {Q : am_H → Option Value → Prop} (F : am_wr h b0 y1 b2 (fun h1 => am_Run (3, 110, [some (.ref a0), some (.int x1), some (.int x2), some (.long l3), none, some (.ref a5), some (.ref a6)], [], h1) Q)) : am_Run (3, 109, [some (.ref a0), some (.int x1), some (.int x2), some (.long l3), none, some (.ref a5), some (.ref a6)], [.ref b2, .int y1, .ref b0], h) Q := by
  exact ar_aast i_3_109 F
theorem B3_110_1 {a0 : Nat} {x1 : Int32} {x2 : Int32} {l3 : Int64} {a6 : Nat} {h : am_H} {Q : am_H → Option Value → Prop} (F : (∃ v1 : Int32, am_gi h a0 0 7 v1 ∧ am_wf h a0 0 7 (.int (v1 + 1)) (fun h1 => am_Run (3, 120, [some (.ref a0), some (.int x1), some (.int x2), some (.long l3), none, some (.null), some (.ref a6)], [], h1) Q))) : am_Run (3, 110, [some (.ref a0), some (.int x1), some (.int x2), some (.long l3), none, some (.null), some (.ref a6)], [], h) Q := by
  refine ar_aload_n i_3_110 rfl ?_
  refine ar_dup i_3_111 rfl ?_
  obtain ⟨v1, g_v1, F⟩ := F
  refine ar_getI i_3_112 g_v1 ?_
  refine ar_iconst i_3_115 ?_
  refine ar_iadd i_3_116 ?_
  exact ar_put i_3_117 rfl F
theorem B3_110 {a0 : Nat} {x1 : Int32} {x2 : Int32} {l3 : Int64} {a5 : Nat} {a6 : Nat} {h : am_H} {Q : am_H → Option Value → Prop} (F : (∃ v1 : Int32, am_gi h a0 0 7 v1 ∧ am_wf h a0 0 7 (.int (v1 + 1)) (fun h1 => am_Run (3, 120, [some (.ref a0), some (.int x1), some (.int x2), some (.long l3), none, some (.ref a5), some (.ref a6)], [], h1) Q))) : am_Run (3, 110, [some (.ref a0), some (.int x1), some (.int x2), some (.long l3), none, some (.ref a5), some (.ref a6)], [], h) Q := by
  refine ar_aload_n i_3_110 rfl ?_
  refine ar_dup i_3_111 rfl ?_
  obtain ⟨v1, g_v1, F⟩ := F
  refine ar_getI i_3_112 g_v1 ?_
  refine ar_iconst i_3_115 ?_
  refine ar_iadd i_3_116 ?_
  exact ar_put i_3_117 rfl F
theorem B3_120_1 {a0 : Nat} {x1 : Int32} {x2 : Int32} {l3 : Int64} {a6 : Nat} {h : am_H} {Q : am_H → Option Value → Prop} (F : (am_is h a0 0 ∧ am_Run (am_in 31 [.ref a0] h) (fun h1 v => am_Run (am_bk (3, 124, [some (.ref a0), some (.int x1), some (.int x2), some (.long l3), none, some (.null), some (.ref a6)], [], h) h1 v) Q))) : am_Run (3, 120, [some (.ref a0), some (.int x1), some (.int x2), some (.long l3), none, some (.null), some (.ref a6)], [], h) Q := by
  refine ar_aload_n i_3_120 rfl ?_
  exact ar_callV i_3_121 rfl rfl F.1 (Nat.le_of_ble_eq_true rfl) (Nat.le_of_ble_eq_true rfl) F.2
theorem B3_120 {a0 : Nat} {x1 : Int32} {x2 : Int32} {l3 : Int64} {a5 : Nat} {a6 : Nat} {h : am_H} {Q : am_H → Option Value → Prop} (F : (am_is h a0 0 ∧ am_Run (am_in 31 [.ref a0] h) (fun h1 v => am_Run (am_bk (3, 124, [some (.ref a0), some (.int x1), some (.int x2), some (.long l3), none, some (.ref a5), some (.ref a6)], [], h) h1 v) Q))) : am_Run (3, 120, [some (.ref a0), some (.int x1), some (.int x2), some (.long l3), none, some (.ref a5), some (.ref a6)], [], h) Q := by
  refine ar_aload_n i_3_120 rfl ?_
  exact ar_callV i_3_121 rfl rfl F.1 (Nat.le_of_ble_eq_true rfl) (Nat.le_of_ble_eq_true rfl) F.2
theorem B3_124_1 {a0 : Nat} {x1 : Int32} {x2 : Int32} {l3 : Int64} {a6 : Nat} {y0 : Int32} {h : am_H} {Q : am_H → Option Value → Prop} (F : (∃ v1 : Int32, am_gi h a0 0 7 v1 ∧ Q h (some (.int v1)))) : am_Run (3, 124, [some (.ref a0), some (.int x1), some (.int x2), some (.long l3), none, some (.null), some (.ref a6)], [.int y0], h) Q := by
  refine ar_pop i_3_124 rfl ?_
  refine ar_aload_n i_3_125 rfl ?_
  obtain ⟨v1, g_v1, F⟩ := F
  refine ar_getI i_3_126 g_v1 ?_
  exact ar_iret i_3_129 rfl F
theorem B3_124 {a0 : Nat} {x1 : Int32} {x2 : Int32} {l3 : Int64} {a5 : Nat} {a6 : Nat} {y0 : Int32} {h : am_H} {Q : am_H → Option Value → Prop} (F : (∃ v1 : Int32, am_gi h a0 0 7 v1 ∧ Q h (some (.int v1)))) : am_Run (3, 124, [some (.ref a0), some (.int x1), some (.int x2), some (.long l3), none, some (.ref a5), some (.ref a6)], [.int y0], h) Q := by
  refine ar_pop i_3_124 rfl ?_
  refine ar_aload_n i_3_125 rfl ?_
  obtain ⟨v1, g_v1, F⟩ := F
  refine ar_getI i_3_126 g_v1 ?_
  exact ar_iret i_3_129 rfl F
theorem B4_0 {a0 : Nat} {x1 : Int32} {x2 : Int32} {x3 : Int32} {h : am_H} {Q : am_H → Option Value → Prop} (F : (am_is h a0 0 ∧ am_Run (am_in 27 [.ref a0, .int x1] h) (fun h1 v => am_Run (am_bk (4, 5, [some (.ref a0), some (.int x1), some (.int x2), some (.int x3), none, none], [], h) h1 v) Q))) : am_Run (4, 0, [some (.ref a0), some (.int x1), some (.int x2), some (.int x3), none, none], [], h) Q := by
  refine ar_aload_n i_4_0 rfl ?_
  refine ar_iload_n i_4_1 rfl ?_
  exact ar_callV i_4_2 rfl rfl F.1 (Nat.le_of_ble_eq_true rfl) (Nat.le_of_ble_eq_true rfl) F.2
theorem B4_5_1 {a0 : Nat} {x1 : Int32} {x2 : Int32} {x3 : Int32} {h : am_H} {Q : am_H → Option Value → Prop} (F : Q h (some (.int ((-2))))) : am_Run (4, 5, [some (.ref a0), some (.int x1), some (.int x2), some (.int x3), none, none], [.null], h) Q := by
  refine ar_astoreN i_4_5 rfl ?_
  refine ar_aloadN i_4_7 rfl ?_
  refine ar_ifnonnullN i_4_9 ?_
  refine ar_bipush i_4_12 ?_
  exact ar_iret i_4_14 rfl F
theorem B4_5 {a0 : Nat} {x1 : Int32} {x2 : Int32} {x3 : Int32} {b0 : Nat} {h : am_H} {Q : am_H → Option Value → Prop} (F : ((x2 = 2 → am_Run (4, 25, [some (.ref a0), some (.int x1), some (.int x2), some (.int x3), some (.ref b0), none], [.int 0], h) Q) ∧ (¬ x2 = 2 → am_Run (4, 25, [some (.ref a0), some (.int x1), some (.int x2), some (.int x3), some (.ref b0), none], [.int 1], h) Q))) : am_Run (4, 5, [some (.ref a0), some (.int x1), some (.int x2), some (.int x3), none, none], [.ref b0], h) Q := by
  refine ar_astore i_4_5 rfl ?_
  refine ar_aload i_4_7 rfl ?_
  refine ar_ifnonnull i_4_9 ?_
  refine ar_iload_n i_4_15 rfl ?_
  refine ar_iconst i_4_16 ?_
  refine ar_icmp_eq i_4_17 (fun q => ?_) (fun q => ?_)
  · replace F := F.1 q
    refine ar_iconst i_4_24 ?_
    exact F
  · replace F := F.2 q
    refine ar_iconst i_4_20 ?_
    refine ar_goto i_4_21 ?_
    exact F
theorem B4_25 {a0 : Nat} {x1 : Int32} {x2 : Int32} {x3 : Int32} {a4 : Nat} {y0 : Int32} {h : am_H} {Q : am_H → Option Value → Prop} (F : am_Run (am_in 21 [.int x2, .int 2] h) (fun h1 v => am_Run (am_bk (4, 32, [some (.ref a0), some (.int x1), some (.int x2), some (.int x3), some (.ref a4), some (.int y0)], [], h) h1 v) Q)) : am_Run (4, 25, [some (.ref a0), some (.int x1), some (.int x2), some (.int x3), some (.ref a4), none], [.int y0], h) Q := by
  refine ar_istore i_4_25 rfl ?_
  refine ar_iload_n i_4_27 rfl ?_
  refine ar_iconst i_4_28 ?_
  exact ar_callS i_4_29 (Nat.le_of_ble_eq_true rfl) rfl rfl (Nat.le_of_ble_eq_true rfl) (Nat.le_of_ble_eq_true rfl) F
theorem B4_32 {a0 : Nat} {x1 : Int32} {x2 : Int32} {x3 : Int32} {a4 : Nat} {x5 : Int32} {y0 : Int32} {h : am_H} {Q : am_H → Option Value → Prop} (F : ((y0 = 0 → Q h (some (.int ((-4))))) ∧ (¬ y0 = 0 → ((x5 = 0 → am_Run (4, 52, [some (.ref a0), some (.int x1), some (.int x2), some (.int x3), some (.ref a4), some (.int x5)], [], h) Q) ∧ (¬ x5 = 0 → am_Run (am_in 21 [.int x3, .int 15] h) (fun h1 v => am_Run (am_bk (4, 46, [some (.ref a0), some (.int x1), some (.int x2), some (.int x3), some (.ref a4), some (.int x5)], [], h) h1 v) Q)))))) : am_Run (4, 32, [some (.ref a0), some (.int x1), some (.int x2), some (.int x3), some (.ref a4), some (.int x5)], [.int y0], h) Q := by
  refine ar_if_eq i_4_32 (fun q => ?_) (fun q => ?_)
  · replace F := F.1 q
    refine ar_bipush i_4_49 ?_
    exact ar_iret i_4_51 rfl F
  · replace F := F.2 q
    refine ar_iload i_4_35 rfl ?_
    refine ar_if_eq i_4_37 (fun q => ?_) (fun q => ?_)
    · replace F := F.1 q
      exact F
    · replace F := F.2 q
      refine ar_iload_n i_4_40 rfl ?_
      refine ar_bipush i_4_41 ?_
      exact ar_callS i_4_43 (Nat.le_of_ble_eq_true rfl) rfl rfl (Nat.le_of_ble_eq_true rfl) (Nat.le_of_ble_eq_true rfl) F
theorem B4_46 {a0 : Nat} {x1 : Int32} {x2 : Int32} {x3 : Int32} {a4 : Nat} {x5 : Int32} {y0 : Int32} {h : am_H} {Q : am_H → Option Value → Prop} (F : ((¬ y0 = 0 → am_Run (4, 52, [some (.ref a0), some (.int x1), some (.int x2), some (.int x3), some (.ref a4), some (.int x5)], [], h) Q) ∧ (y0 = 0 → Q h (some (.int ((-4))))))) : am_Run (4, 46, [some (.ref a0), some (.int x1), some (.int x2), some (.int x3), some (.ref a4), some (.int x5)], [.int y0], h) Q := by
  refine ar_if_ne i_4_46 (fun q => ?_) (fun q => ?_)
  · replace F := F.1 q
    exact F
  · replace F := F.2 q
    refine ar_bipush i_4_49 ?_
    exact ar_iret i_4_51 rfl F
theorem B4_52 {a0 : Nat} {x1 : Int32} {x2 : Int32} {x3 : Int32} {a4 : Nat} {x5 : Int32} {h : am_H} {Q : am_H → Option Value → Prop} (F : ((¬ x2 = 1 → (∃ v1 : Int32, am_gi h a4 4 4 v1 ∧ ((v1 = 1 → ((¬ x2 = 0 → (am_is h a0 0 ∧ am_Run (am_in 30 [.ref a0, .ref a4, .int 3] h) (fun h1 v => am_Run (am_bk (4, 103, [some (.ref a0), some (.int x1), some (.int x2), some (.int x3), some (.ref a4), some (.int x5)], [], h) h1 v) Q))) ∧ (x2 = 0 → am_wf h a4 4 4 (.int 2) (fun h1 => am_Run (4, 87, [some (.ref a0), some (.int x1), some (.int x2), some (.int x3), some (.ref a4), some (.int x5)], [], h1) Q)))) ∧ (¬ v1 = 1 → Q h (some (.int ((-5)))))))) ∧ (x2 = 1 → (am_is h a0 0 ∧ am_Run (am_in 29 [.ref a0, .ref a4, .int x3] h) (fun h1 v => am_Run (am_bk (4, 64, [some (.ref a0), some (.int x1), some (.int x2), some (.int x3), some (.ref a4), some (.int x5)], [], h) h1 v) Q))))) : am_Run (4, 52, [some (.ref a0), some (.int x1), some (.int x2), some (.int x3), some (.ref a4), some (.int x5)], [], h) Q := by
  refine ar_iload_n i_4_52 rfl ?_
  refine ar_iconst i_4_53 ?_
  refine ar_icmp_ne i_4_54 (fun q => ?_) (fun q => ?_)
  · replace F := F.1 q
    refine ar_aload i_4_65 rfl ?_
    obtain ⟨v1, g_v1, F⟩ := F
    refine ar_getI i_4_67 g_v1 ?_
    refine ar_iconst i_4_70 ?_
    refine ar_icmp_eq i_4_71 (fun q => ?_) (fun q => ?_)
    · replace F := F.1 q
      refine ar_iload_n i_4_77 rfl ?_
      refine ar_if_ne i_4_78 (fun q => ?_) (fun q => ?_)
      · replace F := F.1 q
        refine ar_aload_n i_4_96 rfl ?_
        refine ar_aload i_4_97 rfl ?_
        refine ar_iconst i_4_99 ?_
        exact ar_callV i_4_100 rfl rfl F.1 (Nat.le_of_ble_eq_true rfl) (Nat.le_of_ble_eq_true rfl) F.2
      · replace F := F.2 q
        refine ar_aload i_4_81 rfl ?_
        refine ar_iconst i_4_83 ?_
        exact ar_put i_4_84 rfl F
    · replace F := F.2 q
      refine ar_bipush i_4_74 ?_
      exact ar_iret i_4_76 rfl F
  · replace F := F.2 q
    refine ar_aload_n i_4_57 rfl ?_
    refine ar_aload i_4_58 rfl ?_
    refine ar_iload_n i_4_60 rfl ?_
    exact ar_callV i_4_61 rfl rfl F.1 (Nat.le_of_ble_eq_true rfl) (Nat.le_of_ble_eq_true rfl) F.2
theorem B4_64 {a0 : Nat} {x1 : Int32} {x2 : Int32} {x3 : Int32} {a4 : Nat} {x5 : Int32} {y0 : Int32} {h : am_H} {Q : am_H → Option Value → Prop} (F : Q h (some (.int y0))) : am_Run (4, 64, [some (.ref a0), some (.int x1), some (.int x2), some (.int x3), some (.ref a4), some (.int x5)], [.int y0], h) Q := by
  exact ar_iret i_4_64 rfl F
theorem B4_87 {a0 : Nat} {x1 : Int32} {x2 : Int32} {x3 : Int32} {a4 : Nat} {x5 : Int32} {h : am_H} {Q : am_H → Option Value → Prop} (F : am_wf h a4 4 5 (.int x3) (fun h1 => am_Run (4, 93, [some (.ref a0), some (.int x1), some (.int x2), some (.int x3), some (.ref a4), some (.int x5)], [], h1) Q)) : am_Run (4, 87, [some (.ref a0), some (.int x1), some (.int x2), some (.int x3), some (.ref a4), some (.int x5)], [], h) Q := by
  refine ar_aload i_4_87 rfl ?_
  refine ar_iload_n i_4_89 rfl ?_
  exact ar_put i_4_90 rfl F
theorem B4_93 {a0 : Nat} {x1 : Int32} {x2 : Int32} {x3 : Int32} {a4 : Nat} {x5 : Int32} {h : am_H} {Q : am_H → Option Value → Prop} (F : (∃ v1 : Int32, am_gi h a4 4 4 v1 ∧ Q h (some (.int v1)))) : am_Run (4, 93, [some (.ref a0), some (.int x1), some (.int x2), some (.int x3), some (.ref a4), some (.int x5)], [], h) Q := by
  refine ar_goto i_4_93 ?_
  refine ar_aload i_4_103 rfl ?_
  obtain ⟨v1, g_v1, F⟩ := F
  refine ar_getI i_4_105 g_v1 ?_
  exact ar_iret i_4_108 rfl F
theorem B4_103 {a0 : Nat} {x1 : Int32} {x2 : Int32} {x3 : Int32} {a4 : Nat} {x5 : Int32} {h : am_H} {Q : am_H → Option Value → Prop} (F : (∃ v1 : Int32, am_gi h a4 4 4 v1 ∧ Q h (some (.int v1)))) : am_Run (4, 103, [some (.ref a0), some (.int x1), some (.int x2), some (.int x3), some (.ref a4), some (.int x5)], [], h) Q := by
  refine ar_aload i_4_103 rfl ?_
  obtain ⟨v1, g_v1, F⟩ := F
  refine ar_getI i_4_105 g_v1 ?_
  exact ar_iret i_4_108 rfl F
theorem B5_0 {a0 : Nat} {x1 : Int32} {x2 : Int32} {h : am_H} {Q : am_H → Option Value → Prop} (F : (am_is h a0 0 ∧ am_Run (am_in 27 [.ref a0, .int x1] h) (fun h1 v => am_Run (am_bk (5, 5, [some (.ref a0), some (.int x1), some (.int x2), none], [], h) h1 v) Q))) : am_Run (5, 0, [some (.ref a0), some (.int x1), some (.int x2), none], [], h) Q := by
  refine ar_aload_n i_5_0 rfl ?_
  refine ar_iload_n i_5_1 rfl ?_
  exact ar_callV i_5_2 rfl rfl F.1 (Nat.le_of_ble_eq_true rfl) (Nat.le_of_ble_eq_true rfl) F.2
theorem B5_5_1 {a0 : Nat} {x1 : Int32} {x2 : Int32} {h : am_H} {Q : am_H → Option Value → Prop} (F : Q h (some (.int ((-2))))) : am_Run (5, 5, [some (.ref a0), some (.int x1), some (.int x2), none], [.null], h) Q := by
  refine ar_astore_nN i_5_5 rfl ?_
  refine ar_aload_nN i_5_6 rfl ?_
  refine ar_ifnonnullN i_5_7 ?_
  refine ar_bipush i_5_10 ?_
  exact ar_iret i_5_12 rfl F
theorem B5_5 {a0 : Nat} {x1 : Int32} {x2 : Int32} {b0 : Nat} {h : am_H} {Q : am_H → Option Value → Prop} (F : am_Run (am_in 22 [.int x2] h) (fun h1 v => am_Run (am_bk (5, 17, [some (.ref a0), some (.int x1), some (.int x2), some (.ref b0)], [], h) h1 v) Q)) : am_Run (5, 5, [some (.ref a0), some (.int x1), some (.int x2), none], [.ref b0], h) Q := by
  refine ar_astore_n i_5_5 rfl ?_
  refine ar_aload_n i_5_6 rfl ?_
  refine ar_ifnonnull i_5_7 ?_
  refine ar_iload_n i_5_13 rfl ?_
  exact ar_callS i_5_14 (Nat.le_of_ble_eq_true rfl) rfl rfl (Nat.le_of_ble_eq_true rfl) (Nat.le_of_ble_eq_true rfl) F
theorem B5_17 {a0 : Nat} {x1 : Int32} {x2 : Int32} {a3 : Nat} {y0 : Int32} {h : am_H} {Q : am_H → Option Value → Prop} (F : ((¬ y0 = 0 → (∃ v1 : Int32, am_gi h a3 4 4 v1 ∧ ((v1 = 1 → (∃ r2 : Nat, am_gr h a3 4 7 r2 ∧ (∃ v3 : Int32, am_gi h r2 3 1 v3 ∧ ((v3 < 10 → am_Run (5, 52, [some (.ref a0), some (.int x1), some (.int x2), some (.ref a3)], [.ref h.2.1, .ref a3], (am_new h (3, am_dfs 3) (am_dfs 3).length)) Q) ∧ (¬ v3 < 10 → Q h (some (.int ((-1))))))))) ∧ (¬ v1 = 1 → Q h (some (.int ((-5)))))))) ∧ (y0 = 0 → Q h (some (.int ((-4))))))) : am_Run (5, 17, [some (.ref a0), some (.int x1), some (.int x2), some (.ref a3)], [.int y0], h) Q := by
  refine ar_if_ne i_5_17 (fun q => ?_) (fun q => ?_)
  · replace F := F.1 q
    refine ar_aload_n i_5_23 rfl ?_
    obtain ⟨v1, g_v1, F⟩ := F
    refine ar_getI i_5_24 g_v1 ?_
    refine ar_iconst i_5_27 ?_
    refine ar_icmp_eq i_5_28 (fun q => ?_) (fun q => ?_)
    · replace F := F.1 q
      refine ar_aload_n i_5_34 rfl ?_
      obtain ⟨r2, g_r2, F⟩ := F
      refine ar_getR i_5_35 g_r2 ?_
      obtain ⟨v3, g_v3, F⟩ := F
      refine ar_getI i_5_38 g_v3 ?_
      refine ar_bipush i_5_41 ?_
      refine ar_icmp_lt i_5_43 (fun q => ?_) (fun q => ?_)
      · replace F := F.1 q
        refine ar_aload_n i_5_48 rfl ?_
        exact ar_new i_5_49 F
      · replace F := F.2 q
        refine ar_iconst i_5_46 ?_
        exact ar_iret i_5_47 rfl F
    · replace F := F.2 q
      refine ar_bipush i_5_31 ?_
      exact ar_iret i_5_33 rfl F
  · replace F := F.2 q
    refine ar_bipush i_5_20 ?_
    exact ar_iret i_5_22 rfl F
theorem B5_52 {a0 : Nat} {x1 : Int32} {x2 : Int32} {a3 : Nat} {b1 : Nat} {b0 : Nat} {h : am_H} {Q : am_H → Option Value → Prop} (F : (∃ r1 : Nat, am_gr h a3 4 7 r1 ∧ (∃ v2 : Int32, am_gi h r1 3 1 v2 ∧ (∃ r3 : Nat, am_gr h a3 4 7 r3 ∧ am_Run (am_in 66 [.ref b1, .int x2, .int (v2 + 1), .ref r3] h) (fun h1 v => am_Run (am_bk (5, 70, [some (.ref a0), some (.int x1), some (.int x2), some (.ref a3)], [.ref b1, .ref b0], h) h1 v) Q))))) : am_Run (5, 52, [some (.ref a0), some (.int x1), some (.int x2), some (.ref a3)], [.ref b1, .ref b0], h) Q := by
  refine ar_dup i_5_52 rfl ?_
  refine ar_iload_n i_5_53 rfl ?_
  refine ar_aload_n i_5_54 rfl ?_
  obtain ⟨r1, g_r1, F⟩ := F
  refine ar_getR i_5_55 g_r1 ?_
  obtain ⟨v2, g_v2, F⟩ := F
  refine ar_getI i_5_58 g_v2 ?_
  refine ar_iconst i_5_61 ?_
  refine ar_iadd i_5_62 ?_
  refine ar_aload_n i_5_63 rfl ?_
  obtain ⟨r3, g_r3, F⟩ := F
  refine ar_getR i_5_64 g_r3 ?_
  exact ar_callI i_5_67 (by decide) rfl rfl (Nat.le_of_ble_eq_true rfl) (Nat.le_of_ble_eq_true rfl) F
theorem B5_70 {a0 : Nat} {x1 : Int32} {x2 : Int32} {a3 : Nat} {b1 : Nat} {b0 : Nat} {h : am_H} {Q : am_H → Option Value → Prop} (F : am_wf h b0 4 7 (.ref b1) (fun h1 => am_Run (5, 73, [some (.ref a0), some (.int x1), some (.int x2), some (.ref a3)], [], h1) Q)) : am_Run (5, 70, [some (.ref a0), some (.int x1), some (.int x2), some (.ref a3)], [.ref b1, .ref b0], h) Q := by
  exact ar_put i_5_70 rfl F
theorem B5_73 {a0 : Nat} {x1 : Int32} {x2 : Int32} {a3 : Nat} {h : am_H} {Q : am_H → Option Value → Prop} (F : (∃ r1 : Nat, am_gr h a3 4 7 r1 ∧ (∃ v2 : Int32, am_gi h r1 3 1 v2 ∧ Q h (some (.int v2))))) : am_Run (5, 73, [some (.ref a0), some (.int x1), some (.int x2), some (.ref a3)], [], h) Q := by
  refine ar_aload_n i_5_73 rfl ?_
  obtain ⟨r1, g_r1, F⟩ := F
  refine ar_getR i_5_74 g_r1 ?_
  obtain ⟨v2, g_v2, F⟩ := F
  refine ar_getI i_5_77 g_v2 ?_
  exact ar_iret i_5_80 rfl F
theorem B6_0 {a0 : Nat} {x1 : Int32} {x2 : Int32} {x3 : Int32} {h : am_H} {Q : am_H → Option Value → Prop} (F : (am_is h a0 0 ∧ am_Run (am_in 27 [.ref a0, .int x1] h) (fun h1 v => am_Run (am_bk (6, 5, [some (.ref a0), some (.int x1), some (.int x2), some (.int x3), none, none, none, none], [], h) h1 v) Q))) : am_Run (6, 0, [some (.ref a0), some (.int x1), some (.int x2), some (.int x3), none, none, none, none], [], h) Q := by
  refine ar_aload_n i_6_0 rfl ?_
  refine ar_iload_n i_6_1 rfl ?_
  exact ar_callV i_6_2 rfl rfl F.1 (Nat.le_of_ble_eq_true rfl) (Nat.le_of_ble_eq_true rfl) F.2
theorem B6_5_1 {a0 : Nat} {x1 : Int32} {x2 : Int32} {x3 : Int32} {h : am_H} {Q : am_H → Option Value → Prop} (F : Q h (some (.int ((-2))))) : am_Run (6, 5, [some (.ref a0), some (.int x1), some (.int x2), some (.int x3), none, none, none, none], [.null], h) Q := by
  refine ar_astoreN i_6_5 rfl ?_
  refine ar_aloadN i_6_7 rfl ?_
  refine ar_ifnonnullN i_6_9 ?_
  refine ar_bipush i_6_12 ?_
  exact ar_iret i_6_14 rfl F
theorem B6_5 {a0 : Nat} {x1 : Int32} {x2 : Int32} {x3 : Int32} {b0 : Nat} {h : am_H} {Q : am_H → Option Value → Prop} (F : ((x2 = 0 → am_Run (6, 27, [some (.ref a0), some (.int x1), some (.int x2), some (.int x3), some (.ref b0), none, none, none], [], h) Q) ∧ (¬ x2 = 0 → (am_is h a0 0 ∧ am_Run (am_in 25 [.ref a0, .int x2] h) (fun h1 v => am_Run (am_bk (6, 24, [some (.ref a0), some (.int x1), some (.int x2), some (.int x3), some (.ref b0), none, none, none], [], h) h1 v) Q))))) : am_Run (6, 5, [some (.ref a0), some (.int x1), some (.int x2), some (.int x3), none, none, none, none], [.ref b0], h) Q := by
  refine ar_astore i_6_5 rfl ?_
  refine ar_aload i_6_7 rfl ?_
  refine ar_ifnonnull i_6_9 ?_
  refine ar_iload_n i_6_15 rfl ?_
  refine ar_if_eq i_6_16 (fun q => ?_) (fun q => ?_)
  · replace F := F.1 q
    exact F
  · replace F := F.2 q
    refine ar_aload_n i_6_19 rfl ?_
    refine ar_iload_n i_6_20 rfl ?_
    exact ar_callV i_6_21 rfl rfl F.1 (Nat.le_of_ble_eq_true rfl) (Nat.le_of_ble_eq_true rfl) F.2
theorem B6_24_1 {a0 : Nat} {x1 : Int32} {x2 : Int32} {x3 : Int32} {a4 : Nat} {h : am_H} {Q : am_H → Option Value → Prop} (F : am_Run (6, 32, [some (.ref a0), some (.int x1), some (.int x2), some (.int x3), some (.ref a4), none, none, none], [.int 0], h) Q) : am_Run (6, 24, [some (.ref a0), some (.int x1), some (.int x2), some (.int x3), some (.ref a4), none, none, none], [.null], h) Q := by
  refine ar_ifnullN i_6_24 ?_
  refine ar_iconst i_6_31 ?_
  exact F
theorem B6_24 {a0 : Nat} {x1 : Int32} {x2 : Int32} {x3 : Int32} {a4 : Nat} {b0 : Nat} {h : am_H} {Q : am_H → Option Value → Prop} (F : am_Run (6, 27, [some (.ref a0), some (.int x1), some (.int x2), some (.int x3), some (.ref a4), none, none, none], [], h) Q) : am_Run (6, 24, [some (.ref a0), some (.int x1), some (.int x2), some (.int x3), some (.ref a4), none, none, none], [.ref b0], h) Q := by
  refine ar_ifnull i_6_24 ?_
  exact F
theorem B6_27 {a0 : Nat} {x1 : Int32} {x2 : Int32} {x3 : Int32} {a4 : Nat} {h : am_H} {Q : am_H → Option Value → Prop} (F : am_Run (6, 32, [some (.ref a0), some (.int x1), some (.int x2), some (.int x3), some (.ref a4), none, none, none], [.int 1], h) Q) : am_Run (6, 27, [some (.ref a0), some (.int x1), some (.int x2), some (.int x3), some (.ref a4), none, none, none], [], h) Q := by
  refine ar_iconst i_6_27 ?_
  refine ar_goto i_6_28 ?_
  exact F
theorem B6_32 {a0 : Nat} {x1 : Int32} {x2 : Int32} {x3 : Int32} {a4 : Nat} {y0 : Int32} {h : am_H} {Q : am_H → Option Value → Prop} (F : ((y0 = 0 → Q h (some (.int ((-4))))) ∧ (¬ y0 = 0 → am_Run (am_in 21 [.int x3, .int 9999] h) (fun h1 v => am_Run (am_bk (6, 46, [some (.ref a0), some (.int x1), some (.int x2), some (.int x3), some (.ref a4), some (.int y0), none, none], [], h) h1 v) Q)))) : am_Run (6, 32, [some (.ref a0), some (.int x1), some (.int x2), some (.int x3), some (.ref a4), none, none, none], [.int y0], h) Q := by
  refine ar_istore i_6_32 rfl ?_
  refine ar_iload i_6_34 rfl ?_
  refine ar_if_eq i_6_36 (fun q => ?_) (fun q => ?_)
  · replace F := F.1 q
    refine ar_bipush i_6_49 ?_
    exact ar_iret i_6_51 rfl F
  · replace F := F.2 q
    refine ar_iload_n i_6_39 rfl ?_
    refine ar_sipush i_6_40 ?_
    exact ar_callS i_6_43 (Nat.le_of_ble_eq_true rfl) rfl rfl (Nat.le_of_ble_eq_true rfl) (Nat.le_of_ble_eq_true rfl) F
theorem B6_46 {a0 : Nat} {x1 : Int32} {x2 : Int32} {x3 : Int32} {a4 : Nat} {x5 : Int32} {y0 : Int32} {h : am_H} {Q : am_H → Option Value → Prop} (F : ((¬ y0 = 0 → (∃ v1 : Int32, am_gi h a4 4 4 v1 ∧ ((v1 = 1 → (∃ r2 : Nat, am_gr h a4 4 7 r2 ∧ ((am_gn h r2 3 2 ∧ ((am_gn h a4 4 2 ∧ am_Run (6, 91, [some (.ref a0), some (.int x1), some (.int x2), some (.int x3), some (.ref a4), some (.int x5), some (.null), none], [], h) Q) ∨ (∃ r4 : Nat, am_gr h a4 4 2 r4 ∧ am_Run (6, 92, [some (.ref a0), some (.int x1), some (.int x2), some (.int x3), some (.ref a4), some (.int x5), some (.null), none], [.int 1], h) Q))) ∨ (∃ r3 : Nat, am_gr h r2 3 2 r3 ∧ am_Run (6, 91, [some (.ref a0), some (.int x1), some (.int x2), some (.int x3), some (.ref a4), some (.int x5), some (.ref r3), none], [], h) Q)))) ∧ (¬ v1 = 1 → Q h (some (.int ((-5)))))))) ∧ (y0 = 0 → Q h (some (.int ((-4))))))) : am_Run (6, 46, [some (.ref a0), some (.int x1), some (.int x2), some (.int x3), some (.ref a4), some (.int x5), none, none], [.int y0], h) Q := by
  refine ar_if_ne i_6_46 (fun q => ?_) (fun q => ?_)
  · replace F := F.1 q
    refine ar_aload i_6_52 rfl ?_
    obtain ⟨v1, g_v1, F⟩ := F
    refine ar_getI i_6_54 g_v1 ?_
    refine ar_iconst i_6_57 ?_
    refine ar_icmp_eq i_6_58 (fun q => ?_) (fun q => ?_)
    · replace F := F.1 q
      refine ar_aload i_6_64 rfl ?_
      obtain ⟨r2, g_r2, F⟩ := F
      refine ar_getR i_6_66 g_r2 ?_
      rcases F with ⟨g_r3, F⟩ | ⟨r3, g_r3, F⟩
      · refine ar_getN i_6_69 g_r3 ?_
        refine ar_astoreN i_6_72 rfl ?_
        refine ar_aloadN i_6_74 rfl ?_
        refine ar_ifnonnullN i_6_76 ?_
        refine ar_aload i_6_79 rfl ?_
        rcases F with ⟨g_r4, F⟩ | ⟨r4, g_r4, F⟩
        · refine ar_getN i_6_81 g_r4 ?_
          refine ar_ifnullN i_6_84 ?_
          exact F
        · refine ar_getR i_6_81 g_r4 ?_
          refine ar_ifnull i_6_84 ?_
          refine ar_iconst i_6_87 ?_
          refine ar_goto i_6_88 ?_
          exact F
      · refine ar_getR i_6_69 g_r3 ?_
        refine ar_astore i_6_72 rfl ?_
        refine ar_aload i_6_74 rfl ?_
        refine ar_ifnonnull i_6_76 ?_
        exact F
    · replace F := F.2 q
      refine ar_bipush i_6_61 ?_
      exact ar_iret i_6_63 rfl F
  · replace F := F.2 q
    refine ar_bipush i_6_49 ?_
    exact ar_iret i_6_51 rfl F
theorem B6_91 {a0 : Nat} {x1 : Int32} {x2 : Int32} {x3 : Int32} {a4 : Nat} {x5 : Int32} {h : am_H} {Q : am_H → Option Value → Prop} (F : am_Run (6, 92, [some (.ref a0), some (.int x1), some (.int x2), some (.int x3), some (.ref a4), some (.int x5), some (.null), none], [.int 0], h) Q) : am_Run (6, 91, [some (.ref a0), some (.int x1), some (.int x2), some (.int x3), some (.ref a4), some (.int x5), some (.null), none], [], h) Q := by
  refine ar_iconst i_6_91 ?_
  exact F
theorem B6_91_1 {a0 : Nat} {x1 : Int32} {x2 : Int32} {x3 : Int32} {a4 : Nat} {x5 : Int32} {a6 : Nat} {h : am_H} {Q : am_H → Option Value → Prop} (F : am_Run (6, 92, [some (.ref a0), some (.int x1), some (.int x2), some (.int x3), some (.ref a4), some (.int x5), some (.ref a6), none], [.int 0], h) Q) : am_Run (6, 91, [some (.ref a0), some (.int x1), some (.int x2), some (.int x3), some (.ref a4), some (.int x5), some (.ref a6), none], [], h) Q := by
  refine ar_iconst i_6_91 ?_
  exact F
theorem B6_92 {a0 : Nat} {x1 : Int32} {x2 : Int32} {x3 : Int32} {a4 : Nat} {x5 : Int32} {y0 : Int32} {h : am_H} {Q : am_H → Option Value → Prop} (F : ((¬ y0 = 0 → am_Run (6, 109, [some (.ref a0), some (.int x1), some (.int x2), some (.int x3), some (.ref a4), some (.int x5), some (.null), some (.int y0)], [], h) Q) ∧ (y0 = 0 → ((¬ x2 = 0 → Q h (some (.int 0))) ∧ (x2 = 0 → ((x3 = 0 → am_Run (6, 109, [some (.ref a0), some (.int x1), some (.int x2), some (.int x3), some (.ref a4), some (.int x5), some (.null), some (.int y0)], [], h) Q) ∧ (¬ x3 = 0 → Q h (some (.int 0))))))))) : am_Run (6, 92, [some (.ref a0), some (.int x1), some (.int x2), some (.int x3), some (.ref a4), some (.int x5), some (.null), none], [.int y0], h) Q := by
  refine ar_istore i_6_92 rfl ?_
  refine ar_iload i_6_94 rfl ?_
  refine ar_if_ne i_6_96 (fun q => ?_) (fun q => ?_)
  · replace F := F.1 q
    exact F
  · replace F := F.2 q
    refine ar_iload_n i_6_99 rfl ?_
    refine ar_if_ne i_6_100 (fun q => ?_) (fun q => ?_)
    · replace F := F.1 q
      refine ar_iconst i_6_107 ?_
      exact ar_iret i_6_108 rfl F
    · replace F := F.2 q
      refine ar_iload_n i_6_103 rfl ?_
      refine ar_if_eq i_6_104 (fun q => ?_) (fun q => ?_)
      · replace F := F.1 q
        exact F
      · replace F := F.2 q
        refine ar_iconst i_6_107 ?_
        exact ar_iret i_6_108 rfl F
theorem B6_92_1 {a0 : Nat} {x1 : Int32} {x2 : Int32} {x3 : Int32} {a4 : Nat} {x5 : Int32} {a6 : Nat} {y0 : Int32} {h : am_H} {Q : am_H → Option Value → Prop} (F : ((¬ y0 = 0 → am_Run (6, 109, [some (.ref a0), some (.int x1), some (.int x2), some (.int x3), some (.ref a4), some (.int x5), some (.ref a6), some (.int y0)], [], h) Q) ∧ (y0 = 0 → ((¬ x2 = 0 → Q h (some (.int 0))) ∧ (x2 = 0 → ((x3 = 0 → am_Run (6, 109, [some (.ref a0), some (.int x1), some (.int x2), some (.int x3), some (.ref a4), some (.int x5), some (.ref a6), some (.int y0)], [], h) Q) ∧ (¬ x3 = 0 → Q h (some (.int 0))))))))) : am_Run (6, 92, [some (.ref a0), some (.int x1), some (.int x2), some (.int x3), some (.ref a4), some (.int x5), some (.ref a6), none], [.int y0], h) Q := by
  refine ar_istore i_6_92 rfl ?_
  refine ar_iload i_6_94 rfl ?_
  refine ar_if_ne i_6_96 (fun q => ?_) (fun q => ?_)
  · replace F := F.1 q
    exact F
  · replace F := F.2 q
    refine ar_iload_n i_6_99 rfl ?_
    refine ar_if_ne i_6_100 (fun q => ?_) (fun q => ?_)
    · replace F := F.1 q
      refine ar_iconst i_6_107 ?_
      exact ar_iret i_6_108 rfl F
    · replace F := F.2 q
      refine ar_iload_n i_6_103 rfl ?_
      refine ar_if_eq i_6_104 (fun q => ?_) (fun q => ?_)
      · replace F := F.1 q
        exact F
      · replace F := F.2 q
        refine ar_iconst i_6_107 ?_
        exact ar_iret i_6_108 rfl F
theorem B6_109 {a0 : Nat} {x1 : Int32} {x2 : Int32} {x3 : Int32} {a4 : Nat} {x5 : Int32} {x7 : Int32} {h : am_H} {Q : am_H → Option Value → Prop} (F : ((am_gn h a4 4 2 ∧ am_Run (6, 149, [some (.ref a0), some (.int x1), some (.int x2), some (.int x3), some (.ref a4), some (.int x5), some (.null), some (.int x7)], [], h) Q) ∨ (∃ r1 : Nat, am_gr h a4 4 2 r1 ∧ ((am_gn h a4 4 2 ∧ False) ∨ (∃ r2 : Nat, am_gr h a4 4 2 r2 ∧ am_wf h r2 2 1 (.int x2) (fun h1 => am_Run (6, 140, [some (.ref a0), some (.int x1), some (.int x2), some (.int x3), some (.ref a4), some (.int x5), some (.null), some (.int x7)], [], h1) Q)))))) : am_Run (6, 109, [some (.ref a0), some (.int x1), some (.int x2), some (.int x3), some (.ref a4), some (.int x5), some (.null), some (.int x7)], [], h) Q := by
  refine ar_aloadN i_6_109 rfl ?_
  refine ar_ifnullN i_6_111 ?_
  refine ar_aload i_6_123 rfl ?_
  rcases F with ⟨g_r1, F⟩ | ⟨r1, g_r1, F⟩
  · refine ar_getN i_6_125 g_r1 ?_
    refine ar_ifnullN i_6_128 ?_
    exact F
  · refine ar_getR i_6_125 g_r1 ?_
    refine ar_ifnull i_6_128 ?_
    refine ar_aload i_6_131 rfl ?_
    rcases F with ⟨g_r2, F⟩ | ⟨r2, g_r2, F⟩
    · refine ar_getN i_6_133 g_r2 ?_
      refine ar_iload_n i_6_136 rfl ?_
      exact False.elim F
    · refine ar_getR i_6_133 g_r2 ?_
      refine ar_iload_n i_6_136 rfl ?_
      exact ar_put i_6_137 rfl F
theorem B6_109_1 {a0 : Nat} {x1 : Int32} {x2 : Int32} {x3 : Int32} {a4 : Nat} {x5 : Int32} {a6 : Nat} {x7 : Int32} {h : am_H} {Q : am_H → Option Value → Prop} (F : am_wf h a4 4 7 (.ref a6) (fun h1 => am_Run (6, 121, [some (.ref a0), some (.int x1), some (.int x2), some (.int x3), some (.ref a4), some (.int x5), some (.ref a6), some (.int x7)], [], h1) Q)) : am_Run (6, 109, [some (.ref a0), some (.int x1), some (.int x2), some (.int x3), some (.ref a4), some (.int x5), some (.ref a6), some (.int x7)], [], h) Q := by
  refine ar_aload i_6_109 rfl ?_
  refine ar_ifnull i_6_111 ?_
  refine ar_aload i_6_114 rfl ?_
  refine ar_aload i_6_116 rfl ?_
  exact ar_put i_6_118 rfl F
theorem B6_121 {a0 : Nat} {x1 : Int32} {x2 : Int32} {x3 : Int32} {a4 : Nat} {x5 : Int32} {a6 : Nat} {x7 : Int32} {h : am_H} {Q : am_H → Option Value → Prop} (F : Q h (some (.int 1))) : am_Run (6, 121, [some (.ref a0), some (.int x1), some (.int x2), some (.int x3), some (.ref a4), some (.int x5), some (.ref a6), some (.int x7)], [], h) Q := by
  refine ar_iconst i_6_121 ?_
  exact ar_iret i_6_122 rfl F
theorem B6_140 {a0 : Nat} {x1 : Int32} {x2 : Int32} {x3 : Int32} {a4 : Nat} {x5 : Int32} {x7 : Int32} {h : am_H} {Q : am_H → Option Value → Prop} (F : ((am_gn h a4 4 2 ∧ False) ∨ (∃ r1 : Nat, am_gr h a4 4 2 r1 ∧ am_wf h r1 2 2 (.int x3) (fun h1 => am_Run (6, 149, [some (.ref a0), some (.int x1), some (.int x2), some (.int x3), some (.ref a4), some (.int x5), some (.null), some (.int x7)], [], h1) Q)))) : am_Run (6, 140, [some (.ref a0), some (.int x1), some (.int x2), some (.int x3), some (.ref a4), some (.int x5), some (.null), some (.int x7)], [], h) Q := by
  refine ar_aload i_6_140 rfl ?_
  rcases F with ⟨g_r1, F⟩ | ⟨r1, g_r1, F⟩
  · refine ar_getN i_6_142 g_r1 ?_
    refine ar_iload_n i_6_145 rfl ?_
    exact False.elim F
  · refine ar_getR i_6_142 g_r1 ?_
    refine ar_iload_n i_6_145 rfl ?_
    exact ar_put i_6_146 rfl F
theorem B6_149 {a0 : Nat} {x1 : Int32} {x2 : Int32} {x3 : Int32} {a4 : Nat} {x5 : Int32} {x7 : Int32} {h : am_H} {Q : am_H → Option Value → Prop} (F : (am_is h a0 0 ∧ am_Run (am_in 30 [.ref a0, .ref a4, .int 3] h) (fun h1 v => am_Run (am_bk (6, 156, [some (.ref a0), some (.int x1), some (.int x2), some (.int x3), some (.ref a4), some (.int x5), some (.null), some (.int x7)], [], h) h1 v) Q))) : am_Run (6, 149, [some (.ref a0), some (.int x1), some (.int x2), some (.int x3), some (.ref a4), some (.int x5), some (.null), some (.int x7)], [], h) Q := by
  refine ar_aload_n i_6_149 rfl ?_
  refine ar_aload i_6_150 rfl ?_
  refine ar_iconst i_6_152 ?_
  exact ar_callV i_6_153 rfl rfl F.1 (Nat.le_of_ble_eq_true rfl) (Nat.le_of_ble_eq_true rfl) F.2
theorem B6_156 {a0 : Nat} {x1 : Int32} {x2 : Int32} {x3 : Int32} {a4 : Nat} {x5 : Int32} {x7 : Int32} {h : am_H} {Q : am_H → Option Value → Prop} (F : Q h (some (.int 1))) : am_Run (6, 156, [some (.ref a0), some (.int x1), some (.int x2), some (.int x3), some (.ref a4), some (.int x5), some (.null), some (.int x7)], [], h) Q := by
  refine ar_iconst i_6_156 ?_
  exact ar_iret i_6_157 rfl F
theorem B7_0 {a0 : Nat} {x1 : Int32} {h : am_H} {Q : am_H → Option Value → Prop} (F : (am_is h a0 0 ∧ am_Run (am_in 26 [.ref a0, .int x1] h) (fun h1 v => am_Run (am_bk (7, 5, [some (.ref a0), some (.int x1), none], [], h) h1 v) Q))) : am_Run (7, 0, [some (.ref a0), some (.int x1), none], [], h) Q := by
  refine ar_aload_n i_7_0 rfl ?_
  refine ar_iload_n i_7_1 rfl ?_
  exact ar_callV i_7_2 rfl rfl F.1 (Nat.le_of_ble_eq_true rfl) (Nat.le_of_ble_eq_true rfl) F.2
theorem B7_5_1 {a0 : Nat} {x1 : Int32} {h : am_H} {Q : am_H → Option Value → Prop} (F : Q h (some (.int ((-2))))) : am_Run (7, 5, [some (.ref a0), some (.int x1), none], [.null], h) Q := by
  refine ar_astore_nN i_7_5 rfl ?_
  refine ar_aload_nN i_7_6 rfl ?_
  refine ar_ifnonnullN i_7_7 ?_
  refine ar_bipush i_7_10 ?_
  refine ar_goto i_7_12 ?_
  exact ar_iret i_7_19 rfl F
theorem B7_5 {a0 : Nat} {x1 : Int32} {b0 : Nat} {h : am_H} {Q : am_H → Option Value → Prop} (F : (∃ v1 : Int32, am_gi h b0 2 2 v1 ∧ Q h (some (.int v1)))) : am_Run (7, 5, [some (.ref a0), some (.int x1), none], [.ref b0], h) Q := by
  refine ar_astore_n i_7_5 rfl ?_
  refine ar_aload_n i_7_6 rfl ?_
  refine ar_ifnonnull i_7_7 ?_
  refine ar_aload_n i_7_15 rfl ?_
  obtain ⟨v1, g_v1, F⟩ := F
  refine ar_getI i_7_16 g_v1 ?_
  exact ar_iret i_7_19 rfl F
theorem B8_0 {a0 : Nat} {x1 : Int32} {x2 : Int32} {h : am_H} {Q : am_H → Option Value → Prop} (F : (am_is h a0 0 ∧ am_Run (am_in 27 [.ref a0, .int x1] h) (fun h1 v => am_Run (am_bk (8, 5, [some (.ref a0), some (.int x1), some (.int x2), none], [], h) h1 v) Q))) : am_Run (8, 0, [some (.ref a0), some (.int x1), some (.int x2), none], [], h) Q := by
  refine ar_aload_n i_8_0 rfl ?_
  refine ar_iload_n i_8_1 rfl ?_
  exact ar_callV i_8_2 rfl rfl F.1 (Nat.le_of_ble_eq_true rfl) (Nat.le_of_ble_eq_true rfl) F.2
theorem B8_5_1 {a0 : Nat} {x1 : Int32} {x2 : Int32} {h : am_H} {Q : am_H → Option Value → Prop} (F : Q h (some (.int ((-2))))) : am_Run (8, 5, [some (.ref a0), some (.int x1), some (.int x2), none], [.null], h) Q := by
  refine ar_astore_nN i_8_5 rfl ?_
  refine ar_aload_nN i_8_6 rfl ?_
  refine ar_ifnonnullN i_8_7 ?_
  refine ar_bipush i_8_10 ?_
  exact ar_iret i_8_12 rfl F
theorem B8_5 {a0 : Nat} {x1 : Int32} {x2 : Int32} {b0 : Nat} {h : am_H} {Q : am_H → Option Value → Prop} (F : am_Run (am_in 21 [.int x2, .int 10000] h) (fun h1 v => am_Run (am_bk (8, 20, [some (.ref a0), some (.int x1), some (.int x2), some (.ref b0)], [], h) h1 v) Q)) : am_Run (8, 5, [some (.ref a0), some (.int x1), some (.int x2), none], [.ref b0], h) Q := by
  refine ar_astore_n i_8_5 rfl ?_
  refine ar_aload_n i_8_6 rfl ?_
  refine ar_ifnonnull i_8_7 ?_
  refine ar_iload_n i_8_13 rfl ?_
  refine ar_sipush i_8_14 ?_
  exact ar_callS i_8_17 (Nat.le_of_ble_eq_true rfl) rfl rfl (Nat.le_of_ble_eq_true rfl) (Nat.le_of_ble_eq_true rfl) F
theorem B8_20 {a0 : Nat} {x1 : Int32} {x2 : Int32} {a3 : Nat} {y0 : Int32} {h : am_H} {Q : am_H → Option Value → Prop} (F : ((¬ y0 = 0 → (am_is h a3 4 ∧ am_Run (am_in 69 [.ref a3] h) (fun h1 v => am_Run (am_bk (8, 30, [some (.ref a0), some (.int x1), some (.int x2), some (.ref a3)], [], h) h1 v) Q))) ∧ (y0 = 0 → Q h (some (.int ((-4))))))) : am_Run (8, 20, [some (.ref a0), some (.int x1), some (.int x2), some (.ref a3)], [.int y0], h) Q := by
  refine ar_if_ne i_8_20 (fun q => ?_) (fun q => ?_)
  · replace F := F.1 q
    refine ar_aload_n i_8_26 rfl ?_
    exact ar_callV i_8_27 rfl rfl F.1 (Nat.le_of_ble_eq_true rfl) (Nat.le_of_ble_eq_true rfl) F.2
  · replace F := F.2 q
    refine ar_bipush i_8_23 ?_
    exact ar_iret i_8_25 rfl F
theorem B8_30 {a0 : Nat} {x1 : Int32} {x2 : Int32} {a3 : Nat} {y0 : Int32} {h : am_H} {Q : am_H → Option Value → Prop} (F : ((¬ y0 = 0 → (∃ v1 : Int32, am_gi h a3 4 6 v1 ∧ (((v1 + x2) ≤ 30000 → (∃ v2 : Int32, am_gi h a3 4 6 v2 ∧ am_wf h a3 4 6 (.int (v2 + x2)) (fun h1 => am_Run (8, 60, [some (.ref a0), some (.int x1), some (.int x2), some (.ref a3)], [], h1) Q))) ∧ (¬ (v1 + x2) ≤ 30000 → Q h (some (.int ((-1)))))))) ∧ (y0 = 0 → Q h (some (.int ((-5))))))) : am_Run (8, 30, [some (.ref a0), some (.int x1), some (.int x2), some (.ref a3)], [.int y0], h) Q := by
  refine ar_if_ne i_8_30 (fun q => ?_) (fun q => ?_)
  · replace F := F.1 q
    refine ar_aload_n i_8_36 rfl ?_
    obtain ⟨v1, g_v1, F⟩ := F
    refine ar_getI i_8_37 g_v1 ?_
    refine ar_iload_n i_8_40 rfl ?_
    refine ar_iadd i_8_41 ?_
    refine ar_sipush i_8_42 ?_
    refine ar_icmp_le i_8_45 (fun q => ?_) (fun q => ?_)
    · replace F := F.1 q
      refine ar_aload_n i_8_50 rfl ?_
      refine ar_dup i_8_51 rfl ?_
      obtain ⟨v2, g_v2, F⟩ := F
      refine ar_getI i_8_52 g_v2 ?_
      refine ar_iload_n i_8_55 rfl ?_
      refine ar_iadd i_8_56 ?_
      exact ar_put i_8_57 rfl F
    · replace F := F.2 q
      refine ar_iconst i_8_48 ?_
      exact ar_iret i_8_49 rfl F
  · replace F := F.2 q
    refine ar_bipush i_8_33 ?_
    exact ar_iret i_8_35 rfl F
theorem B8_60 {a0 : Nat} {x1 : Int32} {x2 : Int32} {a3 : Nat} {h : am_H} {Q : am_H → Option Value → Prop} (F : (∃ v1 : Int32, am_gi h a3 4 6 v1 ∧ Q h (some (.int v1)))) : am_Run (8, 60, [some (.ref a0), some (.int x1), some (.int x2), some (.ref a3)], [], h) Q := by
  refine ar_aload_n i_8_60 rfl ?_
  obtain ⟨v1, g_v1, F⟩ := F
  refine ar_getI i_8_61 g_v1 ?_
  exact ar_iret i_8_64 rfl F
theorem B9_0 {a0 : Nat} {x1 : Int32} {x2 : Int32} {h : am_H} {Q : am_H → Option Value → Prop} (F : am_Run (am_in 23 [.int x1] h) (fun h1 v => am_Run (am_bk (9, 4, [some (.ref a0), some (.int x1), some (.int x2), none], [], h) h1 v) Q)) : am_Run (9, 0, [some (.ref a0), some (.int x1), some (.int x2), none], [], h) Q := by
  refine ar_iload_n i_9_0 rfl ?_
  exact ar_callS i_9_1 (Nat.le_of_ble_eq_true rfl) rfl rfl (Nat.le_of_ble_eq_true rfl) (Nat.le_of_ble_eq_true rfl) F
theorem B9_4 {a0 : Nat} {x1 : Int32} {x2 : Int32} {y0 : Int32} {h : am_H} {Q : am_H → Option Value → Prop} (F : ((y0 = 0 → Q h (some (.int ((-4))))) ∧ (¬ y0 = 0 → am_Run (am_in 21 [.int x2, .int 50] h) (fun h1 v => am_Run (am_bk (9, 13, [some (.ref a0), some (.int x1), some (.int x2), none], [], h) h1 v) Q)))) : am_Run (9, 4, [some (.ref a0), some (.int x1), some (.int x2), none], [.int y0], h) Q := by
  refine ar_if_eq i_9_4 (fun q => ?_) (fun q => ?_)
  · replace F := F.1 q
    refine ar_bipush i_9_16 ?_
    exact ar_iret i_9_18 rfl F
  · replace F := F.2 q
    refine ar_iload_n i_9_7 rfl ?_
    refine ar_bipush i_9_8 ?_
    exact ar_callS i_9_10 (Nat.le_of_ble_eq_true rfl) rfl rfl (Nat.le_of_ble_eq_true rfl) (Nat.le_of_ble_eq_true rfl) F
theorem B9_13 {a0 : Nat} {x1 : Int32} {x2 : Int32} {y0 : Int32} {h : am_H} {Q : am_H → Option Value → Prop} (F : ((¬ y0 = 0 → (∃ r1 : Nat, am_gr h a0 0 3 r1 ∧ (∃ v2 : Int32, am_ai h r1 x1 v2 ∧ (∃ r3 : Nat, am_gr h a0 0 3 r3 ∧ am_wi h r3 x1 x2 (fun h1 => am_Run (9, 33, [some (.ref a0), some (.int x1), some (.int x2), some (.int v2)], [], h1) Q))))) ∧ (y0 = 0 → Q h (some (.int ((-4))))))) : am_Run (9, 13, [some (.ref a0), some (.int x1), some (.int x2), none], [.int y0], h) Q := by
  refine ar_if_ne i_9_13 (fun q => ?_) (fun q => ?_)
  · replace F := F.1 q
    refine ar_aload_n i_9_19 rfl ?_
    obtain ⟨r1, g_r1, F⟩ := F
    refine ar_getR i_9_20 g_r1 ?_
    refine ar_iload_n i_9_23 rfl ?_
    obtain ⟨v2, g_v2, F⟩ := F
    refine ar_iald i_9_24 g_v2 ?_
    refine ar_istore_n i_9_25 rfl ?_
    refine ar_aload_n i_9_26 rfl ?_
    obtain ⟨r3, g_r3, F⟩ := F
    refine ar_getR i_9_27 g_r3 ?_
    refine ar_iload_n i_9_30 rfl ?_
    refine ar_iload_n i_9_31 rfl ?_
    exact ar_iast i_9_32 F
  · replace F := F.2 q
    refine ar_bipush i_9_16 ?_
    exact ar_iret i_9_18 rfl F
theorem B9_33 {a0 : Nat} {x1 : Int32} {x2 : Int32} {x3 : Int32} {h : am_H} {Q : am_H → Option Value → Prop} (F : (am_is h a0 0 ∧ am_Run (am_in 31 [.ref a0] h) (fun h1 v => am_Run (am_bk (9, 37, [some (.ref a0), some (.int x1), some (.int x2), some (.int x3)], [], h) h1 v) Q))) : am_Run (9, 33, [some (.ref a0), some (.int x1), some (.int x2), some (.int x3)], [], h) Q := by
  refine ar_aload_n i_9_33 rfl ?_
  exact ar_callV i_9_34 rfl rfl F.1 (Nat.le_of_ble_eq_true rfl) (Nat.le_of_ble_eq_true rfl) F.2
theorem B9_37 {a0 : Nat} {x1 : Int32} {x2 : Int32} {x3 : Int32} {y0 : Int32} {h : am_H} {Q : am_H → Option Value → Prop} (F : Q h (some (.int x3))) : am_Run (9, 37, [some (.ref a0), some (.int x1), some (.int x2), some (.int x3)], [.int y0], h) Q := by
  refine ar_pop i_9_37 rfl ?_
  refine ar_iload_n i_9_38 rfl ?_
  exact ar_iret i_9_39 rfl F
theorem B10_0 {a0 : Nat} {l1 : Int64} {h : am_H} {Q : am_H → Option Value → Prop} (F : (∃ w1 : Int64, am_gl h a0 0 8 w1 ∧ ((0 ≤ (lg_cmp l1 w1) → am_wf h a0 0 8 (.long l1) (fun h1 => am_Run (10, 17, [some (.ref a0), some (.long l1), none], [], h1) Q)) ∧ (¬ 0 ≤ (lg_cmp l1 w1) → Q h (some (.int ((-4)))))))) : am_Run (10, 0, [some (.ref a0), some (.long l1), none], [], h) Q := by
  refine ar_lload_n i_10_0 rfl ?_
  refine ar_aload_n i_10_1 rfl ?_
  obtain ⟨w1, g_w1, F⟩ := F
  refine ar_getL i_10_2 g_w1 ?_
  refine ar_lcmp i_10_5 ?_
  refine ar_if_ge i_10_6 (fun q => ?_) (fun q => ?_)
  · replace F := F.1 q
    refine ar_aload_n i_10_12 rfl ?_
    refine ar_lload_n i_10_13 rfl ?_
    exact ar_put i_10_14 rfl F
  · replace F := F.2 q
    refine ar_bipush i_10_9 ?_
    exact ar_iret i_10_11 rfl F
theorem B10_17 {a0 : Nat} {l1 : Int64} {h : am_H} {Q : am_H → Option Value → Prop} (F : (am_is h a0 0 ∧ am_Run (am_in 31 [.ref a0] h) (fun h1 v => am_Run (am_bk (10, 21, [some (.ref a0), some (.long l1), none], [], h) h1 v) Q))) : am_Run (10, 17, [some (.ref a0), some (.long l1), none], [], h) Q := by
  refine ar_aload_n i_10_17 rfl ?_
  exact ar_callV i_10_18 rfl rfl F.1 (Nat.le_of_ble_eq_true rfl) (Nat.le_of_ble_eq_true rfl) F.2
theorem B10_21 {a0 : Nat} {l1 : Int64} {y0 : Int32} {h : am_H} {Q : am_H → Option Value → Prop} (F : Q h (some (.int y0))) : am_Run (10, 21, [some (.ref a0), some (.long l1), none], [.int y0], h) Q := by
  exact ar_iret i_10_21 rfl F
theorem B11_0 {a0 : Nat} {x1 : Int32} {h : am_H} {Q : am_H → Option Value → Prop} (F : (am_is h a0 0 ∧ am_Run (am_in 27 [.ref a0, .int x1] h) (fun h1 v => am_Run (am_bk (11, 5, [some (.ref a0), some (.int x1), none], [], h) h1 v) Q))) : am_Run (11, 0, [some (.ref a0), some (.int x1), none], [], h) Q := by
  refine ar_aload_n i_11_0 rfl ?_
  refine ar_iload_n i_11_1 rfl ?_
  exact ar_callV i_11_2 rfl rfl F.1 (Nat.le_of_ble_eq_true rfl) (Nat.le_of_ble_eq_true rfl) F.2
theorem B11_5_1 {a0 : Nat} {x1 : Int32} {h : am_H} {Q : am_H → Option Value → Prop} (F : Q h (some (.int ((-2))))) : am_Run (11, 5, [some (.ref a0), some (.int x1), none], [.null], h) Q := by
  refine ar_astore_nN i_11_5 rfl ?_
  refine ar_aload_nN i_11_6 rfl ?_
  refine ar_ifnonnullN i_11_7 ?_
  refine ar_bipush i_11_10 ?_
  exact ar_iret i_11_12 rfl F
theorem B11_5 {a0 : Nat} {x1 : Int32} {b0 : Nat} {h : am_H} {Q : am_H → Option Value → Prop} (F : (∃ v1 : Int32, am_gi h b0 4 4 v1 ∧ ((¬ v1 = 0 → (∃ v2 : Int32, am_gi h b0 4 4 v2 ∧ ((¬ v2 = 2 → Q h (some (.int 0))) ∧ (v2 = 2 → (am_is h a0 0 ∧ am_Run (am_in 30 [.ref a0, .ref b0, .int 5] h) (fun h1 v => am_Run (am_bk (11, 41, [some (.ref a0), some (.int x1), some (.ref b0)], [], h) h1 v) Q)))))) ∧ (v1 = 0 → am_wf h b0 4 4 (.int 5) (fun h1 => am_Run (11, 25, [some (.ref a0), some (.int x1), some (.ref b0)], [], h1) Q))))) : am_Run (11, 5, [some (.ref a0), some (.int x1), none], [.ref b0], h) Q := by
  refine ar_astore_n i_11_5 rfl ?_
  refine ar_aload_n i_11_6 rfl ?_
  refine ar_ifnonnull i_11_7 ?_
  refine ar_aload_n i_11_13 rfl ?_
  obtain ⟨v1, g_v1, F⟩ := F
  refine ar_getI i_11_14 g_v1 ?_
  refine ar_if_ne i_11_17 (fun q => ?_) (fun q => ?_)
  · replace F := F.1 q
    refine ar_aload_n i_11_27 rfl ?_
    obtain ⟨v2, g_v2, F⟩ := F
    refine ar_getI i_11_28 g_v2 ?_
    refine ar_iconst i_11_31 ?_
    refine ar_icmp_ne i_11_32 (fun q => ?_) (fun q => ?_)
    · replace F := F.1 q
      refine ar_iconst i_11_43 ?_
      exact ar_iret i_11_44 rfl F
    · replace F := F.2 q
      refine ar_aload_n i_11_35 rfl ?_
      refine ar_aload_n i_11_36 rfl ?_
      refine ar_iconst i_11_37 ?_
      exact ar_callV i_11_38 rfl rfl F.1 (Nat.le_of_ble_eq_true rfl) (Nat.le_of_ble_eq_true rfl) F.2
  · replace F := F.2 q
    refine ar_aload_n i_11_20 rfl ?_
    refine ar_iconst i_11_21 ?_
    exact ar_put i_11_22 rfl F
theorem B11_25 {a0 : Nat} {x1 : Int32} {a2 : Nat} {h : am_H} {Q : am_H → Option Value → Prop} (F : Q h (some (.int 1))) : am_Run (11, 25, [some (.ref a0), some (.int x1), some (.ref a2)], [], h) Q := by
  refine ar_iconst i_11_25 ?_
  exact ar_iret i_11_26 rfl F
theorem B11_41 {a0 : Nat} {x1 : Int32} {a2 : Nat} {h : am_H} {Q : am_H → Option Value → Prop} (F : Q h (some (.int 1))) : am_Run (11, 41, [some (.ref a0), some (.int x1), some (.ref a2)], [], h) Q := by
  refine ar_iconst i_11_41 ?_
  exact ar_iret i_11_42 rfl F
theorem B12_0 {a0 : Nat} {x1 : Int32} {x2 : Int32} {x3 : Int32} {h : am_H} {Q : am_H → Option Value → Prop} (F : (am_is h a0 0 ∧ am_Run (am_in 27 [.ref a0, .int x1] h) (fun h1 v => am_Run (am_bk (12, 5, [some (.ref a0), some (.int x1), some (.int x2), some (.int x3), none, none], [], h) h1 v) Q))) : am_Run (12, 0, [some (.ref a0), some (.int x1), some (.int x2), some (.int x3), none, none], [], h) Q := by
  refine ar_aload_n i_12_0 rfl ?_
  refine ar_iload_n i_12_1 rfl ?_
  exact ar_callV i_12_2 rfl rfl F.1 (Nat.le_of_ble_eq_true rfl) (Nat.le_of_ble_eq_true rfl) F.2
theorem B12_5_1 {a0 : Nat} {x1 : Int32} {x2 : Int32} {x3 : Int32} {h : am_H} {Q : am_H → Option Value → Prop} (F : Q h (some (.int ((-2))))) : am_Run (12, 5, [some (.ref a0), some (.int x1), some (.int x2), some (.int x3), none, none], [.null], h) Q := by
  refine ar_astoreN i_12_5 rfl ?_
  refine ar_aloadN i_12_7 rfl ?_
  refine ar_ifnonnullN i_12_9 ?_
  refine ar_bipush i_12_12 ?_
  exact ar_iret i_12_14 rfl F
theorem B12_5 {a0 : Nat} {x1 : Int32} {x2 : Int32} {x3 : Int32} {b0 : Nat} {h : am_H} {Q : am_H → Option Value → Prop} (F : am_Run (am_in 24 [.int x2] h) (fun h1 v => am_Run (am_bk (12, 19, [some (.ref a0), some (.int x1), some (.int x2), some (.int x3), some (.ref b0), none], [], h) h1 v) Q)) : am_Run (12, 5, [some (.ref a0), some (.int x1), some (.int x2), some (.int x3), none, none], [.ref b0], h) Q := by
  refine ar_astore i_12_5 rfl ?_
  refine ar_aload i_12_7 rfl ?_
  refine ar_ifnonnull i_12_9 ?_
  refine ar_iload_n i_12_15 rfl ?_
  exact ar_callS i_12_16 (Nat.le_of_ble_eq_true rfl) rfl rfl (Nat.le_of_ble_eq_true rfl) (Nat.le_of_ble_eq_true rfl) F
theorem B12_19 {a0 : Nat} {x1 : Int32} {x2 : Int32} {x3 : Int32} {a4 : Nat} {y0 : Int32} {h : am_H} {Q : am_H → Option Value → Prop} (F : ((y0 = 0 → Q h (some (.int ((-4))))) ∧ (¬ y0 = 0 → am_Run (am_in 21 [.int x3, .int 9999] h) (fun h1 v => am_Run (am_bk (12, 29, [some (.ref a0), some (.int x1), some (.int x2), some (.int x3), some (.ref a4), none], [], h) h1 v) Q)))) : am_Run (12, 19, [some (.ref a0), some (.int x1), some (.int x2), some (.int x3), some (.ref a4), none], [.int y0], h) Q := by
  refine ar_if_eq i_12_19 (fun q => ?_) (fun q => ?_)
  · replace F := F.1 q
    refine ar_bipush i_12_32 ?_
    exact ar_iret i_12_34 rfl F
  · replace F := F.2 q
    refine ar_iload_n i_12_22 rfl ?_
    refine ar_sipush i_12_23 ?_
    exact ar_callS i_12_26 (Nat.le_of_ble_eq_true rfl) rfl rfl (Nat.le_of_ble_eq_true rfl) (Nat.le_of_ble_eq_true rfl) F
theorem B12_29 {a0 : Nat} {x1 : Int32} {x2 : Int32} {x3 : Int32} {a4 : Nat} {y0 : Int32} {h : am_H} {Q : am_H → Option Value → Prop} (F : ((¬ y0 = 0 → (∃ v1 : Int32, am_gi h a4 4 4 v1 ∧ ((v1 = 1 → (∃ r2 : Nat, am_gr h a4 4 7 r2 ∧ (∃ r3 : Nat, am_gr h r2 3 3 r3 ∧ (∃ v4 : Int32, am_ai h r3 x2 v4 ∧ (∃ r5 : Nat, am_gr h a4 4 7 r5 ∧ (∃ r6 : Nat, am_gr h r5 3 3 r6 ∧ am_wi h r6 x2 x3 (fun h1 => am_Run (12, 70, [some (.ref a0), some (.int x1), some (.int x2), some (.int x3), some (.ref a4), some (.int v4)], [], h1) Q))))))) ∧ (¬ v1 = 1 → Q h (some (.int ((-5)))))))) ∧ (y0 = 0 → Q h (some (.int ((-4))))))) : am_Run (12, 29, [some (.ref a0), some (.int x1), some (.int x2), some (.int x3), some (.ref a4), none], [.int y0], h) Q := by
  refine ar_if_ne i_12_29 (fun q => ?_) (fun q => ?_)
  · replace F := F.1 q
    refine ar_aload i_12_35 rfl ?_
    obtain ⟨v1, g_v1, F⟩ := F
    refine ar_getI i_12_37 g_v1 ?_
    refine ar_iconst i_12_40 ?_
    refine ar_icmp_eq i_12_41 (fun q => ?_) (fun q => ?_)
    · replace F := F.1 q
      refine ar_aload i_12_47 rfl ?_
      obtain ⟨r2, g_r2, F⟩ := F
      refine ar_getR i_12_49 g_r2 ?_
      obtain ⟨r3, g_r3, F⟩ := F
      refine ar_getR i_12_52 g_r3 ?_
      refine ar_iload_n i_12_55 rfl ?_
      obtain ⟨v4, g_v4, F⟩ := F
      refine ar_iald i_12_56 g_v4 ?_
      refine ar_istore i_12_57 rfl ?_
      refine ar_aload i_12_59 rfl ?_
      obtain ⟨r5, g_r5, F⟩ := F
      refine ar_getR i_12_61 g_r5 ?_
      obtain ⟨r6, g_r6, F⟩ := F
      refine ar_getR i_12_64 g_r6 ?_
      refine ar_iload_n i_12_67 rfl ?_
      refine ar_iload_n i_12_68 rfl ?_
      exact ar_iast i_12_69 F
    · replace F := F.2 q
      refine ar_bipush i_12_44 ?_
      exact ar_iret i_12_46 rfl F
  · replace F := F.2 q
    refine ar_bipush i_12_32 ?_
    exact ar_iret i_12_34 rfl F
theorem B12_70 {a0 : Nat} {x1 : Int32} {x2 : Int32} {x3 : Int32} {a4 : Nat} {x5 : Int32} {h : am_H} {Q : am_H → Option Value → Prop} (F : Q h (some (.int x5))) : am_Run (12, 70, [some (.ref a0), some (.int x1), some (.int x2), some (.int x3), some (.ref a4), some (.int x5)], [], h) Q := by
  refine ar_iload i_12_70 rfl ?_
  exact ar_iret i_12_72 rfl F
theorem B13_0 {a0 : Nat} {x1 : Int32} {x2 : Int32} {h : am_H} {Q : am_H → Option Value → Prop} (F : (am_is h a0 0 ∧ am_Run (am_in 27 [.ref a0, .int x1] h) (fun h1 v => am_Run (am_bk (13, 5, [some (.ref a0), some (.int x1), some (.int x2), none, none], [], h) h1 v) Q))) : am_Run (13, 0, [some (.ref a0), some (.int x1), some (.int x2), none, none], [], h) Q := by
  refine ar_aload_n i_13_0 rfl ?_
  refine ar_iload_n i_13_1 rfl ?_
  exact ar_callV i_13_2 rfl rfl F.1 (Nat.le_of_ble_eq_true rfl) (Nat.le_of_ble_eq_true rfl) F.2
theorem B13_5_1 {a0 : Nat} {x1 : Int32} {x2 : Int32} {h : am_H} {Q : am_H → Option Value → Prop} (F : Q h (some (.int ((-2))))) : am_Run (13, 5, [some (.ref a0), some (.int x1), some (.int x2), none, none], [.null], h) Q := by
  refine ar_astore_nN i_13_5 rfl ?_
  refine ar_aload_nN i_13_6 rfl ?_
  refine ar_ifnonnullN i_13_7 ?_
  refine ar_bipush i_13_10 ?_
  exact ar_iret i_13_12 rfl F
theorem B13_5 {a0 : Nat} {x1 : Int32} {x2 : Int32} {b0 : Nat} {h : am_H} {Q : am_H → Option Value → Prop} (F : am_Run (am_in 24 [.int x2] h) (fun h1 v => am_Run (am_bk (13, 17, [some (.ref a0), some (.int x1), some (.int x2), some (.ref b0), none], [], h) h1 v) Q)) : am_Run (13, 5, [some (.ref a0), some (.int x1), some (.int x2), none, none], [.ref b0], h) Q := by
  refine ar_astore_n i_13_5 rfl ?_
  refine ar_aload_n i_13_6 rfl ?_
  refine ar_ifnonnull i_13_7 ?_
  refine ar_iload_n i_13_13 rfl ?_
  exact ar_callS i_13_14 (Nat.le_of_ble_eq_true rfl) rfl rfl (Nat.le_of_ble_eq_true rfl) (Nat.le_of_ble_eq_true rfl) F
theorem B13_17 {a0 : Nat} {x1 : Int32} {x2 : Int32} {a3 : Nat} {y0 : Int32} {h : am_H} {Q : am_H → Option Value → Prop} (F : ((¬ y0 = 0 → (∃ v1 : Int32, am_gi h a3 4 4 v1 ∧ ((v1 = 1 → (∃ r2 : Nat, am_gr h a3 4 7 r2 ∧ (am_is h r2 3 ∧ am_Run (am_in 67 [.ref r2, .int x2] h) (fun h1 v => am_Run (am_bk (13, 42, [some (.ref a0), some (.int x1), some (.int x2), some (.ref a3), none], [], h) h1 v) Q)))) ∧ (¬ v1 = 1 → Q h (some (.int ((-5)))))))) ∧ (y0 = 0 → Q h (some (.int ((-4))))))) : am_Run (13, 17, [some (.ref a0), some (.int x1), some (.int x2), some (.ref a3), none], [.int y0], h) Q := by
  refine ar_if_ne i_13_17 (fun q => ?_) (fun q => ?_)
  · replace F := F.1 q
    refine ar_aload_n i_13_23 rfl ?_
    obtain ⟨v1, g_v1, F⟩ := F
    refine ar_getI i_13_24 g_v1 ?_
    refine ar_iconst i_13_27 ?_
    refine ar_icmp_eq i_13_28 (fun q => ?_) (fun q => ?_)
    · replace F := F.1 q
      refine ar_aload_n i_13_34 rfl ?_
      obtain ⟨r2, g_r2, F⟩ := F
      refine ar_getR i_13_35 g_r2 ?_
      refine ar_iload_n i_13_38 rfl ?_
      exact ar_callV i_13_39 rfl rfl F.1 (Nat.le_of_ble_eq_true rfl) (Nat.le_of_ble_eq_true rfl) F.2
    · replace F := F.2 q
      refine ar_bipush i_13_31 ?_
      exact ar_iret i_13_33 rfl F
  · replace F := F.2 q
    refine ar_bipush i_13_20 ?_
    exact ar_iret i_13_22 rfl F
theorem B13_42 {a0 : Nat} {x1 : Int32} {x2 : Int32} {a3 : Nat} {y0 : Int32} {h : am_H} {Q : am_H → Option Value → Prop} (F : ((y0 = 0 → (am_is h a0 0 ∧ am_Run (am_in 30 [.ref a0, .ref a3, .int 4] h) (fun h1 v => am_Run (am_bk (13, 58, [some (.ref a0), some (.int x1), some (.int x2), some (.ref a3), some (.int y0)], [], h) h1 v) Q))) ∧ (¬ y0 = 0 → Q h (some (.int y0))))) : am_Run (13, 42, [some (.ref a0), some (.int x1), some (.int x2), some (.ref a3), none], [.int y0], h) Q := by
  refine ar_istore i_13_42 rfl ?_
  refine ar_iload i_13_44 rfl ?_
  refine ar_if_eq i_13_46 (fun q => ?_) (fun q => ?_)
  · replace F := F.1 q
    refine ar_aload_n i_13_52 rfl ?_
    refine ar_aload_n i_13_53 rfl ?_
    refine ar_iconst i_13_54 ?_
    exact ar_callV i_13_55 rfl rfl F.1 (Nat.le_of_ble_eq_true rfl) (Nat.le_of_ble_eq_true rfl) F.2
  · replace F := F.2 q
    refine ar_iload i_13_49 rfl ?_
    exact ar_iret i_13_51 rfl F
theorem B13_58 {a0 : Nat} {x1 : Int32} {x2 : Int32} {a3 : Nat} {x4 : Int32} {h : am_H} {Q : am_H → Option Value → Prop} (F : Q h (some (.int (((-1000)) - x2)))) : am_Run (13, 58, [some (.ref a0), some (.int x1), some (.int x2), some (.ref a3), some (.int x4)], [], h) Q := by
  refine ar_sipush i_13_58 ?_
  refine ar_iload_n i_13_61 rfl ?_
  refine ar_isub i_13_62 ?_
  exact ar_iret i_13_63 rfl F
theorem B14_0 {a0 : Nat} {x1 : Int32} {h : am_H} {Q : am_H → Option Value → Prop} (F : (am_is h a0 0 ∧ am_Run (am_in 27 [.ref a0, .int x1] h) (fun h1 v => am_Run (am_bk (14, 5, [some (.ref a0), some (.int x1), none], [], h) h1 v) Q))) : am_Run (14, 0, [some (.ref a0), some (.int x1), none], [], h) Q := by
  refine ar_aload_n i_14_0 rfl ?_
  refine ar_iload_n i_14_1 rfl ?_
  exact ar_callV i_14_2 rfl rfl F.1 (Nat.le_of_ble_eq_true rfl) (Nat.le_of_ble_eq_true rfl) F.2
theorem B14_5_1 {a0 : Nat} {x1 : Int32} {h : am_H} {Q : am_H → Option Value → Prop} (F : Q h (some (.int ((-2))))) : am_Run (14, 5, [some (.ref a0), some (.int x1), none], [.null], h) Q := by
  refine ar_astore_nN i_14_5 rfl ?_
  refine ar_aload_nN i_14_6 rfl ?_
  refine ar_ifnonnullN i_14_7 ?_
  refine ar_bipush i_14_10 ?_
  refine ar_goto i_14_12 ?_
  exact ar_iret i_14_19 rfl F
theorem B14_5 {a0 : Nat} {x1 : Int32} {b0 : Nat} {h : am_H} {Q : am_H → Option Value → Prop} (F : (∃ v1 : Int32, am_gi h b0 4 4 v1 ∧ Q h (some (.int v1)))) : am_Run (14, 5, [some (.ref a0), some (.int x1), none], [.ref b0], h) Q := by
  refine ar_astore_n i_14_5 rfl ?_
  refine ar_aload_n i_14_6 rfl ?_
  refine ar_ifnonnull i_14_7 ?_
  refine ar_aload_n i_14_15 rfl ?_
  obtain ⟨v1, g_v1, F⟩ := F
  refine ar_getI i_14_16 g_v1 ?_
  exact ar_iret i_14_19 rfl F
theorem B15_0 {a0 : Nat} {x1 : Int32} {x2 : Int32} {h : am_H} {Q : am_H → Option Value → Prop} (F : (am_is h a0 0 ∧ am_Run (am_in 27 [.ref a0, .int x1] h) (fun h1 v => am_Run (am_bk (15, 5, [some (.ref a0), some (.int x1), some (.int x2), none], [], h) h1 v) Q))) : am_Run (15, 0, [some (.ref a0), some (.int x1), some (.int x2), none], [], h) Q := by
  refine ar_aload_n i_15_0 rfl ?_
  refine ar_iload_n i_15_1 rfl ?_
  exact ar_callV i_15_2 rfl rfl F.1 (Nat.le_of_ble_eq_true rfl) (Nat.le_of_ble_eq_true rfl) F.2
theorem B15_5_1 {a0 : Nat} {x1 : Int32} {x2 : Int32} {h : am_H} {Q : am_H → Option Value → Prop} (F : Q h (some (.int ((-1))))) : am_Run (15, 5, [some (.ref a0), some (.int x1), some (.int x2), none], [.null], h) Q := by
  refine ar_astore_nN i_15_5 rfl ?_
  refine ar_aload_nN i_15_6 rfl ?_
  refine ar_ifnonnullN i_15_7 ?_
  refine ar_iconst i_15_10 ?_
  exact ar_iret i_15_11 rfl F
theorem B15_5 {a0 : Nat} {x1 : Int32} {x2 : Int32} {b0 : Nat} {h : am_H} {Q : am_H → Option Value → Prop} (F : (((x2.toInt < 0 ∨ 5 < x2.toInt) → Q h (some (.int ((-1))))) ∧ (x2 = nI 0 → (am_is h b0 4 ∧ am_Run (am_in 69 [.ref b0] h) (fun h1 v => am_Run (am_bk (15, 56, [some (.ref a0), some (.int x1), some (.int x2), some (.ref b0)], [], h) h1 v) Q))) ∧ (x2 = nI 1 → (am_is h b0 4 ∧ am_Run (am_in 69 [.ref b0] h) (fun h1 v => am_Run (am_bk (15, 75, [some (.ref a0), some (.int x1), some (.int x2), some (.ref b0)], [], h) h1 v) Q))) ∧ (x2 = nI 2 → (∃ v1 : Int32, am_gi h b0 4 6 v1 ∧ Q h (some (.int v1)))) ∧ (x2 = nI 3 → (∃ r2 : Nat, am_gr h b0 4 1 r2 ∧ (∃ v3 : Int32, am_gi h r2 1 0 v3 ∧ Q h (some (.int v3))))) ∧ (x2 = nI 4 → ((am_gn h b0 4 2 ∧ Q h (some (.int 0))) ∨ (∃ r4 : Nat, am_gr h b0 4 2 r4 ∧ ((am_gn h b0 4 2 ∧ False) ∨ (∃ r5 : Nat, am_gr h b0 4 2 r5 ∧ (∃ v6 : Int32, am_gi h r5 2 0 v6 ∧ Q h (some (.int v6)))))))) ∧ (x2 = nI 5 → (∃ v7 : Int32, am_gi h b0 4 5 v7 ∧ Q h (some (.int v7)))))) : am_Run (15, 5, [some (.ref a0), some (.int x1), some (.int x2), none], [.ref b0], h) Q := by
  refine ar_astore_n i_15_5 rfl ?_
  refine ar_aload_n i_15_6 rfl ?_
  refine ar_ifnonnull i_15_7 ?_
  refine ar_iload_n i_15_12 rfl ?_
  refine ar_tab i_15_13 (fun q => ?_) (fun j o hj hx ho => ?_) (by decide) (by decide)
  · replace F := F.1 q
    show am_Run (15, 127, [some (.ref a0), some (.int x1), some (.int x2), some (.ref b0)], [], h) Q
    refine ar_iconst i_15_127 ?_
    exact ar_iret i_15_128 rfl F
  · have hj2 : j < 6 := by omega
    replace F := F.2
    match j, hj2, hx, ho with
    | 0, _, hx, ho =>
      cases ho
      refine ⟨by decide, ?_⟩
      replace F := F.1 hx
      show am_Run (15, 52, [some (.ref a0), some (.int x1), some (.int x2), some (.ref b0)], [], h) Q
      refine ar_aload_n i_15_52 rfl ?_
      exact ar_callV i_15_53 rfl rfl F.1 (Nat.le_of_ble_eq_true rfl) (Nat.le_of_ble_eq_true rfl) F.2
    | 1, _, hx, ho =>
      cases ho
      refine ⟨by decide, ?_⟩
      replace F := F.2.1 hx
      show am_Run (15, 71, [some (.ref a0), some (.int x1), some (.int x2), some (.ref b0)], [], h) Q
      refine ar_aload_n i_15_71 rfl ?_
      exact ar_callV i_15_72 rfl rfl F.1 (Nat.le_of_ble_eq_true rfl) (Nat.le_of_ble_eq_true rfl) F.2
    | 2, _, hx, ho =>
      cases ho
      refine ⟨by decide, ?_⟩
      replace F := F.2.2.1 hx
      show am_Run (15, 90, [some (.ref a0), some (.int x1), some (.int x2), some (.ref b0)], [], h) Q
      refine ar_aload_n i_15_90 rfl ?_
      obtain ⟨v1, g_v1, F⟩ := F
      refine ar_getI i_15_91 g_v1 ?_
      exact ar_iret i_15_94 rfl F
    | 3, _, hx, ho =>
      cases ho
      refine ⟨by decide, ?_⟩
      replace F := F.2.2.2.1 hx
      show am_Run (15, 95, [some (.ref a0), some (.int x1), some (.int x2), some (.ref b0)], [], h) Q
      refine ar_aload_n i_15_95 rfl ?_
      obtain ⟨r2, g_r2, F⟩ := F
      refine ar_getR i_15_96 g_r2 ?_
      obtain ⟨v3, g_v3, F⟩ := F
      refine ar_getI i_15_99 g_v3 ?_
      exact ar_iret i_15_102 rfl F
    | 4, _, hx, ho =>
      cases ho
      refine ⟨by decide, ?_⟩
      replace F := F.2.2.2.2.1 hx
      show am_Run (15, 103, [some (.ref a0), some (.int x1), some (.int x2), some (.ref b0)], [], h) Q
      refine ar_aload_n i_15_103 rfl ?_
      rcases F with ⟨g_r4, F⟩ | ⟨r4, g_r4, F⟩
      · refine ar_getN i_15_104 g_r4 ?_
        refine ar_ifnonnullN i_15_107 ?_
        refine ar_iconst i_15_110 ?_
        refine ar_goto i_15_111 ?_
        exact ar_iret i_15_121 rfl F
      · refine ar_getR i_15_104 g_r4 ?_
        refine ar_ifnonnull i_15_107 ?_
        refine ar_aload_n i_15_114 rfl ?_
        rcases F with ⟨g_r5, F⟩ | ⟨r5, g_r5, F⟩
        · refine ar_getN i_15_115 g_r5 ?_
          exact False.elim F
        · refine ar_getR i_15_115 g_r5 ?_
          obtain ⟨v6, g_v6, F⟩ := F
          refine ar_getI i_15_118 g_v6 ?_
          exact ar_iret i_15_121 rfl F
    | 5, _, hx, ho =>
      cases ho
      refine ⟨by decide, ?_⟩
      replace F := F.2.2.2.2.2 hx
      show am_Run (15, 122, [some (.ref a0), some (.int x1), some (.int x2), some (.ref b0)], [], h) Q
      refine ar_aload_n i_15_122 rfl ?_
      obtain ⟨v7, g_v7, F⟩ := F
      refine ar_getI i_15_123 g_v7 ?_
      exact ar_iret i_15_126 rfl F
theorem B15_56 {a0 : Nat} {x1 : Int32} {x2 : Int32} {a3 : Nat} {y0 : Int32} {h : am_H} {Q : am_H → Option Value → Prop} (F : ((y0 = 0 → Q h (some (.int 0))) ∧ (¬ y0 = 0 → (∃ r1 : Nat, am_gr h a3 4 7 r1 ∧ (∃ v2 : Int32, am_gi h r1 3 1 v2 ∧ Q h (some (.int v2))))))) : am_Run (15, 56, [some (.ref a0), some (.int x1), some (.int x2), some (.ref a3)], [.int y0], h) Q := by
  refine ar_if_eq i_15_56 (fun q => ?_) (fun q => ?_)
  · replace F := F.1 q
    refine ar_iconst i_15_69 ?_
    exact ar_iret i_15_70 rfl F
  · replace F := F.2 q
    refine ar_aload_n i_15_59 rfl ?_
    obtain ⟨r1, g_r1, F⟩ := F
    refine ar_getR i_15_60 g_r1 ?_
    obtain ⟨v2, g_v2, F⟩ := F
    refine ar_getI i_15_63 g_v2 ?_
    refine ar_goto i_15_66 ?_
    exact ar_iret i_15_70 rfl F
theorem B15_75 {a0 : Nat} {x1 : Int32} {x2 : Int32} {a3 : Nat} {y0 : Int32} {h : am_H} {Q : am_H → Option Value → Prop} (F : ((y0 = 0 → Q h (some (.int ((-1))))) ∧ (¬ y0 = 0 → (∃ r1 : Nat, am_gr h a3 4 7 r1 ∧ (∃ v2 : Int32, am_gi h r1 3 0 v2 ∧ Q h (some (.int v2))))))) : am_Run (15, 75, [some (.ref a0), some (.int x1), some (.int x2), some (.ref a3)], [.int y0], h) Q := by
  refine ar_if_eq i_15_75 (fun q => ?_) (fun q => ?_)
  · replace F := F.1 q
    refine ar_iconst i_15_88 ?_
    exact ar_iret i_15_89 rfl F
  · replace F := F.2 q
    refine ar_aload_n i_15_78 rfl ?_
    obtain ⟨r1, g_r1, F⟩ := F
    refine ar_getR i_15_79 g_r1 ?_
    obtain ⟨v2, g_v2, F⟩ := F
    refine ar_getI i_15_82 g_v2 ?_
    refine ar_goto i_15_85 ?_
    exact ar_iret i_15_89 rfl F
theorem B16_0 {a0 : Nat} {x1 : Int32} {h : am_H} {Q : am_H → Option Value → Prop} (F : (am_is h a0 0 ∧ am_Run (am_in 26 [.ref a0, .int x1] h) (fun h1 v => am_Run (am_bk (16, 5, [some (.ref a0), some (.int x1), none], [], h) h1 v) Q))) : am_Run (16, 0, [some (.ref a0), some (.int x1), none], [], h) Q := by
  refine ar_aload_n i_16_0 rfl ?_
  refine ar_iload_n i_16_1 rfl ?_
  exact ar_callV i_16_2 rfl rfl F.1 (Nat.le_of_ble_eq_true rfl) (Nat.le_of_ble_eq_true rfl) F.2
theorem B16_5_1 {a0 : Nat} {x1 : Int32} {h : am_H} {Q : am_H → Option Value → Prop} (F : Q h (some (.int ((-2))))) : am_Run (16, 5, [some (.ref a0), some (.int x1), none], [.null], h) Q := by
  refine ar_astore_nN i_16_5 rfl ?_
  refine ar_aload_nN i_16_6 rfl ?_
  refine ar_ifnonnullN i_16_7 ?_
  refine ar_bipush i_16_10 ?_
  refine ar_goto i_16_12 ?_
  exact ar_iret i_16_19 rfl F
theorem B16_5 {a0 : Nat} {x1 : Int32} {b0 : Nat} {h : am_H} {Q : am_H → Option Value → Prop} (F : (∃ v1 : Int32, am_gi h b0 2 3 v1 ∧ Q h (some (.int v1)))) : am_Run (16, 5, [some (.ref a0), some (.int x1), none], [.ref b0], h) Q := by
  refine ar_astore_n i_16_5 rfl ?_
  refine ar_aload_n i_16_6 rfl ?_
  refine ar_ifnonnull i_16_7 ?_
  refine ar_aload_n i_16_15 rfl ?_
  obtain ⟨v1, g_v1, F⟩ := F
  refine ar_getI i_16_16 g_v1 ?_
  exact ar_iret i_16_19 rfl F
theorem B17_0 {a0 : Nat} {x1 : Int32} {h : am_H} {Q : am_H → Option Value → Prop} (F : (((x1.toInt < 0 ∨ 5 < x1.toInt) → (am_is h a0 0 ∧ am_Run (am_in 18 [.ref a0, .int x1] h) (fun h1 v => am_Run (am_bk (17, 83, [some (.ref a0), some (.int x1)], [], h) h1 v) Q))) ∧ (x1 = nI 0 → (∃ v1 : Int32, am_gi h a0 0 5 v1 ∧ Q h (some (.int v1)))) ∧ (x1 = nI 1 → (∃ v2 : Int32, am_gi h a0 0 6 v2 ∧ Q h (some (.int v2)))) ∧ (x1 = nI 2 → (∃ v3 : Int32, am_gi h a0 0 7 v3 ∧ Q h (some (.int v3)))) ∧ (x1 = nI 3 → (am_is h a0 0 ∧ am_Run (am_in 19 [.ref a0, .int 0] h) (fun h1 v => am_Run (am_bk (17, 60, [some (.ref a0), some (.int x1)], [], h) h1 v) Q))) ∧ (x1 = nI 4 → (am_is h a0 0 ∧ am_Run (am_in 19 [.ref a0, .int 1] h) (fun h1 v => am_Run (am_bk (17, 66, [some (.ref a0), some (.int x1)], [], h) h1 v) Q))) ∧ (x1 = nI 5 → (am_is h a0 0 ∧ am_Run (am_in 20 [.ref a0] h) (fun h1 v => am_Run (am_bk (17, 77, [some (.ref a0), some (.int x1)], [], h) h1 v) Q))))) : am_Run (17, 0, [some (.ref a0), some (.int x1)], [], h) Q := by
  refine ar_iload_n i_17_0 rfl ?_
  refine ar_tab i_17_1 (fun q => ?_) (fun j o hj hx ho => ?_) (by decide) (by decide)
  · replace F := F.1 q
    show am_Run (17, 78, [some (.ref a0), some (.int x1)], [], h) Q
    refine ar_aload_n i_17_78 rfl ?_
    refine ar_iload_n i_17_79 rfl ?_
    exact ar_callV i_17_80 rfl rfl F.1 (Nat.le_of_ble_eq_true rfl) (Nat.le_of_ble_eq_true rfl) F.2
  · have hj2 : j < 6 := by omega
    replace F := F.2
    match j, hj2, hx, ho with
    | 0, _, hx, ho =>
      cases ho
      refine ⟨by decide, ?_⟩
      replace F := F.1 hx
      show am_Run (17, 40, [some (.ref a0), some (.int x1)], [], h) Q
      refine ar_aload_n i_17_40 rfl ?_
      obtain ⟨v1, g_v1, F⟩ := F
      refine ar_getI i_17_41 g_v1 ?_
      exact ar_iret i_17_44 rfl F
    | 1, _, hx, ho =>
      cases ho
      refine ⟨by decide, ?_⟩
      replace F := F.2.1 hx
      show am_Run (17, 45, [some (.ref a0), some (.int x1)], [], h) Q
      refine ar_aload_n i_17_45 rfl ?_
      obtain ⟨v2, g_v2, F⟩ := F
      refine ar_getI i_17_46 g_v2 ?_
      exact ar_iret i_17_49 rfl F
    | 2, _, hx, ho =>
      cases ho
      refine ⟨by decide, ?_⟩
      replace F := F.2.2.1 hx
      show am_Run (17, 50, [some (.ref a0), some (.int x1)], [], h) Q
      refine ar_aload_n i_17_50 rfl ?_
      obtain ⟨v3, g_v3, F⟩ := F
      refine ar_getI i_17_51 g_v3 ?_
      exact ar_iret i_17_54 rfl F
    | 3, _, hx, ho =>
      cases ho
      refine ⟨by decide, ?_⟩
      replace F := F.2.2.2.1 hx
      show am_Run (17, 55, [some (.ref a0), some (.int x1)], [], h) Q
      refine ar_aload_n i_17_55 rfl ?_
      refine ar_iconst i_17_56 ?_
      exact ar_callV i_17_57 rfl rfl F.1 (Nat.le_of_ble_eq_true rfl) (Nat.le_of_ble_eq_true rfl) F.2
    | 4, _, hx, ho =>
      cases ho
      refine ⟨by decide, ?_⟩
      replace F := F.2.2.2.2.1 hx
      show am_Run (17, 61, [some (.ref a0), some (.int x1)], [], h) Q
      refine ar_aload_n i_17_61 rfl ?_
      refine ar_iconst i_17_62 ?_
      exact ar_callV i_17_63 rfl rfl F.1 (Nat.le_of_ble_eq_true rfl) (Nat.le_of_ble_eq_true rfl) F.2
    | 5, _, hx, ho =>
      cases ho
      refine ⟨by decide, ?_⟩
      replace F := F.2.2.2.2.2 hx
      show am_Run (17, 73, [some (.ref a0), some (.int x1)], [], h) Q
      refine ar_aload_n i_17_73 rfl ?_
      exact ar_callV i_17_74 rfl rfl F.1 (Nat.le_of_ble_eq_true rfl) (Nat.le_of_ble_eq_true rfl) F.2
theorem B17_60 {a0 : Nat} {x1 : Int32} {y0 : Int32} {h : am_H} {Q : am_H → Option Value → Prop} (F : Q h (some (.int y0))) : am_Run (17, 60, [some (.ref a0), some (.int x1)], [.int y0], h) Q := by
  exact ar_iret i_17_60 rfl F
theorem B17_66 {a0 : Nat} {x1 : Int32} {y0 : Int32} {h : am_H} {Q : am_H → Option Value → Prop} (F : (am_is h a0 0 ∧ am_Run (am_in 19 [.ref a0, .int 2] h) (fun h1 v => am_Run (am_bk (17, 71, [some (.ref a0), some (.int x1)], [.int y0], h) h1 v) Q))) : am_Run (17, 66, [some (.ref a0), some (.int x1)], [.int y0], h) Q := by
  refine ar_aload_n i_17_66 rfl ?_
  refine ar_iconst i_17_67 ?_
  exact ar_callV i_17_68 rfl rfl F.1 (Nat.le_of_ble_eq_true rfl) (Nat.le_of_ble_eq_true rfl) F.2
theorem B17_71 {a0 : Nat} {x1 : Int32} {y1 : Int32} {y0 : Int32} {h : am_H} {Q : am_H → Option Value → Prop} (F : Q h (some (.int (y0 + y1)))) : am_Run (17, 71, [some (.ref a0), some (.int x1)], [.int y1, .int y0], h) Q := by
  refine ar_iadd i_17_71 ?_
  exact ar_iret i_17_72 rfl F
theorem B17_77 {a0 : Nat} {x1 : Int32} {y0 : Int32} {h : am_H} {Q : am_H → Option Value → Prop} (F : Q h (some (.int y0))) : am_Run (17, 77, [some (.ref a0), some (.int x1)], [.int y0], h) Q := by
  exact ar_iret i_17_77 rfl F
theorem B17_83 {a0 : Nat} {x1 : Int32} {y0 : Int32} {h : am_H} {Q : am_H → Option Value → Prop} (F : Q h (some (.int y0))) : am_Run (17, 83, [some (.ref a0), some (.int x1)], [.int y0], h) Q := by
  exact ar_iret i_17_83 rfl F
theorem B18_0 {a0 : Nat} {x1 : Int32} {h : am_H} {Q : am_H → Option Value → Prop} (F : ((x1 < 10 → Q h (some (.int ((-1))))) ∧ (¬ x1 < 10 → ((x1 < 20 → (∃ r1 : Nat, am_gr h a0 0 4 r1 ∧ (∃ v2 : Int32, am_ai h r1 (x1 - 10) v2 ∧ Q h (some (.int v2))))) ∧ (¬ x1 < 20 → Q h (some (.int ((-1))))))))) : am_Run (18, 0, [some (.ref a0), some (.int x1)], [], h) Q := by
  refine ar_iload_n i_18_0 rfl ?_
  refine ar_bipush i_18_1 ?_
  refine ar_icmp_lt i_18_3 (fun q => ?_) (fun q => ?_)
  · replace F := F.1 q
    refine ar_iconst i_18_12 ?_
    exact ar_iret i_18_13 rfl F
  · replace F := F.2 q
    refine ar_iload_n i_18_6 rfl ?_
    refine ar_bipush i_18_7 ?_
    refine ar_icmp_lt i_18_9 (fun q => ?_) (fun q => ?_)
    · replace F := F.1 q
      refine ar_aload_n i_18_14 rfl ?_
      obtain ⟨r1, g_r1, F⟩ := F
      refine ar_getR i_18_15 g_r1 ?_
      refine ar_iload_n i_18_18 rfl ?_
      refine ar_bipush i_18_19 ?_
      refine ar_isub i_18_21 ?_
      obtain ⟨v2, g_v2, F⟩ := F
      refine ar_iald i_18_22 g_v2 ?_
      exact ar_iret i_18_23 rfl F
    · replace F := F.2 q
      refine ar_iconst i_18_12 ?_
      exact ar_iret i_18_13 rfl F
theorem B19_0 {a0 : Nat} {x1 : Int32} {h : am_H} {Q : am_H → Option Value → Prop} (F : am_Run (19, 4, [some (.ref a0), some (.int x1), some (.int 0), some (.int 0), none], [], h) Q) : am_Run (19, 0, [some (.ref a0), some (.int x1), none, none, none], [], h) Q := by
  refine ar_iconst i_19_0 ?_
  refine ar_istore_n i_19_1 rfl ?_
  refine ar_iconst i_19_2 ?_
  refine ar_istore_n i_19_3 rfl ?_
  exact F
theorem B19_4 {a0 : Nat} {x1 : Int32} {x2 : Int32} {x3 : Int32} {h : am_H} {Q : am_H → Option Value → Prop} (F : (∃ v1 : Int32, am_gi h a0 0 7 v1 ∧ ((v1 ≤ x3 → Q h (some (.int x2))) ∧ (¬ v1 ≤ x3 → (∃ r2 : Nat, am_gr h a0 0 2 r2 ∧ (∃ r3 : Nat, am_ar h r2 x3 r3 ∧ (∃ v4 : Int32, am_gi h r3 4 4 v4 ∧ ((¬ v4 = x1 → am_Run (19, 37, [some (.ref a0), some (.int x1), some (.int x2), some (.int x3), some (.ref r3)], [], h) Q) ∧ (v4 = x1 → am_Run (19, 37, [some (.ref a0), some (.int x1), some (.int (x2 + 1)), some (.int x3), some (.ref r3)], [], h) Q))))))))) : am_Run (19, 4, [some (.ref a0), some (.int x1), some (.int x2), some (.int x3), none], [], h) Q := by
  refine ar_iload_n i_19_4 rfl ?_
  refine ar_aload_n i_19_5 rfl ?_
  obtain ⟨v1, g_v1, F⟩ := F
  refine ar_getI i_19_6 g_v1 ?_
  refine ar_icmp_ge i_19_9 (fun q => ?_) (fun q => ?_)
  · replace F := F.1 q
    refine ar_iload_n i_19_43 rfl ?_
    exact ar_iret i_19_44 rfl F
  · replace F := F.2 q
    refine ar_aload_n i_19_12 rfl ?_
    obtain ⟨r2, g_r2, F⟩ := F
    refine ar_getR i_19_13 g_r2 ?_
    refine ar_iload_n i_19_16 rfl ?_
    obtain ⟨r3, g_r3, F⟩ := F
    refine ar_aald i_19_17 g_r3 ?_
    refine ar_astore i_19_18 rfl ?_
    refine ar_aload i_19_20 rfl ?_
    refine ar_ifnull i_19_22 ?_
    refine ar_aload i_19_25 rfl ?_
    obtain ⟨v4, g_v4, F⟩ := F
    refine ar_getI i_19_27 g_v4 ?_
    refine ar_iload_n i_19_30 rfl ?_
    refine ar_icmp_ne i_19_31 (fun q => ?_) (fun q => ?_)
    · replace F := F.1 q
      exact F
    · replace F := F.2 q
      refine ar_iinc i_19_34 rfl rfl ?_
      exact F
theorem B19_4_1 {a0 : Nat} {x1 : Int32} {x2 : Int32} {x3 : Int32} {a4 : Nat} {h : am_H} {Q : am_H → Option Value → Prop} (F : (∃ v1 : Int32, am_gi h a0 0 7 v1 ∧ ((v1 ≤ x3 → Q h (some (.int x2))) ∧ (¬ v1 ≤ x3 → (∃ r2 : Nat, am_gr h a0 0 2 r2 ∧ (∃ r3 : Nat, am_ar h r2 x3 r3 ∧ (∃ v4 : Int32, am_gi h r3 4 4 v4 ∧ ((¬ v4 = x1 → am_Run (19, 37, [some (.ref a0), some (.int x1), some (.int x2), some (.int x3), some (.ref r3)], [], h) Q) ∧ (v4 = x1 → am_Run (19, 37, [some (.ref a0), some (.int x1), some (.int (x2 + 1)), some (.int x3), some (.ref r3)], [], h) Q))))))))) : am_Run (19, 4, [some (.ref a0), some (.int x1), some (.int x2), some (.int x3), some (.ref a4)], [], h) Q := by
  refine ar_iload_n i_19_4 rfl ?_
  refine ar_aload_n i_19_5 rfl ?_
  obtain ⟨v1, g_v1, F⟩ := F
  refine ar_getI i_19_6 g_v1 ?_
  refine ar_icmp_ge i_19_9 (fun q => ?_) (fun q => ?_)
  · replace F := F.1 q
    refine ar_iload_n i_19_43 rfl ?_
    exact ar_iret i_19_44 rfl F
  · replace F := F.2 q
    refine ar_aload_n i_19_12 rfl ?_
    obtain ⟨r2, g_r2, F⟩ := F
    refine ar_getR i_19_13 g_r2 ?_
    refine ar_iload_n i_19_16 rfl ?_
    obtain ⟨r3, g_r3, F⟩ := F
    refine ar_aald i_19_17 g_r3 ?_
    refine ar_astore i_19_18 rfl ?_
    refine ar_aload i_19_20 rfl ?_
    refine ar_ifnull i_19_22 ?_
    refine ar_aload i_19_25 rfl ?_
    obtain ⟨v4, g_v4, F⟩ := F
    refine ar_getI i_19_27 g_v4 ?_
    refine ar_iload_n i_19_30 rfl ?_
    refine ar_icmp_ne i_19_31 (fun q => ?_) (fun q => ?_)
    · replace F := F.1 q
      exact F
    · replace F := F.2 q
      refine ar_iinc i_19_34 rfl rfl ?_
      exact F
theorem B19_37 {a0 : Nat} {x1 : Int32} {x2 : Int32} {x3 : Int32} {a4 : Nat} {h : am_H} {Q : am_H → Option Value → Prop} (F : am_Run (19, 4, [some (.ref a0), some (.int x1), some (.int x2), some (.int (x3 + 1)), some (.ref a4)], [], h) Q) : am_Run (19, 37, [some (.ref a0), some (.int x1), some (.int x2), some (.int x3), some (.ref a4)], [], h) Q := by
  refine ar_iinc i_19_37 rfl rfl ?_
  refine ar_goto i_19_40 ?_
  exact F
theorem B20_0 {a0 : Nat} {h : am_H} {Q : am_H → Option Value → Prop} (F : am_Run (20, 4, [some (.ref a0), some (.int 0), some (.int 0), none], [], h) Q) : am_Run (20, 0, [some (.ref a0), none, none, none], [], h) Q := by
  refine ar_iconst i_20_0 ?_
  refine ar_istore_n i_20_1 rfl ?_
  refine ar_iconst i_20_2 ?_
  refine ar_istore_n i_20_3 rfl ?_
  exact F
theorem B20_4 {a0 : Nat} {x1 : Int32} {x2 : Int32} {h : am_H} {Q : am_H → Option Value → Prop} (F : (∃ v1 : Int32, am_gi h a0 0 7 v1 ∧ ((v1 ≤ x2 → Q h (some (.int x1))) ∧ (¬ v1 ≤ x2 → (∃ r2 : Nat, am_gr h a0 0 2 r2 ∧ (∃ r3 : Nat, am_ar h r2 x2 r3 ∧ (∃ v4 : Int32, am_gi h r3 4 6 v4 ∧ am_Run (20, 30, [some (.ref a0), some (.int (x1 + v4)), some (.int x2), some (.ref r3)], [], h) Q))))))) : am_Run (20, 4, [some (.ref a0), some (.int x1), some (.int x2), none], [], h) Q := by
  refine ar_iload_n i_20_4 rfl ?_
  refine ar_aload_n i_20_5 rfl ?_
  obtain ⟨v1, g_v1, F⟩ := F
  refine ar_getI i_20_6 g_v1 ?_
  refine ar_icmp_ge i_20_9 (fun q => ?_) (fun q => ?_)
  · replace F := F.1 q
    refine ar_iload_n i_20_36 rfl ?_
    exact ar_iret i_20_37 rfl F
  · replace F := F.2 q
    refine ar_aload_n i_20_12 rfl ?_
    obtain ⟨r2, g_r2, F⟩ := F
    refine ar_getR i_20_13 g_r2 ?_
    refine ar_iload_n i_20_16 rfl ?_
    obtain ⟨r3, g_r3, F⟩ := F
    refine ar_aald i_20_17 g_r3 ?_
    refine ar_astore_n i_20_18 rfl ?_
    refine ar_aload_n i_20_19 rfl ?_
    refine ar_ifnull i_20_20 ?_
    refine ar_iload_n i_20_23 rfl ?_
    refine ar_aload_n i_20_24 rfl ?_
    obtain ⟨v4, g_v4, F⟩ := F
    refine ar_getI i_20_25 g_v4 ?_
    refine ar_iadd i_20_28 ?_
    refine ar_istore_n i_20_29 rfl ?_
    exact F
theorem B20_4_1 {a0 : Nat} {x1 : Int32} {x2 : Int32} {a3 : Nat} {h : am_H} {Q : am_H → Option Value → Prop} (F : (∃ v1 : Int32, am_gi h a0 0 7 v1 ∧ ((v1 ≤ x2 → Q h (some (.int x1))) ∧ (¬ v1 ≤ x2 → (∃ r2 : Nat, am_gr h a0 0 2 r2 ∧ (∃ r3 : Nat, am_ar h r2 x2 r3 ∧ (∃ v4 : Int32, am_gi h r3 4 6 v4 ∧ am_Run (20, 30, [some (.ref a0), some (.int (x1 + v4)), some (.int x2), some (.ref r3)], [], h) Q))))))) : am_Run (20, 4, [some (.ref a0), some (.int x1), some (.int x2), some (.ref a3)], [], h) Q := by
  refine ar_iload_n i_20_4 rfl ?_
  refine ar_aload_n i_20_5 rfl ?_
  obtain ⟨v1, g_v1, F⟩ := F
  refine ar_getI i_20_6 g_v1 ?_
  refine ar_icmp_ge i_20_9 (fun q => ?_) (fun q => ?_)
  · replace F := F.1 q
    refine ar_iload_n i_20_36 rfl ?_
    exact ar_iret i_20_37 rfl F
  · replace F := F.2 q
    refine ar_aload_n i_20_12 rfl ?_
    obtain ⟨r2, g_r2, F⟩ := F
    refine ar_getR i_20_13 g_r2 ?_
    refine ar_iload_n i_20_16 rfl ?_
    obtain ⟨r3, g_r3, F⟩ := F
    refine ar_aald i_20_17 g_r3 ?_
    refine ar_astore_n i_20_18 rfl ?_
    refine ar_aload_n i_20_19 rfl ?_
    refine ar_ifnull i_20_20 ?_
    refine ar_iload_n i_20_23 rfl ?_
    refine ar_aload_n i_20_24 rfl ?_
    obtain ⟨v4, g_v4, F⟩ := F
    refine ar_getI i_20_25 g_v4 ?_
    refine ar_iadd i_20_28 ?_
    refine ar_istore_n i_20_29 rfl ?_
    exact F
theorem B20_30 {a0 : Nat} {x1 : Int32} {x2 : Int32} {a3 : Nat} {h : am_H} {Q : am_H → Option Value → Prop} (F : am_Run (20, 4, [some (.ref a0), some (.int x1), some (.int (x2 + 1)), some (.ref a3)], [], h) Q) : am_Run (20, 30, [some (.ref a0), some (.int x1), some (.int x2), some (.ref a3)], [], h) Q := by
  refine ar_iinc i_20_30 rfl rfl ?_
  refine ar_goto i_20_33 ?_
  exact F
theorem B21_0 {x0 : Int32} {x1 : Int32} {h : am_H} {Q : am_H → Option Value → Prop} (F : ((x0 < 0 → Q h (some (.int 0))) ∧ (¬ x0 < 0 → ((x1 < x0 → Q h (some (.int 0))) ∧ (¬ x1 < x0 → Q h (some (.int 1))))))) : am_Run (21, 0, [some (.int x0), some (.int x1)], [], h) Q := by
  refine ar_iload_n i_21_0 rfl ?_
  refine ar_if_lt i_21_1 (fun q => ?_) (fun q => ?_)
  · replace F := F.1 q
    refine ar_iconst i_21_13 ?_
    exact ar_iret i_21_14 rfl F
  · replace F := F.2 q
    refine ar_iload_n i_21_4 rfl ?_
    refine ar_iload_n i_21_5 rfl ?_
    refine ar_icmp_gt i_21_6 (fun q => ?_) (fun q => ?_)
    · replace F := F.1 q
      refine ar_iconst i_21_13 ?_
      exact ar_iret i_21_14 rfl F
    · replace F := F.2 q
      refine ar_iconst i_21_9 ?_
      refine ar_goto i_21_10 ?_
      exact ar_iret i_21_14 rfl F
theorem B22_0 {x0 : Int32} {h : am_H} {Q : am_H → Option Value → Prop} (F : am_Run (am_in 21 [.int x0, .int 99] h) (fun h1 v => am_Run (am_bk (22, 6, [some (.int x0)], [], h) h1 v) Q)) : am_Run (22, 0, [some (.int x0)], [], h) Q := by
  refine ar_iload_n i_22_0 rfl ?_
  refine ar_bipush i_22_1 ?_
  exact ar_callS i_22_3 (Nat.le_of_ble_eq_true rfl) rfl rfl (Nat.le_of_ble_eq_true rfl) (Nat.le_of_ble_eq_true rfl) F
theorem B22_6 {x0 : Int32} {y0 : Int32} {h : am_H} {Q : am_H → Option Value → Prop} (F : (am_rfit 22 (.int y0) = true ∧ Q h (some (.int y0)))) : am_Run (22, 6, [some (.int x0)], [.int y0], h) Q := by
  exact ar_iret i_22_6 F.1 F.2
theorem B23_0 {x0 : Int32} {h : am_H} {Q : am_H → Option Value → Prop} (F : am_Run (am_in 21 [.int x0, .int 9] h) (fun h1 v => am_Run (am_bk (23, 6, [some (.int x0)], [], h) h1 v) Q)) : am_Run (23, 0, [some (.int x0)], [], h) Q := by
  refine ar_iload_n i_23_0 rfl ?_
  refine ar_bipush i_23_1 ?_
  exact ar_callS i_23_3 (Nat.le_of_ble_eq_true rfl) rfl rfl (Nat.le_of_ble_eq_true rfl) (Nat.le_of_ble_eq_true rfl) F
theorem B23_6 {x0 : Int32} {y0 : Int32} {h : am_H} {Q : am_H → Option Value → Prop} (F : (am_rfit 23 (.int y0) = true ∧ Q h (some (.int y0)))) : am_Run (23, 6, [some (.int x0)], [.int y0], h) Q := by
  exact ar_iret i_23_6 F.1 F.2
theorem B24_0 {x0 : Int32} {h : am_H} {Q : am_H → Option Value → Prop} (F : am_Run (am_in 21 [.int x0, .int 9] h) (fun h1 v => am_Run (am_bk (24, 6, [some (.int x0)], [], h) h1 v) Q)) : am_Run (24, 0, [some (.int x0)], [], h) Q := by
  refine ar_iload_n i_24_0 rfl ?_
  refine ar_bipush i_24_1 ?_
  exact ar_callS i_24_3 (Nat.le_of_ble_eq_true rfl) rfl rfl (Nat.le_of_ble_eq_true rfl) (Nat.le_of_ble_eq_true rfl) F
theorem B24_6 {x0 : Int32} {y0 : Int32} {h : am_H} {Q : am_H → Option Value → Prop} (F : (am_rfit 24 (.int y0) = true ∧ Q h (some (.int y0)))) : am_Run (24, 6, [some (.int x0)], [.int y0], h) Q := by
  exact ar_iret i_24_6 F.1 F.2
theorem B25_0 {a0 : Nat} {x1 : Int32} {h : am_H} {Q : am_H → Option Value → Prop} (F : ((x1 < 1 → Q h (some (.null))) ∧ (¬ x1 < 1 → (∃ v1 : Int32, am_gi h a0 0 5 v1 ∧ ((v1 < x1 → Q h (some (.null))) ∧ (¬ v1 < x1 → (∃ r2 : Nat, am_gr h a0 0 0 r2 ∧ (∃ r3 : Nat, am_ar h r2 (x1 - 1) r3 ∧ Q h (some (.ref r3)))))))))) : am_Run (25, 0, [some (.ref a0), some (.int x1)], [], h) Q := by
  refine ar_iload_n i_25_0 rfl ?_
  refine ar_iconst i_25_1 ?_
  refine ar_icmp_lt i_25_2 (fun q => ?_) (fun q => ?_)
  · replace F := F.1 q
    refine ar_aconst_null i_25_24 ?_
    exact ar_aretN i_25_25 F
  · replace F := F.2 q
    refine ar_iload_n i_25_5 rfl ?_
    refine ar_aload_n i_25_6 rfl ?_
    obtain ⟨v1, g_v1, F⟩ := F
    refine ar_getI i_25_7 g_v1 ?_
    refine ar_icmp_gt i_25_10 (fun q => ?_) (fun q => ?_)
    · replace F := F.1 q
      refine ar_aconst_null i_25_24 ?_
      exact ar_aretN i_25_25 F
    · replace F := F.2 q
      refine ar_aload_n i_25_13 rfl ?_
      obtain ⟨r2, g_r2, F⟩ := F
      refine ar_getR i_25_14 g_r2 ?_
      refine ar_iload_n i_25_17 rfl ?_
      refine ar_iconst i_25_18 ?_
      refine ar_isub i_25_19 ?_
      obtain ⟨r3, g_r3, F⟩ := F
      refine ar_aald i_25_20 g_r3 ?_
      refine ar_goto i_25_21 ?_
      exact ar_aret i_25_25 F
theorem B26_0 {a0 : Nat} {x1 : Int32} {h : am_H} {Q : am_H → Option Value → Prop} (F : ((x1 < 1 → Q h (some (.null))) ∧ (¬ x1 < 1 → (∃ v1 : Int32, am_gi h a0 0 6 v1 ∧ ((v1 < x1 → Q h (some (.null))) ∧ (¬ v1 < x1 → (∃ r2 : Nat, am_gr h a0 0 1 r2 ∧ (∃ r3 : Nat, am_ar h r2 (x1 - 1) r3 ∧ Q h (some (.ref r3)))))))))) : am_Run (26, 0, [some (.ref a0), some (.int x1)], [], h) Q := by
  refine ar_iload_n i_26_0 rfl ?_
  refine ar_iconst i_26_1 ?_
  refine ar_icmp_lt i_26_2 (fun q => ?_) (fun q => ?_)
  · replace F := F.1 q
    refine ar_aconst_null i_26_24 ?_
    exact ar_aretN i_26_25 F
  · replace F := F.2 q
    refine ar_iload_n i_26_5 rfl ?_
    refine ar_aload_n i_26_6 rfl ?_
    obtain ⟨v1, g_v1, F⟩ := F
    refine ar_getI i_26_7 g_v1 ?_
    refine ar_icmp_gt i_26_10 (fun q => ?_) (fun q => ?_)
    · replace F := F.1 q
      refine ar_aconst_null i_26_24 ?_
      exact ar_aretN i_26_25 F
    · replace F := F.2 q
      refine ar_aload_n i_26_13 rfl ?_
      obtain ⟨r2, g_r2, F⟩ := F
      refine ar_getR i_26_14 g_r2 ?_
      refine ar_iload_n i_26_17 rfl ?_
      refine ar_iconst i_26_18 ?_
      refine ar_isub i_26_19 ?_
      obtain ⟨r3, g_r3, F⟩ := F
      refine ar_aald i_26_20 g_r3 ?_
      refine ar_goto i_26_21 ?_
      exact ar_aret i_26_25 F
theorem B27_0 {a0 : Nat} {x1 : Int32} {h : am_H} {Q : am_H → Option Value → Prop} (F : ((x1 < 1 → Q h (some (.null))) ∧ (¬ x1 < 1 → (∃ v1 : Int32, am_gi h a0 0 7 v1 ∧ ((v1 < x1 → Q h (some (.null))) ∧ (¬ v1 < x1 → (∃ r2 : Nat, am_gr h a0 0 2 r2 ∧ (∃ r3 : Nat, am_ar h r2 (x1 - 1) r3 ∧ Q h (some (.ref r3)))))))))) : am_Run (27, 0, [some (.ref a0), some (.int x1)], [], h) Q := by
  refine ar_iload_n i_27_0 rfl ?_
  refine ar_iconst i_27_1 ?_
  refine ar_icmp_lt i_27_2 (fun q => ?_) (fun q => ?_)
  · replace F := F.1 q
    refine ar_aconst_null i_27_24 ?_
    exact ar_aretN i_27_25 F
  · replace F := F.2 q
    refine ar_iload_n i_27_5 rfl ?_
    refine ar_aload_n i_27_6 rfl ?_
    obtain ⟨v1, g_v1, F⟩ := F
    refine ar_getI i_27_7 g_v1 ?_
    refine ar_icmp_gt i_27_10 (fun q => ?_) (fun q => ?_)
    · replace F := F.1 q
      refine ar_aconst_null i_27_24 ?_
      exact ar_aretN i_27_25 F
    · replace F := F.2 q
      refine ar_aload_n i_27_13 rfl ?_
      obtain ⟨r2, g_r2, F⟩ := F
      refine ar_getR i_27_14 g_r2 ?_
      refine ar_iload_n i_27_17 rfl ?_
      refine ar_iconst i_27_18 ?_
      refine ar_isub i_27_19 ?_
      obtain ⟨r3, g_r3, F⟩ := F
      refine ar_aald i_27_20 g_r3 ?_
      refine ar_goto i_27_21 ?_
      exact ar_aret i_27_25 F
theorem B28_0_1 {a0 : Nat} {h : am_H} {Q : am_H → Option Value → Prop} (F : Q h (some (.null))) : am_Run (28, 0, [some (.ref a0), some (.null)], [], h) Q := by
  refine ar_aload_nN i_28_0 rfl ?_
  refine ar_ifnonnullN i_28_1 ?_
  refine ar_aconst_null i_28_4 ?_
  refine ar_goto i_28_5 ?_
  exact ar_aretN i_28_16 F
theorem B28_0 {a0 : Nat} {a1 : Nat} {h : am_H} {Q : am_H → Option Value → Prop} (F : (∃ v1 : Int32, am_gi h a1 2 1 v1 ∧ (am_is h a0 0 ∧ am_Run (am_in 25 [.ref a0, .int v1] h) (fun h1 v => am_Run (am_bk (28, 16, [some (.ref a0), some (.ref a1)], [], h) h1 v) Q)))) : am_Run (28, 0, [some (.ref a0), some (.ref a1)], [], h) Q := by
  refine ar_aload_n i_28_0 rfl ?_
  refine ar_ifnonnull i_28_1 ?_
  refine ar_aload_n i_28_8 rfl ?_
  refine ar_aload_n i_28_9 rfl ?_
  obtain ⟨v1, g_v1, F⟩ := F
  refine ar_getI i_28_10 g_v1 ?_
  exact ar_callV i_28_13 rfl rfl F.1 (Nat.le_of_ble_eq_true rfl) (Nat.le_of_ble_eq_true rfl) F.2
theorem B28_16_1 {a0 : Nat} {a1 : Nat} {h : am_H} {Q : am_H → Option Value → Prop} (F : Q h (some (.null))) : am_Run (28, 16, [some (.ref a0), some (.ref a1)], [.null], h) Q := by
  exact ar_aretN i_28_16 F
theorem B28_16 {a0 : Nat} {a1 : Nat} {b0 : Nat} {h : am_H} {Q : am_H → Option Value → Prop} (F : Q h (some (.ref b0))) : am_Run (28, 16, [some (.ref a0), some (.ref a1)], [.ref b0], h) Q := by
  exact ar_aret i_28_16 F
theorem B29_0_1 {a0 : Nat} {x2 : Int32} {h : am_H} {Q : am_H → Option Value → Prop} (F : False) : am_Run (29, 0, [some (.ref a0), some (.null), some (.int x2)], [], h) Q := by
  refine ar_aload_nN i_29_0 rfl ?_
  exact False.elim F
theorem B29_0 {a0 : Nat} {a1 : Nat} {x2 : Int32} {h : am_H} {Q : am_H → Option Value → Prop} (F : (∃ v1 : Int32, am_gi h a1 4 4 v1 ∧ ((¬ v1 = 2 → Q h (some (.int ((-5))))) ∧ (v1 = 2 → (∃ v2 : Int32, am_gi h a1 4 5 v2 ∧ ((v2 = x2 → am_wf h a1 4 4 (.int 1) (fun h1 => am_Run (29, 24, [some (.ref a0), some (.ref a1), some (.int x2)], [], h1) Q)) ∧ (¬ v2 = x2 → Q h (some (.int ((-5))))))))))) : am_Run (29, 0, [some (.ref a0), some (.ref a1), some (.int x2)], [], h) Q := by
  refine ar_aload_n i_29_0 rfl ?_
  obtain ⟨v1, g_v1, F⟩ := F
  refine ar_getI i_29_1 g_v1 ?_
  refine ar_iconst i_29_4 ?_
  refine ar_icmp_ne i_29_5 (fun q => ?_) (fun q => ?_)
  · replace F := F.1 q
    refine ar_bipush i_29_16 ?_
    exact ar_iret i_29_18 rfl F
  · replace F := F.2 q
    refine ar_aload_n i_29_8 rfl ?_
    obtain ⟨v2, g_v2, F⟩ := F
    refine ar_getI i_29_9 g_v2 ?_
    refine ar_iload_n i_29_12 rfl ?_
    refine ar_icmp_eq i_29_13 (fun q => ?_) (fun q => ?_)
    · replace F := F.1 q
      refine ar_aload_n i_29_19 rfl ?_
      refine ar_iconst i_29_20 ?_
      exact ar_put i_29_21 rfl F
    · replace F := F.2 q
      refine ar_bipush i_29_16 ?_
      exact ar_iret i_29_18 rfl F
theorem B29_24 {a0 : Nat} {a1 : Nat} {x2 : Int32} {h : am_H} {Q : am_H → Option Value → Prop} (F : am_wf h a1 4 5 (.int ((-1))) (fun h1 => am_Run (29, 29, [some (.ref a0), some (.ref a1), some (.int x2)], [], h1) Q)) : am_Run (29, 24, [some (.ref a0), some (.ref a1), some (.int x2)], [], h) Q := by
  refine ar_aload_n i_29_24 rfl ?_
  refine ar_iconst i_29_25 ?_
  exact ar_put i_29_26 rfl F
theorem B29_29 {a0 : Nat} {a1 : Nat} {x2 : Int32} {h : am_H} {Q : am_H → Option Value → Prop} (F : (∃ v1 : Int32, am_gi h a1 4 4 v1 ∧ Q h (some (.int v1)))) : am_Run (29, 29, [some (.ref a0), some (.ref a1), some (.int x2)], [], h) Q := by
  refine ar_aload_n i_29_29 rfl ?_
  obtain ⟨v1, g_v1, F⟩ := F
  refine ar_getI i_29_30 g_v1 ?_
  exact ar_iret i_29_33 rfl F
theorem B30_0_1 {a0 : Nat} {x2 : Int32} {h : am_H} {Q : am_H → Option Value → Prop} (F : False) : am_Run (30, 0, [some (.ref a0), some (.null), some (.int x2)], [], h) Q := by
  refine ar_aload_nN i_30_0 rfl ?_
  refine ar_iload_n i_30_1 rfl ?_
  exact False.elim F
theorem B30_0 {a0 : Nat} {a1 : Nat} {x2 : Int32} {h : am_H} {Q : am_H → Option Value → Prop} (F : am_wf h a1 4 4 (.int x2) (fun h1 => am_Run (30, 5, [some (.ref a0), some (.ref a1), some (.int x2)], [], h1) Q)) : am_Run (30, 0, [some (.ref a0), some (.ref a1), some (.int x2)], [], h) Q := by
  refine ar_aload_n i_30_0 rfl ?_
  refine ar_iload_n i_30_1 rfl ?_
  exact ar_put i_30_2 rfl F
theorem B30_5 {a0 : Nat} {a1 : Nat} {x2 : Int32} {h : am_H} {Q : am_H → Option Value → Prop} (F : am_wf h a1 4 5 (.int ((-1))) (fun h1 => am_Run (30, 10, [some (.ref a0), some (.ref a1), some (.int x2)], [], h1) Q)) : am_Run (30, 5, [some (.ref a0), some (.ref a1), some (.int x2)], [], h) Q := by
  refine ar_aload_n i_30_5 rfl ?_
  refine ar_iconst i_30_6 ?_
  exact ar_put i_30_7 rfl F
theorem B30_10 {a0 : Nat} {a1 : Nat} {x2 : Int32} {h : am_H} {Q : am_H → Option Value → Prop} (F : am_wf h a1 4 6 (.int 0) (fun h1 => am_Run (30, 15, [some (.ref a0), some (.ref a1), some (.int x2)], [], h1) Q)) : am_Run (30, 10, [some (.ref a0), some (.ref a1), some (.int x2)], [], h) Q := by
  refine ar_aload_n i_30_10 rfl ?_
  refine ar_iconst i_30_11 ?_
  exact ar_put i_30_12 rfl F
theorem B30_15 {a0 : Nat} {a1 : Nat} {x2 : Int32} {h : am_H} {Q : am_H → Option Value → Prop} (F : (∃ r1 : Nat, am_gr h a0 0 4 r1 ∧ (∃ r2 : Nat, am_gr h a1 4 1 r2 ∧ (∃ v3 : Int32, am_gi h r2 1 2 v3 ∧ (∃ v4 : Int32, am_ai h r1 v3 v4 ∧ am_wi h r1 v3 (v4 - 1) (fun h1 => am_Run (30, 31, [some (.ref a0), some (.ref a1), some (.int x2)], [], h1) Q)))))) : am_Run (30, 15, [some (.ref a0), some (.ref a1), some (.int x2)], [], h) Q := by
  refine ar_aload_n i_30_15 rfl ?_
  obtain ⟨r1, g_r1, F⟩ := F
  refine ar_getR i_30_16 g_r1 ?_
  refine ar_aload_n i_30_19 rfl ?_
  obtain ⟨r2, g_r2, F⟩ := F
  refine ar_getR i_30_20 g_r2 ?_
  obtain ⟨v3, g_v3, F⟩ := F
  refine ar_getI i_30_23 g_v3 ?_
  refine ar_dup2 i_30_26 rfl rfl ?_
  obtain ⟨v4, g_v4, F⟩ := F
  refine ar_iald i_30_27 g_v4 ?_
  refine ar_iconst i_30_28 ?_
  refine ar_isub i_30_29 ?_
  exact ar_iast i_30_30 F
theorem B30_31 {a0 : Nat} {a1 : Nat} {x2 : Int32} {h : am_H} {Q : am_H → Option Value → Prop} (F : ((am_gn h a1 4 2 ∧ am_Run (30, 46, [some (.ref a0), some (.ref a1), some (.int x2)], [], h) Q) ∨ (∃ r1 : Nat, am_gr h a1 4 2 r1 ∧ ((am_gn h a1 4 2 ∧ False) ∨ (∃ r2 : Nat, am_gr h a1 4 2 r2 ∧ am_wf h r2 2 3 (.int 0) (fun h1 => am_Run (30, 46, [some (.ref a0), some (.ref a1), some (.int x2)], [], h1) Q)))))) : am_Run (30, 31, [some (.ref a0), some (.ref a1), some (.int x2)], [], h) Q := by
  refine ar_aload_n i_30_31 rfl ?_
  rcases F with ⟨g_r1, F⟩ | ⟨r1, g_r1, F⟩
  · refine ar_getN i_30_32 g_r1 ?_
    refine ar_ifnullN i_30_35 ?_
    exact F
  · refine ar_getR i_30_32 g_r1 ?_
    refine ar_ifnull i_30_35 ?_
    refine ar_aload_n i_30_38 rfl ?_
    rcases F with ⟨g_r2, F⟩ | ⟨r2, g_r2, F⟩
    · refine ar_getN i_30_39 g_r2 ?_
      refine ar_iconst i_30_42 ?_
      exact False.elim F
    · refine ar_getR i_30_39 g_r2 ?_
      refine ar_iconst i_30_42 ?_
      exact ar_put i_30_43 rfl F
theorem B30_46 {a0 : Nat} {a1 : Nat} {x2 : Int32} {h : am_H} {Q : am_H → Option Value → Prop} (F : (am_is h a0 0 ∧ am_Run (am_in 31 [.ref a0] h) (fun h1 v => am_Run (am_bk (30, 50, [some (.ref a0), some (.ref a1), some (.int x2)], [], h) h1 v) Q))) : am_Run (30, 46, [some (.ref a0), some (.ref a1), some (.int x2)], [], h) Q := by
  refine ar_aload_n i_30_46 rfl ?_
  exact ar_callV i_30_47 rfl rfl F.1 (Nat.le_of_ble_eq_true rfl) (Nat.le_of_ble_eq_true rfl) F.2
theorem B30_50 {a0 : Nat} {a1 : Nat} {x2 : Int32} {y0 : Int32} {h : am_H} {Q : am_H → Option Value → Prop} (F : Q h none) : am_Run (30, 50, [some (.ref a0), some (.ref a1), some (.int x2)], [.int y0], h) Q := by
  refine ar_pop i_30_50 rfl ?_
  exact ar_vret i_30_51 F
theorem B31_0 {a0 : Nat} {h : am_H} {Q : am_H → Option Value → Prop} (F : am_Run (31, 4, [some (.ref a0), some (.int 0), some (.int 0), none], [], h) Q) : am_Run (31, 0, [some (.ref a0), none, none, none], [], h) Q := by
  refine ar_iconst i_31_0 ?_
  refine ar_istore_n i_31_1 rfl ?_
  refine ar_iconst i_31_2 ?_
  refine ar_istore_n i_31_3 rfl ?_
  exact F
theorem B31_4 {a0 : Nat} {x1 : Int32} {x2 : Int32} {h : am_H} {Q : am_H → Option Value → Prop} (F : (∃ v1 : Int32, am_gi h a0 0 7 v1 ∧ ((v1 ≤ x2 → Q h (some (.int x1))) ∧ (¬ v1 ≤ x2 → (am_is h a0 0 ∧ am_Run (am_in 32 [.ref a0] h) (fun h1 v => am_Run (am_bk (31, 16, [some (.ref a0), some (.int x1), some (.int x2), none], [], h) h1 v) Q)))))) : am_Run (31, 4, [some (.ref a0), some (.int x1), some (.int x2), none], [], h) Q := by
  refine ar_iload_n i_31_4 rfl ?_
  refine ar_aload_n i_31_5 rfl ?_
  obtain ⟨v1, g_v1, F⟩ := F
  refine ar_getI i_31_6 g_v1 ?_
  refine ar_icmp_ge i_31_9 (fun q => ?_) (fun q => ?_)
  · replace F := F.1 q
    refine ar_iload_n i_31_38 rfl ?_
    exact ar_iret i_31_39 rfl F
  · replace F := F.2 q
    refine ar_aload_n i_31_12 rfl ?_
    exact ar_callV i_31_13 rfl rfl F.1 (Nat.le_of_ble_eq_true rfl) (Nat.le_of_ble_eq_true rfl) F.2
theorem B31_4_1 {a0 : Nat} {x1 : Int32} {x2 : Int32} {a3 : Nat} {h : am_H} {Q : am_H → Option Value → Prop} (F : (∃ v1 : Int32, am_gi h a0 0 7 v1 ∧ ((v1 ≤ x2 → Q h (some (.int x1))) ∧ (¬ v1 ≤ x2 → (am_is h a0 0 ∧ am_Run (am_in 32 [.ref a0] h) (fun h1 v => am_Run (am_bk (31, 16, [some (.ref a0), some (.int x1), some (.int x2), some (.ref a3)], [], h) h1 v) Q)))))) : am_Run (31, 4, [some (.ref a0), some (.int x1), some (.int x2), some (.ref a3)], [], h) Q := by
  refine ar_iload_n i_31_4 rfl ?_
  refine ar_aload_n i_31_5 rfl ?_
  obtain ⟨v1, g_v1, F⟩ := F
  refine ar_getI i_31_6 g_v1 ?_
  refine ar_icmp_ge i_31_9 (fun q => ?_) (fun q => ?_)
  · replace F := F.1 q
    refine ar_iload_n i_31_38 rfl ?_
    exact ar_iret i_31_39 rfl F
  · replace F := F.2 q
    refine ar_aload_n i_31_12 rfl ?_
    exact ar_callV i_31_13 rfl rfl F.1 (Nat.le_of_ble_eq_true rfl) (Nat.le_of_ble_eq_true rfl) F.2
theorem B31_16_1 {a0 : Nat} {x1 : Int32} {x2 : Int32} {h : am_H} {Q : am_H → Option Value → Prop} (F : Q h (some (.int x1))) : am_Run (31, 16, [some (.ref a0), some (.int x1), some (.int x2), none], [.null], h) Q := by
  refine ar_astore_nN i_31_16 rfl ?_
  refine ar_aload_nN i_31_17 rfl ?_
  refine ar_ifnonnullN i_31_18 ?_
  refine ar_goto i_31_21 ?_
  refine ar_iload_n i_31_38 rfl ?_
  exact ar_iret i_31_39 rfl F
theorem B31_16 {a0 : Nat} {x1 : Int32} {x2 : Int32} {b0 : Nat} {h : am_H} {Q : am_H → Option Value → Prop} (F : (am_is h a0 0 ∧ am_Run (am_in 34 [.ref a0, .ref b0] h) (fun h1 v => am_Run (am_bk (31, 29, [some (.ref a0), some (.int x1), some (.int x2), some (.ref b0)], [], h) h1 v) Q))) : am_Run (31, 16, [some (.ref a0), some (.int x1), some (.int x2), none], [.ref b0], h) Q := by
  refine ar_astore_n i_31_16 rfl ?_
  refine ar_aload_n i_31_17 rfl ?_
  refine ar_ifnonnull i_31_18 ?_
  refine ar_aload_n i_31_24 rfl ?_
  refine ar_aload_n i_31_25 rfl ?_
  exact ar_callV i_31_26 rfl rfl F.1 (Nat.le_of_ble_eq_true rfl) (Nat.le_of_ble_eq_true rfl) F.2
theorem B31_16_3 {a0 : Nat} {x1 : Int32} {x2 : Int32} {a3 : Nat} {h : am_H} {Q : am_H → Option Value → Prop} (F : Q h (some (.int x1))) : am_Run (31, 16, [some (.ref a0), some (.int x1), some (.int x2), some (.ref a3)], [.null], h) Q := by
  refine ar_astore_nN i_31_16 rfl ?_
  refine ar_aload_nN i_31_17 rfl ?_
  refine ar_ifnonnullN i_31_18 ?_
  refine ar_goto i_31_21 ?_
  refine ar_iload_n i_31_38 rfl ?_
  exact ar_iret i_31_39 rfl F
theorem B31_16_2 {a0 : Nat} {x1 : Int32} {x2 : Int32} {a3 : Nat} {b0 : Nat} {h : am_H} {Q : am_H → Option Value → Prop} (F : (am_is h a0 0 ∧ am_Run (am_in 34 [.ref a0, .ref b0] h) (fun h1 v => am_Run (am_bk (31, 29, [some (.ref a0), some (.int x1), some (.int x2), some (.ref b0)], [], h) h1 v) Q))) : am_Run (31, 16, [some (.ref a0), some (.int x1), some (.int x2), some (.ref a3)], [.ref b0], h) Q := by
  refine ar_astore_n i_31_16 rfl ?_
  refine ar_aload_n i_31_17 rfl ?_
  refine ar_ifnonnull i_31_18 ?_
  refine ar_aload_n i_31_24 rfl ?_
  refine ar_aload_n i_31_25 rfl ?_
  exact ar_callV i_31_26 rfl rfl F.1 (Nat.le_of_ble_eq_true rfl) (Nat.le_of_ble_eq_true rfl) F.2
theorem B31_29 {a0 : Nat} {x1 : Int32} {x2 : Int32} {a3 : Nat} {h : am_H} {Q : am_H → Option Value → Prop} (F : am_Run (31, 4, [some (.ref a0), some (.int (x1 + 1)), some (.int (x2 + 1)), some (.ref a3)], [], h) Q) : am_Run (31, 29, [some (.ref a0), some (.int x1), some (.int x2), some (.ref a3)], [], h) Q := by
  refine ar_iinc i_31_29 rfl rfl ?_
  refine ar_iinc i_31_32 rfl rfl ?_
  refine ar_goto i_31_35 ?_
  exact F
theorem B32_0 {a0 : Nat} {h : am_H} {Q : am_H → Option Value → Prop} (F : am_Run (32, 4, [some (.ref a0), some (.null), some (.int 0), none], [], h) Q) : am_Run (32, 0, [some (.ref a0), none, none, none], [], h) Q := by
  refine ar_aconst_null i_32_0 ?_
  refine ar_astore_nN i_32_1 rfl ?_
  refine ar_iconst i_32_2 ?_
  refine ar_istore_n i_32_3 rfl ?_
  exact F
theorem B32_4 {a0 : Nat} {x2 : Int32} {h : am_H} {Q : am_H → Option Value → Prop} (F : (∃ v1 : Int32, am_gi h a0 0 7 v1 ∧ ((v1 ≤ x2 → Q h (some (.null))) ∧ (¬ v1 ≤ x2 → (∃ r2 : Nat, am_gr h a0 0 2 r2 ∧ (∃ r3 : Nat, am_ar h r2 x2 r3 ∧ (am_is h a0 0 ∧ am_Run (am_in 33 [.ref a0, .ref r3] h) (fun h1 v => am_Run (am_bk (32, 28, [some (.ref a0), some (.null), some (.int x2), some (.ref r3)], [], h) h1 v) Q)))))))) : am_Run (32, 4, [some (.ref a0), some (.null), some (.int x2), none], [], h) Q := by
  refine ar_iload_n i_32_4 rfl ?_
  refine ar_aload_n i_32_5 rfl ?_
  obtain ⟨v1, g_v1, F⟩ := F
  refine ar_getI i_32_6 g_v1 ?_
  refine ar_icmp_ge i_32_9 (fun q => ?_) (fun q => ?_)
  · replace F := F.1 q
    refine ar_aload_nN i_32_60 rfl ?_
    exact ar_aretN i_32_61 F
  · replace F := F.2 q
    refine ar_aload_n i_32_12 rfl ?_
    obtain ⟨r2, g_r2, F⟩ := F
    refine ar_getR i_32_13 g_r2 ?_
    refine ar_iload_n i_32_16 rfl ?_
    obtain ⟨r3, g_r3, F⟩ := F
    refine ar_aald i_32_17 g_r3 ?_
    refine ar_astore_n i_32_18 rfl ?_
    refine ar_aload_n i_32_19 rfl ?_
    refine ar_ifnull i_32_20 ?_
    refine ar_aload_n i_32_23 rfl ?_
    refine ar_aload_n i_32_24 rfl ?_
    exact ar_callV i_32_25 rfl rfl F.1 (Nat.le_of_ble_eq_true rfl) (Nat.le_of_ble_eq_true rfl) F.2
theorem B32_4_1 {a0 : Nat} {x2 : Int32} {a3 : Nat} {h : am_H} {Q : am_H → Option Value → Prop} (F : (∃ v1 : Int32, am_gi h a0 0 7 v1 ∧ ((v1 ≤ x2 → Q h (some (.null))) ∧ (¬ v1 ≤ x2 → (∃ r2 : Nat, am_gr h a0 0 2 r2 ∧ (∃ r3 : Nat, am_ar h r2 x2 r3 ∧ (am_is h a0 0 ∧ am_Run (am_in 33 [.ref a0, .ref r3] h) (fun h1 v => am_Run (am_bk (32, 28, [some (.ref a0), some (.null), some (.int x2), some (.ref r3)], [], h) h1 v) Q)))))))) : am_Run (32, 4, [some (.ref a0), some (.null), some (.int x2), some (.ref a3)], [], h) Q := by
  refine ar_iload_n i_32_4 rfl ?_
  refine ar_aload_n i_32_5 rfl ?_
  obtain ⟨v1, g_v1, F⟩ := F
  refine ar_getI i_32_6 g_v1 ?_
  refine ar_icmp_ge i_32_9 (fun q => ?_) (fun q => ?_)
  · replace F := F.1 q
    refine ar_aload_nN i_32_60 rfl ?_
    exact ar_aretN i_32_61 F
  · replace F := F.2 q
    refine ar_aload_n i_32_12 rfl ?_
    obtain ⟨r2, g_r2, F⟩ := F
    refine ar_getR i_32_13 g_r2 ?_
    refine ar_iload_n i_32_16 rfl ?_
    obtain ⟨r3, g_r3, F⟩ := F
    refine ar_aald i_32_17 g_r3 ?_
    refine ar_astore_n i_32_18 rfl ?_
    refine ar_aload_n i_32_19 rfl ?_
    refine ar_ifnull i_32_20 ?_
    refine ar_aload_n i_32_23 rfl ?_
    refine ar_aload_n i_32_24 rfl ?_
    exact ar_callV i_32_25 rfl rfl F.1 (Nat.le_of_ble_eq_true rfl) (Nat.le_of_ble_eq_true rfl) F.2
theorem B32_4_2 {a0 : Nat} {a1 : Nat} {x2 : Int32} {a3 : Nat} {h : am_H} {Q : am_H → Option Value → Prop} (F : (∃ v1 : Int32, am_gi h a0 0 7 v1 ∧ ((v1 ≤ x2 → Q h (some (.ref a1))) ∧ (¬ v1 ≤ x2 → (∃ r2 : Nat, am_gr h a0 0 2 r2 ∧ (∃ r3 : Nat, am_ar h r2 x2 r3 ∧ (am_is h a0 0 ∧ am_Run (am_in 33 [.ref a0, .ref r3] h) (fun h1 v => am_Run (am_bk (32, 28, [some (.ref a0), some (.ref a1), some (.int x2), some (.ref r3)], [], h) h1 v) Q)))))))) : am_Run (32, 4, [some (.ref a0), some (.ref a1), some (.int x2), some (.ref a3)], [], h) Q := by
  refine ar_iload_n i_32_4 rfl ?_
  refine ar_aload_n i_32_5 rfl ?_
  obtain ⟨v1, g_v1, F⟩ := F
  refine ar_getI i_32_6 g_v1 ?_
  refine ar_icmp_ge i_32_9 (fun q => ?_) (fun q => ?_)
  · replace F := F.1 q
    refine ar_aload_n i_32_60 rfl ?_
    exact ar_aret i_32_61 F
  · replace F := F.2 q
    refine ar_aload_n i_32_12 rfl ?_
    obtain ⟨r2, g_r2, F⟩ := F
    refine ar_getR i_32_13 g_r2 ?_
    refine ar_iload_n i_32_16 rfl ?_
    obtain ⟨r3, g_r3, F⟩ := F
    refine ar_aald i_32_17 g_r3 ?_
    refine ar_astore_n i_32_18 rfl ?_
    refine ar_aload_n i_32_19 rfl ?_
    refine ar_ifnull i_32_20 ?_
    refine ar_aload_n i_32_23 rfl ?_
    refine ar_aload_n i_32_24 rfl ?_
    exact ar_callV i_32_25 rfl rfl F.1 (Nat.le_of_ble_eq_true rfl) (Nat.le_of_ble_eq_true rfl) F.2
theorem B32_28 {a0 : Nat} {x2 : Int32} {a3 : Nat} {y0 : Int32} {h : am_H} {Q : am_H → Option Value → Prop} (F : ((y0 = 0 → am_Run (32, 54, [some (.ref a0), some (.null), some (.int x2), some (.ref a3)], [], h) Q) ∧ (¬ y0 = 0 → am_Run (32, 52, [some (.ref a0), some (.null), some (.int x2), some (.ref a3)], [], h) Q))) : am_Run (32, 28, [some (.ref a0), some (.null), some (.int x2), some (.ref a3)], [.int y0], h) Q := by
  refine ar_if_eq i_32_28 (fun q => ?_) (fun q => ?_)
  · replace F := F.1 q
    exact F
  · replace F := F.2 q
    refine ar_aload_nN i_32_31 rfl ?_
    refine ar_ifnullN i_32_32 ?_
    exact F
theorem B32_28_1 {a0 : Nat} {a1 : Nat} {x2 : Int32} {a3 : Nat} {y0 : Int32} {h : am_H} {Q : am_H → Option Value → Prop} (F : ((y0 = 0 → am_Run (32, 54, [some (.ref a0), some (.ref a1), some (.int x2), some (.ref a3)], [], h) Q) ∧ (¬ y0 = 0 → (∃ r1 : Nat, am_gr h a3 4 1 r1 ∧ (∃ v2 : Int32, am_gi h r1 1 3 v2 ∧ (∃ r3 : Nat, am_gr h a1 4 1 r3 ∧ (∃ v4 : Int32, am_gi h r3 1 3 v4 ∧ ((v2 ≤ v4 → am_Run (32, 54, [some (.ref a0), some (.ref a1), some (.int x2), some (.ref a3)], [], h) Q) ∧ (¬ v2 ≤ v4 → am_Run (32, 52, [some (.ref a0), some (.ref a1), some (.int x2), some (.ref a3)], [], h) Q))))))))) : am_Run (32, 28, [some (.ref a0), some (.ref a1), some (.int x2), some (.ref a3)], [.int y0], h) Q := by
  refine ar_if_eq i_32_28 (fun q => ?_) (fun q => ?_)
  · replace F := F.1 q
    exact F
  · replace F := F.2 q
    refine ar_aload_n i_32_31 rfl ?_
    refine ar_ifnull i_32_32 ?_
    refine ar_aload_n i_32_35 rfl ?_
    obtain ⟨r1, g_r1, F⟩ := F
    refine ar_getR i_32_36 g_r1 ?_
    obtain ⟨v2, g_v2, F⟩ := F
    refine ar_getI i_32_39 g_v2 ?_
    refine ar_aload_n i_32_42 rfl ?_
    obtain ⟨r3, g_r3, F⟩ := F
    refine ar_getR i_32_43 g_r3 ?_
    obtain ⟨v4, g_v4, F⟩ := F
    refine ar_getI i_32_46 g_v4 ?_
    refine ar_icmp_le i_32_49 (fun q => ?_) (fun q => ?_)
    · replace F := F.1 q
      exact F
    · replace F := F.2 q
      exact F
theorem B32_52 {a0 : Nat} {x2 : Int32} {a3 : Nat} {h : am_H} {Q : am_H → Option Value → Prop} (F : am_Run (32, 54, [some (.ref a0), some (.ref a3), some (.int x2), some (.ref a3)], [], h) Q) : am_Run (32, 52, [some (.ref a0), some (.null), some (.int x2), some (.ref a3)], [], h) Q := by
  refine ar_aload_n i_32_52 rfl ?_
  refine ar_astore_n i_32_53 rfl ?_
  exact F
theorem B32_52_1 {a0 : Nat} {a1 : Nat} {x2 : Int32} {a3 : Nat} {h : am_H} {Q : am_H → Option Value → Prop} (F : am_Run (32, 54, [some (.ref a0), some (.ref a3), some (.int x2), some (.ref a3)], [], h) Q) : am_Run (32, 52, [some (.ref a0), some (.ref a1), some (.int x2), some (.ref a3)], [], h) Q := by
  refine ar_aload_n i_32_52 rfl ?_
  refine ar_astore_n i_32_53 rfl ?_
  exact F
theorem B32_54 {a0 : Nat} {x2 : Int32} {a3 : Nat} {h : am_H} {Q : am_H → Option Value → Prop} (F : am_Run (32, 4, [some (.ref a0), some (.null), some (.int (x2 + 1)), some (.ref a3)], [], h) Q) : am_Run (32, 54, [some (.ref a0), some (.null), some (.int x2), some (.ref a3)], [], h) Q := by
  refine ar_iinc i_32_54 rfl rfl ?_
  refine ar_goto i_32_57 ?_
  exact F
theorem B32_54_1 {a0 : Nat} {a1 : Nat} {x2 : Int32} {a3 : Nat} {h : am_H} {Q : am_H → Option Value → Prop} (F : am_Run (32, 4, [some (.ref a0), some (.ref a1), some (.int (x2 + 1)), some (.ref a3)], [], h) Q) : am_Run (32, 54, [some (.ref a0), some (.ref a1), some (.int x2), some (.ref a3)], [], h) Q := by
  refine ar_iinc i_32_54 rfl rfl ?_
  refine ar_goto i_32_57 ?_
  exact F
theorem B33_0_1 {a0 : Nat} {h : am_H} {Q : am_H → Option Value → Prop} (F : False) : am_Run (33, 0, [some (.ref a0), some (.null)], [], h) Q := by
  refine ar_aload_nN i_33_0 rfl ?_
  exact False.elim F
theorem B33_0 {a0 : Nat} {a1 : Nat} {h : am_H} {Q : am_H → Option Value → Prop} (F : (∃ v1 : Int32, am_gi h a1 4 4 v1 ∧ ((¬ v1 = 0 → Q h (some (.int 0))) ∧ (v1 = 0 → (∃ w2 : Int64, am_gl h a1 4 3 w2 ∧ (∃ w3 : Int64, am_gl h a0 0 8 w3 ∧ ((0 < (lg_cmp w2 w3) → Q h (some (.int 0))) ∧ (¬ 0 < (lg_cmp w2 w3) → ((am_gn h a1 4 2 ∧ am_Run (33, 36, [some (.ref a0), some (.ref a1)], [], h) Q) ∨ (∃ r4 : Nat, am_gr h a1 4 2 r4 ∧ ((am_gn h a1 4 2 ∧ False) ∨ (∃ r5 : Nat, am_gr h a1 4 2 r5 ∧ (∃ v6 : Int32, am_gi h r5 2 3 v6 ∧ ((¬ v6 = 0 → Q h (some (.int 0))) ∧ (v6 = 0 → am_Run (33, 36, [some (.ref a0), some (.ref a1)], [], h) Q))))))))))))))) : am_Run (33, 0, [some (.ref a0), some (.ref a1)], [], h) Q := by
  refine ar_aload_n i_33_0 rfl ?_
  obtain ⟨v1, g_v1, F⟩ := F
  refine ar_getI i_33_1 g_v1 ?_
  refine ar_if_ne i_33_4 (fun q => ?_) (fun q => ?_)
  · replace F := F.1 q
    refine ar_iconst i_33_67 ?_
    exact ar_iret i_33_68 rfl F
  · replace F := F.2 q
    refine ar_aload_n i_33_7 rfl ?_
    obtain ⟨w2, g_w2, F⟩ := F
    refine ar_getL i_33_8 g_w2 ?_
    refine ar_aload_n i_33_11 rfl ?_
    obtain ⟨w3, g_w3, F⟩ := F
    refine ar_getL i_33_12 g_w3 ?_
    refine ar_lcmp i_33_15 ?_
    refine ar_if_gt i_33_16 (fun q => ?_) (fun q => ?_)
    · replace F := F.1 q
      refine ar_iconst i_33_67 ?_
      exact ar_iret i_33_68 rfl F
    · replace F := F.2 q
      refine ar_aload_n i_33_19 rfl ?_
      rcases F with ⟨g_r4, F⟩ | ⟨r4, g_r4, F⟩
      · refine ar_getN i_33_20 g_r4 ?_
        refine ar_ifnullN i_33_23 ?_
        exact F
      · refine ar_getR i_33_20 g_r4 ?_
        refine ar_ifnull i_33_23 ?_
        refine ar_aload_n i_33_26 rfl ?_
        rcases F with ⟨g_r5, F⟩ | ⟨r5, g_r5, F⟩
        · refine ar_getN i_33_27 g_r5 ?_
          exact False.elim F
        · refine ar_getR i_33_27 g_r5 ?_
          obtain ⟨v6, g_v6, F⟩ := F
          refine ar_getI i_33_30 g_v6 ?_
          refine ar_if_ne i_33_33 (fun q => ?_) (fun q => ?_)
          · replace F := F.1 q
            refine ar_iconst i_33_67 ?_
            exact ar_iret i_33_68 rfl F
          · replace F := F.2 q
            exact F
theorem B33_36 {a0 : Nat} {a1 : Nat} {h : am_H} {Q : am_H → Option Value → Prop} (F : (∃ r1 : Nat, am_gr h a0 0 4 r1 ∧ (∃ r2 : Nat, am_gr h a1 4 1 r2 ∧ (∃ v3 : Int32, am_gi h r2 1 2 v3 ∧ (∃ v4 : Int32, am_ai h r1 v3 v4 ∧ (∃ r5 : Nat, am_gr h a0 0 3 r5 ∧ (∃ r6 : Nat, am_gr h a1 4 1 r6 ∧ (∃ v7 : Int32, am_gi h r6 1 2 v7 ∧ (∃ v8 : Int32, am_ai h r5 v7 v8 ∧ ((v8 ≤ v4 → Q h (some (.int 0))) ∧ (¬ v8 ≤ v4 → Q h (some (.int 1))))))))))))) : am_Run (33, 36, [some (.ref a0), some (.ref a1)], [], h) Q := by
  refine ar_aload_n i_33_36 rfl ?_
  obtain ⟨r1, g_r1, F⟩ := F
  refine ar_getR i_33_37 g_r1 ?_
  refine ar_aload_n i_33_40 rfl ?_
  obtain ⟨r2, g_r2, F⟩ := F
  refine ar_getR i_33_41 g_r2 ?_
  obtain ⟨v3, g_v3, F⟩ := F
  refine ar_getI i_33_44 g_v3 ?_
  obtain ⟨v4, g_v4, F⟩ := F
  refine ar_iald i_33_47 g_v4 ?_
  refine ar_aload_n i_33_48 rfl ?_
  obtain ⟨r5, g_r5, F⟩ := F
  refine ar_getR i_33_49 g_r5 ?_
  refine ar_aload_n i_33_52 rfl ?_
  obtain ⟨r6, g_r6, F⟩ := F
  refine ar_getR i_33_53 g_r6 ?_
  obtain ⟨v7, g_v7, F⟩ := F
  refine ar_getI i_33_56 g_v7 ?_
  obtain ⟨v8, g_v8, F⟩ := F
  refine ar_iald i_33_59 g_v8 ?_
  refine ar_icmp_ge i_33_60 (fun q => ?_) (fun q => ?_)
  · replace F := F.1 q
    refine ar_iconst i_33_67 ?_
    exact ar_iret i_33_68 rfl F
  · replace F := F.2 q
    refine ar_iconst i_33_63 ?_
    refine ar_goto i_33_64 ?_
    exact ar_iret i_33_68 rfl F
theorem B34_0_1 {a0 : Nat} {h : am_H} {Q : am_H → Option Value → Prop} (F : False) : am_Run (34, 0, [some (.ref a0), some (.null)], [], h) Q := by
  refine ar_aload_nN i_34_0 rfl ?_
  refine ar_iconst i_34_1 ?_
  exact False.elim F
theorem B34_0 {a0 : Nat} {a1 : Nat} {h : am_H} {Q : am_H → Option Value → Prop} (F : am_wf h a1 4 4 (.int 1) (fun h1 => am_Run (34, 5, [some (.ref a0), some (.ref a1)], [], h1) Q)) : am_Run (34, 0, [some (.ref a0), some (.ref a1)], [], h) Q := by
  refine ar_aload_n i_34_0 rfl ?_
  refine ar_iconst i_34_1 ?_
  exact ar_put i_34_2 rfl F
theorem B34_5 {a0 : Nat} {a1 : Nat} {h : am_H} {Q : am_H → Option Value → Prop} (F : (∃ r1 : Nat, am_gr h a0 0 4 r1 ∧ (∃ r2 : Nat, am_gr h a1 4 1 r2 ∧ (∃ v3 : Int32, am_gi h r2 1 2 v3 ∧ (∃ v4 : Int32, am_ai h r1 v3 v4 ∧ am_wi h r1 v3 (v4 + 1) (fun h1 => am_Run (34, 21, [some (.ref a0), some (.ref a1)], [], h1) Q)))))) : am_Run (34, 5, [some (.ref a0), some (.ref a1)], [], h) Q := by
  refine ar_aload_n i_34_5 rfl ?_
  obtain ⟨r1, g_r1, F⟩ := F
  refine ar_getR i_34_6 g_r1 ?_
  refine ar_aload_n i_34_9 rfl ?_
  obtain ⟨r2, g_r2, F⟩ := F
  refine ar_getR i_34_10 g_r2 ?_
  obtain ⟨v3, g_v3, F⟩ := F
  refine ar_getI i_34_13 g_v3 ?_
  refine ar_dup2 i_34_16 rfl rfl ?_
  obtain ⟨v4, g_v4, F⟩ := F
  refine ar_iald i_34_17 g_v4 ?_
  refine ar_iconst i_34_18 ?_
  refine ar_iadd i_34_19 ?_
  exact ar_iast i_34_20 F
theorem B34_21 {a0 : Nat} {a1 : Nat} {h : am_H} {Q : am_H → Option Value → Prop} (F : ((am_gn h a1 4 2 ∧ Q h none) ∨ (∃ r1 : Nat, am_gr h a1 4 2 r1 ∧ ((am_gn h a1 4 2 ∧ (∃ v3 : Int32, am_gi h a1 4 0 v3 ∧ False)) ∨ (∃ r2 : Nat, am_gr h a1 4 2 r2 ∧ (∃ v4 : Int32, am_gi h a1 4 0 v4 ∧ am_wf h r2 2 3 (.int v4) (fun h1 => am_Run (34, 39, [some (.ref a0), some (.ref a1)], [], h1) Q))))))) : am_Run (34, 21, [some (.ref a0), some (.ref a1)], [], h) Q := by
  refine ar_aload_n i_34_21 rfl ?_
  rcases F with ⟨g_r1, F⟩ | ⟨r1, g_r1, F⟩
  · refine ar_getN i_34_22 g_r1 ?_
    refine ar_ifnullN i_34_25 ?_
    exact ar_vret i_34_39 F
  · refine ar_getR i_34_22 g_r1 ?_
    refine ar_ifnull i_34_25 ?_
    refine ar_aload_n i_34_28 rfl ?_
    rcases F with ⟨g_r2, F⟩ | ⟨r2, g_r2, F⟩
    · refine ar_getN i_34_29 g_r2 ?_
      refine ar_aload_n i_34_32 rfl ?_
      obtain ⟨v3, g_v3, F⟩ := F
      refine ar_getI i_34_33 g_v3 ?_
      exact False.elim F
    · refine ar_getR i_34_29 g_r2 ?_
      refine ar_aload_n i_34_32 rfl ?_
      obtain ⟨v4, g_v4, F⟩ := F
      refine ar_getI i_34_33 g_v4 ?_
      exact ar_put i_34_36 rfl F
theorem B34_39 {a0 : Nat} {a1 : Nat} {h : am_H} {Q : am_H → Option Value → Prop} (F : Q h none) : am_Run (34, 39, [some (.ref a0), some (.ref a1)], [], h) Q := by
  exact ar_vret i_34_39 F
