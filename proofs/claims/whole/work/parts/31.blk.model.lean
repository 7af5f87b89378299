theorem B35_0 {a0 : Nat} {h : am_H} {Q : am_H → Option Value → Prop} (F : am_Run (35, 9, [some (.ref a0), none], [.ref h.2.1, .ref a0], (am_new h (100, List.replicate (61 : Int32).toNatClampNeg (am_df 100)) (61 : Int32).toNatClampNeg)) Q) : am_Run (35, 0, [some (.ref a0), none], [], h) Q := by
  refine ar_aload_n i_35_0 rfl ?_
  refine ar_obj i_35_1 (Nat.le_of_ble_eq_true rfl) ?_
  refine ar_aload_n i_35_4 rfl ?_
  refine ar_bipush i_35_5 ?_
  exact ar_newa i_35_7 (by decide) F
theorem B35_9 {a0 : Nat} {b1 : Nat} {b0 : Nat} {h : am_H} {Q : am_H → Option Value → Prop} (F : am_wf h b0 5 5 (.ref b1) (fun h1 => am_Run (35, 12, [some (.ref a0), none], [], h1) Q)) : am_Run (35, 9, [some (.ref a0), none], [.ref b1, .ref b0], h) Q := by
  exact ar_put i_35_9 rfl F
theorem B35_12 {a0 : Nat} {h : am_H} {Q : am_H → Option Value → Prop} (F : am_Run (35, 17, [some (.ref a0), none], [.ref h.2.1, .ref a0], (am_new h (100, List.replicate (61 : Int32).toNatClampNeg (am_df 100)) (61 : Int32).toNatClampNeg)) Q) : am_Run (35, 12, [some (.ref a0), none], [], h) Q := by
  refine ar_aload_n i_35_12 rfl ?_
  refine ar_bipush i_35_13 ?_
  exact ar_newa i_35_15 (by decide) F
theorem B35_17 {a0 : Nat} {b1 : Nat} {b0 : Nat} {h : am_H} {Q : am_H → Option Value → Prop} (F : am_wf h b0 5 6 (.ref b1) (fun h1 => am_Run (35, 20, [some (.ref a0), none], [], h1) Q)) : am_Run (35, 17, [some (.ref a0), none], [.ref b1, .ref b0], h) Q := by
  exact ar_put i_35_17 rfl F
theorem B35_20 {a0 : Nat} {h : am_H} {Q : am_H → Option Value → Prop} (F : am_Run (35, 25, [some (.ref a0), none], [.ref h.2.1, .ref a0], (am_new h (100, List.replicate (61 : Int32).toNatClampNeg (am_df 100)) (61 : Int32).toNatClampNeg)) Q) : am_Run (35, 20, [some (.ref a0), none], [], h) Q := by
  refine ar_aload_n i_35_20 rfl ?_
  refine ar_bipush i_35_21 ?_
  exact ar_newa i_35_23 (by decide) F
theorem B35_25 {a0 : Nat} {b1 : Nat} {b0 : Nat} {h : am_H} {Q : am_H → Option Value → Prop} (F : am_wf h b0 5 7 (.ref b1) (fun h1 => am_Run (35, 28, [some (.ref a0), none], [], h1) Q)) : am_Run (35, 25, [some (.ref a0), none], [.ref b1, .ref b0], h) Q := by
  exact ar_put i_35_25 rfl F
theorem B35_28 {a0 : Nat} {h : am_H} {Q : am_H → Option Value → Prop} (F : am_Run (35, 33, [some (.ref a0), none], [.ref h.2.1, .ref a0], (am_new h (100, List.replicate (21 : Int32).toNatClampNeg (am_df 100)) (21 : Int32).toNatClampNeg)) Q) : am_Run (35, 28, [some (.ref a0), none], [], h) Q := by
  refine ar_aload_n i_35_28 rfl ?_
  refine ar_bipush i_35_29 ?_
  exact ar_newa i_35_31 (by decide) F
theorem B35_33 {a0 : Nat} {b1 : Nat} {b0 : Nat} {h : am_H} {Q : am_H → Option Value → Prop} (F : am_wf h b0 5 8 (.ref b1) (fun h1 => am_Run (35, 36, [some (.ref a0), none], [], h1) Q)) : am_Run (35, 33, [some (.ref a0), none], [.ref b1, .ref b0], h) Q := by
  exact ar_put i_35_33 rfl F
theorem B35_36 {a0 : Nat} {h : am_H} {Q : am_H → Option Value → Prop} (F : am_Run (35, 41, [some (.ref a0), none], [.ref h.2.1, .ref a0], (am_new h (100, List.replicate (21 : Int32).toNatClampNeg (am_df 100)) (21 : Int32).toNatClampNeg)) Q) : am_Run (35, 36, [some (.ref a0), none], [], h) Q := by
  refine ar_aload_n i_35_36 rfl ?_
  refine ar_bipush i_35_37 ?_
  exact ar_newa i_35_39 (by decide) F
theorem B35_41 {a0 : Nat} {b1 : Nat} {b0 : Nat} {h : am_H} {Q : am_H → Option Value → Prop} (F : am_wf h b0 5 9 (.ref b1) (fun h1 => am_Run (35, 44, [some (.ref a0), none], [], h1) Q)) : am_Run (35, 41, [some (.ref a0), none], [.ref b1, .ref b0], h) Q := by
  exact ar_put i_35_41 rfl F
theorem B35_44 {a0 : Nat} {h : am_H} {Q : am_H → Option Value → Prop} (F : am_Run (35, 49, [some (.ref a0), none], [.ref h.2.1, .ref a0], (am_new h (100, List.replicate (10 : Int32).toNatClampNeg (am_df 100)) (10 : Int32).toNatClampNeg)) Q) : am_Run (35, 44, [some (.ref a0), none], [], h) Q := by
  refine ar_aload_n i_35_44 rfl ?_
  refine ar_bipush i_35_45 ?_
  exact ar_newa i_35_47 (by decide) F
theorem B35_49 {a0 : Nat} {b1 : Nat} {b0 : Nat} {h : am_H} {Q : am_H → Option Value → Prop} (F : am_wf h b0 5 10 (.ref b1) (fun h1 => am_Run (35, 52, [some (.ref a0), none], [], h1) Q)) : am_Run (35, 49, [some (.ref a0), none], [.ref b1, .ref b0], h) Q := by
  exact ar_put i_35_49 rfl F
theorem B35_52 {a0 : Nat} {h : am_H} {Q : am_H → Option Value → Prop} (F : am_Run (35, 58, [some (.ref a0), none], [.ref h.2.1, .ref a0], (am_new h (100, List.replicate (201 : Int32).toNatClampNeg (am_df 100)) (201 : Int32).toNatClampNeg)) Q) : am_Run (35, 52, [some (.ref a0), none], [], h) Q := by
  refine ar_aload_n i_35_52 rfl ?_
  refine ar_sipush i_35_53 ?_
  exact ar_newa i_35_56 (by decide) F
theorem B35_58 {a0 : Nat} {b1 : Nat} {b0 : Nat} {h : am_H} {Q : am_H → Option Value → Prop} (F : am_wf h b0 5 11 (.ref b1) (fun h1 => am_Run (35, 61, [some (.ref a0), none], [], h1) Q)) : am_Run (35, 58, [some (.ref a0), none], [.ref b1, .ref b0], h) Q := by
  exact ar_put i_35_58 rfl F
theorem B35_61 {a0 : Nat} {h : am_H} {Q : am_H → Option Value → Prop} (F : am_Run (35, 67, [some (.ref a0), none], [.ref h.2.1, .ref a0], (am_new h (100, List.replicate (201 : Int32).toNatClampNeg (am_df 100)) (201 : Int32).toNatClampNeg)) Q) : am_Run (35, 61, [some (.ref a0), none], [], h) Q := by
  refine ar_aload_n i_35_61 rfl ?_
  refine ar_sipush i_35_62 ?_
  exact ar_newa i_35_65 (by decide) F
theorem B35_67 {a0 : Nat} {b1 : Nat} {b0 : Nat} {h : am_H} {Q : am_H → Option Value → Prop} (F : am_wf h b0 5 12 (.ref b1) (fun h1 => am_Run (35, 70, [some (.ref a0), none], [], h1) Q)) : am_Run (35, 67, [some (.ref a0), none], [.ref b1, .ref b0], h) Q := by
  exact ar_put i_35_67 rfl F
theorem B35_70 {a0 : Nat} {h : am_H} {Q : am_H → Option Value → Prop} (F : am_Run (35, 76, [some (.ref a0), none], [.ref h.2.1, .ref a0], (am_new h (100, List.replicate (201 : Int32).toNatClampNeg (am_df 100)) (201 : Int32).toNatClampNeg)) Q) : am_Run (35, 70, [some (.ref a0), none], [], h) Q := by
  refine ar_aload_n i_35_70 rfl ?_
  refine ar_sipush i_35_71 ?_
  exact ar_newa i_35_74 (by decide) F
theorem B35_76 {a0 : Nat} {b1 : Nat} {b0 : Nat} {h : am_H} {Q : am_H → Option Value → Prop} (F : am_wf h b0 5 13 (.ref b1) (fun h1 => am_Run (35, 79, [some (.ref a0), none], [], h1) Q)) : am_Run (35, 76, [some (.ref a0), none], [.ref b1, .ref b0], h) Q := by
  exact ar_put i_35_76 rfl F
theorem B35_79 {a0 : Nat} {h : am_H} {Q : am_H → Option Value → Prop} (F : am_Run (35, 85, [some (.ref a0), none], [.ref h.2.1, .ref a0], (am_new h (100, List.replicate (201 : Int32).toNatClampNeg (am_df 100)) (201 : Int32).toNatClampNeg)) Q) : am_Run (35, 79, [some (.ref a0), none], [], h) Q := by
  refine ar_aload_n i_35_79 rfl ?_
  refine ar_sipush i_35_80 ?_
  exact ar_newa i_35_83 (by decide) F
theorem B35_85 {a0 : Nat} {b1 : Nat} {b0 : Nat} {h : am_H} {Q : am_H → Option Value → Prop} (F : am_wf h b0 5 14 (.ref b1) (fun h1 => am_Run (35, 88, [some (.ref a0), none], [], h1) Q)) : am_Run (35, 85, [some (.ref a0), none], [.ref b1, .ref b0], h) Q := by
  exact ar_put i_35_85 rfl F
theorem B35_88 {a0 : Nat} {h : am_H} {Q : am_H → Option Value → Prop} (F : am_Run (35, 94, [some (.ref a0), none], [.ref h.2.1, .ref a0], (am_new h (100, List.replicate (201 : Int32).toNatClampNeg (am_df 100)) (201 : Int32).toNatClampNeg)) Q) : am_Run (35, 88, [some (.ref a0), none], [], h) Q := by
  refine ar_aload_n i_35_88 rfl ?_
  refine ar_sipush i_35_89 ?_
  exact ar_newa i_35_92 (by decide) F
theorem B35_94 {a0 : Nat} {b1 : Nat} {b0 : Nat} {h : am_H} {Q : am_H → Option Value → Prop} (F : am_wf h b0 5 15 (.ref b1) (fun h1 => am_Run (35, 97, [some (.ref a0), none], [], h1) Q)) : am_Run (35, 94, [some (.ref a0), none], [.ref b1, .ref b0], h) Q := by
  exact ar_put i_35_94 rfl F
theorem B35_97 {a0 : Nat} {h : am_H} {Q : am_H → Option Value → Prop} (F : am_Run (35, 103, [some (.ref a0), none], [.ref h.2.1, .ref a0], (am_new h (100, List.replicate (201 : Int32).toNatClampNeg (am_df 100)) (201 : Int32).toNatClampNeg)) Q) : am_Run (35, 97, [some (.ref a0), none], [], h) Q := by
  refine ar_aload_n i_35_97 rfl ?_
  refine ar_sipush i_35_98 ?_
  exact ar_newa i_35_101 (by decide) F
theorem B35_103 {a0 : Nat} {b1 : Nat} {b0 : Nat} {h : am_H} {Q : am_H → Option Value → Prop} (F : am_wf h b0 5 16 (.ref b1) (fun h1 => am_Run (35, 106, [some (.ref a0), none], [], h1) Q)) : am_Run (35, 103, [some (.ref a0), none], [.ref b1, .ref b0], h) Q := by
  exact ar_put i_35_103 rfl F
theorem B35_106 {a0 : Nat} {h : am_H} {Q : am_H → Option Value → Prop} (F : am_Run (35, 112, [some (.ref a0), none], [.ref h.2.1, .ref a0], (am_new h (101, List.replicate (201 : Int32).toNatClampNeg (am_df 101)) (201 : Int32).toNatClampNeg)) Q) : am_Run (35, 106, [some (.ref a0), none], [], h) Q := by
  refine ar_aload_n i_35_106 rfl ?_
  refine ar_sipush i_35_107 ?_
  exact ar_newa i_35_110 (by decide) F
theorem B35_112 {a0 : Nat} {b1 : Nat} {b0 : Nat} {h : am_H} {Q : am_H → Option Value → Prop} (F : am_wf h b0 5 17 (.ref b1) (fun h1 => am_Run (35, 115, [some (.ref a0), none], [], h1) Q)) : am_Run (35, 112, [some (.ref a0), none], [.ref b1, .ref b0], h) Q := by
  exact ar_put i_35_112 rfl F
theorem B35_115 {a0 : Nat} {h : am_H} {Q : am_H → Option Value → Prop} (F : am_Run (35, 121, [some (.ref a0), none], [.ref h.2.1, .ref a0], (am_new h (100, List.replicate (2211 : Int32).toNatClampNeg (am_df 100)) (2211 : Int32).toNatClampNeg)) Q) : am_Run (35, 115, [some (.ref a0), none], [], h) Q := by
  refine ar_aload_n i_35_115 rfl ?_
  refine ar_sipush i_35_116 ?_
  exact ar_newa i_35_119 (by decide) F
theorem B35_121 {a0 : Nat} {b1 : Nat} {b0 : Nat} {h : am_H} {Q : am_H → Option Value → Prop} (F : am_wf h b0 5 18 (.ref b1) (fun h1 => am_Run (35, 124, [some (.ref a0), none], [], h1) Q)) : am_Run (35, 121, [some (.ref a0), none], [.ref b1, .ref b0], h) Q := by
  exact ar_put i_35_121 rfl F
theorem B35_124 {a0 : Nat} {h : am_H} {Q : am_H → Option Value → Prop} (F : am_Run (35, 130, [some (.ref a0), none], [.ref h.2.1, .ref a0], (am_new h (100, List.replicate (22110 : Int32).toNatClampNeg (am_df 100)) (22110 : Int32).toNatClampNeg)) Q) : am_Run (35, 124, [some (.ref a0), none], [], h) Q := by
  refine ar_aload_n i_35_124 rfl ?_
  refine ar_sipush i_35_125 ?_
  exact ar_newa i_35_128 (by decide) F
theorem B35_130 {a0 : Nat} {b1 : Nat} {b0 : Nat} {h : am_H} {Q : am_H → Option Value → Prop} (F : am_wf h b0 5 19 (.ref b1) (fun h1 => am_Run (35, 133, [some (.ref a0), none], [], h1) Q)) : am_Run (35, 130, [some (.ref a0), none], [.ref b1, .ref b0], h) Q := by
  exact ar_put i_35_130 rfl F
theorem B35_133 {a0 : Nat} {h : am_H} {Q : am_H → Option Value → Prop} (F : am_Run (35, 135, [some (.ref a0), some (.int 0)], [], h) Q) : am_Run (35, 133, [some (.ref a0), none], [], h) Q := by
  refine ar_iconst i_35_133 ?_
  refine ar_istore_n i_35_134 rfl ?_
  exact F
theorem B35_135 {a0 : Nat} {x1 : Int32} {h : am_H} {Q : am_H → Option Value → Prop} (F : ((10 ≤ x1 → Q h none) ∧ (¬ 10 ≤ x1 → (∃ r1 : Nat, am_gr h a0 5 10 r1 ∧ am_wi h r1 x1 50 (fun h1 => am_Run (35, 149, [some (.ref a0), some (.int x1)], [], h1) Q))))) : am_Run (35, 135, [some (.ref a0), some (.int x1)], [], h) Q := by
  refine ar_iload_n i_35_135 rfl ?_
  refine ar_bipush i_35_136 ?_
  refine ar_icmp_ge i_35_138 (fun q => ?_) (fun q => ?_)
  · replace F := F.1 q
    exact ar_vret i_35_155 F
  · replace F := F.2 q
    refine ar_aload_n i_35_141 rfl ?_
    obtain ⟨r1, g_r1, F⟩ := F
    refine ar_getR i_35_142 g_r1 ?_
    refine ar_iload_n i_35_145 rfl ?_
    refine ar_bipush i_35_146 ?_
    exact ar_iast i_35_148 F
theorem B35_149 {a0 : Nat} {x1 : Int32} {h : am_H} {Q : am_H → Option Value → Prop} (F : am_Run (35, 135, [some (.ref a0), some (.int (x1 + 1))], [], h) Q) : am_Run (35, 149, [some (.ref a0), some (.int x1)], [], h) Q := by
  refine ar_iinc i_35_149 rfl rfl ?_
  refine ar_goto i_35_152 ?_
  exact F
theorem B36_0 {a0 : Nat} {x1 : Int32} {h : am_H} {Q : am_H → Option Value → Prop} (F : ((x1 ≤ 0 → Q h (some (.int 0))) ∧ (¬ x1 ≤ 0 → (∃ v1 : Int32, am_gi h a0 5 1 v1 ∧ ((v1 < x1 → Q h (some (.int 0))) ∧ (¬ v1 < x1 → Q h (some (.int 1)))))))) : am_Run (36, 0, [some (.ref a0), some (.int x1)], [], h) Q := by
  refine ar_iload_n i_36_0 rfl ?_
  refine ar_if_le i_36_1 (fun q => ?_) (fun q => ?_)
  · replace F := F.1 q
    refine ar_iconst i_36_16 ?_
    exact ar_iret i_36_17 rfl F
  · replace F := F.2 q
    refine ar_iload_n i_36_4 rfl ?_
    refine ar_aload_n i_36_5 rfl ?_
    obtain ⟨v1, g_v1, F⟩ := F
    refine ar_getI i_36_6 g_v1 ?_
    refine ar_icmp_gt i_36_9 (fun q => ?_) (fun q => ?_)
    · replace F := F.1 q
      refine ar_iconst i_36_16 ?_
      exact ar_iret i_36_17 rfl F
    · replace F := F.2 q
      refine ar_iconst i_36_12 ?_
      refine ar_goto i_36_13 ?_
      exact ar_iret i_36_17 rfl F
theorem B37_0 {a0 : Nat} {x1 : Int32} {h : am_H} {Q : am_H → Option Value → Prop} (F : ((x1 ≤ 0 → Q h (some (.int 0))) ∧ (¬ x1 ≤ 0 → (∃ v1 : Int32, am_gi h a0 5 2 v1 ∧ ((v1 < x1 → Q h (some (.int 0))) ∧ (¬ v1 < x1 → Q h (some (.int 1)))))))) : am_Run (37, 0, [some (.ref a0), some (.int x1)], [], h) Q := by
  refine ar_iload_n i_37_0 rfl ?_
  refine ar_if_le i_37_1 (fun q => ?_) (fun q => ?_)
  · replace F := F.1 q
    refine ar_iconst i_37_16 ?_
    exact ar_iret i_37_17 rfl F
  · replace F := F.2 q
    refine ar_iload_n i_37_4 rfl ?_
    refine ar_aload_n i_37_5 rfl ?_
    obtain ⟨v1, g_v1, F⟩ := F
    refine ar_getI i_37_6 g_v1 ?_
    refine ar_icmp_gt i_37_9 (fun q => ?_) (fun q => ?_)
    · replace F := F.1 q
      refine ar_iconst i_37_16 ?_
      exact ar_iret i_37_17 rfl F
    · replace F := F.2 q
      refine ar_iconst i_37_12 ?_
      refine ar_goto i_37_13 ?_
      exact ar_iret i_37_17 rfl F
theorem B38_0 {a0 : Nat} {x1 : Int32} {h : am_H} {Q : am_H → Option Value → Prop} (F : ((x1 ≤ 0 → Q h (some (.int 0))) ∧ (¬ x1 ≤ 0 → (∃ v1 : Int32, am_gi h a0 5 3 v1 ∧ ((v1 < x1 → Q h (some (.int 0))) ∧ (¬ v1 < x1 → Q h (some (.int 1)))))))) : am_Run (38, 0, [some (.ref a0), some (.int x1)], [], h) Q := by
  refine ar_iload_n i_38_0 rfl ?_
  refine ar_if_le i_38_1 (fun q => ?_) (fun q => ?_)
  · replace F := F.1 q
    refine ar_iconst i_38_16 ?_
    exact ar_iret i_38_17 rfl F
  · replace F := F.2 q
    refine ar_iload_n i_38_4 rfl ?_
    refine ar_aload_n i_38_5 rfl ?_
    obtain ⟨v1, g_v1, F⟩ := F
    refine ar_getI i_38_6 g_v1 ?_
    refine ar_icmp_gt i_38_9 (fun q => ?_) (fun q => ?_)
    · replace F := F.1 q
      refine ar_iconst i_38_16 ?_
      exact ar_iret i_38_17 rfl F
    · replace F := F.2 q
      refine ar_iconst i_38_12 ?_
      refine ar_goto i_38_13 ?_
      exact ar_iret i_38_17 rfl F
theorem B39_0 {a0 : Nat} {x1 : Int32} {h : am_H} {Q : am_H → Option Value → Prop} (F : (∃ r1 : Nat, am_gr h a0 5 13 r1 ∧ (∃ v2 : Int32, am_ai h r1 x1 v2 ∧ ((v2 = 1 → am_Run (39, 20, [some (.ref a0), some (.int x1)], [], h) Q) ∧ (¬ v2 = 1 → (∃ r3 : Nat, am_gr h a0 5 13 r3 ∧ (∃ v4 : Int32, am_ai h r3 x1 v4 ∧ ((¬ v4 = 2 → Q h (some (.int 0))) ∧ (v4 = 2 → am_Run (39, 20, [some (.ref a0), some (.int x1)], [], h) Q))))))))) : am_Run (39, 0, [some (.ref a0), some (.int x1)], [], h) Q := by
  refine ar_aload_n i_39_0 rfl ?_
  obtain ⟨r1, g_r1, F⟩ := F
  refine ar_getR i_39_1 g_r1 ?_
  refine ar_iload_n i_39_4 rfl ?_
  obtain ⟨v2, g_v2, F⟩ := F
  refine ar_iald i_39_5 g_v2 ?_
  refine ar_iconst i_39_6 ?_
  refine ar_icmp_eq i_39_7 (fun q => ?_) (fun q => ?_)
  · replace F := F.1 q
    exact F
  · replace F := F.2 q
    refine ar_aload_n i_39_10 rfl ?_
    obtain ⟨r3, g_r3, F⟩ := F
    refine ar_getR i_39_11 g_r3 ?_
    refine ar_iload_n i_39_14 rfl ?_
    obtain ⟨v4, g_v4, F⟩ := F
    refine ar_iald i_39_15 g_v4 ?_
    refine ar_iconst i_39_16 ?_
    refine ar_icmp_ne i_39_17 (fun q => ?_) (fun q => ?_)
    · replace F := F.1 q
      refine ar_iconst i_39_24 ?_
      exact ar_iret i_39_25 rfl F
    · replace F := F.2 q
      exact F
theorem B39_20 {a0 : Nat} {x1 : Int32} {h : am_H} {Q : am_H → Option Value → Prop} (F : Q h (some (.int 1))) : am_Run (39, 20, [some (.ref a0), some (.int x1)], [], h) Q := by
  refine ar_iconst i_39_20 ?_
  refine ar_goto i_39_21 ?_
  exact ar_iret i_39_25 rfl F
theorem B40_0 {a0 : Nat} {x1 : Int32} {x2 : Int32} {x3 : Int32} {h : am_H} {Q : am_H → Option Value → Prop} (F : am_wf h a0 5 0 (.int 0) (fun h1 => am_Run (40, 5, [some (.ref a0), some (.int x1), some (.int x2), some (.int x3)], [], h1) Q)) : am_Run (40, 0, [some (.ref a0), some (.int x1), some (.int x2), some (.int x3)], [], h) Q := by
  refine ar_aload_n i_40_0 rfl ?_
  refine ar_iconst i_40_1 ?_
  exact ar_put i_40_2 rfl F
theorem B40_5 {a0 : Nat} {x1 : Int32} {x2 : Int32} {x3 : Int32} {h : am_H} {Q : am_H → Option Value → Prop} (F : ((x1 < 0 → Q h (some (.int ((-4))))) ∧ (¬ x1 < 0 → ((99 < x1 → Q h (some (.int ((-4))))) ∧ (¬ 99 < x1 → ((x2 < 0 → Q h (some (.int ((-4))))) ∧ (¬ x2 < 0 → ((9 < x2 → Q h (some (.int ((-4))))) ∧ (¬ 9 < x2 → ((x3 < 0 → Q h (some (.int ((-4))))) ∧ (¬ x3 < 0 → ((x3 ≤ 255 → (∃ v1 : Int32, am_gi h a0 5 1 v1 ∧ ((¬ v1 = 60 → (∃ v2 : Int32, am_gi h a0 5 1 v2 ∧ am_wf h a0 5 1 (.int (v2 + 1)) (fun h1 => am_Run (40, 60, [some (.ref a0), some (.int x1), some (.int x2), some (.int x3)], [], h1) Q))) ∧ (v1 = 60 → Q h (some (.int ((-1)))))))) ∧ (¬ x3 ≤ 255 → Q h (some (.int ((-4))))))))))))))))) : am_Run (40, 5, [some (.ref a0), some (.int x1), some (.int x2), some (.int x3)], [], h) Q := by
  refine ar_iload_n i_40_5 rfl ?_
  refine ar_if_lt i_40_6 (fun q => ?_) (fun q => ?_)
  · replace F := F.1 q
    refine ar_bipush i_40_36 ?_
    exact ar_iret i_40_38 rfl F
  · replace F := F.2 q
    refine ar_iload_n i_40_9 rfl ?_
    refine ar_bipush i_40_10 ?_
    refine ar_icmp_gt i_40_12 (fun q => ?_) (fun q => ?_)
    · replace F := F.1 q
      refine ar_bipush i_40_36 ?_
      exact ar_iret i_40_38 rfl F
    · replace F := F.2 q
      refine ar_iload_n i_40_15 rfl ?_
      refine ar_if_lt i_40_16 (fun q => ?_) (fun q => ?_)
      · replace F := F.1 q
        refine ar_bipush i_40_36 ?_
        exact ar_iret i_40_38 rfl F
      · replace F := F.2 q
        refine ar_iload_n i_40_19 rfl ?_
        refine ar_bipush i_40_20 ?_
        refine ar_icmp_gt i_40_22 (fun q => ?_) (fun q => ?_)
        · replace F := F.1 q
          refine ar_bipush i_40_36 ?_
          exact ar_iret i_40_38 rfl F
        · replace F := F.2 q
          refine ar_iload_n i_40_25 rfl ?_
          refine ar_if_lt i_40_26 (fun q => ?_) (fun q => ?_)
          · replace F := F.1 q
            refine ar_bipush i_40_36 ?_
            exact ar_iret i_40_38 rfl F
          · replace F := F.2 q
            refine ar_iload_n i_40_29 rfl ?_
            refine ar_sipush i_40_30 ?_
            refine ar_icmp_le i_40_33 (fun q => ?_) (fun q => ?_)
            · replace F := F.1 q
              refine ar_aload_n i_40_39 rfl ?_
              obtain ⟨v1, g_v1, F⟩ := F
              refine ar_getI i_40_40 g_v1 ?_
              refine ar_bipush i_40_43 ?_
              refine ar_icmp_ne i_40_45 (fun q => ?_) (fun q => ?_)
              · replace F := F.1 q
                refine ar_aload_n i_40_50 rfl ?_
                refine ar_dup i_40_51 rfl ?_
                obtain ⟨v2, g_v2, F⟩ := F
                refine ar_getI i_40_52 g_v2 ?_
                refine ar_iconst i_40_55 ?_
                refine ar_iadd i_40_56 ?_
                exact ar_put i_40_57 rfl F
              · replace F := F.2 q
                refine ar_iconst i_40_48 ?_
                exact ar_iret i_40_49 rfl F
            · replace F := F.2 q
              refine ar_bipush i_40_36 ?_
              exact ar_iret i_40_38 rfl F
theorem B40_60 {a0 : Nat} {x1 : Int32} {x2 : Int32} {x3 : Int32} {h : am_H} {Q : am_H → Option Value → Prop} (F : (∃ r1 : Nat, am_gr h a0 5 5 r1 ∧ (∃ v2 : Int32, am_gi h a0 5 1 v2 ∧ am_wi h r1 v2 x1 (fun h1 => am_Run (40, 70, [some (.ref a0), some (.int x1), some (.int x2), some (.int x3)], [], h1) Q)))) : am_Run (40, 60, [some (.ref a0), some (.int x1), some (.int x2), some (.int x3)], [], h) Q := by
  refine ar_aload_n i_40_60 rfl ?_
  obtain ⟨r1, g_r1, F⟩ := F
  refine ar_getR i_40_61 g_r1 ?_
  refine ar_aload_n i_40_64 rfl ?_
  obtain ⟨v2, g_v2, F⟩ := F
  refine ar_getI i_40_65 g_v2 ?_
  refine ar_iload_n i_40_68 rfl ?_
  exact ar_iast i_40_69 F
theorem B40_70 {a0 : Nat} {x1 : Int32} {x2 : Int32} {x3 : Int32} {h : am_H} {Q : am_H → Option Value → Prop} (F : (∃ r1 : Nat, am_gr h a0 5 6 r1 ∧ (∃ v2 : Int32, am_gi h a0 5 1 v2 ∧ am_wi h r1 v2 x2 (fun h1 => am_Run (40, 80, [some (.ref a0), some (.int x1), some (.int x2), some (.int x3)], [], h1) Q)))) : am_Run (40, 70, [some (.ref a0), some (.int x1), some (.int x2), some (.int x3)], [], h) Q := by
  refine ar_aload_n i_40_70 rfl ?_
  obtain ⟨r1, g_r1, F⟩ := F
  refine ar_getR i_40_71 g_r1 ?_
  refine ar_aload_n i_40_74 rfl ?_
  obtain ⟨v2, g_v2, F⟩ := F
  refine ar_getI i_40_75 g_v2 ?_
  refine ar_iload_n i_40_78 rfl ?_
  exact ar_iast i_40_79 F
theorem B40_80 {a0 : Nat} {x1 : Int32} {x2 : Int32} {x3 : Int32} {h : am_H} {Q : am_H → Option Value → Prop} (F : (∃ r1 : Nat, am_gr h a0 5 7 r1 ∧ (∃ v2 : Int32, am_gi h a0 5 1 v2 ∧ am_wi h r1 v2 x3 (fun h1 => am_Run (40, 90, [some (.ref a0), some (.int x1), some (.int x2), some (.int x3)], [], h1) Q)))) : am_Run (40, 80, [some (.ref a0), some (.int x1), some (.int x2), some (.int x3)], [], h) Q := by
  refine ar_aload_n i_40_80 rfl ?_
  obtain ⟨r1, g_r1, F⟩ := F
  refine ar_getR i_40_81 g_r1 ?_
  refine ar_aload_n i_40_84 rfl ?_
  obtain ⟨v2, g_v2, F⟩ := F
  refine ar_getI i_40_85 g_v2 ?_
  refine ar_iload_n i_40_88 rfl ?_
  exact ar_iast i_40_89 F
theorem B40_90 {a0 : Nat} {x1 : Int32} {x2 : Int32} {x3 : Int32} {h : am_H} {Q : am_H → Option Value → Prop} (F : (∃ v1 : Int32, am_gi h a0 5 1 v1 ∧ Q h (some (.int v1)))) : am_Run (40, 90, [some (.ref a0), some (.int x1), some (.int x2), some (.int x3)], [], h) Q := by
  refine ar_aload_n i_40_90 rfl ?_
  obtain ⟨v1, g_v1, F⟩ := F
  refine ar_getI i_40_91 g_v1 ?_
  exact ar_iret i_40_94 rfl F
theorem B41_0 {a0 : Nat} {h : am_H} {Q : am_H → Option Value → Prop} (F : am_wf h a0 5 0 (.int 0) (fun h1 => am_Run (41, 5, [some (.ref a0)], [], h1) Q)) : am_Run (41, 0, [some (.ref a0)], [], h) Q := by
  refine ar_aload_n i_41_0 rfl ?_
  refine ar_iconst i_41_1 ?_
  exact ar_put i_41_2 rfl F
theorem B41_5 {a0 : Nat} {h : am_H} {Q : am_H → Option Value → Prop} (F : (∃ v1 : Int32, am_gi h a0 5 2 v1 ∧ ((¬ v1 = 20 → (∃ v2 : Int32, am_gi h a0 5 2 v2 ∧ am_wf h a0 5 2 (.int (v2 + 1)) (fun h1 => am_Run (41, 26, [some (.ref a0)], [], h1) Q))) ∧ (v1 = 20 → Q h (some (.int ((-1)))))))) : am_Run (41, 5, [some (.ref a0)], [], h) Q := by
  refine ar_aload_n i_41_5 rfl ?_
  obtain ⟨v1, g_v1, F⟩ := F
  refine ar_getI i_41_6 g_v1 ?_
  refine ar_bipush i_41_9 ?_
  refine ar_icmp_ne i_41_11 (fun q => ?_) (fun q => ?_)
  · replace F := F.1 q
    refine ar_aload_n i_41_16 rfl ?_
    refine ar_dup i_41_17 rfl ?_
    obtain ⟨v2, g_v2, F⟩ := F
    refine ar_getI i_41_18 g_v2 ?_
    refine ar_iconst i_41_21 ?_
    refine ar_iadd i_41_22 ?_
    exact ar_put i_41_23 rfl F
  · replace F := F.2 q
    refine ar_iconst i_41_14 ?_
    exact ar_iret i_41_15 rfl F
theorem B41_26 {a0 : Nat} {h : am_H} {Q : am_H → Option Value → Prop} (F : (∃ v1 : Int32, am_gi h a0 5 2 v1 ∧ Q h (some (.int v1)))) : am_Run (41, 26, [some (.ref a0)], [], h) Q := by
  refine ar_aload_n i_41_26 rfl ?_
  obtain ⟨v1, g_v1, F⟩ := F
  refine ar_getI i_41_27 g_v1 ?_
  exact ar_iret i_41_30 rfl F
theorem B42_0 {a0 : Nat} {x1 : Int32} {h : am_H} {Q : am_H → Option Value → Prop} (F : am_Run (42, 4, [some (.ref a0), some (.int x1), some (.int 0), some (.int 1)], [], h) Q) : am_Run (42, 0, [some (.ref a0), some (.int x1), none, none], [], h) Q := by
  refine ar_iconst i_42_0 ?_
  refine ar_istore_n i_42_1 rfl ?_
  refine ar_iconst i_42_2 ?_
  refine ar_istore_n i_42_3 rfl ?_
  exact F
theorem B42_4 {a0 : Nat} {x1 : Int32} {x2 : Int32} {x3 : Int32} {h : am_H} {Q : am_H → Option Value → Prop} (F : (∃ v1 : Int32, am_gi h a0 5 3 v1 ∧ ((v1 < x3 → Q h (some (.int x2))) ∧ (¬ v1 < x3 → (am_is h a0 5 ∧ am_Run (am_in 39 [.ref a0, .int x3] h) (fun h1 v => am_Run (am_bk (42, 18, [some (.ref a0), some (.int x1), some (.int x2), some (.int x3)], [.int x2], h) h1 v) Q)))))) : am_Run (42, 4, [some (.ref a0), some (.int x1), some (.int x2), some (.int x3)], [], h) Q := by
  refine ar_iload_n i_42_4 rfl ?_
  refine ar_aload_n i_42_5 rfl ?_
  obtain ⟨v1, g_v1, F⟩ := F
  refine ar_getI i_42_6 g_v1 ?_
  refine ar_icmp_gt i_42_9 (fun q => ?_) (fun q => ?_)
  · replace F := F.1 q
    refine ar_iload_n i_42_49 rfl ?_
    exact ar_iret i_42_50 rfl F
  · replace F := F.2 q
    refine ar_iload_n i_42_12 rfl ?_
    refine ar_aload_n i_42_13 rfl ?_
    refine ar_iload_n i_42_14 rfl ?_
    exact ar_callV i_42_15 rfl rfl F.1 (Nat.le_of_ble_eq_true rfl) (Nat.le_of_ble_eq_true rfl) F.2
theorem B42_18 {a0 : Nat} {x1 : Int32} {x2 : Int32} {x3 : Int32} {y1 : Int32} {y0 : Int32} {h : am_H} {Q : am_H → Option Value → Prop} (F : ((y1 = 0 → am_Run (42, 40, [some (.ref a0), some (.int x1), some (.int x2), some (.int x3)], [.int y0], h) Q) ∧ (¬ y1 = 0 → (∃ r1 : Nat, am_gr h a0 5 6 r1 ∧ (∃ r2 : Nat, am_gr h a0 5 11 r2 ∧ (∃ v3 : Int32, am_ai h r2 x3 v3 ∧ (∃ v4 : Int32, am_ai h r1 v3 v4 ∧ ((¬ v4 = x1 → am_Run (42, 40, [some (.ref a0), some (.int x1), some (.int x2), some (.int x3)], [.int y0], h) Q) ∧ (v4 = x1 → am_Run (42, 41, [some (.ref a0), some (.int x1), some (.int x2), some (.int x3)], [.int 1, .int y0], h) Q))))))))) : am_Run (42, 18, [some (.ref a0), some (.int x1), some (.int x2), some (.int x3)], [.int y1, .int y0], h) Q := by
  refine ar_if_eq i_42_18 (fun q => ?_) (fun q => ?_)
  · replace F := F.1 q
    exact F
  · replace F := F.2 q
    refine ar_aload_n i_42_21 rfl ?_
    obtain ⟨r1, g_r1, F⟩ := F
    refine ar_getR i_42_22 g_r1 ?_
    refine ar_aload_n i_42_25 rfl ?_
    obtain ⟨r2, g_r2, F⟩ := F
    refine ar_getR i_42_26 g_r2 ?_
    refine ar_iload_n i_42_29 rfl ?_
    obtain ⟨v3, g_v3, F⟩ := F
    refine ar_iald i_42_30 g_v3 ?_
    obtain ⟨v4, g_v4, F⟩ := F
    refine ar_iald i_42_31 g_v4 ?_
    refine ar_iload_n i_42_32 rfl ?_
    refine ar_icmp_ne i_42_33 (fun q => ?_) (fun q => ?_)
    · replace F := F.1 q
      exact F
    · replace F := F.2 q
      refine ar_iconst i_42_36 ?_
      refine ar_goto i_42_37 ?_
      exact F
theorem B42_40 {a0 : Nat} {x1 : Int32} {x2 : Int32} {x3 : Int32} {y0 : Int32} {h : am_H} {Q : am_H → Option Value → Prop} (F : am_Run (42, 41, [some (.ref a0), some (.int x1), some (.int x2), some (.int x3)], [.int 0, .int y0], h) Q) : am_Run (42, 40, [some (.ref a0), some (.int x1), some (.int x2), some (.int x3)], [.int y0], h) Q := by
  refine ar_iconst i_42_40 ?_
  exact F
theorem B42_41 {a0 : Nat} {x1 : Int32} {x2 : Int32} {x3 : Int32} {y1 : Int32} {y0 : Int32} {h : am_H} {Q : am_H → Option Value → Prop} (F : am_Run (42, 4, [some (.ref a0), some (.int x1), some (.int (y0 + y1)), some (.int (x3 + 1))], [], h) Q) : am_Run (42, 41, [some (.ref a0), some (.int x1), some (.int x2), some (.int x3)], [.int y1, .int y0], h) Q := by
  refine ar_iadd i_42_41 ?_
  refine ar_istore_n i_42_42 rfl ?_
  refine ar_iinc i_42_43 rfl rfl ?_
  refine ar_goto i_42_46 ?_
  exact F
theorem B43_0 {a0 : Nat} {x1 : Int32} {h : am_H} {Q : am_H → Option Value → Prop} (F : am_Run (43, 4, [some (.ref a0), some (.int x1), some (.int 0), some (.int 1)], [], h) Q) : am_Run (43, 0, [some (.ref a0), some (.int x1), none, none], [], h) Q := by
  refine ar_iconst i_43_0 ?_
  refine ar_istore_n i_43_1 rfl ?_
  refine ar_iconst i_43_2 ?_
  refine ar_istore_n i_43_3 rfl ?_
  exact F
theorem B43_4 {a0 : Nat} {x1 : Int32} {x2 : Int32} {x3 : Int32} {h : am_H} {Q : am_H → Option Value → Prop} (F : (∃ v1 : Int32, am_gi h a0 5 3 v1 ∧ ((v1 < x3 → Q h (some (.int x2))) ∧ (¬ v1 < x3 → (am_is h a0 5 ∧ am_Run (am_in 39 [.ref a0, .int x3] h) (fun h1 v => am_Run (am_bk (43, 17, [some (.ref a0), some (.int x1), some (.int x2), some (.int x3)], [], h) h1 v) Q)))))) : am_Run (43, 4, [some (.ref a0), some (.int x1), some (.int x2), some (.int x3)], [], h) Q := by
  refine ar_iload_n i_43_4 rfl ?_
  refine ar_aload_n i_43_5 rfl ?_
  obtain ⟨v1, g_v1, F⟩ := F
  refine ar_getI i_43_6 g_v1 ?_
  refine ar_icmp_gt i_43_9 (fun q => ?_) (fun q => ?_)
  · replace F := F.1 q
    refine ar_iload_n i_43_42 rfl ?_
    exact ar_iret i_43_43 rfl F
  · replace F := F.2 q
    refine ar_aload_n i_43_12 rfl ?_
    refine ar_iload_n i_43_13 rfl ?_
    exact ar_callV i_43_14 rfl rfl F.1 (Nat.le_of_ble_eq_true rfl) (Nat.le_of_ble_eq_true rfl) F.2
theorem B43_17 {a0 : Nat} {x1 : Int32} {x2 : Int32} {x3 : Int32} {y0 : Int32} {h : am_H} {Q : am_H → Option Value → Prop} (F : ((y0 = 0 → am_Run (43, 34, [some (.ref a0), some (.int x1), some (.int x2), some (.int x3)], [], h) Q) ∧ (¬ y0 = 0 → (∃ r1 : Nat, am_gr h a0 5 12 r1 ∧ (∃ v2 : Int32, am_ai h r1 x3 v2 ∧ ((¬ v2 = x1 → am_Run (43, 34, [some (.ref a0), some (.int x1), some (.int x2), some (.int x3)], [], h) Q) ∧ (v2 = x1 → am_Run (43, 35, [some (.ref a0), some (.int x1), some (.int x2), some (.int x3)], [.int x3], h) Q))))))) : am_Run (43, 17, [some (.ref a0), some (.int x1), some (.int x2), some (.int x3)], [.int y0], h) Q := by
  refine ar_if_eq i_43_17 (fun q => ?_) (fun q => ?_)
  · replace F := F.1 q
    exact F
  · replace F := F.2 q
    refine ar_aload_n i_43_20 rfl ?_
    obtain ⟨r1, g_r1, F⟩ := F
    refine ar_getR i_43_21 g_r1 ?_
    refine ar_iload_n i_43_24 rfl ?_
    obtain ⟨v2, g_v2, F⟩ := F
    refine ar_iald i_43_25 g_v2 ?_
    refine ar_iload_n i_43_26 rfl ?_
    refine ar_icmp_ne i_43_27 (fun q => ?_) (fun q => ?_)
    · replace F := F.1 q
      exact F
    · replace F := F.2 q
      refine ar_iload_n i_43_30 rfl ?_
      refine ar_goto i_43_31 ?_
      exact F
theorem B43_34 {a0 : Nat} {x1 : Int32} {x2 : Int32} {x3 : Int32} {h : am_H} {Q : am_H → Option Value → Prop} (F : am_Run (43, 35, [some (.ref a0), some (.int x1), some (.int x2), some (.int x3)], [.int x2], h) Q) : am_Run (43, 34, [some (.ref a0), some (.int x1), some (.int x2), some (.int x3)], [], h) Q := by
  refine ar_iload_n i_43_34 rfl ?_
  exact F
theorem B43_35 {a0 : Nat} {x1 : Int32} {x2 : Int32} {x3 : Int32} {y0 : Int32} {h : am_H} {Q : am_H → Option Value → Prop} (F : am_Run (43, 4, [some (.ref a0), some (.int x1), some (.int y0), some (.int (x3 + 1))], [], h) Q) : am_Run (43, 35, [some (.ref a0), some (.int x1), some (.int x2), some (.int x3)], [.int y0], h) Q := by
  refine ar_istore_n i_43_35 rfl ?_
  refine ar_iinc i_43_36 rfl rfl ?_
  refine ar_goto i_43_39 ?_
  exact F
theorem B44_0 {a0 : Nat} {x1 : Int32} {h : am_H} {Q : am_H → Option Value → Prop} (F : (∃ r1 : Nat, am_gr h a0 5 13 r1 ∧ (∃ v2 : Int32, am_ai h r1 x1 v2 ∧ ((¬ v2 = 0 → Q h (some (.int 0))) ∧ (v2 = 0 → (∃ r3 : Nat, am_gr h a0 5 17 r3 ∧ (∃ w4 : Int64, am_al h r3 x1 w4 ∧ (∃ w5 : Int64, am_gl h a0 5 4 w5 ∧ (((lg_cmp w4 w5) ≤ 0 → (∃ r6 : Nat, am_gr h a0 5 12 r6 ∧ (∃ v7 : Int32, am_ai h r6 x1 v7 ∧ ((v7 = 0 → am_Run (44, 47, [some (.ref a0), some (.int x1)], [], h) Q) ∧ (¬ v7 = 0 → (∃ r8 : Nat, am_gr h a0 5 12 r8 ∧ (∃ v9 : Int32, am_ai h r8 x1 v9 ∧ (am_is h a0 5 ∧ am_Run (am_in 43 [.ref a0, .int v9] h) (fun h1 v => am_Run (am_bk (44, 44, [some (.ref a0), some (.int x1)], [], h) h1 v) Q))))))))) ∧ (¬ (lg_cmp w4 w5) ≤ 0 → Q h (some (.int 0)))))))))))) : am_Run (44, 0, [some (.ref a0), some (.int x1)], [], h) Q := by
  refine ar_aload_n i_44_0 rfl ?_
  obtain ⟨r1, g_r1, F⟩ := F
  refine ar_getR i_44_1 g_r1 ?_
  refine ar_iload_n i_44_4 rfl ?_
  obtain ⟨v2, g_v2, F⟩ := F
  refine ar_iald i_44_5 g_v2 ?_
  refine ar_if_ne i_44_6 (fun q => ?_) (fun q => ?_)
  · replace F := F.1 q
    refine ar_iconst i_44_23 ?_
    exact ar_iret i_44_24 rfl F
  · replace F := F.2 q
    refine ar_aload_n i_44_9 rfl ?_
    obtain ⟨r3, g_r3, F⟩ := F
    refine ar_getR i_44_10 g_r3 ?_
    refine ar_iload_n i_44_13 rfl ?_
    obtain ⟨w4, g_w4, F⟩ := F
    refine ar_lald i_44_14 g_w4 ?_
    refine ar_aload_n i_44_15 rfl ?_
    obtain ⟨w5, g_w5, F⟩ := F
    refine ar_getL i_44_16 g_w5 ?_
    refine ar_lcmp i_44_19 ?_
    refine ar_if_le i_44_20 (fun q => ?_) (fun q => ?_)
    · replace F := F.1 q
      refine ar_aload_n i_44_25 rfl ?_
      obtain ⟨r6, g_r6, F⟩ := F
      refine ar_getR i_44_26 g_r6 ?_
      refine ar_iload_n i_44_29 rfl ?_
      obtain ⟨v7, g_v7, F⟩ := F
      refine ar_iald i_44_30 g_v7 ?_
      refine ar_if_eq i_44_31 (fun q => ?_) (fun q => ?_)
      · replace F := F.1 q
        exact F
      · replace F := F.2 q
        refine ar_aload_n i_44_34 rfl ?_
        refine ar_aload_n i_44_35 rfl ?_
        obtain ⟨r8, g_r8, F⟩ := F
        refine ar_getR i_44_36 g_r8 ?_
        refine ar_iload_n i_44_39 rfl ?_
        obtain ⟨v9, g_v9, F⟩ := F
        refine ar_iald i_44_40 g_v9 ?_
        exact ar_callV i_44_41 rfl rfl F.1 (Nat.le_of_ble_eq_true rfl) (Nat.le_of_ble_eq_true rfl) F.2
    · replace F := F.2 q
      refine ar_iconst i_44_23 ?_
      exact ar_iret i_44_24 rfl F
theorem B44_44 {a0 : Nat} {x1 : Int32} {y0 : Int32} {h : am_H} {Q : am_H → Option Value → Prop} (F : ((¬ y0 = 0 → Q h (some (.int 0))) ∧ (y0 = 0 → am_Run (44, 47, [some (.ref a0), some (.int x1)], [], h) Q))) : am_Run (44, 44, [some (.ref a0), some (.int x1)], [.int y0], h) Q := by
  refine ar_if_ne i_44_44 (fun q => ?_) (fun q => ?_)
  · replace F := F.1 q
    refine ar_iconst i_44_85 ?_
    exact ar_iret i_44_86 rfl F
  · replace F := F.2 q
    exact F
theorem B44_47 {a0 : Nat} {x1 : Int32} {h : am_H} {Q : am_H → Option Value → Prop} (F : (∃ r1 : Nat, am_gr h a0 5 6 r1 ∧ (∃ r2 : Nat, am_gr h a0 5 11 r2 ∧ (∃ v3 : Int32, am_ai h r2 x1 v3 ∧ (∃ v4 : Int32, am_ai h r1 v3 v4 ∧ (am_is h a0 5 ∧ am_Run (am_in 42 [.ref a0, .int v4] h) (fun h1 v => am_Run (am_bk (44, 62, [some (.ref a0), some (.int x1)], [], h) h1 v) Q))))))) : am_Run (44, 47, [some (.ref a0), some (.int x1)], [], h) Q := by
  refine ar_aload_n i_44_47 rfl ?_
  refine ar_aload_n i_44_48 rfl ?_
  obtain ⟨r1, g_r1, F⟩ := F
  refine ar_getR i_44_49 g_r1 ?_
  refine ar_aload_n i_44_52 rfl ?_
  obtain ⟨r2, g_r2, F⟩ := F
  refine ar_getR i_44_53 g_r2 ?_
  refine ar_iload_n i_44_56 rfl ?_
  obtain ⟨v3, g_v3, F⟩ := F
  refine ar_iald i_44_57 g_v3 ?_
  obtain ⟨v4, g_v4, F⟩ := F
  refine ar_iald i_44_58 g_v4 ?_
  exact ar_callV i_44_59 rfl rfl F.1 (Nat.le_of_ble_eq_true rfl) (Nat.le_of_ble_eq_true rfl) F.2
theorem B44_62 {a0 : Nat} {x1 : Int32} {y0 : Int32} {h : am_H} {Q : am_H → Option Value → Prop} (F : (∃ r1 : Nat, am_gr h a0 5 10 r1 ∧ (∃ r2 : Nat, am_gr h a0 5 6 r2 ∧ (∃ r3 : Nat, am_gr h a0 5 11 r3 ∧ (∃ v4 : Int32, am_ai h r3 x1 v4 ∧ (∃ v5 : Int32, am_ai h r2 v4 v5 ∧ (∃ v6 : Int32, am_ai h r1 v5 v6 ∧ ((v6 ≤ y0 → Q h (some (.int 0))) ∧ (¬ v6 ≤ y0 → Q h (some (.int 1))))))))))) : am_Run (44, 62, [some (.ref a0), some (.int x1)], [.int y0], h) Q := by
  refine ar_aload_n i_44_62 rfl ?_
  obtain ⟨r1, g_r1, F⟩ := F
  refine ar_getR i_44_63 g_r1 ?_
  refine ar_aload_n i_44_66 rfl ?_
  obtain ⟨r2, g_r2, F⟩ := F
  refine ar_getR i_44_67 g_r2 ?_
  refine ar_aload_n i_44_70 rfl ?_
  obtain ⟨r3, g_r3, F⟩ := F
  refine ar_getR i_44_71 g_r3 ?_
  refine ar_iload_n i_44_74 rfl ?_
  obtain ⟨v4, g_v4, F⟩ := F
  refine ar_iald i_44_75 g_v4 ?_
  obtain ⟨v5, g_v5, F⟩ := F
  refine ar_iald i_44_76 g_v5 ?_
  obtain ⟨v6, g_v6, F⟩ := F
  refine ar_iald i_44_77 g_v6 ?_
  refine ar_icmp_ge i_44_78 (fun q => ?_) (fun q => ?_)
  · replace F := F.1 q
    refine ar_iconst i_44_85 ?_
    exact ar_iret i_44_86 rfl F
  · replace F := F.2 q
    refine ar_iconst i_44_81 ?_
    refine ar_goto i_44_82 ?_
    exact ar_iret i_44_86 rfl F
theorem B45_0 {x0 : Int32} {x1 : Int32} {h : am_H} {Q : am_H → Option Value → Prop} (F : Q h (some (.int ((11 * x0) + x1)))) : am_Run (45, 0, [some (.int x0), some (.int x1)], [], h) Q := by
  refine ar_bipush i_45_0 ?_
  refine ar_iload_n i_45_2 rfl ?_
  refine ar_imul i_45_3 ?_
  refine ar_iload_n i_45_4 rfl ?_
  refine ar_iadd i_45_5 ?_
  exact ar_iret i_45_6 rfl F
theorem B46_0 {a0 : Nat} {x1 : Int32} {x2 : Int32} {h : am_H} {Q : am_H → Option Value → Prop} (F : (∃ r1 : Nat, am_gr h a0 5 15 r1 ∧ (∃ v2 : Int32, am_ai h r1 x1 v2 ∧ am_wi h r1 x1 (v2 + 1) (fun h1 => am_Run (46, 10, [some (.ref a0), some (.int x1), some (.int x2), none], [], h1) Q)))) : am_Run (46, 0, [some (.ref a0), some (.int x1), some (.int x2), none], [], h) Q := by
  refine ar_aload_n i_46_0 rfl ?_
  obtain ⟨r1, g_r1, F⟩ := F
  refine ar_getR i_46_1 g_r1 ?_
  refine ar_iload_n i_46_4 rfl ?_
  refine ar_dup2 i_46_5 rfl rfl ?_
  obtain ⟨v2, g_v2, F⟩ := F
  refine ar_iald i_46_6 g_v2 ?_
  refine ar_iconst i_46_7 ?_
  refine ar_iadd i_46_8 ?_
  exact ar_iast i_46_9 F
theorem B46_10 {a0 : Nat} {x1 : Int32} {x2 : Int32} {h : am_H} {Q : am_H → Option Value → Prop} (F : (∃ r1 : Nat, am_gr h a0 5 18 r1 ∧ (∃ r2 : Nat, am_gr h a0 5 15 r2 ∧ (∃ v3 : Int32, am_ai h r2 x1 v3 ∧ am_Run (am_in 45 [.int x1, .int v3] h) (fun h1 v => am_Run (am_bk (46, 24, [some (.ref a0), some (.int x1), some (.int x2), none], [.ref r1], h) h1 v) Q))))) : am_Run (46, 10, [some (.ref a0), some (.int x1), some (.int x2), none], [], h) Q := by
  refine ar_aload_n i_46_10 rfl ?_
  obtain ⟨r1, g_r1, F⟩ := F
  refine ar_getR i_46_11 g_r1 ?_
  refine ar_iload_n i_46_14 rfl ?_
  refine ar_aload_n i_46_15 rfl ?_
  obtain ⟨r2, g_r2, F⟩ := F
  refine ar_getR i_46_16 g_r2 ?_
  refine ar_iload_n i_46_19 rfl ?_
  obtain ⟨v3, g_v3, F⟩ := F
  refine ar_iald i_46_20 g_v3 ?_
  exact ar_callS i_46_21 (Nat.le_of_ble_eq_true rfl) rfl rfl (Nat.le_of_ble_eq_true rfl) (Nat.le_of_ble_eq_true rfl) F
theorem B46_24 {a0 : Nat} {x1 : Int32} {x2 : Int32} {y1 : Int32} {b0 : Nat} {h : am_H} {Q : am_H → Option Value → Prop} (F : am_wi h b0 y1 x2 (fun h1 => am_Run (46, 26, [some (.ref a0), some (.int x1), some (.int x2), none], [], h1) Q)) : am_Run (46, 24, [some (.ref a0), some (.int x1), some (.int x2), none], [.int y1, .ref b0], h) Q := by
  refine ar_iload_n i_46_24 rfl ?_
  exact ar_iast i_46_25 F
theorem B46_26 {a0 : Nat} {x1 : Int32} {x2 : Int32} {h : am_H} {Q : am_H → Option Value → Prop} (F : am_Run (46, 28, [some (.ref a0), some (.int x1), some (.int x2), some (.int 0)], [], h) Q) : am_Run (46, 26, [some (.ref a0), some (.int x1), some (.int x2), none], [], h) Q := by
  refine ar_iconst i_46_26 ?_
  refine ar_istore_n i_46_27 rfl ?_
  exact F
theorem B46_28 {a0 : Nat} {x1 : Int32} {x2 : Int32} {x3 : Int32} {h : am_H} {Q : am_H → Option Value → Prop} (F : ((10 ≤ x3 → Q h none) ∧ (¬ 10 ≤ x3 → (∃ r1 : Nat, am_gr h a0 5 19 r1 ∧ (∃ r2 : Nat, am_gr h a0 5 15 r2 ∧ (∃ v3 : Int32, am_ai h r2 x1 v3 ∧ am_Run (am_in 45 [.int x1, .int v3] h) (fun h1 v => am_Run (am_bk (46, 50, [some (.ref a0), some (.int x1), some (.int x2), some (.int x3)], [.int 10, .ref r1], h) h1 v) Q))))))) : am_Run (46, 28, [some (.ref a0), some (.int x1), some (.int x2), some (.int x3)], [], h) Q := by
  refine ar_iload_n i_46_28 rfl ?_
  refine ar_bipush i_46_29 ?_
  refine ar_icmp_ge i_46_31 (fun q => ?_) (fun q => ?_)
  · replace F := F.1 q
    exact ar_vret i_46_61 F
  · replace F := F.2 q
    refine ar_aload_n i_46_34 rfl ?_
    obtain ⟨r1, g_r1, F⟩ := F
    refine ar_getR i_46_35 g_r1 ?_
    refine ar_bipush i_46_38 ?_
    refine ar_iload_n i_46_40 rfl ?_
    refine ar_aload_n i_46_41 rfl ?_
    obtain ⟨r2, g_r2, F⟩ := F
    refine ar_getR i_46_42 g_r2 ?_
    refine ar_iload_n i_46_45 rfl ?_
    obtain ⟨v3, g_v3, F⟩ := F
    refine ar_iald i_46_46 g_v3 ?_
    exact ar_callS i_46_47 (Nat.le_of_ble_eq_true rfl) rfl rfl (Nat.le_of_ble_eq_true rfl) (Nat.le_of_ble_eq_true rfl) F
theorem B46_50 {a0 : Nat} {x1 : Int32} {x2 : Int32} {x3 : Int32} {y2 : Int32} {y1 : Int32} {b0 : Nat} {h : am_H} {Q : am_H → Option Value → Prop} (F : am_wi h b0 ((y1 * y2) + x3) 0 (fun h1 => am_Run (46, 55, [some (.ref a0), some (.int x1), some (.int x2), some (.int x3)], [], h1) Q)) : am_Run (46, 50, [some (.ref a0), some (.int x1), some (.int x2), some (.int x3)], [.int y2, .int y1, .ref b0], h) Q := by
  refine ar_imul i_46_50 ?_
  refine ar_iload_n i_46_51 rfl ?_
  refine ar_iadd i_46_52 ?_
  refine ar_iconst i_46_53 ?_
  exact ar_iast i_46_54 F
theorem B46_55 {a0 : Nat} {x1 : Int32} {x2 : Int32} {x3 : Int32} {h : am_H} {Q : am_H → Option Value → Prop} (F : am_Run (46, 28, [some (.ref a0), some (.int x1), some (.int x2), some (.int (x3 + 1))], [], h) Q) : am_Run (46, 55, [some (.ref a0), some (.int x1), some (.int x2), some (.int x3)], [], h) Q := by
  refine ar_iinc i_46_55 rfl rfl ?_
  refine ar_goto i_46_58 ?_
  exact F
theorem B47_0 {a0 : Nat} {h : am_H} {Q : am_H → Option Value → Prop} (F : am_Run (47, 4, [some (.ref a0), some (.int 0), some (.int 1), none], [], h) Q) : am_Run (47, 0, [some (.ref a0), none, none, none], [], h) Q := by
  refine ar_iconst i_47_0 ?_
  refine ar_istore_n i_47_1 rfl ?_
  refine ar_iconst i_47_2 ?_
  refine ar_istore_n i_47_3 rfl ?_
  exact F
theorem B47_4 {a0 : Nat} {x1 : Int32} {x2 : Int32} {h : am_H} {Q : am_H → Option Value → Prop} (F : ((x2 = 0 → Q h (some (.int x1))) ∧ (¬ x2 = 0 → am_Run (47, 12, [some (.ref a0), some (.int x1), some (.int 0), some (.int 1)], [], h) Q))) : am_Run (47, 4, [some (.ref a0), some (.int x1), some (.int x2), none], [], h) Q := by
  refine ar_iload_n i_47_4 rfl ?_
  refine ar_if_eq i_47_5 (fun q => ?_) (fun q => ?_)
  · replace F := F.1 q
    refine ar_iload_n i_47_105 rfl ?_
    exact ar_iret i_47_106 rfl F
  · replace F := F.2 q
    refine ar_iconst i_47_8 ?_
    refine ar_istore_n i_47_9 rfl ?_
    refine ar_iconst i_47_10 ?_
    refine ar_istore_n i_47_11 rfl ?_
    exact F
theorem B47_4_1 {a0 : Nat} {x1 : Int32} {x2 : Int32} {x3 : Int32} {h : am_H} {Q : am_H → Option Value → Prop} (F : ((x2 = 0 → Q h (some (.int x1))) ∧ (¬ x2 = 0 → am_Run (47, 12, [some (.ref a0), some (.int x1), some (.int 0), some (.int 1)], [], h) Q))) : am_Run (47, 4, [some (.ref a0), some (.int x1), some (.int x2), some (.int x3)], [], h) Q := by
  refine ar_iload_n i_47_4 rfl ?_
  refine ar_if_eq i_47_5 (fun q => ?_) (fun q => ?_)
  · replace F := F.1 q
    refine ar_iload_n i_47_105 rfl ?_
    exact ar_iret i_47_106 rfl F
  · replace F := F.2 q
    refine ar_iconst i_47_8 ?_
    refine ar_istore_n i_47_9 rfl ?_
    refine ar_iconst i_47_10 ?_
    refine ar_istore_n i_47_11 rfl ?_
    exact F
theorem B47_12 {a0 : Nat} {x1 : Int32} {x2 : Int32} {x3 : Int32} {h : am_H} {Q : am_H → Option Value → Prop} (F : (∃ v1 : Int32, am_gi h a0 5 3 v1 ∧ ((v1 < x3 → ((¬ x2 = 0 → (∃ r2 : Nat, am_gr h a0 5 13 r2 ∧ am_wi h r2 x2 1 (fun h1 => am_Run (47, 83, [some (.ref a0), some (.int x1), some (.int x2), some (.int x3)], [], h1) Q))) ∧ (x2 = 0 → am_Run (47, 4, [some (.ref a0), some (.int x1), some (.int x2), some (.int x3)], [], h) Q))) ∧ (¬ v1 < x3 → (am_is h a0 5 ∧ am_Run (am_in 44 [.ref a0, .int x3] h) (fun h1 v => am_Run (am_bk (47, 25, [some (.ref a0), some (.int x1), some (.int x2), some (.int x3)], [], h) h1 v) Q)))))) : am_Run (47, 12, [some (.ref a0), some (.int x1), some (.int x2), some (.int x3)], [], h) Q := by
  refine ar_iload_n i_47_12 rfl ?_
  refine ar_aload_n i_47_13 rfl ?_
  obtain ⟨v1, g_v1, F⟩ := F
  refine ar_getI i_47_14 g_v1 ?_
  refine ar_icmp_gt i_47_17 (fun q => ?_) (fun q => ?_)
  · replace F := F.1 q
    refine ar_iload_n i_47_69 rfl ?_
    refine ar_if_ne i_47_70 (fun q => ?_) (fun q => ?_)
    · replace F := F.1 q
      refine ar_aload_n i_47_76 rfl ?_
      obtain ⟨r2, g_r2, F⟩ := F
      refine ar_getR i_47_77 g_r2 ?_
      refine ar_iload_n i_47_80 rfl ?_
      refine ar_iconst i_47_81 ?_
      exact ar_iast i_47_82 F
    · replace F := F.2 q
      refine ar_goto i_47_73 ?_
      exact F
  · replace F := F.2 q
    refine ar_aload_n i_47_20 rfl ?_
    refine ar_iload_n i_47_21 rfl ?_
    exact ar_callV i_47_22 rfl rfl F.1 (Nat.le_of_ble_eq_true rfl) (Nat.le_of_ble_eq_true rfl) F.2
theorem B47_25 {a0 : Nat} {x1 : Int32} {x2 : Int32} {x3 : Int32} {y0 : Int32} {h : am_H} {Q : am_H → Option Value → Prop} (F : ((y0 = 0 → am_Run (47, 61, [some (.ref a0), some (.int x1), some (.int x2), some (.int x3)], [], h) Q) ∧ (¬ y0 = 0 → ((x2 = 0 → am_Run (47, 57, [some (.ref a0), some (.int x1), some (.int x2), some (.int x3)], [], h) Q) ∧ (¬ x2 = 0 → (∃ r1 : Nat, am_gr h a0 5 7 r1 ∧ (∃ r2 : Nat, am_gr h a0 5 11 r2 ∧ (∃ v3 : Int32, am_ai h r2 x3 v3 ∧ (∃ v4 : Int32, am_ai h r1 v3 v4 ∧ (∃ r5 : Nat, am_gr h a0 5 7 r5 ∧ (∃ r6 : Nat, am_gr h a0 5 11 r6 ∧ (∃ v7 : Int32, am_ai h r6 x2 v7 ∧ (∃ v8 : Int32, am_ai h r5 v7 v8 ∧ ((v4 ≤ v8 → am_Run (47, 61, [some (.ref a0), some (.int x1), some (.int x2), some (.int x3)], [], h) Q) ∧ (¬ v4 ≤ v8 → am_Run (47, 57, [some (.ref a0), some (.int x1), some (.int x2), some (.int x3)], [], h) Q))))))))))))))) : am_Run (47, 25, [some (.ref a0), some (.int x1), some (.int x2), some (.int x3)], [.int y0], h) Q := by
  refine ar_if_eq i_47_25 (fun q => ?_) (fun q => ?_)
  · replace F := F.1 q
    exact F
  · replace F := F.2 q
    refine ar_iload_n i_47_28 rfl ?_
    refine ar_if_eq i_47_29 (fun q => ?_) (fun q => ?_)
    · replace F := F.1 q
      exact F
    · replace F := F.2 q
      refine ar_aload_n i_47_32 rfl ?_
      obtain ⟨r1, g_r1, F⟩ := F
      refine ar_getR i_47_33 g_r1 ?_
      refine ar_aload_n i_47_36 rfl ?_
      obtain ⟨r2, g_r2, F⟩ := F
      refine ar_getR i_47_37 g_r2 ?_
      refine ar_iload_n i_47_40 rfl ?_
      obtain ⟨v3, g_v3, F⟩ := F
      refine ar_iald i_47_41 g_v3 ?_
      obtain ⟨v4, g_v4, F⟩ := F
      refine ar_iald i_47_42 g_v4 ?_
      refine ar_aload_n i_47_43 rfl ?_
      obtain ⟨r5, g_r5, F⟩ := F
      refine ar_getR i_47_44 g_r5 ?_
      refine ar_aload_n i_47_47 rfl ?_
      obtain ⟨r6, g_r6, F⟩ := F
      refine ar_getR i_47_48 g_r6 ?_
      refine ar_iload_n i_47_51 rfl ?_
      obtain ⟨v7, g_v7, F⟩ := F
      refine ar_iald i_47_52 g_v7 ?_
      obtain ⟨v8, g_v8, F⟩ := F
      refine ar_iald i_47_53 g_v8 ?_
      refine ar_icmp_le i_47_54 (fun q => ?_) (fun q => ?_)
      · replace F := F.1 q
        exact F
      · replace F := F.2 q
        exact F
theorem B47_57 {a0 : Nat} {x1 : Int32} {x2 : Int32} {x3 : Int32} {h : am_H} {Q : am_H → Option Value → Prop} (F : am_Run (47, 62, [some (.ref a0), some (.int x1), some (.int x2), some (.int x3)], [.int x3], h) Q) : am_Run (47, 57, [some (.ref a0), some (.int x1), some (.int x2), some (.int x3)], [], h) Q := by
  refine ar_iload_n i_47_57 rfl ?_
  refine ar_goto i_47_58 ?_
  exact F
theorem B47_61 {a0 : Nat} {x1 : Int32} {x2 : Int32} {x3 : Int32} {h : am_H} {Q : am_H → Option Value → Prop} (F : am_Run (47, 62, [some (.ref a0), some (.int x1), some (.int x2), some (.int x3)], [.int x2], h) Q) : am_Run (47, 61, [some (.ref a0), some (.int x1), some (.int x2), some (.int x3)], [], h) Q := by
  refine ar_iload_n i_47_61 rfl ?_
  exact F
theorem B47_62 {a0 : Nat} {x1 : Int32} {x2 : Int32} {x3 : Int32} {y0 : Int32} {h : am_H} {Q : am_H → Option Value → Prop} (F : am_Run (47, 12, [some (.ref a0), some (.int x1), some (.int y0), some (.int (x3 + 1))], [], h) Q) : am_Run (47, 62, [some (.ref a0), some (.int x1), some (.int x2), some (.int x3)], [.int y0], h) Q := by
  refine ar_istore_n i_47_62 rfl ?_
  refine ar_iinc i_47_63 rfl rfl ?_
  refine ar_goto i_47_66 ?_
  exact F
theorem B47_83 {a0 : Nat} {x1 : Int32} {x2 : Int32} {x3 : Int32} {h : am_H} {Q : am_H → Option Value → Prop} (F : (∃ r1 : Nat, am_gr h a0 5 5 r1 ∧ (∃ r2 : Nat, am_gr h a0 5 11 r2 ∧ (∃ v3 : Int32, am_ai h r2 x2 v3 ∧ (∃ v4 : Int32, am_ai h r1 v3 v4 ∧ (am_is h a0 5 ∧ am_Run (am_in 46 [.ref a0, .int x2, .int v4] h) (fun h1 v => am_Run (am_bk (47, 99, [some (.ref a0), some (.int x1), some (.int x2), some (.int x3)], [], h) h1 v) Q))))))) : am_Run (47, 83, [some (.ref a0), some (.int x1), some (.int x2), some (.int x3)], [], h) Q := by
  refine ar_aload_n i_47_83 rfl ?_
  refine ar_iload_n i_47_84 rfl ?_
  refine ar_aload_n i_47_85 rfl ?_
  obtain ⟨r1, g_r1, F⟩ := F
  refine ar_getR i_47_86 g_r1 ?_
  refine ar_aload_n i_47_89 rfl ?_
  obtain ⟨r2, g_r2, F⟩ := F
  refine ar_getR i_47_90 g_r2 ?_
  refine ar_iload_n i_47_93 rfl ?_
  obtain ⟨v3, g_v3, F⟩ := F
  refine ar_iald i_47_94 g_v3 ?_
  obtain ⟨v4, g_v4, F⟩ := F
  refine ar_iald i_47_95 g_v4 ?_
  exact ar_callV i_47_96 rfl rfl F.1 (Nat.le_of_ble_eq_true rfl) (Nat.le_of_ble_eq_true rfl) F.2
theorem B47_99 {a0 : Nat} {x1 : Int32} {x2 : Int32} {x3 : Int32} {h : am_H} {Q : am_H → Option Value → Prop} (F : am_Run (47, 4, [some (.ref a0), some (.int (x1 + 1)), some (.int x2), some (.int x3)], [], h) Q) : am_Run (47, 99, [some (.ref a0), some (.int x1), some (.int x2), some (.int x3)], [], h) Q := by
  refine ar_iinc i_47_99 rfl rfl ?_
  refine ar_goto i_47_102 ?_
  exact F
theorem B48_0 {a0 : Nat} {x1 : Int32} {x2 : Int32} {l3 : Int64} {h : am_H} {Q : am_H → Option Value → Prop} (F : am_wf h a0 5 0 (.int 0) (fun h1 => am_Run (48, 5, [some (.ref a0), some (.int x1), some (.int x2), some (.long l3), none, none, none], [], h1) Q)) : am_Run (48, 0, [some (.ref a0), some (.int x1), some (.int x2), some (.long l3), none, none, none], [], h) Q := by
  refine ar_aload_n i_48_0 rfl ?_
  refine ar_iconst i_48_1 ?_
  exact ar_put i_48_2 rfl F
theorem B48_5 {a0 : Nat} {x1 : Int32} {x2 : Int32} {l3 : Int64} {h : am_H} {Q : am_H → Option Value → Prop} (F : ((¬ x1 = 0 → am_Run (48, 26, [some (.ref a0), some (.int x1), some (.int x2), some (.long l3), none, none, none], [], h) Q) ∧ (x1 = 0 → (am_is h a0 5 ∧ am_Run (am_in 37 [.ref a0, .int x2] h) (fun h1 v => am_Run (am_bk (48, 14, [some (.ref a0), some (.int x1), some (.int x2), some (.long l3), none, none, none], [], h) h1 v) Q))))) : am_Run (48, 5, [some (.ref a0), some (.int x1), some (.int x2), some (.long l3), none, none, none], [], h) Q := by
  refine ar_iload_n i_48_5 rfl ?_
  refine ar_if_ne i_48_6 (fun q => ?_) (fun q => ?_)
  · replace F := F.1 q
    exact F
  · replace F := F.2 q
    refine ar_aload_n i_48_9 rfl ?_
    refine ar_iload_n i_48_10 rfl ?_
    exact ar_callV i_48_11 rfl rfl F.1 (Nat.le_of_ble_eq_true rfl) (Nat.le_of_ble_eq_true rfl) F.2
theorem B48_14 {a0 : Nat} {x1 : Int32} {x2 : Int32} {l3 : Int64} {y0 : Int32} {h : am_H} {Q : am_H → Option Value → Prop} (F : ((y0 = 0 → am_Run (48, 26, [some (.ref a0), some (.int x1), some (.int x2), some (.long l3), none, none, none], [], h) Q) ∧ (¬ y0 = 0 → (∃ r1 : Nat, am_gr h a0 5 8 r1 ∧ (∃ v2 : Int32, am_ai h r1 x2 v2 ∧ am_Run (48, 27, [some (.ref a0), some (.int x1), some (.int x2), some (.long l3), none, none, none], [.int v2], h) Q))))) : am_Run (48, 14, [some (.ref a0), some (.int x1), some (.int x2), some (.long l3), none, none, none], [.int y0], h) Q := by
  refine ar_if_eq i_48_14 (fun q => ?_) (fun q => ?_)
  · replace F := F.1 q
    exact F
  · replace F := F.2 q
    refine ar_aload_n i_48_17 rfl ?_
    obtain ⟨r1, g_r1, F⟩ := F
    refine ar_getR i_48_18 g_r1 ?_
    refine ar_iload_n i_48_21 rfl ?_
    obtain ⟨v2, g_v2, F⟩ := F
    refine ar_iald i_48_22 g_v2 ?_
    refine ar_goto i_48_23 ?_
    exact F
theorem B48_26 {a0 : Nat} {x1 : Int32} {x2 : Int32} {l3 : Int64} {h : am_H} {Q : am_H → Option Value → Prop} (F : am_Run (48, 27, [some (.ref a0), some (.int x1), some (.int x2), some (.long l3), none, none, none], [.int x1], h) Q) : am_Run (48, 26, [some (.ref a0), some (.int x1), some (.int x2), some (.long l3), none, none, none], [], h) Q := by
  refine ar_iload_n i_48_26 rfl ?_
  exact F
theorem B48_27 {a0 : Nat} {x1 : Int32} {x2 : Int32} {l3 : Int64} {y0 : Int32} {h : am_H} {Q : am_H → Option Value → Prop} (F : (am_is h a0 5 ∧ am_Run (am_in 36 [.ref a0, .int y0] h) (fun h1 v => am_Run (am_bk (48, 35, [some (.ref a0), some (.int x1), some (.int x2), some (.long l3), none, some (.int y0), none], [], h) h1 v) Q))) : am_Run (48, 27, [some (.ref a0), some (.int x1), some (.int x2), some (.long l3), none, none, none], [.int y0], h) Q := by
  refine ar_istore i_48_27 rfl ?_
  refine ar_aload_n i_48_29 rfl ?_
  refine ar_iload i_48_30 rfl ?_
  exact ar_callV i_48_32 rfl rfl F.1 (Nat.le_of_ble_eq_true rfl) (Nat.le_of_ble_eq_true rfl) F.2
theorem B48_35 {a0 : Nat} {x1 : Int32} {x2 : Int32} {l3 : Int64} {x5 : Int32} {y0 : Int32} {h : am_H} {Q : am_H → Option Value → Prop} (F : ((y0 = 0 → Q h (some (.int ((-2))))) ∧ (¬ y0 = 0 → ((x2 = 0 → am_Run (48, 53, [some (.ref a0), some (.int x1), some (.int x2), some (.long l3), none, some (.int x5), none], [], h) Q) ∧ (¬ x2 = 0 → (am_is h a0 5 ∧ am_Run (am_in 37 [.ref a0, .int x2] h) (fun h1 v => am_Run (am_bk (48, 47, [some (.ref a0), some (.int x1), some (.int x2), some (.long l3), none, some (.int x5), none], [], h) h1 v) Q))))))) : am_Run (48, 35, [some (.ref a0), some (.int x1), some (.int x2), some (.long l3), none, some (.int x5), none], [.int y0], h) Q := by
  refine ar_if_eq i_48_35 (fun q => ?_) (fun q => ?_)
  · replace F := F.1 q
    refine ar_bipush i_48_50 ?_
    exact ar_iret i_48_52 rfl F
  · replace F := F.2 q
    refine ar_iload_n i_48_38 rfl ?_
    refine ar_if_eq i_48_39 (fun q => ?_) (fun q => ?_)
    · replace F := F.1 q
      exact F
    · replace F := F.2 q
      refine ar_aload_n i_48_42 rfl ?_
      refine ar_iload_n i_48_43 rfl ?_
      exact ar_callV i_48_44 rfl rfl F.1 (Nat.le_of_ble_eq_true rfl) (Nat.le_of_ble_eq_true rfl) F.2
theorem B48_47 {a0 : Nat} {x1 : Int32} {x2 : Int32} {l3 : Int64} {x5 : Int32} {y0 : Int32} {h : am_H} {Q : am_H → Option Value → Prop} (F : ((¬ y0 = 0 → am_Run (48, 53, [some (.ref a0), some (.int x1), some (.int x2), some (.long l3), none, some (.int x5), none], [], h) Q) ∧ (y0 = 0 → Q h (some (.int ((-2))))))) : am_Run (48, 47, [some (.ref a0), some (.int x1), some (.int x2), some (.long l3), none, some (.int x5), none], [.int y0], h) Q := by
  refine ar_if_ne i_48_47 (fun q => ?_) (fun q => ?_)
  · replace F := F.1 q
    exact F
  · replace F := F.2 q
    refine ar_bipush i_48_50 ?_
    exact ar_iret i_48_52 rfl F
theorem B48_53 {a0 : Nat} {x1 : Int32} {x2 : Int32} {l3 : Int64} {x5 : Int32} {h : am_H} {Q : am_H → Option Value → Prop} (F : ((0 ≤ (lg_cmp l3 0) → (∃ v1 : Int32, am_gi h a0 5 3 v1 ∧ ((¬ v1 = 200 → (∃ v2 : Int32, am_gi h a0 5 3 v2 ∧ am_wf h a0 5 3 (.int (v2 + 1)) (fun h1 => am_Run (48, 84, [some (.ref a0), some (.int x1), some (.int x2), some (.long l3), none, some (.int x5), none], [], h1) Q))) ∧ (v1 = 200 → Q h (some (.int ((-1)))))))) ∧ (¬ 0 ≤ (lg_cmp l3 0) → Q h (some (.int ((-4))))))) : am_Run (48, 53, [some (.ref a0), some (.int x1), some (.int x2), some (.long l3), none, some (.int x5), none], [], h) Q := by
  refine ar_lload_n i_48_53 rfl ?_
  refine ar_lconst i_48_54 ?_
  refine ar_lcmp i_48_55 ?_
  refine ar_if_ge i_48_56 (fun q => ?_) (fun q => ?_)
  · replace F := F.1 q
    refine ar_aload_n i_48_62 rfl ?_
    obtain ⟨v1, g_v1, F⟩ := F
    refine ar_getI i_48_63 g_v1 ?_
    refine ar_sipush i_48_66 ?_
    refine ar_icmp_ne i_48_69 (fun q => ?_) (fun q => ?_)
    · replace F := F.1 q
      refine ar_aload_n i_48_74 rfl ?_
      refine ar_dup i_48_75 rfl ?_
      obtain ⟨v2, g_v2, F⟩ := F
      refine ar_getI i_48_76 g_v2 ?_
      refine ar_iconst i_48_79 ?_
      refine ar_iadd i_48_80 ?_
      exact ar_put i_48_81 rfl F
    · replace F := F.2 q
      refine ar_iconst i_48_72 ?_
      exact ar_iret i_48_73 rfl F
  · replace F := F.2 q
    refine ar_bipush i_48_59 ?_
    exact ar_iret i_48_61 rfl F
theorem B48_84 {a0 : Nat} {x1 : Int32} {x2 : Int32} {l3 : Int64} {x5 : Int32} {h : am_H} {Q : am_H → Option Value → Prop} (F : (∃ r1 : Nat, am_gr h a0 5 11 r1 ∧ (∃ v2 : Int32, am_gi h a0 5 3 v2 ∧ am_wi h r1 v2 x5 (fun h1 => am_Run (48, 95, [some (.ref a0), some (.int x1), some (.int x2), some (.long l3), none, some (.int x5), none], [], h1) Q)))) : am_Run (48, 84, [some (.ref a0), some (.int x1), some (.int x2), some (.long l3), none, some (.int x5), none], [], h) Q := by
  refine ar_aload_n i_48_84 rfl ?_
  obtain ⟨r1, g_r1, F⟩ := F
  refine ar_getR i_48_85 g_r1 ?_
  refine ar_aload_n i_48_88 rfl ?_
  obtain ⟨v2, g_v2, F⟩ := F
  refine ar_getI i_48_89 g_v2 ?_
  refine ar_iload i_48_92 rfl ?_
  exact ar_iast i_48_94 F
theorem B48_95 {a0 : Nat} {x1 : Int32} {x2 : Int32} {l3 : Int64} {x5 : Int32} {h : am_H} {Q : am_H → Option Value → Prop} (F : (∃ r1 : Nat, am_gr h a0 5 12 r1 ∧ (∃ v2 : Int32, am_gi h a0 5 3 v2 ∧ am_wi h r1 v2 x2 (fun h1 => am_Run (48, 105, [some (.ref a0), some (.int x1), some (.int x2), some (.long l3), none, some (.int x5), none], [], h1) Q)))) : am_Run (48, 95, [some (.ref a0), some (.int x1), some (.int x2), some (.long l3), none, some (.int x5), none], [], h) Q := by
  refine ar_aload_n i_48_95 rfl ?_
  obtain ⟨r1, g_r1, F⟩ := F
  refine ar_getR i_48_96 g_r1 ?_
  refine ar_aload_n i_48_99 rfl ?_
  obtain ⟨v2, g_v2, F⟩ := F
  refine ar_getI i_48_100 g_v2 ?_
  refine ar_iload_n i_48_103 rfl ?_
  exact ar_iast i_48_104 F
theorem B48_105 {a0 : Nat} {x1 : Int32} {x2 : Int32} {l3 : Int64} {x5 : Int32} {h : am_H} {Q : am_H → Option Value → Prop} (F : (∃ r1 : Nat, am_gr h a0 5 17 r1 ∧ (∃ v2 : Int32, am_gi h a0 5 3 v2 ∧ am_wl h r1 v2 l3 (fun h1 => am_Run (48, 115, [some (.ref a0), some (.int x1), some (.int x2), some (.long l3), none, some (.int x5), none], [], h1) Q)))) : am_Run (48, 105, [some (.ref a0), some (.int x1), some (.int x2), some (.long l3), none, some (.int x5), none], [], h) Q := by
  refine ar_aload_n i_48_105 rfl ?_
  obtain ⟨r1, g_r1, F⟩ := F
  refine ar_getR i_48_106 g_r1 ?_
  refine ar_aload_n i_48_109 rfl ?_
  obtain ⟨v2, g_v2, F⟩ := F
  refine ar_getI i_48_110 g_v2 ?_
  refine ar_lload_n i_48_113 rfl ?_
  exact ar_last i_48_114 F
theorem B48_115 {a0 : Nat} {x1 : Int32} {x2 : Int32} {l3 : Int64} {x5 : Int32} {h : am_H} {Q : am_H → Option Value → Prop} (F : (∃ r1 : Nat, am_gr h a0 5 14 r1 ∧ (∃ v2 : Int32, am_gi h a0 5 3 v2 ∧ am_wi h r1 v2 ((-1)) (fun h1 => am_Run (48, 125, [some (.ref a0), some (.int x1), some (.int x2), some (.long l3), none, some (.int x5), none], [], h1) Q)))) : am_Run (48, 115, [some (.ref a0), some (.int x1), some (.int x2), some (.long l3), none, some (.int x5), none], [], h) Q := by
  refine ar_aload_n i_48_115 rfl ?_
  obtain ⟨r1, g_r1, F⟩ := F
  refine ar_getR i_48_116 g_r1 ?_
  refine ar_aload_n i_48_119 rfl ?_
  obtain ⟨v2, g_v2, F⟩ := F
  refine ar_getI i_48_120 g_v2 ?_
  refine ar_iconst i_48_123 ?_
  exact ar_iast i_48_124 F
theorem B48_125 {a0 : Nat} {x1 : Int32} {x2 : Int32} {l3 : Int64} {x5 : Int32} {h : am_H} {Q : am_H → Option Value → Prop} (F : ((¬ x1 = 0 → am_Run (48, 136, [some (.ref a0), some (.int x1), some (.int x2), some (.long l3), none, some (.int x5), none], [], h) Q) ∧ (x1 = 0 → (∃ r1 : Nat, am_gr h a0 5 8 r1 ∧ am_wi h r1 x2 0 (fun h1 => am_Run (48, 136, [some (.ref a0), some (.int x1), some (.int x2), some (.long l3), none, some (.int x5), none], [], h1) Q))))) : am_Run (48, 125, [some (.ref a0), some (.int x1), some (.int x2), some (.long l3), none, some (.int x5), none], [], h) Q := by
  refine ar_iload_n i_48_125 rfl ?_
  refine ar_if_ne i_48_126 (fun q => ?_) (fun q => ?_)
  · replace F := F.1 q
    exact F
  · replace F := F.2 q
    refine ar_aload_n i_48_129 rfl ?_
    obtain ⟨r1, g_r1, F⟩ := F
    refine ar_getR i_48_130 g_r1 ?_
    refine ar_iload_n i_48_133 rfl ?_
    refine ar_iconst i_48_134 ?_
    exact ar_iast i_48_135 F
theorem B48_136 {a0 : Nat} {x1 : Int32} {x2 : Int32} {l3 : Int64} {x5 : Int32} {h : am_H} {Q : am_H → Option Value → Prop} (F : (∃ v1 : Int32, am_gi h a0 5 3 v1 ∧ (am_is h a0 5 ∧ am_Run (am_in 47 [.ref a0] h) (fun h1 v => am_Run (am_bk (48, 146, [some (.ref a0), some (.int x1), some (.int x2), some (.long l3), none, some (.int x5), some (.int v1)], [], h) h1 v) Q)))) : am_Run (48, 136, [some (.ref a0), some (.int x1), some (.int x2), some (.long l3), none, some (.int x5), none], [], h) Q := by
  refine ar_aload_n i_48_136 rfl ?_
  obtain ⟨v1, g_v1, F⟩ := F
  refine ar_getI i_48_137 g_v1 ?_
  refine ar_istore i_48_140 rfl ?_
  refine ar_aload_n i_48_142 rfl ?_
  exact ar_callV i_48_143 rfl rfl F.1 (Nat.le_of_ble_eq_true rfl) (Nat.le_of_ble_eq_true rfl) F.2
theorem B48_146 {a0 : Nat} {x1 : Int32} {x2 : Int32} {l3 : Int64} {x5 : Int32} {x6 : Int32} {y0 : Int32} {h : am_H} {Q : am_H → Option Value → Prop} (F : Q h (some (.int x6))) : am_Run (48, 146, [some (.ref a0), some (.int x1), some (.int x2), some (.long l3), none, some (.int x5), some (.int x6)], [.int y0], h) Q := by
  refine ar_pop i_48_146 rfl ?_
  refine ar_iload i_48_147 rfl ?_
  exact ar_iret i_48_149 rfl F
theorem B49_0 {a0 : Nat} {l1 : Int64} {h : am_H} {Q : am_H → Option Value → Prop} (F : am_wf h a0 5 0 (.int 0) (fun h1 => am_Run (49, 5, [some (.ref a0), some (.long l1), none], [], h1) Q)) : am_Run (49, 0, [some (.ref a0), some (.long l1), none], [], h) Q := by
  refine ar_aload_n i_49_0 rfl ?_
  refine ar_iconst i_49_1 ?_
  exact ar_put i_49_2 rfl F
theorem B49_5 {a0 : Nat} {l1 : Int64} {h : am_H} {Q : am_H → Option Value → Prop} (F : (∃ w1 : Int64, am_gl h a0 5 4 w1 ∧ ((0 ≤ (lg_cmp l1 w1) → am_wf h a0 5 4 (.long l1) (fun h1 => am_Run (49, 22, [some (.ref a0), some (.long l1), none], [], h1) Q)) ∧ (¬ 0 ≤ (lg_cmp l1 w1) → Q h (some (.int ((-4)))))))) : am_Run (49, 5, [some (.ref a0), some (.long l1), none], [], h) Q := by
  refine ar_lload_n i_49_5 rfl ?_
  refine ar_aload_n i_49_6 rfl ?_
  obtain ⟨w1, g_w1, F⟩ := F
  refine ar_getL i_49_7 g_w1 ?_
  refine ar_lcmp i_49_10 ?_
  refine ar_if_ge i_49_11 (fun q => ?_) (fun q => ?_)
  · replace F := F.1 q
    refine ar_aload_n i_49_17 rfl ?_
    refine ar_lload_n i_49_18 rfl ?_
    exact ar_put i_49_19 rfl F
  · replace F := F.2 q
    refine ar_bipush i_49_14 ?_
    exact ar_iret i_49_16 rfl F
theorem B49_22 {a0 : Nat} {l1 : Int64} {h : am_H} {Q : am_H → Option Value → Prop} (F : (am_is h a0 5 ∧ am_Run (am_in 47 [.ref a0] h) (fun h1 v => am_Run (am_bk (49, 26, [some (.ref a0), some (.long l1), none], [], h) h1 v) Q))) : am_Run (49, 22, [some (.ref a0), some (.long l1), none], [], h) Q := by
  refine ar_aload_n i_49_22 rfl ?_
  exact ar_callV i_49_23 rfl rfl F.1 (Nat.le_of_ble_eq_true rfl) (Nat.le_of_ble_eq_true rfl) F.2
theorem B49_26 {a0 : Nat} {l1 : Int64} {y0 : Int32} {h : am_H} {Q : am_H → Option Value → Prop} (F : Q h (some (.int y0))) : am_Run (49, 26, [some (.ref a0), some (.long l1), none], [.int y0], h) Q := by
  exact ar_iret i_49_26 rfl F
theorem B50_0 {a0 : Nat} {x1 : Int32} {x2 : Int32} {h : am_H} {Q : am_H → Option Value → Prop} (F : am_wf h a0 5 0 (.int 0) (fun h1 => am_Run (50, 5, [some (.ref a0), some (.int x1), some (.int x2), none], [], h1) Q)) : am_Run (50, 0, [some (.ref a0), some (.int x1), some (.int x2), none], [], h) Q := by
  refine ar_aload_n i_50_0 rfl ?_
  refine ar_iconst i_50_1 ?_
  exact ar_put i_50_2 rfl F
theorem B50_5 {a0 : Nat} {x1 : Int32} {x2 : Int32} {h : am_H} {Q : am_H → Option Value → Prop} (F : ((x1 < 0 → Q h (some (.int ((-4))))) ∧ (¬ x1 < 0 → ((9 < x1 → Q h (some (.int ((-4))))) ∧ (¬ 9 < x1 → ((x2 < 0 → Q h (some (.int ((-4))))) ∧ (¬ x2 < 0 → ((x2 ≤ 50 → (∃ r1 : Nat, am_gr h a0 5 10 r1 ∧ (∃ v2 : Int32, am_ai h r1 x1 v2 ∧ (∃ r3 : Nat, am_gr h a0 5 10 r3 ∧ am_wi h r3 x1 x2 (fun h1 => am_Run (50, 42, [some (.ref a0), some (.int x1), some (.int x2), some (.int v2)], [], h1) Q))))) ∧ (¬ x2 ≤ 50 → Q h (some (.int ((-4))))))))))))) : am_Run (50, 5, [some (.ref a0), some (.int x1), some (.int x2), none], [], h) Q := by
  refine ar_iload_n i_50_5 rfl ?_
  refine ar_if_lt i_50_6 (fun q => ?_) (fun q => ?_)
  · replace F := F.1 q
    refine ar_bipush i_50_25 ?_
    exact ar_iret i_50_27 rfl F
  · replace F := F.2 q
    refine ar_iload_n i_50_9 rfl ?_
    refine ar_bipush i_50_10 ?_
    refine ar_icmp_gt i_50_12 (fun q => ?_) (fun q => ?_)
    · replace F := F.1 q
      refine ar_bipush i_50_25 ?_
      exact ar_iret i_50_27 rfl F
    · replace F := F.2 q
      refine ar_iload_n i_50_15 rfl ?_
      refine ar_if_lt i_50_16 (fun q => ?_) (fun q => ?_)
      · replace F := F.1 q
        refine ar_bipush i_50_25 ?_
        exact ar_iret i_50_27 rfl F
      · replace F := F.2 q
        refine ar_iload_n i_50_19 rfl ?_
        refine ar_bipush i_50_20 ?_
        refine ar_icmp_le i_50_22 (fun q => ?_) (fun q => ?_)
        · replace F := F.1 q
          refine ar_aload_n i_50_28 rfl ?_
          obtain ⟨r1, g_r1, F⟩ := F
          refine ar_getR i_50_29 g_r1 ?_
          refine ar_iload_n i_50_32 rfl ?_
          obtain ⟨v2, g_v2, F⟩ := F
          refine ar_iald i_50_33 g_v2 ?_
          refine ar_istore_n i_50_34 rfl ?_
          refine ar_aload_n i_50_35 rfl ?_
          obtain ⟨r3, g_r3, F⟩ := F
          refine ar_getR i_50_36 g_r3 ?_
          refine ar_iload_n i_50_39 rfl ?_
          refine ar_iload_n i_50_40 rfl ?_
          exact ar_iast i_50_41 F
        · replace F := F.2 q
          refine ar_bipush i_50_25 ?_
          exact ar_iret i_50_27 rfl F
theorem B50_42 {a0 : Nat} {x1 : Int32} {x2 : Int32} {x3 : Int32} {h : am_H} {Q : am_H → Option Value → Prop} (F : (am_is h a0 5 ∧ am_Run (am_in 47 [.ref a0] h) (fun h1 v => am_Run (am_bk (50, 46, [some (.ref a0), some (.int x1), some (.int x2), some (.int x3)], [], h) h1 v) Q))) : am_Run (50, 42, [some (.ref a0), some (.int x1), some (.int x2), some (.int x3)], [], h) Q := by
  refine ar_aload_n i_50_42 rfl ?_
  exact ar_callV i_50_43 rfl rfl F.1 (Nat.le_of_ble_eq_true rfl) (Nat.le_of_ble_eq_true rfl) F.2
theorem B50_46 {a0 : Nat} {x1 : Int32} {x2 : Int32} {x3 : Int32} {y0 : Int32} {h : am_H} {Q : am_H → Option Value → Prop} (F : Q h (some (.int x3))) : am_Run (50, 46, [some (.ref a0), some (.int x1), some (.int x2), some (.int x3)], [.int y0], h) Q := by
  refine ar_pop i_50_46 rfl ?_
  refine ar_iload_n i_50_47 rfl ?_
  exact ar_iret i_50_48 rfl F
theorem B51_0 {a0 : Nat} {x1 : Int32} {x2 : Int32} {h : am_H} {Q : am_H → Option Value → Prop} (F : (∃ r1 : Nat, am_gr h a0 5 13 r1 ∧ am_wi h r1 x1 x2 (fun h1 => am_Run (51, 7, [some (.ref a0), some (.int x1), some (.int x2)], [], h1) Q))) : am_Run (51, 0, [some (.ref a0), some (.int x1), some (.int x2)], [], h) Q := by
  refine ar_aload_n i_51_0 rfl ?_
  obtain ⟨r1, g_r1, F⟩ := F
  refine ar_getR i_51_1 g_r1 ?_
  refine ar_iload_n i_51_4 rfl ?_
  refine ar_iload_n i_51_5 rfl ?_
  exact ar_iast i_51_6 F
theorem B51_7 {a0 : Nat} {x1 : Int32} {x2 : Int32} {h : am_H} {Q : am_H → Option Value → Prop} (F : (∃ r1 : Nat, am_gr h a0 5 14 r1 ∧ am_wi h r1 x1 ((-1)) (fun h1 => am_Run (51, 14, [some (.ref a0), some (.int x1), some (.int x2)], [], h1) Q))) : am_Run (51, 7, [some (.ref a0), some (.int x1), some (.int x2)], [], h) Q := by
  refine ar_aload_n i_51_7 rfl ?_
  obtain ⟨r1, g_r1, F⟩ := F
  refine ar_getR i_51_8 g_r1 ?_
  refine ar_iload_n i_51_11 rfl ?_
  refine ar_iconst i_51_12 ?_
  exact ar_iast i_51_13 F
theorem B51_14 {a0 : Nat} {x1 : Int32} {x2 : Int32} {h : am_H} {Q : am_H → Option Value → Prop} (F : (∃ r1 : Nat, am_gr h a0 5 15 r1 ∧ am_wi h r1 x1 0 (fun h1 => am_Run (51, 21, [some (.ref a0), some (.int x1), some (.int x2)], [], h1) Q))) : am_Run (51, 14, [some (.ref a0), some (.int x1), some (.int x2)], [], h) Q := by
  refine ar_aload_n i_51_14 rfl ?_
  obtain ⟨r1, g_r1, F⟩ := F
  refine ar_getR i_51_15 g_r1 ?_
  refine ar_iload_n i_51_18 rfl ?_
  refine ar_iconst i_51_19 ?_
  exact ar_iast i_51_20 F
theorem B51_21 {a0 : Nat} {x1 : Int32} {x2 : Int32} {h : am_H} {Q : am_H → Option Value → Prop} (F : (∃ r1 : Nat, am_gr h a0 5 16 r1 ∧ am_wi h r1 x1 0 (fun h1 => am_Run (51, 28, [some (.ref a0), some (.int x1), some (.int x2)], [], h1) Q))) : am_Run (51, 21, [some (.ref a0), some (.int x1), some (.int x2)], [], h) Q := by
  refine ar_aload_n i_51_21 rfl ?_
  obtain ⟨r1, g_r1, F⟩ := F
  refine ar_getR i_51_22 g_r1 ?_
  refine ar_iload_n i_51_25 rfl ?_
  refine ar_iconst i_51_26 ?_
  exact ar_iast i_51_27 F
theorem B51_28 {a0 : Nat} {x1 : Int32} {x2 : Int32} {h : am_H} {Q : am_H → Option Value → Prop} (F : (am_is h a0 5 ∧ am_Run (am_in 47 [.ref a0] h) (fun h1 v => am_Run (am_bk (51, 32, [some (.ref a0), some (.int x1), some (.int x2)], [], h) h1 v) Q))) : am_Run (51, 28, [some (.ref a0), some (.int x1), some (.int x2)], [], h) Q := by
  refine ar_aload_n i_51_28 rfl ?_
  exact ar_callV i_51_29 rfl rfl F.1 (Nat.le_of_ble_eq_true rfl) (Nat.le_of_ble_eq_true rfl) F.2
theorem B51_32 {a0 : Nat} {x1 : Int32} {x2 : Int32} {y0 : Int32} {h : am_H} {Q : am_H → Option Value → Prop} (F : Q h none) : am_Run (51, 32, [some (.ref a0), some (.int x1), some (.int x2)], [.int y0], h) Q := by
  refine ar_pop i_51_32 rfl ?_
  exact ar_vret i_51_33 F
theorem B52_0 {a0 : Nat} {x1 : Int32} {x2 : Int32} {x3 : Int32} {h : am_H} {Q : am_H → Option Value → Prop} (F : am_wf h a0 5 0 (.int 0) (fun h1 => am_Run (52, 5, [some (.ref a0), some (.int x1), some (.int x2), some (.int x3)], [], h1) Q)) : am_Run (52, 0, [some (.ref a0), some (.int x1), some (.int x2), some (.int x3)], [], h) Q := by
  refine ar_aload_n i_52_0 rfl ?_
  refine ar_iconst i_52_1 ?_
  exact ar_put i_52_2 rfl F
theorem B52_5 {a0 : Nat} {x1 : Int32} {x2 : Int32} {x3 : Int32} {h : am_H} {Q : am_H → Option Value → Prop} (F : (am_is h a0 5 ∧ am_Run (am_in 38 [.ref a0, .int x1] h) (fun h1 v => am_Run (am_bk (52, 10, [some (.ref a0), some (.int x1), some (.int x2), some (.int x3)], [], h) h1 v) Q))) : am_Run (52, 5, [some (.ref a0), some (.int x1), some (.int x2), some (.int x3)], [], h) Q := by
  refine ar_aload_n i_52_5 rfl ?_
  refine ar_iload_n i_52_6 rfl ?_
  exact ar_callV i_52_7 rfl rfl F.1 (Nat.le_of_ble_eq_true rfl) (Nat.le_of_ble_eq_true rfl) F.2
theorem B52_10 {a0 : Nat} {x1 : Int32} {x2 : Int32} {x3 : Int32} {y0 : Int32} {h : am_H} {Q : am_H → Option Value → Prop} (F : ((¬ y0 = 0 → ((x2 < 0 → Q h (some (.int ((-4))))) ∧ (¬ x2 < 0 → ((2 < x2 → Q h (some (.int ((-4))))) ∧ (¬ 2 < x2 → ((2 ≤ x2 → am_Run (52, 43, [some (.ref a0), some (.int x1), some (.int x2), some (.int x3)], [], h) Q) ∧ (¬ 2 ≤ x2 → ((x3 < 0 → Q h (some (.int ((-4))))) ∧ (¬ x3 < 0 → ((x3 ≤ 15 → am_Run (52, 43, [some (.ref a0), some (.int x1), some (.int x2), some (.int x3)], [], h) Q) ∧ (¬ x3 ≤ 15 → Q h (some (.int ((-4))))))))))))))) ∧ (y0 = 0 → Q h (some (.int ((-2))))))) : am_Run (52, 10, [some (.ref a0), some (.int x1), some (.int x2), some (.int x3)], [.int y0], h) Q := by
  refine ar_if_ne i_52_10 (fun q => ?_) (fun q => ?_)
  · replace F := F.1 q
    refine ar_iload_n i_52_16 rfl ?_
    refine ar_if_lt i_52_17 (fun q => ?_) (fun q => ?_)
    · replace F := F.1 q
      refine ar_bipush i_52_40 ?_
      exact ar_iret i_52_42 rfl F
    · replace F := F.2 q
      refine ar_iload_n i_52_20 rfl ?_
      refine ar_iconst i_52_21 ?_
      refine ar_icmp_gt i_52_22 (fun q => ?_) (fun q => ?_)
      · replace F := F.1 q
        refine ar_bipush i_52_40 ?_
        exact ar_iret i_52_42 rfl F
      · replace F := F.2 q
        refine ar_iload_n i_52_25 rfl ?_
        refine ar_iconst i_52_26 ?_
        refine ar_icmp_ge i_52_27 (fun q => ?_) (fun q => ?_)
        · replace F := F.1 q
          exact F
        · replace F := F.2 q
          refine ar_iload_n i_52_30 rfl ?_
          refine ar_if_lt i_52_31 (fun q => ?_) (fun q => ?_)
          · replace F := F.1 q
            refine ar_bipush i_52_40 ?_
            exact ar_iret i_52_42 rfl F
          · replace F := F.2 q
            refine ar_iload_n i_52_34 rfl ?_
            refine ar_bipush i_52_35 ?_
            refine ar_icmp_le i_52_37 (fun q => ?_) (fun q => ?_)
            · replace F := F.1 q
              exact F
            · replace F := F.2 q
              refine ar_bipush i_52_40 ?_
              exact ar_iret i_52_42 rfl F
  · replace F := F.2 q
    refine ar_bipush i_52_13 ?_
    exact ar_iret i_52_15 rfl F
theorem B52_43 {a0 : Nat} {x1 : Int32} {x2 : Int32} {x3 : Int32} {h : am_H} {Q : am_H → Option Value → Prop} (F : ((¬ x2 = 1 → (∃ r1 : Nat, am_gr h a0 5 13 r1 ∧ (∃ v2 : Int32, am_ai h r1 x1 v2 ∧ ((v2 = 1 → am_Run (52, 84, [some (.ref a0), some (.int x1), some (.int x2), some (.int x3)], [], h) Q) ∧ (¬ v2 = 1 → Q h (some (.int ((-5))))))))) ∧ (x2 = 1 → (∃ r3 : Nat, am_gr h a0 5 13 r3 ∧ (∃ v4 : Int32, am_ai h r3 x1 v4 ∧ ((¬ v4 = 2 → Q h (some (.int ((-5))))) ∧ (v4 = 2 → (∃ r5 : Nat, am_gr h a0 5 14 r5 ∧ (∃ v6 : Int32, am_ai h r5 x1 v6 ∧ ((v6 = x3 → am_Run (52, 84, [some (.ref a0), some (.int x1), some (.int x2), some (.int x3)], [], h) Q) ∧ (¬ v6 = x3 → Q h (some (.int ((-5))))))))))))))) : am_Run (52, 43, [some (.ref a0), some (.int x1), some (.int x2), some (.int x3)], [], h) Q := by
  refine ar_iload_n i_52_43 rfl ?_
  refine ar_iconst i_52_44 ?_
  refine ar_icmp_ne i_52_45 (fun q => ?_) (fun q => ?_)
  · replace F := F.1 q
    refine ar_aload_n i_52_71 rfl ?_
    obtain ⟨r1, g_r1, F⟩ := F
    refine ar_getR i_52_72 g_r1 ?_
    refine ar_iload_n i_52_75 rfl ?_
    obtain ⟨v2, g_v2, F⟩ := F
    refine ar_iald i_52_76 g_v2 ?_
    refine ar_iconst i_52_77 ?_
    refine ar_icmp_eq i_52_78 (fun q => ?_) (fun q => ?_)
    · replace F := F.1 q
      exact F
    · replace F := F.2 q
      refine ar_bipush i_52_81 ?_
      exact ar_iret i_52_83 rfl F
  · replace F := F.2 q
    refine ar_aload_n i_52_48 rfl ?_
    obtain ⟨r3, g_r3, F⟩ := F
    refine ar_getR i_52_49 g_r3 ?_
    refine ar_iload_n i_52_52 rfl ?_
    obtain ⟨v4, g_v4, F⟩ := F
    refine ar_iald i_52_53 g_v4 ?_
    refine ar_iconst i_52_54 ?_
    refine ar_icmp_ne i_52_55 (fun q => ?_) (fun q => ?_)
    · replace F := F.1 q
      refine ar_bipush i_52_81 ?_
      exact ar_iret i_52_83 rfl F
    · replace F := F.2 q
      refine ar_aload_n i_52_58 rfl ?_
      obtain ⟨r5, g_r5, F⟩ := F
      refine ar_getR i_52_59 g_r5 ?_
      refine ar_iload_n i_52_62 rfl ?_
      obtain ⟨v6, g_v6, F⟩ := F
      refine ar_iald i_52_63 g_v6 ?_
      refine ar_iload_n i_52_64 rfl ?_
      refine ar_icmp_eq i_52_65 (fun q => ?_) (fun q => ?_)
      · replace F := F.1 q
        exact F
      · replace F := F.2 q
        refine ar_goto i_52_68 ?_
        refine ar_bipush i_52_81 ?_
        exact ar_iret i_52_83 rfl F
theorem B52_84 {a0 : Nat} {x1 : Int32} {x2 : Int32} {x3 : Int32} {h : am_H} {Q : am_H → Option Value → Prop} (F : ((¬ x2 = 2 → (∃ r1 : Nat, am_gr h a0 5 13 r1 ∧ ((¬ x2 = 0 → am_Run (52, 112, [some (.ref a0), some (.int x1), some (.int x2), some (.int x3)], [.int 1, .int x1, .ref r1], h) Q) ∧ (x2 = 0 → am_Run (52, 112, [some (.ref a0), some (.int x1), some (.int x2), some (.int x3)], [.int 2, .int x1, .ref r1], h) Q)))) ∧ (x2 = 2 → (am_is h a0 5 ∧ am_Run (am_in 51 [.ref a0, .int x1, .int 3] h) (fun h1 v => am_Run (am_bk (52, 95, [some (.ref a0), some (.int x1), some (.int x2), some (.int x3)], [], h) h1 v) Q))))) : am_Run (52, 84, [some (.ref a0), some (.int x1), some (.int x2), some (.int x3)], [], h) Q := by
  refine ar_iload_n i_52_84 rfl ?_
  refine ar_iconst i_52_85 ?_
  refine ar_icmp_ne i_52_86 (fun q => ?_) (fun q => ?_)
  · replace F := F.1 q
    refine ar_aload_n i_52_98 rfl ?_
    obtain ⟨r1, g_r1, F⟩ := F
    refine ar_getR i_52_99 g_r1 ?_
    refine ar_iload_n i_52_102 rfl ?_
    refine ar_iload_n i_52_103 rfl ?_
    refine ar_if_ne i_52_104 (fun q => ?_) (fun q => ?_)
    · replace F := F.1 q
      refine ar_iconst i_52_111 ?_
      exact F
    · replace F := F.2 q
      refine ar_iconst i_52_107 ?_
      refine ar_goto i_52_108 ?_
      exact F
  · replace F := F.2 q
    refine ar_aload_n i_52_89 rfl ?_
    refine ar_iload_n i_52_90 rfl ?_
    refine ar_iconst i_52_91 ?_
    exact ar_callV i_52_92 rfl rfl F.1 (Nat.le_of_ble_eq_true rfl) (Nat.le_of_ble_eq_true rfl) F.2
theorem B52_95 {a0 : Nat} {x1 : Int32} {x2 : Int32} {x3 : Int32} {h : am_H} {Q : am_H → Option Value → Prop} (F : am_Run (52, 128, [some (.ref a0), some (.int x1), some (.int x2), some (.int x3)], [], h) Q) : am_Run (52, 95, [some (.ref a0), some (.int x1), some (.int x2), some (.int x3)], [], h) Q := by
  refine ar_goto i_52_95 ?_
  exact F
theorem B52_112 {a0 : Nat} {x1 : Int32} {x2 : Int32} {x3 : Int32} {y2 : Int32} {y1 : Int32} {b0 : Nat} {h : am_H} {Q : am_H → Option Value → Prop} (F : am_wi h b0 y1 y2 (fun h1 => am_Run (52, 113, [some (.ref a0), some (.int x1), some (.int x2), some (.int x3)], [], h1) Q)) : am_Run (52, 112, [some (.ref a0), some (.int x1), some (.int x2), some (.int x3)], [.int y2, .int y1, .ref b0], h) Q := by
  exact ar_iast i_52_112 F
theorem B52_113 {a0 : Nat} {x1 : Int32} {x2 : Int32} {x3 : Int32} {h : am_H} {Q : am_H → Option Value → Prop} (F : (∃ r1 : Nat, am_gr h a0 5 14 r1 ∧ ((¬ x2 = 0 → am_Run (52, 127, [some (.ref a0), some (.int x1), some (.int x2), some (.int x3)], [.int ((-1)), .int x1, .ref r1], h) Q) ∧ (x2 = 0 → am_Run (52, 127, [some (.ref a0), some (.int x1), some (.int x2), some (.int x3)], [.int x3, .int x1, .ref r1], h) Q)))) : am_Run (52, 113, [some (.ref a0), some (.int x1), some (.int x2), some (.int x3)], [], h) Q := by
  refine ar_aload_n i_52_113 rfl ?_
  obtain ⟨r1, g_r1, F⟩ := F
  refine ar_getR i_52_114 g_r1 ?_
  refine ar_iload_n i_52_117 rfl ?_
  refine ar_iload_n i_52_118 rfl ?_
  refine ar_if_ne i_52_119 (fun q => ?_) (fun q => ?_)
  · replace F := F.1 q
    refine ar_iconst i_52_126 ?_
    exact F
  · replace F := F.2 q
    refine ar_iload_n i_52_122 rfl ?_
    refine ar_goto i_52_123 ?_
    exact F
theorem B52_127 {a0 : Nat} {x1 : Int32} {x2 : Int32} {x3 : Int32} {y2 : Int32} {y1 : Int32} {b0 : Nat} {h : am_H} {Q : am_H → Option Value → Prop} (F : am_wi h b0 y1 y2 (fun h1 => am_Run (52, 128, [some (.ref a0), some (.int x1), some (.int x2), some (.int x3)], [], h1) Q)) : am_Run (52, 127, [some (.ref a0), some (.int x1), some (.int x2), some (.int x3)], [.int y2, .int y1, .ref b0], h) Q := by
  exact ar_iast i_52_127 F
theorem B52_128 {a0 : Nat} {x1 : Int32} {x2 : Int32} {x3 : Int32} {h : am_H} {Q : am_H → Option Value → Prop} (F : (∃ r1 : Nat, am_gr h a0 5 13 r1 ∧ (∃ v2 : Int32, am_ai h r1 x1 v2 ∧ Q h (some (.int v2))))) : am_Run (52, 128, [some (.ref a0), some (.int x1), some (.int x2), some (.int x3)], [], h) Q := by
  refine ar_aload_n i_52_128 rfl ?_
  obtain ⟨r1, g_r1, F⟩ := F
  refine ar_getR i_52_129 g_r1 ?_
  refine ar_iload_n i_52_132 rfl ?_
  obtain ⟨v2, g_v2, F⟩ := F
  refine ar_iald i_52_133 g_v2 ?_
  exact ar_iret i_52_134 rfl F
theorem B53_0 {a0 : Nat} {x1 : Int32} {x2 : Int32} {h : am_H} {Q : am_H → Option Value → Prop} (F : am_wf h a0 5 0 (.int 0) (fun h1 => am_Run (53, 5, [some (.ref a0), some (.int x1), some (.int x2)], [], h1) Q)) : am_Run (53, 0, [some (.ref a0), some (.int x1), some (.int x2)], [], h) Q := by
  refine ar_aload_n i_53_0 rfl ?_
  refine ar_iconst i_53_1 ?_
  exact ar_put i_53_2 rfl F
theorem B53_5 {a0 : Nat} {x1 : Int32} {x2 : Int32} {h : am_H} {Q : am_H → Option Value → Prop} (F : (am_is h a0 5 ∧ am_Run (am_in 38 [.ref a0, .int x1] h) (fun h1 v => am_Run (am_bk (53, 10, [some (.ref a0), some (.int x1), some (.int x2)], [], h) h1 v) Q))) : am_Run (53, 5, [some (.ref a0), some (.int x1), some (.int x2)], [], h) Q := by
  refine ar_aload_n i_53_5 rfl ?_
  refine ar_iload_n i_53_6 rfl ?_
  exact ar_callV i_53_7 rfl rfl F.1 (Nat.le_of_ble_eq_true rfl) (Nat.le_of_ble_eq_true rfl) F.2
theorem B53_10 {a0 : Nat} {x1 : Int32} {x2 : Int32} {y0 : Int32} {h : am_H} {Q : am_H → Option Value → Prop} (F : ((¬ y0 = 0 → ((x2 < 0 → Q h (some (.int ((-4))))) ∧ (¬ x2 < 0 → ((x2 ≤ 99 → (∃ r1 : Nat, am_gr h a0 5 13 r1 ∧ (∃ v2 : Int32, am_ai h r1 x1 v2 ∧ ((v2 = 1 → (∃ r3 : Nat, am_gr h a0 5 15 r3 ∧ (∃ v4 : Int32, am_ai h r3 x1 v4 ∧ ((¬ v4 = 10 → (am_is h a0 5 ∧ am_Run (am_in 46 [.ref a0, .int x1, .int x2] h) (fun h1 v => am_Run (am_bk (53, 61, [some (.ref a0), some (.int x1), some (.int x2)], [], h) h1 v) Q))) ∧ (v4 = 10 → Q h (some (.int ((-1))))))))) ∧ (¬ v2 = 1 → Q h (some (.int ((-5))))))))) ∧ (¬ x2 ≤ 99 → Q h (some (.int ((-4))))))))) ∧ (y0 = 0 → Q h (some (.int ((-2))))))) : am_Run (53, 10, [some (.ref a0), some (.int x1), some (.int x2)], [.int y0], h) Q := by
  refine ar_if_ne i_53_10 (fun q => ?_) (fun q => ?_)
  · replace F := F.1 q
    refine ar_iload_n i_53_16 rfl ?_
    refine ar_if_lt i_53_17 (fun q => ?_) (fun q => ?_)
    · replace F := F.1 q
      refine ar_bipush i_53_26 ?_
      exact ar_iret i_53_28 rfl F
    · replace F := F.2 q
      refine ar_iload_n i_53_20 rfl ?_
      refine ar_bipush i_53_21 ?_
      refine ar_icmp_le i_53_23 (fun q => ?_) (fun q => ?_)
      · replace F := F.1 q
        refine ar_aload_n i_53_29 rfl ?_
        obtain ⟨r1, g_r1, F⟩ := F
        refine ar_getR i_53_30 g_r1 ?_
        refine ar_iload_n i_53_33 rfl ?_
        obtain ⟨v2, g_v2, F⟩ := F
        refine ar_iald i_53_34 g_v2 ?_
        refine ar_iconst i_53_35 ?_
        refine ar_icmp_eq i_53_36 (fun q => ?_) (fun q => ?_)
        · replace F := F.1 q
          refine ar_aload_n i_53_42 rfl ?_
          obtain ⟨r3, g_r3, F⟩ := F
          refine ar_getR i_53_43 g_r3 ?_
          refine ar_iload_n i_53_46 rfl ?_
          obtain ⟨v4, g_v4, F⟩ := F
          refine ar_iald i_53_47 g_v4 ?_
          refine ar_bipush i_53_48 ?_
          refine ar_icmp_ne i_53_50 (fun q => ?_) (fun q => ?_)
          · replace F := F.1 q
            refine ar_aload_n i_53_55 rfl ?_
            refine ar_iload_n i_53_56 rfl ?_
            refine ar_iload_n i_53_57 rfl ?_
            exact ar_callV i_53_58 rfl rfl F.1 (Nat.le_of_ble_eq_true rfl) (Nat.le_of_ble_eq_true rfl) F.2
          · replace F := F.2 q
            refine ar_iconst i_53_53 ?_
            exact ar_iret i_53_54 rfl F
        · replace F := F.2 q
          refine ar_bipush i_53_39 ?_
          exact ar_iret i_53_41 rfl F
      · replace F := F.2 q
        refine ar_bipush i_53_26 ?_
        exact ar_iret i_53_28 rfl F
  · replace F := F.2 q
    refine ar_bipush i_53_13 ?_
    exact ar_iret i_53_15 rfl F
theorem B53_61 {a0 : Nat} {x1 : Int32} {x2 : Int32} {h : am_H} {Q : am_H → Option Value → Prop} (F : (∃ r1 : Nat, am_gr h a0 5 15 r1 ∧ (∃ v2 : Int32, am_ai h r1 x1 v2 ∧ Q h (some (.int v2))))) : am_Run (53, 61, [some (.ref a0), some (.int x1), some (.int x2)], [], h) Q := by
  refine ar_aload_n i_53_61 rfl ?_
  obtain ⟨r1, g_r1, F⟩ := F
  refine ar_getR i_53_62 g_r1 ?_
  refine ar_iload_n i_53_65 rfl ?_
  obtain ⟨v2, g_v2, F⟩ := F
  refine ar_iald i_53_66 g_v2 ?_
  exact ar_iret i_53_67 rfl F
theorem B54_0 {a0 : Nat} {x1 : Int32} {x2 : Int32} {x3 : Int32} {h : am_H} {Q : am_H → Option Value → Prop} (F : am_wf h a0 5 0 (.int 0) (fun h1 => am_Run (54, 5, [some (.ref a0), some (.int x1), some (.int x2), some (.int x3), none], [], h1) Q)) : am_Run (54, 0, [some (.ref a0), some (.int x1), some (.int x2), some (.int x3), none], [], h) Q := by
  refine ar_aload_n i_54_0 rfl ?_
  refine ar_iconst i_54_1 ?_
  exact ar_put i_54_2 rfl F
theorem B54_5 {a0 : Nat} {x1 : Int32} {x2 : Int32} {x3 : Int32} {h : am_H} {Q : am_H → Option Value → Prop} (F : (am_is h a0 5 ∧ am_Run (am_in 38 [.ref a0, .int x1] h) (fun h1 v => am_Run (am_bk (54, 10, [some (.ref a0), some (.int x1), some (.int x2), some (.int x3), none], [], h) h1 v) Q))) : am_Run (54, 5, [some (.ref a0), some (.int x1), some (.int x2), some (.int x3), none], [], h) Q := by
  refine ar_aload_n i_54_5 rfl ?_
  refine ar_iload_n i_54_6 rfl ?_
  exact ar_callV i_54_7 rfl rfl F.1 (Nat.le_of_ble_eq_true rfl) (Nat.le_of_ble_eq_true rfl) F.2
theorem B54_10 {a0 : Nat} {x1 : Int32} {x2 : Int32} {x3 : Int32} {y0 : Int32} {h : am_H} {Q : am_H → Option Value → Prop} (F : ((¬ y0 = 0 → ((x2 = 0 → am_Run (54, 28, [some (.ref a0), some (.int x1), some (.int x2), some (.int x3), none], [], h) Q) ∧ (¬ x2 = 0 → (am_is h a0 5 ∧ am_Run (am_in 36 [.ref a0, .int x2] h) (fun h1 v => am_Run (am_bk (54, 25, [some (.ref a0), some (.int x1), some (.int x2), some (.int x3), none], [], h) h1 v) Q))))) ∧ (y0 = 0 → Q h (some (.int ((-2))))))) : am_Run (54, 10, [some (.ref a0), some (.int x1), some (.int x2), some (.int x3), none], [.int y0], h) Q := by
  refine ar_if_ne i_54_10 (fun q => ?_) (fun q => ?_)
  · replace F := F.1 q
    refine ar_iload_n i_54_16 rfl ?_
    refine ar_if_eq i_54_17 (fun q => ?_) (fun q => ?_)
    · replace F := F.1 q
      exact F
    · replace F := F.2 q
      refine ar_aload_n i_54_20 rfl ?_
      refine ar_iload_n i_54_21 rfl ?_
      exact ar_callV i_54_22 rfl rfl F.1 (Nat.le_of_ble_eq_true rfl) (Nat.le_of_ble_eq_true rfl) F.2
  · replace F := F.2 q
    refine ar_bipush i_54_13 ?_
    exact ar_iret i_54_15 rfl F
theorem B54_25 {a0 : Nat} {x1 : Int32} {x2 : Int32} {x3 : Int32} {y0 : Int32} {h : am_H} {Q : am_H → Option Value → Prop} (F : ((y0 = 0 → Q h (some (.int ((-4))))) ∧ (¬ y0 = 0 → am_Run (54, 28, [some (.ref a0), some (.int x1), some (.int x2), some (.int x3), none], [], h) Q))) : am_Run (54, 25, [some (.ref a0), some (.int x1), some (.int x2), some (.int x3), none], [.int y0], h) Q := by
  refine ar_if_eq i_54_25 (fun q => ?_) (fun q => ?_)
  · replace F := F.1 q
    refine ar_bipush i_54_39 ?_
    exact ar_iret i_54_41 rfl F
  · replace F := F.2 q
    exact F
theorem B54_28 {a0 : Nat} {x1 : Int32} {x2 : Int32} {x3 : Int32} {h : am_H} {Q : am_H → Option Value → Prop} (F : ((x3 < 0 → Q h (some (.int ((-4))))) ∧ (¬ x3 < 0 → ((x3 ≤ 9999 → (∃ r1 : Nat, am_gr h a0 5 13 r1 ∧ (∃ v2 : Int32, am_ai h r1 x1 v2 ∧ ((v2 = 1 → (∃ r3 : Nat, am_gr h a0 5 15 r3 ∧ (∃ v4 : Int32, am_ai h r3 x1 v4 ∧ ((¬ v4 = 1 → am_Run (54, 78, [some (.ref a0), some (.int x1), some (.int x2), some (.int x3), none], [], h) Q) ∧ (v4 = 1 → (∃ r5 : Nat, am_gr h a0 5 12 r5 ∧ (∃ v6 : Int32, am_ai h r5 x1 v6 ∧ ((v6 = 0 → am_Run (54, 78, [some (.ref a0), some (.int x1), some (.int x2), some (.int x3), none], [], h) Q) ∧ (¬ v6 = 0 → am_Run (54, 79, [some (.ref a0), some (.int x1), some (.int x2), some (.int x3), none], [.int 1], h) Q))))))))) ∧ (¬ v2 = 1 → Q h (some (.int ((-5))))))))) ∧ (¬ x3 ≤ 9999 → Q h (some (.int ((-4))))))))) : am_Run (54, 28, [some (.ref a0), some (.int x1), some (.int x2), some (.int x3), none], [], h) Q := by
  refine ar_iload_n i_54_28 rfl ?_
  refine ar_if_lt i_54_29 (fun q => ?_) (fun q => ?_)
  · replace F := F.1 q
    refine ar_bipush i_54_39 ?_
    exact ar_iret i_54_41 rfl F
  · replace F := F.2 q
    refine ar_iload_n i_54_32 rfl ?_
    refine ar_sipush i_54_33 ?_
    refine ar_icmp_le i_54_36 (fun q => ?_) (fun q => ?_)
    · replace F := F.1 q
      refine ar_aload_n i_54_42 rfl ?_
      obtain ⟨r1, g_r1, F⟩ := F
      refine ar_getR i_54_43 g_r1 ?_
      refine ar_iload_n i_54_46 rfl ?_
      obtain ⟨v2, g_v2, F⟩ := F
      refine ar_iald i_54_47 g_v2 ?_
      refine ar_iconst i_54_48 ?_
      refine ar_icmp_eq i_54_49 (fun q => ?_) (fun q => ?_)
      · replace F := F.1 q
        refine ar_aload_n i_54_55 rfl ?_
        obtain ⟨r3, g_r3, F⟩ := F
        refine ar_getR i_54_56 g_r3 ?_
        refine ar_iload_n i_54_59 rfl ?_
        obtain ⟨v4, g_v4, F⟩ := F
        refine ar_iald i_54_60 g_v4 ?_
        refine ar_iconst i_54_61 ?_
        refine ar_icmp_ne i_54_62 (fun q => ?_) (fun q => ?_)
        · replace F := F.1 q
          exact F
        · replace F := F.2 q
          refine ar_aload_n i_54_65 rfl ?_
          obtain ⟨r5, g_r5, F⟩ := F
          refine ar_getR i_54_66 g_r5 ?_
          refine ar_iload_n i_54_69 rfl ?_
          obtain ⟨v6, g_v6, F⟩ := F
          refine ar_iald i_54_70 g_v6 ?_
          refine ar_if_eq i_54_71 (fun q => ?_) (fun q => ?_)
          · replace F := F.1 q
            exact F
          · replace F := F.2 q
            refine ar_iconst i_54_74 ?_
            refine ar_goto i_54_75 ?_
            exact F
      · replace F := F.2 q
        refine ar_bipush i_54_52 ?_
        exact ar_iret i_54_54 rfl F
    · replace F := F.2 q
      refine ar_bipush i_54_39 ?_
      exact ar_iret i_54_41 rfl F
theorem B54_78 {a0 : Nat} {x1 : Int32} {x2 : Int32} {x3 : Int32} {h : am_H} {Q : am_H → Option Value → Prop} (F : am_Run (54, 79, [some (.ref a0), some (.int x1), some (.int x2), some (.int x3), none], [.int 0], h) Q) : am_Run (54, 78, [some (.ref a0), some (.int x1), some (.int x2), some (.int x3), none], [], h) Q := by
  refine ar_iconst i_54_78 ?_
  exact F
theorem B54_79 {a0 : Nat} {x1 : Int32} {x2 : Int32} {x3 : Int32} {y0 : Int32} {h : am_H} {Q : am_H → Option Value → Prop} (F : ((¬ y0 = 0 → am_Run (54, 96, [some (.ref a0), some (.int x1), some (.int x2), some (.int x3), some (.int y0)], [], h) Q) ∧ (y0 = 0 → ((¬ x2 = 0 → Q h (some (.int 0))) ∧ (x2 = 0 → ((x3 = 0 → am_Run (54, 96, [some (.ref a0), some (.int x1), some (.int x2), some (.int x3), some (.int y0)], [], h) Q) ∧ (¬ x3 = 0 → Q h (some (.int 0))))))))) : am_Run (54, 79, [some (.ref a0), some (.int x1), some (.int x2), some (.int x3), none], [.int y0], h) Q := by
  refine ar_istore i_54_79 rfl ?_
  refine ar_iload i_54_81 rfl ?_
  refine ar_if_ne i_54_83 (fun q => ?_) (fun q => ?_)
  · replace F := F.1 q
    exact F
  · replace F := F.2 q
    refine ar_iload_n i_54_86 rfl ?_
    refine ar_if_ne i_54_87 (fun q => ?_) (fun q => ?_)
    · replace F := F.1 q
      refine ar_iconst i_54_94 ?_
      exact ar_iret i_54_95 rfl F
    · replace F := F.2 q
      refine ar_iload_n i_54_90 rfl ?_
      refine ar_if_eq i_54_91 (fun q => ?_) (fun q => ?_)
      · replace F := F.1 q
        exact F
      · replace F := F.2 q
        refine ar_iconst i_54_94 ?_
        exact ar_iret i_54_95 rfl F
theorem B54_96 {a0 : Nat} {x1 : Int32} {x2 : Int32} {x3 : Int32} {x4 : Int32} {h : am_H} {Q : am_H → Option Value → Prop} (F : (∃ r1 : Nat, am_gr h a0 5 15 r1 ∧ (∃ v2 : Int32, am_ai h r1 x1 v2 ∧ ((v2 ≤ 1 → ((x4 = 0 → am_Run (54, 147, [some (.ref a0), some (.int x1), some (.int x2), some (.int x3), some (.int x4)], [], h) Q) ∧ (¬ x4 = 0 → (∃ r3 : Nat, am_gr h a0 5 8 r3 ∧ (∃ r4 : Nat, am_gr h a0 5 12 r4 ∧ (∃ v5 : Int32, am_ai h r4 x1 v5 ∧ am_wi h r3 v5 x2 (fun h1 => am_Run (54, 135, [some (.ref a0), some (.int x1), some (.int x2), some (.int x3), some (.int x4)], [], h1) Q))))))) ∧ (¬ v2 ≤ 1 → (∃ r6 : Nat, am_gr h a0 5 15 r6 ∧ (∃ v7 : Int32, am_ai h r6 x1 v7 ∧ am_wi h r6 x1 (v7 - 1) (fun h1 => am_Run (54, 116, [some (.ref a0), some (.int x1), some (.int x2), some (.int x3), some (.int x4)], [], h1) Q)))))))) : am_Run (54, 96, [some (.ref a0), some (.int x1), some (.int x2), some (.int x3), some (.int x4)], [], h) Q := by
  refine ar_aload_n i_54_96 rfl ?_
  obtain ⟨r1, g_r1, F⟩ := F
  refine ar_getR i_54_97 g_r1 ?_
  refine ar_iload_n i_54_100 rfl ?_
  obtain ⟨v2, g_v2, F⟩ := F
  refine ar_iald i_54_101 g_v2 ?_
  refine ar_iconst i_54_102 ?_
  refine ar_icmp_le i_54_103 (fun q => ?_) (fun q => ?_)
  · replace F := F.1 q
    refine ar_iload i_54_118 rfl ?_
    refine ar_if_eq i_54_120 (fun q => ?_) (fun q => ?_)
    · replace F := F.1 q
      exact F
    · replace F := F.2 q
      refine ar_aload_n i_54_123 rfl ?_
      obtain ⟨r3, g_r3, F⟩ := F
      refine ar_getR i_54_124 g_r3 ?_
      refine ar_aload_n i_54_127 rfl ?_
      obtain ⟨r4, g_r4, F⟩ := F
      refine ar_getR i_54_128 g_r4 ?_
      refine ar_iload_n i_54_131 rfl ?_
      obtain ⟨v5, g_v5, F⟩ := F
      refine ar_iald i_54_132 g_v5 ?_
      refine ar_iload_n i_54_133 rfl ?_
      exact ar_iast i_54_134 F
  · replace F := F.2 q
    refine ar_aload_n i_54_106 rfl ?_
    obtain ⟨r6, g_r6, F⟩ := F
    refine ar_getR i_54_107 g_r6 ?_
    refine ar_iload_n i_54_110 rfl ?_
    refine ar_dup2 i_54_111 rfl rfl ?_
    obtain ⟨v7, g_v7, F⟩ := F
    refine ar_iald i_54_112 g_v7 ?_
    refine ar_iconst i_54_113 ?_
    refine ar_isub i_54_114 ?_
    exact ar_iast i_54_115 F
theorem B54_116 {a0 : Nat} {x1 : Int32} {x2 : Int32} {x3 : Int32} {x4 : Int32} {h : am_H} {Q : am_H → Option Value → Prop} (F : Q h (some (.int 1))) : am_Run (54, 116, [some (.ref a0), some (.int x1), some (.int x2), some (.int x3), some (.int x4)], [], h) Q := by
  refine ar_iconst i_54_116 ?_
  exact ar_iret i_54_117 rfl F
theorem B54_135 {a0 : Nat} {x1 : Int32} {x2 : Int32} {x3 : Int32} {x4 : Int32} {h : am_H} {Q : am_H → Option Value → Prop} (F : (∃ r1 : Nat, am_gr h a0 5 9 r1 ∧ (∃ r2 : Nat, am_gr h a0 5 12 r2 ∧ (∃ v3 : Int32, am_ai h r2 x1 v3 ∧ am_wi h r1 v3 x3 (fun h1 => am_Run (54, 147, [some (.ref a0), some (.int x1), some (.int x2), some (.int x3), some (.int x4)], [], h1) Q))))) : am_Run (54, 135, [some (.ref a0), some (.int x1), some (.int x2), some (.int x3), some (.int x4)], [], h) Q := by
  refine ar_aload_n i_54_135 rfl ?_
  obtain ⟨r1, g_r1, F⟩ := F
  refine ar_getR i_54_136 g_r1 ?_
  refine ar_aload_n i_54_139 rfl ?_
  obtain ⟨r2, g_r2, F⟩ := F
  refine ar_getR i_54_140 g_r2 ?_
  refine ar_iload_n i_54_143 rfl ?_
  obtain ⟨v3, g_v3, F⟩ := F
  refine ar_iald i_54_144 g_v3 ?_
  refine ar_iload_n i_54_145 rfl ?_
  exact ar_iast i_54_146 F
theorem B54_147 {a0 : Nat} {x1 : Int32} {x2 : Int32} {x3 : Int32} {x4 : Int32} {h : am_H} {Q : am_H → Option Value → Prop} (F : (am_is h a0 5 ∧ am_Run (am_in 51 [.ref a0, .int x1, .int 3] h) (fun h1 v => am_Run (am_bk (54, 153, [some (.ref a0), some (.int x1), some (.int x2), some (.int x3), some (.int x4)], [], h) h1 v) Q))) : am_Run (54, 147, [some (.ref a0), some (.int x1), some (.int x2), some (.int x3), some (.int x4)], [], h) Q := by
  refine ar_aload_n i_54_147 rfl ?_
  refine ar_iload_n i_54_148 rfl ?_
  refine ar_iconst i_54_149 ?_
  exact ar_callV i_54_150 rfl rfl F.1 (Nat.le_of_ble_eq_true rfl) (Nat.le_of_ble_eq_true rfl) F.2
theorem B54_153 {a0 : Nat} {x1 : Int32} {x2 : Int32} {x3 : Int32} {x4 : Int32} {h : am_H} {Q : am_H → Option Value → Prop} (F : Q h (some (.int 1))) : am_Run (54, 153, [some (.ref a0), some (.int x1), some (.int x2), some (.int x3), some (.int x4)], [], h) Q := by
  refine ar_iconst i_54_153 ?_
  exact ar_iret i_54_154 rfl F
theorem B55_0 {a0 : Nat} {x1 : Int32} {h : am_H} {Q : am_H → Option Value → Prop} (F : am_wf h a0 5 0 (.int 0) (fun h1 => am_Run (55, 5, [some (.ref a0), some (.int x1)], [], h1) Q)) : am_Run (55, 0, [some (.ref a0), some (.int x1)], [], h) Q := by
  refine ar_aload_n i_55_0 rfl ?_
  refine ar_iconst i_55_1 ?_
  exact ar_put i_55_2 rfl F
theorem B55_5 {a0 : Nat} {x1 : Int32} {h : am_H} {Q : am_H → Option Value → Prop} (F : (am_is h a0 5 ∧ am_Run (am_in 38 [.ref a0, .int x1] h) (fun h1 v => am_Run (am_bk (55, 10, [some (.ref a0), some (.int x1)], [], h) h1 v) Q))) : am_Run (55, 5, [some (.ref a0), some (.int x1)], [], h) Q := by
  refine ar_aload_n i_55_5 rfl ?_
  refine ar_iload_n i_55_6 rfl ?_
  exact ar_callV i_55_7 rfl rfl F.1 (Nat.le_of_ble_eq_true rfl) (Nat.le_of_ble_eq_true rfl) F.2
theorem B55_10 {a0 : Nat} {x1 : Int32} {y0 : Int32} {h : am_H} {Q : am_H → Option Value → Prop} (F : ((¬ y0 = 0 → (∃ r1 : Nat, am_gr h a0 5 13 r1 ∧ (∃ v2 : Int32, am_ai h r1 x1 v2 ∧ ((v2 = 0 → am_Run (55, 37, [some (.ref a0), some (.int x1)], [], h) Q) ∧ (¬ v2 = 0 → (∃ r3 : Nat, am_gr h a0 5 13 r3 ∧ (∃ v4 : Int32, am_ai h r3 x1 v4 ∧ ((v4 = 2 → am_Run (55, 37, [some (.ref a0), some (.int x1)], [], h) Q) ∧ (¬ v4 = 2 → Q h (some (.int 0))))))))))) ∧ (y0 = 0 → Q h (some (.int ((-2))))))) : am_Run (55, 10, [some (.ref a0), some (.int x1)], [.int y0], h) Q := by
  refine ar_if_ne i_55_10 (fun q => ?_) (fun q => ?_)
  · replace F := F.1 q
    refine ar_aload_n i_55_16 rfl ?_
    obtain ⟨r1, g_r1, F⟩ := F
    refine ar_getR i_55_17 g_r1 ?_
    refine ar_iload_n i_55_20 rfl ?_
    obtain ⟨v2, g_v2, F⟩ := F
    refine ar_iald i_55_21 g_v2 ?_
    refine ar_if_eq i_55_22 (fun q => ?_) (fun q => ?_)
    · replace F := F.1 q
      exact F
    · replace F := F.2 q
      refine ar_aload_n i_55_25 rfl ?_
      obtain ⟨r3, g_r3, F⟩ := F
      refine ar_getR i_55_26 g_r3 ?_
      refine ar_iload_n i_55_29 rfl ?_
      obtain ⟨v4, g_v4, F⟩ := F
      refine ar_iald i_55_30 g_v4 ?_
      refine ar_iconst i_55_31 ?_
      refine ar_icmp_eq i_55_32 (fun q => ?_) (fun q => ?_)
      · replace F := F.1 q
        exact F
      · replace F := F.2 q
        refine ar_iconst i_55_35 ?_
        exact ar_iret i_55_36 rfl F
  · replace F := F.2 q
    refine ar_bipush i_55_13 ?_
    exact ar_iret i_55_15 rfl F
theorem B55_37 {a0 : Nat} {x1 : Int32} {h : am_H} {Q : am_H → Option Value → Prop} (F : (am_is h a0 5 ∧ am_Run (am_in 51 [.ref a0, .int x1, .int 5] h) (fun h1 v => am_Run (am_bk (55, 43, [some (.ref a0), some (.int x1)], [], h) h1 v) Q))) : am_Run (55, 37, [some (.ref a0), some (.int x1)], [], h) Q := by
  refine ar_aload_n i_55_37 rfl ?_
  refine ar_iload_n i_55_38 rfl ?_
  refine ar_iconst i_55_39 ?_
  exact ar_callV i_55_40 rfl rfl F.1 (Nat.le_of_ble_eq_true rfl) (Nat.le_of_ble_eq_true rfl) F.2
theorem B55_43 {a0 : Nat} {x1 : Int32} {h : am_H} {Q : am_H → Option Value → Prop} (F : Q h (some (.int 1))) : am_Run (55, 43, [some (.ref a0), some (.int x1)], [], h) Q := by
  refine ar_iconst i_55_43 ?_
  exact ar_iret i_55_44 rfl F
theorem B56_0 {a0 : Nat} {x1 : Int32} {x2 : Int32} {h : am_H} {Q : am_H → Option Value → Prop} (F : am_wf h a0 5 0 (.int 0) (fun h1 => am_Run (56, 5, [some (.ref a0), some (.int x1), some (.int x2)], [], h1) Q)) : am_Run (56, 0, [some (.ref a0), some (.int x1), some (.int x2)], [], h) Q := by
  refine ar_aload_n i_56_0 rfl ?_
  refine ar_iconst i_56_1 ?_
  exact ar_put i_56_2 rfl F
theorem B56_5 {a0 : Nat} {x1 : Int32} {x2 : Int32} {h : am_H} {Q : am_H → Option Value → Prop} (F : (am_is h a0 5 ∧ am_Run (am_in 38 [.ref a0, .int x1] h) (fun h1 v => am_Run (am_bk (56, 10, [some (.ref a0), some (.int x1), some (.int x2)], [], h) h1 v) Q))) : am_Run (56, 5, [some (.ref a0), some (.int x1), some (.int x2)], [], h) Q := by
  refine ar_aload_n i_56_5 rfl ?_
  refine ar_iload_n i_56_6 rfl ?_
  exact ar_callV i_56_7 rfl rfl F.1 (Nat.le_of_ble_eq_true rfl) (Nat.le_of_ble_eq_true rfl) F.2
theorem B56_10 {a0 : Nat} {x1 : Int32} {x2 : Int32} {y0 : Int32} {h : am_H} {Q : am_H → Option Value → Prop} (F : ((¬ y0 = 0 → ((x2 < 0 → Q h (some (.int ((-4))))) ∧ (¬ x2 < 0 → ((x2 ≤ 10000 → (am_is h a0 5 ∧ am_Run (am_in 39 [.ref a0, .int x1] h) (fun h1 v => am_Run (am_bk (56, 35, [some (.ref a0), some (.int x1), some (.int x2)], [], h) h1 v) Q))) ∧ (¬ x2 ≤ 10000 → Q h (some (.int ((-4))))))))) ∧ (y0 = 0 → Q h (some (.int ((-2))))))) : am_Run (56, 10, [some (.ref a0), some (.int x1), some (.int x2)], [.int y0], h) Q := by
  refine ar_if_ne i_56_10 (fun q => ?_) (fun q => ?_)
  · replace F := F.1 q
    refine ar_iload_n i_56_16 rfl ?_
    refine ar_if_lt i_56_17 (fun q => ?_) (fun q => ?_)
    · replace F := F.1 q
      refine ar_bipush i_56_27 ?_
      exact ar_iret i_56_29 rfl F
    · replace F := F.2 q
      refine ar_iload_n i_56_20 rfl ?_
      refine ar_sipush i_56_21 ?_
      refine ar_icmp_le i_56_24 (fun q => ?_) (fun q => ?_)
      · replace F := F.1 q
        refine ar_aload_n i_56_30 rfl ?_
        refine ar_iload_n i_56_31 rfl ?_
        exact ar_callV i_56_32 rfl rfl F.1 (Nat.le_of_ble_eq_true rfl) (Nat.le_of_ble_eq_true rfl) F.2
      · replace F := F.2 q
        refine ar_bipush i_56_27 ?_
        exact ar_iret i_56_29 rfl F
  · replace F := F.2 q
    refine ar_bipush i_56_13 ?_
    exact ar_iret i_56_15 rfl F
theorem B56_35 {a0 : Nat} {x1 : Int32} {x2 : Int32} {y0 : Int32} {h : am_H} {Q : am_H → Option Value → Prop} (F : ((¬ y0 = 0 → (∃ r1 : Nat, am_gr h a0 5 16 r1 ∧ (∃ v2 : Int32, am_ai h r1 x1 v2 ∧ (((v2 + x2) ≤ 30000 → (∃ r3 : Nat, am_gr h a0 5 16 r3 ∧ (∃ v4 : Int32, am_ai h r3 x1 v4 ∧ am_wi h r3 x1 (v4 + x2) (fun h1 => am_Run (56, 67, [some (.ref a0), some (.int x1), some (.int x2)], [], h1) Q)))) ∧ (¬ (v2 + x2) ≤ 30000 → Q h (some (.int ((-1))))))))) ∧ (y0 = 0 → Q h (some (.int ((-5))))))) : am_Run (56, 35, [some (.ref a0), some (.int x1), some (.int x2)], [.int y0], h) Q := by
  refine ar_if_ne i_56_35 (fun q => ?_) (fun q => ?_)
  · replace F := F.1 q
    refine ar_aload_n i_56_41 rfl ?_
    obtain ⟨r1, g_r1, F⟩ := F
    refine ar_getR i_56_42 g_r1 ?_
    refine ar_iload_n i_56_45 rfl ?_
    obtain ⟨v2, g_v2, F⟩ := F
    refine ar_iald i_56_46 g_v2 ?_
    refine ar_iload_n i_56_47 rfl ?_
    refine ar_iadd i_56_48 ?_
    refine ar_sipush i_56_49 ?_
    refine ar_icmp_le i_56_52 (fun q => ?_) (fun q => ?_)
    · replace F := F.1 q
      refine ar_aload_n i_56_57 rfl ?_
      obtain ⟨r3, g_r3, F⟩ := F
      refine ar_getR i_56_58 g_r3 ?_
      refine ar_iload_n i_56_61 rfl ?_
      refine ar_dup2 i_56_62 rfl rfl ?_
      obtain ⟨v4, g_v4, F⟩ := F
      refine ar_iald i_56_63 g_v4 ?_
      refine ar_iload_n i_56_64 rfl ?_
      refine ar_iadd i_56_65 ?_
      exact ar_iast i_56_66 F
    · replace F := F.2 q
      refine ar_iconst i_56_55 ?_
      exact ar_iret i_56_56 rfl F
  · replace F := F.2 q
    refine ar_bipush i_56_38 ?_
    exact ar_iret i_56_40 rfl F
theorem B56_67 {a0 : Nat} {x1 : Int32} {x2 : Int32} {h : am_H} {Q : am_H → Option Value → Prop} (F : (∃ r1 : Nat, am_gr h a0 5 16 r1 ∧ (∃ v2 : Int32, am_ai h r1 x1 v2 ∧ Q h (some (.int v2))))) : am_Run (56, 67, [some (.ref a0), some (.int x1), some (.int x2)], [], h) Q := by
  refine ar_aload_n i_56_67 rfl ?_
  obtain ⟨r1, g_r1, F⟩ := F
  refine ar_getR i_56_68 g_r1 ?_
  refine ar_iload_n i_56_71 rfl ?_
  obtain ⟨v2, g_v2, F⟩ := F
  refine ar_iald i_56_72 g_v2 ?_
  exact ar_iret i_56_73 rfl F
theorem B57_0 {a0 : Nat} {x1 : Int32} {x2 : Int32} {h : am_H} {Q : am_H → Option Value → Prop} (F : (∃ r1 : Nat, am_gr h a0 5 15 r1 ∧ (∃ v2 : Int32, am_ai h r1 x1 v2 ∧ am_Run (am_in 45 [.int x1, .int v2] h) (fun h1 v => am_Run (am_bk (57, 12, [some (.ref a0), some (.int x1), some (.int x2)], [.int 10], h) h1 v) Q)))) : am_Run (57, 0, [some (.ref a0), some (.int x1), some (.int x2)], [], h) Q := by
  refine ar_bipush i_57_0 ?_
  refine ar_iload_n i_57_2 rfl ?_
  refine ar_aload_n i_57_3 rfl ?_
  obtain ⟨r1, g_r1, F⟩ := F
  refine ar_getR i_57_4 g_r1 ?_
  refine ar_iload_n i_57_7 rfl ?_
  obtain ⟨v2, g_v2, F⟩ := F
  refine ar_iald i_57_8 g_v2 ?_
  exact ar_callS i_57_9 (Nat.le_of_ble_eq_true rfl) rfl rfl (Nat.le_of_ble_eq_true rfl) (Nat.le_of_ble_eq_true rfl) F
theorem B57_12 {a0 : Nat} {x1 : Int32} {x2 : Int32} {y1 : Int32} {y0 : Int32} {h : am_H} {Q : am_H → Option Value → Prop} (F : Q h (some (.int ((y0 * y1) + x2)))) : am_Run (57, 12, [some (.ref a0), some (.int x1), some (.int x2)], [.int y1, .int y0], h) Q := by
  refine ar_imul i_57_12 ?_
  refine ar_iload_n i_57_13 rfl ?_
  refine ar_iadd i_57_14 ?_
  exact ar_iret i_57_15 rfl F
theorem B58_0 {a0 : Nat} {x1 : Int32} {x2 : Int32} {x3 : Int32} {h : am_H} {Q : am_H → Option Value → Prop} (F : am_wf h a0 5 0 (.int 0) (fun h1 => am_Run (58, 5, [some (.ref a0), some (.int x1), some (.int x2), some (.int x3), none], [], h1) Q)) : am_Run (58, 0, [some (.ref a0), some (.int x1), some (.int x2), some (.int x3), none], [], h) Q := by
  refine ar_aload_n i_58_0 rfl ?_
  refine ar_iconst i_58_1 ?_
  exact ar_put i_58_2 rfl F
theorem B58_5 {a0 : Nat} {x1 : Int32} {x2 : Int32} {x3 : Int32} {h : am_H} {Q : am_H → Option Value → Prop} (F : (am_is h a0 5 ∧ am_Run (am_in 38 [.ref a0, .int x1] h) (fun h1 v => am_Run (am_bk (58, 10, [some (.ref a0), some (.int x1), some (.int x2), some (.int x3), none], [], h) h1 v) Q))) : am_Run (58, 5, [some (.ref a0), some (.int x1), some (.int x2), some (.int x3), none], [], h) Q := by
  refine ar_aload_n i_58_5 rfl ?_
  refine ar_iload_n i_58_6 rfl ?_
  exact ar_callV i_58_7 rfl rfl F.1 (Nat.le_of_ble_eq_true rfl) (Nat.le_of_ble_eq_true rfl) F.2
theorem B58_10 {a0 : Nat} {x1 : Int32} {x2 : Int32} {x3 : Int32} {y0 : Int32} {h : am_H} {Q : am_H → Option Value → Prop} (F : ((¬ y0 = 0 → ((x2 < 0 → Q h (some (.int ((-4))))) ∧ (¬ x2 < 0 → ((9 < x2 → Q h (some (.int ((-4))))) ∧ (¬ 9 < x2 → ((x3 < 0 → Q h (some (.int ((-4))))) ∧ (¬ x3 < 0 → ((x3 ≤ 9999 → (∃ r1 : Nat, am_gr h a0 5 13 r1 ∧ (∃ v2 : Int32, am_ai h r1 x1 v2 ∧ ((v2 = 1 → (∃ r3 : Nat, am_gr h a0 5 19 r3 ∧ (am_is h a0 5 ∧ am_Run (am_in 57 [.ref a0, .int x1, .int x2] h) (fun h1 v => am_Run (am_bk (58, 63, [some (.ref a0), some (.int x1), some (.int x2), some (.int x3), none], [.ref r3], h) h1 v) Q)))) ∧ (¬ v2 = 1 → Q h (some (.int ((-5))))))))) ∧ (¬ x3 ≤ 9999 → Q h (some (.int ((-4))))))))))))) ∧ (y0 = 0 → Q h (some (.int ((-2))))))) : am_Run (58, 10, [some (.ref a0), some (.int x1), some (.int x2), some (.int x3), none], [.int y0], h) Q := by
  refine ar_if_ne i_58_10 (fun q => ?_) (fun q => ?_)
  · replace F := F.1 q
    refine ar_iload_n i_58_16 rfl ?_
    refine ar_if_lt i_58_17 (fun q => ?_) (fun q => ?_)
    · replace F := F.1 q
      refine ar_bipush i_58_37 ?_
      exact ar_iret i_58_39 rfl F
    · replace F := F.2 q
      refine ar_iload_n i_58_20 rfl ?_
      refine ar_bipush i_58_21 ?_
      refine ar_icmp_gt i_58_23 (fun q => ?_) (fun q => ?_)
      · replace F := F.1 q
        refine ar_bipush i_58_37 ?_
        exact ar_iret i_58_39 rfl F
      · replace F := F.2 q
        refine ar_iload_n i_58_26 rfl ?_
        refine ar_if_lt i_58_27 (fun q => ?_) (fun q => ?_)
        · replace F := F.1 q
          refine ar_bipush i_58_37 ?_
          exact ar_iret i_58_39 rfl F
        · replace F := F.2 q
          refine ar_iload_n i_58_30 rfl ?_
          refine ar_sipush i_58_31 ?_
          refine ar_icmp_le i_58_34 (fun q => ?_) (fun q => ?_)
          · replace F := F.1 q
            refine ar_aload_n i_58_40 rfl ?_
            obtain ⟨r1, g_r1, F⟩ := F
            refine ar_getR i_58_41 g_r1 ?_
            refine ar_iload_n i_58_44 rfl ?_
            obtain ⟨v2, g_v2, F⟩ := F
            refine ar_iald i_58_45 g_v2 ?_
            refine ar_iconst i_58_46 ?_
            refine ar_icmp_eq i_58_47 (fun q => ?_) (fun q => ?_)
            · replace F := F.1 q
              refine ar_aload_n i_58_53 rfl ?_
              obtain ⟨r3, g_r3, F⟩ := F
              refine ar_getR i_58_54 g_r3 ?_
              refine ar_aload_n i_58_57 rfl ?_
              refine ar_iload_n i_58_58 rfl ?_
              refine ar_iload_n i_58_59 rfl ?_
              exact ar_callV i_58_60 rfl rfl F.1 (Nat.le_of_ble_eq_true rfl) (Nat.le_of_ble_eq_true rfl) F.2
            · replace F := F.2 q
              refine ar_bipush i_58_50 ?_
              exact ar_iret i_58_52 rfl F
          · replace F := F.2 q
            refine ar_bipush i_58_37 ?_
            exact ar_iret i_58_39 rfl F
  · replace F := F.2 q
    refine ar_bipush i_58_13 ?_
    exact ar_iret i_58_15 rfl F
theorem B58_63 {a0 : Nat} {x1 : Int32} {x2 : Int32} {x3 : Int32} {y1 : Int32} {b0 : Nat} {h : am_H} {Q : am_H → Option Value → Prop} (F : (∃ v1 : Int32, am_ai h b0 y1 v1 ∧ (∃ r2 : Nat, am_gr h a0 5 19 r2 ∧ (am_is h a0 5 ∧ am_Run (am_in 57 [.ref a0, .int x1, .int x2] h) (fun h1 v => am_Run (am_bk (58, 76, [some (.ref a0), some (.int x1), some (.int x2), some (.int x3), some (.int v1)], [.ref r2], h) h1 v) Q))))) : am_Run (58, 63, [some (.ref a0), some (.int x1), some (.int x2), some (.int x3), none], [.int y1, .ref b0], h) Q := by
  obtain ⟨v1, g_v1, F⟩ := F
  refine ar_iald i_58_63 g_v1 ?_
  refine ar_istore i_58_64 rfl ?_
  refine ar_aload_n i_58_66 rfl ?_
  obtain ⟨r2, g_r2, F⟩ := F
  refine ar_getR i_58_67 g_r2 ?_
  refine ar_aload_n i_58_70 rfl ?_
  refine ar_iload_n i_58_71 rfl ?_
  refine ar_iload_n i_58_72 rfl ?_
  exact ar_callV i_58_73 rfl rfl F.1 (Nat.le_of_ble_eq_true rfl) (Nat.le_of_ble_eq_true rfl) F.2
theorem B58_76 {a0 : Nat} {x1 : Int32} {x2 : Int32} {x3 : Int32} {x4 : Int32} {y1 : Int32} {b0 : Nat} {h : am_H} {Q : am_H → Option Value → Prop} (F : am_wi h b0 y1 x3 (fun h1 => am_Run (58, 78, [some (.ref a0), some (.int x1), some (.int x2), some (.int x3), some (.int x4)], [], h1) Q)) : am_Run (58, 76, [some (.ref a0), some (.int x1), some (.int x2), some (.int x3), some (.int x4)], [.int y1, .ref b0], h) Q := by
  refine ar_iload_n i_58_76 rfl ?_
  exact ar_iast i_58_77 F
theorem B58_78 {a0 : Nat} {x1 : Int32} {x2 : Int32} {x3 : Int32} {x4 : Int32} {h : am_H} {Q : am_H → Option Value → Prop} (F : Q h (some (.int x4))) : am_Run (58, 78, [some (.ref a0), some (.int x1), some (.int x2), some (.int x3), some (.int x4)], [], h) Q := by
  refine ar_iload i_58_78 rfl ?_
  exact ar_iret i_58_80 rfl F
theorem B59_0 {a0 : Nat} {x1 : Int32} {x2 : Int32} {h : am_H} {Q : am_H → Option Value → Prop} (F : am_wf h a0 5 0 (.int 0) (fun h1 => am_Run (59, 5, [some (.ref a0), some (.int x1), some (.int x2), none, none], [], h1) Q)) : am_Run (59, 0, [some (.ref a0), some (.int x1), some (.int x2), none, none], [], h) Q := by
  refine ar_aload_n i_59_0 rfl ?_
  refine ar_iconst i_59_1 ?_
  exact ar_put i_59_2 rfl F
theorem B59_5 {a0 : Nat} {x1 : Int32} {x2 : Int32} {h : am_H} {Q : am_H → Option Value → Prop} (F : (am_is h a0 5 ∧ am_Run (am_in 38 [.ref a0, .int x1] h) (fun h1 v => am_Run (am_bk (59, 10, [some (.ref a0), some (.int x1), some (.int x2), none, none], [], h) h1 v) Q))) : am_Run (59, 5, [some (.ref a0), some (.int x1), some (.int x2), none, none], [], h) Q := by
  refine ar_aload_n i_59_5 rfl ?_
  refine ar_iload_n i_59_6 rfl ?_
  exact ar_callV i_59_7 rfl rfl F.1 (Nat.le_of_ble_eq_true rfl) (Nat.le_of_ble_eq_true rfl) F.2
theorem B59_10 {a0 : Nat} {x1 : Int32} {x2 : Int32} {y0 : Int32} {h : am_H} {Q : am_H → Option Value → Prop} (F : ((¬ y0 = 0 → ((x2 < 0 → Q h (some (.int ((-4))))) ∧ (¬ x2 < 0 → ((x2 ≤ 9 → (∃ r1 : Nat, am_gr h a0 5 13 r1 ∧ (∃ v2 : Int32, am_ai h r1 x1 v2 ∧ ((v2 = 1 → (∃ r3 : Nat, am_gr h a0 5 19 r3 ∧ (am_is h a0 5 ∧ am_Run (am_in 57 [.ref a0, .int x1, .int x2] h) (fun h1 v => am_Run (am_bk (59, 52, [some (.ref a0), some (.int x1), some (.int x2), none, none], [.ref r3], h) h1 v) Q)))) ∧ (¬ v2 = 1 → Q h (some (.int ((-5))))))))) ∧ (¬ x2 ≤ 9 → Q h (some (.int ((-4))))))))) ∧ (y0 = 0 → Q h (some (.int ((-2))))))) : am_Run (59, 10, [some (.ref a0), some (.int x1), some (.int x2), none, none], [.int y0], h) Q := by
  refine ar_if_ne i_59_10 (fun q => ?_) (fun q => ?_)
  · replace F := F.1 q
    refine ar_iload_n i_59_16 rfl ?_
    refine ar_if_lt i_59_17 (fun q => ?_) (fun q => ?_)
    · replace F := F.1 q
      refine ar_bipush i_59_26 ?_
      exact ar_iret i_59_28 rfl F
    · replace F := F.2 q
      refine ar_iload_n i_59_20 rfl ?_
      refine ar_bipush i_59_21 ?_
      refine ar_icmp_le i_59_23 (fun q => ?_) (fun q => ?_)
      · replace F := F.1 q
        refine ar_aload_n i_59_29 rfl ?_
        obtain ⟨r1, g_r1, F⟩ := F
        refine ar_getR i_59_30 g_r1 ?_
        refine ar_iload_n i_59_33 rfl ?_
        obtain ⟨v2, g_v2, F⟩ := F
        refine ar_iald i_59_34 g_v2 ?_
        refine ar_iconst i_59_35 ?_
        refine ar_icmp_eq i_59_36 (fun q => ?_) (fun q => ?_)
        · replace F := F.1 q
          refine ar_aload_n i_59_42 rfl ?_
          obtain ⟨r3, g_r3, F⟩ := F
          refine ar_getR i_59_43 g_r3 ?_
          refine ar_aload_n i_59_46 rfl ?_
          refine ar_iload_n i_59_47 rfl ?_
          refine ar_iload_n i_59_48 rfl ?_
          exact ar_callV i_59_49 rfl rfl F.1 (Nat.le_of_ble_eq_true rfl) (Nat.le_of_ble_eq_true rfl) F.2
        · replace F := F.2 q
          refine ar_bipush i_59_39 ?_
          exact ar_iret i_59_41 rfl F
      · replace F := F.2 q
        refine ar_bipush i_59_26 ?_
        exact ar_iret i_59_28 rfl F
  · replace F := F.2 q
    refine ar_bipush i_59_13 ?_
    exact ar_iret i_59_15 rfl F
theorem B59_52 {a0 : Nat} {x1 : Int32} {x2 : Int32} {y1 : Int32} {b0 : Nat} {h : am_H} {Q : am_H → Option Value → Prop} (F : (∃ v1 : Int32, am_ai h b0 y1 v1 ∧ ((v1 = 0 → (∃ r2 : Nat, am_gr h a0 5 19 r2 ∧ (am_is h a0 5 ∧ am_Run (am_in 57 [.ref a0, .int x1, .int 0] h) (fun h1 v => am_Run (am_bk (59, 72, [some (.ref a0), some (.int x1), some (.int x2), some (.int v1), none], [.ref r2], h) h1 v) Q)))) ∧ (¬ v1 = 0 → am_Run (59, 73, [some (.ref a0), some (.int x1), some (.int x2), some (.int v1), none], [.int v1], h) Q)))) : am_Run (59, 52, [some (.ref a0), some (.int x1), some (.int x2), none, none], [.int y1, .ref b0], h) Q := by
  obtain ⟨v1, g_v1, F⟩ := F
  refine ar_iald i_59_52 g_v1 ?_
  refine ar_istore_n i_59_53 rfl ?_
  refine ar_iload_n i_59_54 rfl ?_
  refine ar_if_eq i_59_55 (fun q => ?_) (fun q => ?_)
  · replace F := F.1 q
    refine ar_aload_n i_59_62 rfl ?_
    obtain ⟨r2, g_r2, F⟩ := F
    refine ar_getR i_59_63 g_r2 ?_
    refine ar_aload_n i_59_66 rfl ?_
    refine ar_iload_n i_59_67 rfl ?_
    refine ar_iconst i_59_68 ?_
    exact ar_callV i_59_69 rfl rfl F.1 (Nat.le_of_ble_eq_true rfl) (Nat.le_of_ble_eq_true rfl) F.2
  · replace F := F.2 q
    refine ar_iload_n i_59_58 rfl ?_
    refine ar_goto i_59_59 ?_
    exact F
theorem B59_72 {a0 : Nat} {x1 : Int32} {x2 : Int32} {x3 : Int32} {y1 : Int32} {b0 : Nat} {h : am_H} {Q : am_H → Option Value → Prop} (F : (∃ v1 : Int32, am_ai h b0 y1 v1 ∧ am_Run (59, 73, [some (.ref a0), some (.int x1), some (.int x2), some (.int x3), none], [.int v1], h) Q)) : am_Run (59, 72, [some (.ref a0), some (.int x1), some (.int x2), some (.int x3), none], [.int y1, .ref b0], h) Q := by
  obtain ⟨v1, g_v1, F⟩ := F
  refine ar_iald i_59_72 g_v1 ?_
  exact F
theorem B59_73 {a0 : Nat} {x1 : Int32} {x2 : Int32} {x3 : Int32} {y0 : Int32} {h : am_H} {Q : am_H → Option Value → Prop} (F : ((y0 = 0 → (am_is h a0 5 ∧ am_Run (am_in 51 [.ref a0, .int x1, .int 4] h) (fun h1 v => am_Run (am_bk (59, 89, [some (.ref a0), some (.int x1), some (.int x2), some (.int x3), some (.int y0)], [], h) h1 v) Q))) ∧ (¬ y0 = 0 → Q h (some (.int y0))))) : am_Run (59, 73, [some (.ref a0), some (.int x1), some (.int x2), some (.int x3), none], [.int y0], h) Q := by
  refine ar_istore i_59_73 rfl ?_
  refine ar_iload i_59_75 rfl ?_
  refine ar_if_eq i_59_77 (fun q => ?_) (fun q => ?_)
  · replace F := F.1 q
    refine ar_aload_n i_59_83 rfl ?_
    refine ar_iload_n i_59_84 rfl ?_
    refine ar_iconst i_59_85 ?_
    exact ar_callV i_59_86 rfl rfl F.1 (Nat.le_of_ble_eq_true rfl) (Nat.le_of_ble_eq_true rfl) F.2
  · replace F := F.2 q
    refine ar_iload i_59_80 rfl ?_
    exact ar_iret i_59_82 rfl F
theorem B59_89 {a0 : Nat} {x1 : Int32} {x2 : Int32} {x3 : Int32} {x4 : Int32} {h : am_H} {Q : am_H → Option Value → Prop} (F : Q h (some (.int (((-1000)) - x2)))) : am_Run (59, 89, [some (.ref a0), some (.int x1), some (.int x2), some (.int x3), some (.int x4)], [], h) Q := by
  refine ar_sipush i_59_89 ?_
  refine ar_iload_n i_59_92 rfl ?_
  refine ar_isub i_59_93 ?_
  exact ar_iret i_59_94 rfl F
theorem B60_0 {a0 : Nat} {x1 : Int32} {h : am_H} {Q : am_H → Option Value → Prop} (F : am_wf h a0 5 0 (.int 0) (fun h1 => am_Run (60, 5, [some (.ref a0), some (.int x1)], [], h1) Q)) : am_Run (60, 0, [some (.ref a0), some (.int x1)], [], h) Q := by
  refine ar_aload_n i_60_0 rfl ?_
  refine ar_iconst i_60_1 ?_
  exact ar_put i_60_2 rfl F
theorem B60_5 {a0 : Nat} {x1 : Int32} {h : am_H} {Q : am_H → Option Value → Prop} (F : (am_is h a0 5 ∧ am_Run (am_in 37 [.ref a0, .int x1] h) (fun h1 v => am_Run (am_bk (60, 10, [some (.ref a0), some (.int x1)], [], h) h1 v) Q))) : am_Run (60, 5, [some (.ref a0), some (.int x1)], [], h) Q := by
  refine ar_aload_n i_60_5 rfl ?_
  refine ar_iload_n i_60_6 rfl ?_
  exact ar_callV i_60_7 rfl rfl F.1 (Nat.le_of_ble_eq_true rfl) (Nat.le_of_ble_eq_true rfl) F.2
theorem B60_10 {a0 : Nat} {x1 : Int32} {y0 : Int32} {h : am_H} {Q : am_H → Option Value → Prop} (F : ((y0 = 0 → Q h (some (.int ((-2))))) ∧ (¬ y0 = 0 → (∃ r1 : Nat, am_gr h a0 5 9 r1 ∧ (∃ v2 : Int32, am_ai h r1 x1 v2 ∧ Q h (some (.int v2))))))) : am_Run (60, 10, [some (.ref a0), some (.int x1)], [.int y0], h) Q := by
  refine ar_if_eq i_60_10 (fun q => ?_) (fun q => ?_)
  · replace F := F.1 q
    refine ar_bipush i_60_22 ?_
    exact ar_iret i_60_24 rfl F
  · replace F := F.2 q
    refine ar_aload_n i_60_13 rfl ?_
    obtain ⟨r1, g_r1, F⟩ := F
    refine ar_getR i_60_14 g_r1 ?_
    refine ar_iload_n i_60_17 rfl ?_
    obtain ⟨v2, g_v2, F⟩ := F
    refine ar_iald i_60_18 g_v2 ?_
    refine ar_goto i_60_19 ?_
    exact ar_iret i_60_24 rfl F
theorem B61_0 {a0 : Nat} {x1 : Int32} {h : am_H} {Q : am_H → Option Value → Prop} (F : am_wf h a0 5 0 (.int 0) (fun h1 => am_Run (61, 5, [some (.ref a0), some (.int x1)], [], h1) Q)) : am_Run (61, 0, [some (.ref a0), some (.int x1)], [], h) Q := by
  refine ar_aload_n i_61_0 rfl ?_
  refine ar_iconst i_61_1 ?_
  exact ar_put i_61_2 rfl F
theorem B61_5 {a0 : Nat} {x1 : Int32} {h : am_H} {Q : am_H → Option Value → Prop} (F : (am_is h a0 5 ∧ am_Run (am_in 38 [.ref a0, .int x1] h) (fun h1 v => am_Run (am_bk (61, 10, [some (.ref a0), some (.int x1)], [], h) h1 v) Q))) : am_Run (61, 5, [some (.ref a0), some (.int x1)], [], h) Q := by
  refine ar_aload_n i_61_5 rfl ?_
  refine ar_iload_n i_61_6 rfl ?_
  exact ar_callV i_61_7 rfl rfl F.1 (Nat.le_of_ble_eq_true rfl) (Nat.le_of_ble_eq_true rfl) F.2
theorem B61_10 {a0 : Nat} {x1 : Int32} {y0 : Int32} {h : am_H} {Q : am_H → Option Value → Prop} (F : ((y0 = 0 → Q h (some (.int ((-2))))) ∧ (¬ y0 = 0 → (∃ r1 : Nat, am_gr h a0 5 13 r1 ∧ (∃ v2 : Int32, am_ai h r1 x1 v2 ∧ Q h (some (.int v2))))))) : am_Run (61, 10, [some (.ref a0), some (.int x1)], [.int y0], h) Q := by
  refine ar_if_eq i_61_10 (fun q => ?_) (fun q => ?_)
  · replace F := F.1 q
    refine ar_bipush i_61_22 ?_
    exact ar_iret i_61_24 rfl F
  · replace F := F.2 q
    refine ar_aload_n i_61_13 rfl ?_
    obtain ⟨r1, g_r1, F⟩ := F
    refine ar_getR i_61_14 g_r1 ?_
    refine ar_iload_n i_61_17 rfl ?_
    obtain ⟨v2, g_v2, F⟩ := F
    refine ar_iald i_61_18 g_v2 ?_
    refine ar_goto i_61_19 ?_
    exact ar_iret i_61_24 rfl F
theorem B62_0 {a0 : Nat} {x1 : Int32} {x2 : Int32} {h : am_H} {Q : am_H → Option Value → Prop} (F : am_wf h a0 5 0 (.int 0) (fun h1 => am_Run (62, 5, [some (.ref a0), some (.int x1), some (.int x2)], [], h1) Q)) : am_Run (62, 0, [some (.ref a0), some (.int x1), some (.int x2)], [], h) Q := by
  refine ar_aload_n i_62_0 rfl ?_
  refine ar_iconst i_62_1 ?_
  exact ar_put i_62_2 rfl F
theorem B62_5 {a0 : Nat} {x1 : Int32} {x2 : Int32} {h : am_H} {Q : am_H → Option Value → Prop} (F : (am_is h a0 5 ∧ am_Run (am_in 38 [.ref a0, .int x1] h) (fun h1 v => am_Run (am_bk (62, 10, [some (.ref a0), some (.int x1), some (.int x2)], [], h) h1 v) Q))) : am_Run (62, 5, [some (.ref a0), some (.int x1), some (.int x2)], [], h) Q := by
  refine ar_aload_n i_62_5 rfl ?_
  refine ar_iload_n i_62_6 rfl ?_
  exact ar_callV i_62_7 rfl rfl F.1 (Nat.le_of_ble_eq_true rfl) (Nat.le_of_ble_eq_true rfl) F.2
theorem B62_10 {a0 : Nat} {x1 : Int32} {x2 : Int32} {y0 : Int32} {h : am_H} {Q : am_H → Option Value → Prop} (F : ((¬ y0 = 0 → (((x2.toInt < 0 ∨ 5 < x2.toInt) → Q h (some (.int ((-1))))) ∧ (x2 = nI 0 → (∃ r1 : Nat, am_gr h a0 5 15 r1 ∧ (∃ v2 : Int32, am_ai h r1 x1 v2 ∧ Q h (some (.int v2))))) ∧ (x2 = nI 1 → (∃ r3 : Nat, am_gr h a0 5 15 r3 ∧ (∃ v4 : Int32, am_ai h r3 x1 v4 ∧ ((¬ v4 = 0 → (∃ r5 : Nat, am_gr h a0 5 18 r5 ∧ (∃ r6 : Nat, am_gr h a0 5 15 r6 ∧ (∃ v7 : Int32, am_ai h r6 x1 v7 ∧ am_Run (am_in 45 [.int x1, .int v7] h) (fun h1 v => am_Run (am_bk (62, 90, [some (.ref a0), some (.int x1), some (.int x2)], [.ref r5], h) h1 v) Q))))) ∧ (v4 = 0 → Q h (some (.int ((-1))))))))) ∧ (x2 = nI 2 → (∃ r8 : Nat, am_gr h a0 5 16 r8 ∧ (∃ v9 : Int32, am_ai h r8 x1 v9 ∧ Q h (some (.int v9))))) ∧ (x2 = nI 3 → (∃ r10 : Nat, am_gr h a0 5 11 r10 ∧ (∃ v11 : Int32, am_ai h r10 x1 v11 ∧ Q h (some (.int v11))))) ∧ (x2 = nI 4 → (∃ r12 : Nat, am_gr h a0 5 12 r12 ∧ (∃ v13 : Int32, am_ai h r12 x1 v13 ∧ Q h (some (.int v13))))) ∧ (x2 = nI 5 → (∃ r14 : Nat, am_gr h a0 5 14 r14 ∧ (∃ v15 : Int32, am_ai h r14 x1 v15 ∧ Q h (some (.int v15))))))) ∧ (y0 = 0 → Q h (some (.int ((-1))))))) : am_Run (62, 10, [some (.ref a0), some (.int x1), some (.int x2)], [.int y0], h) Q := by
  refine ar_if_ne i_62_10 (fun q => ?_) (fun q => ?_)
  · replace F := F.1 q
    refine ar_iload_n i_62_15 rfl ?_
    refine ar_tab i_62_16 (fun q => ?_) (fun j o hj hx ho => ?_) (by decide) (by decide)
    · replace F := F.1 q
      show am_Run (62, 120, [some (.ref a0), some (.int x1), some (.int x2)], [], h) Q
      refine ar_iconst i_62_120 ?_
      exact ar_iret i_62_121 rfl F
    · have hj2 : j < 6 := by omega
      replace F := F.2
      match j, hj2, hx, ho with
      | 0, _, hx, ho =>
        cases ho
        refine ⟨by decide, ?_⟩
        replace F := F.1 hx
        show am_Run (62, 56, [some (.ref a0), some (.int x1), some (.int x2)], [], h) Q
        refine ar_aload_n i_62_56 rfl ?_
        obtain ⟨r1, g_r1, F⟩ := F
        refine ar_getR i_62_57 g_r1 ?_
        refine ar_iload_n i_62_60 rfl ?_
        obtain ⟨v2, g_v2, F⟩ := F
        refine ar_iald i_62_61 g_v2 ?_
        exact ar_iret i_62_62 rfl F
      | 1, _, hx, ho =>
        cases ho
        refine ⟨by decide, ?_⟩
        replace F := F.2.1 hx
        show am_Run (62, 63, [some (.ref a0), some (.int x1), some (.int x2)], [], h) Q
        refine ar_aload_n i_62_63 rfl ?_
        obtain ⟨r3, g_r3, F⟩ := F
        refine ar_getR i_62_64 g_r3 ?_
        refine ar_iload_n i_62_67 rfl ?_
        obtain ⟨v4, g_v4, F⟩ := F
        refine ar_iald i_62_68 g_v4 ?_
        refine ar_if_ne i_62_69 (fun q => ?_) (fun q => ?_)
        · replace F := F.1 q
          refine ar_aload_n i_62_76 rfl ?_
          obtain ⟨r5, g_r5, F⟩ := F
          refine ar_getR i_62_77 g_r5 ?_
          refine ar_iload_n i_62_80 rfl ?_
          refine ar_aload_n i_62_81 rfl ?_
          obtain ⟨r6, g_r6, F⟩ := F
          refine ar_getR i_62_82 g_r6 ?_
          refine ar_iload_n i_62_85 rfl ?_
          obtain ⟨v7, g_v7, F⟩ := F
          refine ar_iald i_62_86 g_v7 ?_
          exact ar_callS i_62_87 (Nat.le_of_ble_eq_true rfl) rfl rfl (Nat.le_of_ble_eq_true rfl) (Nat.le_of_ble_eq_true rfl) F
        · replace F := F.2 q
          refine ar_iconst i_62_72 ?_
          refine ar_goto i_62_73 ?_
          exact ar_iret i_62_91 rfl F
      | 2, _, hx, ho =>
        cases ho
        refine ⟨by decide, ?_⟩
        replace F := F.2.2.1 hx
        show am_Run (62, 92, [some (.ref a0), some (.int x1), some (.int x2)], [], h) Q
        refine ar_aload_n i_62_92 rfl ?_
        obtain ⟨r8, g_r8, F⟩ := F
        refine ar_getR i_62_93 g_r8 ?_
        refine ar_iload_n i_62_96 rfl ?_
        obtain ⟨v9, g_v9, F⟩ := F
        refine ar_iald i_62_97 g_v9 ?_
        exact ar_iret i_62_98 rfl F
      | 3, _, hx, ho =>
        cases ho
        refine ⟨by decide, ?_⟩
        replace F := F.2.2.2.1 hx
        show am_Run (62, 99, [some (.ref a0), some (.int x1), some (.int x2)], [], h) Q
        refine ar_aload_n i_62_99 rfl ?_
        obtain ⟨r10, g_r10, F⟩ := F
        refine ar_getR i_62_100 g_r10 ?_
        refine ar_iload_n i_62_103 rfl ?_
        obtain ⟨v11, g_v11, F⟩ := F
        refine ar_iald i_62_104 g_v11 ?_
        exact ar_iret i_62_105 rfl F
      | 4, _, hx, ho =>
        cases ho
        refine ⟨by decide, ?_⟩
        replace F := F.2.2.2.2.1 hx
        show am_Run (62, 106, [some (.ref a0), some (.int x1), some (.int x2)], [], h) Q
        refine ar_aload_n i_62_106 rfl ?_
        obtain ⟨r12, g_r12, F⟩ := F
        refine ar_getR i_62_107 g_r12 ?_
        refine ar_iload_n i_62_110 rfl ?_
        obtain ⟨v13, g_v13, F⟩ := F
        refine ar_iald i_62_111 g_v13 ?_
        exact ar_iret i_62_112 rfl F
      | 5, _, hx, ho =>
        cases ho
        refine ⟨by decide, ?_⟩
        replace F := F.2.2.2.2.2 hx
        show am_Run (62, 113, [some (.ref a0), some (.int x1), some (.int x2)], [], h) Q
        refine ar_aload_n i_62_113 rfl ?_
        obtain ⟨r14, g_r14, F⟩ := F
        refine ar_getR i_62_114 g_r14 ?_
        refine ar_iload_n i_62_117 rfl ?_
        obtain ⟨v15, g_v15, F⟩ := F
        refine ar_iald i_62_118 g_v15 ?_
        exact ar_iret i_62_119 rfl F
  · replace F := F.2 q
    refine ar_iconst i_62_13 ?_
    exact ar_iret i_62_14 rfl F
theorem B62_90 {a0 : Nat} {x1 : Int32} {x2 : Int32} {y1 : Int32} {b0 : Nat} {h : am_H} {Q : am_H → Option Value → Prop} (F : (∃ v1 : Int32, am_ai h b0 y1 v1 ∧ Q h (some (.int v1)))) : am_Run (62, 90, [some (.ref a0), some (.int x1), some (.int x2)], [.int y1, .ref b0], h) Q := by
  obtain ⟨v1, g_v1, F⟩ := F
  refine ar_iald i_62_90 g_v1 ?_
  exact ar_iret i_62_91 rfl F
theorem B63_0 {a0 : Nat} {x1 : Int32} {h : am_H} {Q : am_H → Option Value → Prop} (F : am_wf h a0 5 0 (.int 0) (fun h1 => am_Run (63, 5, [some (.ref a0), some (.int x1)], [], h1) Q)) : am_Run (63, 0, [some (.ref a0), some (.int x1)], [], h) Q := by
  refine ar_aload_n i_63_0 rfl ?_
  refine ar_iconst i_63_1 ?_
  exact ar_put i_63_2 rfl F
theorem B63_5 {a0 : Nat} {x1 : Int32} {h : am_H} {Q : am_H → Option Value → Prop} (F : (am_is h a0 5 ∧ am_Run (am_in 37 [.ref a0, .int x1] h) (fun h1 v => am_Run (am_bk (63, 10, [some (.ref a0), some (.int x1)], [], h) h1 v) Q))) : am_Run (63, 5, [some (.ref a0), some (.int x1)], [], h) Q := by
  refine ar_aload_n i_63_5 rfl ?_
  refine ar_iload_n i_63_6 rfl ?_
  exact ar_callV i_63_7 rfl rfl F.1 (Nat.le_of_ble_eq_true rfl) (Nat.le_of_ble_eq_true rfl) F.2
theorem B63_10 {a0 : Nat} {x1 : Int32} {y0 : Int32} {h : am_H} {Q : am_H → Option Value → Prop} (F : ((y0 = 0 → Q h (some (.int ((-2))))) ∧ (¬ y0 = 0 → (am_is h a0 5 ∧ am_Run (am_in 43 [.ref a0, .int x1] h) (fun h1 v => am_Run (am_bk (63, 18, [some (.ref a0), some (.int x1)], [], h) h1 v) Q))))) : am_Run (63, 10, [some (.ref a0), some (.int x1)], [.int y0], h) Q := by
  refine ar_if_eq i_63_10 (fun q => ?_) (fun q => ?_)
  · replace F := F.1 q
    refine ar_bipush i_63_21 ?_
    exact ar_iret i_63_23 rfl F
  · replace F := F.2 q
    refine ar_aload_n i_63_13 rfl ?_
    refine ar_iload_n i_63_14 rfl ?_
    exact ar_callV i_63_15 rfl rfl F.1 (Nat.le_of_ble_eq_true rfl) (Nat.le_of_ble_eq_true rfl) F.2
theorem B63_18 {a0 : Nat} {x1 : Int32} {y0 : Int32} {h : am_H} {Q : am_H → Option Value → Prop} (F : Q h (some (.int y0))) : am_Run (63, 18, [some (.ref a0), some (.int x1)], [.int y0], h) Q := by
  refine ar_goto i_63_18 ?_
  exact ar_iret i_63_23 rfl F
theorem B64_0 {a0 : Nat} {x1 : Int32} {h : am_H} {Q : am_H → Option Value → Prop} (F : am_wf h a0 5 0 (.int 0) (fun h1 => am_Run (64, 5, [some (.ref a0), some (.int x1), none, none, none, none], [], h1) Q)) : am_Run (64, 0, [some (.ref a0), some (.int x1), none, none, none, none], [], h) Q := by
  refine ar_aload_n i_64_0 rfl ?_
  refine ar_iconst i_64_1 ?_
  exact ar_put i_64_2 rfl F
theorem B64_5 {a0 : Nat} {x1 : Int32} {h : am_H} {Q : am_H → Option Value → Prop} (F : am_Run (64, 15, [some (.ref a0), some (.int x1), some (.int 0), some (.int 0), some (.int 0), some (.int 1)], [], h) Q) : am_Run (64, 5, [some (.ref a0), some (.int x1), none, none, none, none], [], h) Q := by
  refine ar_iconst i_64_5 ?_
  refine ar_istore_n i_64_6 rfl ?_
  refine ar_iconst i_64_7 ?_
  refine ar_istore_n i_64_8 rfl ?_
  refine ar_iconst i_64_9 ?_
  refine ar_istore i_64_10 rfl ?_
  refine ar_iconst i_64_12 ?_
  refine ar_istore i_64_13 rfl ?_
  exact F
theorem B64_15 {a0 : Nat} {x1 : Int32} {x2 : Int32} {x3 : Int32} {x4 : Int32} {x5 : Int32} {h : am_H} {Q : am_H → Option Value → Prop} (F : (∃ v1 : Int32, am_gi h a0 5 3 v1 ∧ ((v1 < x5 → (((x1.toInt < 0 ∨ 5 < x1.toInt) → ((x1 ≤ 9 → Q h (some (.int ((-1))))) ∧ (¬ x1 ≤ 9 → ((20 ≤ x1 → Q h (some (.int ((-1))))) ∧ (¬ 20 ≤ x1 → (am_is h a0 5 ∧ am_Run (am_in 42 [.ref a0, .int (x1 - 10)] h) (fun h1 v => am_Run (am_bk (64, 158, [some (.ref a0), some (.int x1), some (.int x2), some (.int x3), some (.int x4), some (.int x5)], [], h) h1 v) Q))))))) ∧ (x1 = nI 0 → (∃ v2 : Int32, am_gi h a0 5 1 v2 ∧ Q h (some (.int v2)))) ∧ (x1 = nI 1 → (∃ v3 : Int32, am_gi h a0 5 2 v3 ∧ Q h (some (.int v3)))) ∧ (x1 = nI 2 → (∃ v4 : Int32, am_gi h a0 5 3 v4 ∧ Q h (some (.int v4)))) ∧ (x1 = nI 3 → Q h (some (.int x2))) ∧ (x1 = nI 4 → Q h (some (.int x3))) ∧ (x1 = nI 5 → Q h (some (.int x4))))) ∧ (¬ v1 < x5 → (∃ r5 : Nat, am_gr h a0 5 13 r5 ∧ (∃ v6 : Int32, am_ai h r5 x5 v6 ∧ ((¬ v6 = 0 → am_Run (64, 40, [some (.ref a0), some (.int x1), some (.int x2), some (.int x3), some (.int x4), some (.int x5)], [.int 0, .int x2], h) Q) ∧ (v6 = 0 → am_Run (64, 40, [some (.ref a0), some (.int x1), some (.int x2), some (.int x3), some (.int x4), some (.int x5)], [.int 1, .int x2], h) Q)))))))) : am_Run (64, 15, [some (.ref a0), some (.int x1), some (.int x2), some (.int x3), some (.int x4), some (.int x5)], [], h) Q := by
  refine ar_iload i_64_15 rfl ?_
  refine ar_aload_n i_64_17 rfl ?_
  obtain ⟨v1, g_v1, F⟩ := F
  refine ar_getI i_64_18 g_v1 ?_
  refine ar_icmp_gt i_64_21 (fun q => ?_) (fun q => ?_)
  · replace F := F.1 q
    refine ar_iload_n i_64_77 rfl ?_
    refine ar_tab i_64_78 (fun q => ?_) (fun j o hj hx ho => ?_) (by decide) (by decide)
    · replace F := F.1 q
      show am_Run (64, 138, [some (.ref a0), some (.int x1), some (.int x2), some (.int x3), some (.int x4), some (.int x5)], [], h) Q
      refine ar_iload_n i_64_138 rfl ?_
      refine ar_bipush i_64_139 ?_
      refine ar_icmp_le i_64_141 (fun q => ?_) (fun q => ?_)
      · replace F := F.1 q
        refine ar_iconst i_64_161 ?_
        exact ar_iret i_64_162 rfl F
      · replace F := F.2 q
        refine ar_iload_n i_64_144 rfl ?_
        refine ar_bipush i_64_145 ?_
        refine ar_icmp_ge i_64_147 (fun q => ?_) (fun q => ?_)
        · replace F := F.1 q
          refine ar_iconst i_64_161 ?_
          exact ar_iret i_64_162 rfl F
        · replace F := F.2 q
          refine ar_aload_n i_64_150 rfl ?_
          refine ar_iload_n i_64_151 rfl ?_
          refine ar_bipush i_64_152 ?_
          refine ar_isub i_64_154 ?_
          exact ar_callV i_64_155 rfl rfl F.1 (Nat.le_of_ble_eq_true rfl) (Nat.le_of_ble_eq_true rfl) F.2
    · have hj2 : j < 6 := by omega
      replace F := F.2
      match j, hj2, hx, ho with
      | 0, _, hx, ho =>
        cases ho
        refine ⟨by decide, ?_⟩
        replace F := F.1 hx
        show am_Run (64, 116, [some (.ref a0), some (.int x1), some (.int x2), some (.int x3), some (.int x4), some (.int x5)], [], h) Q
        refine ar_aload_n i_64_116 rfl ?_
        obtain ⟨v2, g_v2, F⟩ := F
        refine ar_getI i_64_117 g_v2 ?_
        exact ar_iret i_64_120 rfl F
      | 1, _, hx, ho =>
        cases ho
        refine ⟨by decide, ?_⟩
        replace F := F.2.1 hx
        show am_Run (64, 121, [some (.ref a0), some (.int x1), some (.int x2), some (.int x3), some (.int x4), some (.int x5)], [], h) Q
        refine ar_aload_n i_64_121 rfl ?_
        obtain ⟨v3, g_v3, F⟩ := F
        refine ar_getI i_64_122 g_v3 ?_
        exact ar_iret i_64_125 rfl F
      | 2, _, hx, ho =>
        cases ho
        refine ⟨by decide, ?_⟩
        replace F := F.2.2.1 hx
        show am_Run (64, 126, [some (.ref a0), some (.int x1), some (.int x2), some (.int x3), some (.int x4), some (.int x5)], [], h) Q
        refine ar_aload_n i_64_126 rfl ?_
        obtain ⟨v4, g_v4, F⟩ := F
        refine ar_getI i_64_127 g_v4 ?_
        exact ar_iret i_64_130 rfl F
      | 3, _, hx, ho =>
        cases ho
        refine ⟨by decide, ?_⟩
        replace F := F.2.2.2.1 hx
        show am_Run (64, 131, [some (.ref a0), some (.int x1), some (.int x2), some (.int x3), some (.int x4), some (.int x5)], [], h) Q
        refine ar_iload_n i_64_131 rfl ?_
        exact ar_iret i_64_132 rfl F
      | 4, _, hx, ho =>
        cases ho
        refine ⟨by decide, ?_⟩
        replace F := F.2.2.2.2.1 hx
        show am_Run (64, 133, [some (.ref a0), some (.int x1), some (.int x2), some (.int x3), some (.int x4), some (.int x5)], [], h) Q
        refine ar_iload_n i_64_133 rfl ?_
        exact ar_iret i_64_134 rfl F
      | 5, _, hx, ho =>
        cases ho
        refine ⟨by decide, ?_⟩
        replace F := F.2.2.2.2.2 hx
        show am_Run (64, 135, [some (.ref a0), some (.int x1), some (.int x2), some (.int x3), some (.int x4), some (.int x5)], [], h) Q
        refine ar_iload i_64_135 rfl ?_
        exact ar_iret i_64_137 rfl F
  · replace F := F.2 q
    refine ar_iload_n i_64_24 rfl ?_
    refine ar_aload_n i_64_25 rfl ?_
    obtain ⟨r5, g_r5, F⟩ := F
    refine ar_getR i_64_26 g_r5 ?_
    refine ar_iload i_64_29 rfl ?_
    obtain ⟨v6, g_v6, F⟩ := F
    refine ar_iald i_64_31 g_v6 ?_
    refine ar_if_ne i_64_32 (fun q => ?_) (fun q => ?_)
    · replace F := F.1 q
      refine ar_iconst i_64_39 ?_
      exact F
    · replace F := F.2 q
      refine ar_iconst i_64_35 ?_
      refine ar_goto i_64_36 ?_
      exact F
theorem B64_40 {a0 : Nat} {x1 : Int32} {x2 : Int32} {x3 : Int32} {x4 : Int32} {x5 : Int32} {y1 : Int32} {y0 : Int32} {h : am_H} {Q : am_H → Option Value → Prop} (F : (am_is h a0 5 ∧ am_Run (am_in 39 [.ref a0, .int x5] h) (fun h1 v => am_Run (am_bk (64, 49, [some (.ref a0), some (.int x1), some (.int (y0 + y1)), some (.int x3), some (.int x4), some (.int x5)], [.int x3], h) h1 v) Q))) : am_Run (64, 40, [some (.ref a0), some (.int x1), some (.int x2), some (.int x3), some (.int x4), some (.int x5)], [.int y1, .int y0], h) Q := by
  refine ar_iadd i_64_40 ?_
  refine ar_istore_n i_64_41 rfl ?_
  refine ar_iload_n i_64_42 rfl ?_
  refine ar_aload_n i_64_43 rfl ?_
  refine ar_iload i_64_44 rfl ?_
  exact ar_callV i_64_46 rfl rfl F.1 (Nat.le_of_ble_eq_true rfl) (Nat.le_of_ble_eq_true rfl) F.2
theorem B64_49 {a0 : Nat} {x1 : Int32} {x2 : Int32} {x3 : Int32} {x4 : Int32} {x5 : Int32} {y1 : Int32} {y0 : Int32} {h : am_H} {Q : am_H → Option Value → Prop} (F : ((y1 = 0 → am_Run (64, 57, [some (.ref a0), some (.int x1), some (.int x2), some (.int x3), some (.int x4), some (.int x5)], [.int 0, .int y0], h) Q) ∧ (¬ y1 = 0 → am_Run (64, 57, [some (.ref a0), some (.int x1), some (.int x2), some (.int x3), some (.int x4), some (.int x5)], [.int 1, .int y0], h) Q))) : am_Run (64, 49, [some (.ref a0), some (.int x1), some (.int x2), some (.int x3), some (.int x4), some (.int x5)], [.int y1, .int y0], h) Q := by
  refine ar_if_eq i_64_49 (fun q => ?_) (fun q => ?_)
  · replace F := F.1 q
    refine ar_iconst i_64_56 ?_
    exact F
  · replace F := F.2 q
    refine ar_iconst i_64_52 ?_
    refine ar_goto i_64_53 ?_
    exact F
theorem B64_57 {a0 : Nat} {x1 : Int32} {x2 : Int32} {x3 : Int32} {x4 : Int32} {x5 : Int32} {y1 : Int32} {y0 : Int32} {h : am_H} {Q : am_H → Option Value → Prop} (F : (∃ r1 : Nat, am_gr h a0 5 16 r1 ∧ (∃ v2 : Int32, am_ai h r1 x5 v2 ∧ am_Run (64, 15, [some (.ref a0), some (.int x1), some (.int x2), some (.int (y0 + y1)), some (.int (x4 + v2)), some (.int (x5 + 1))], [], h) Q))) : am_Run (64, 57, [some (.ref a0), some (.int x1), some (.int x2), some (.int x3), some (.int x4), some (.int x5)], [.int y1, .int y0], h) Q := by
  refine ar_iadd i_64_57 ?_
  refine ar_istore_n i_64_58 rfl ?_
  refine ar_iload i_64_59 rfl ?_
  refine ar_aload_n i_64_61 rfl ?_
  obtain ⟨r1, g_r1, F⟩ := F
  refine ar_getR i_64_62 g_r1 ?_
  refine ar_iload i_64_65 rfl ?_
  obtain ⟨v2, g_v2, F⟩ := F
  refine ar_iald i_64_67 g_v2 ?_
  refine ar_iadd i_64_68 ?_
  refine ar_istore i_64_69 rfl ?_
  refine ar_iinc i_64_71 rfl rfl ?_
  refine ar_goto i_64_74 ?_
  exact F
theorem B64_158 {a0 : Nat} {x1 : Int32} {x2 : Int32} {x3 : Int32} {x4 : Int32} {x5 : Int32} {y0 : Int32} {h : am_H} {Q : am_H → Option Value → Prop} (F : Q h (some (.int y0))) : am_Run (64, 158, [some (.ref a0), some (.int x1), some (.int x2), some (.int x3), some (.int x4), some (.int x5)], [.int y0], h) Q := by
  refine ar_goto i_64_158 ?_
  exact ar_iret i_64_162 rfl F
