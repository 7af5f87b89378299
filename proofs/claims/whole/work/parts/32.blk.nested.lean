theorem B65_0 {a0 : Nat} {x1 : Int32} {x2 : Int32} {x3 : Int32} {x4 : Int32} {h : am_H} {Q : am_H → Option Value → Prop} (F : am_wf h a0 1 0 (.int x1) (fun h1 => am_Run (65, 9, [some (.ref a0), some (.int x1), some (.int x2), some (.int x3), some (.int x4)], [], h1) Q)) : am_Run (65, 0, [some (.ref a0), some (.int x1), some (.int x2), some (.int x3), some (.int x4)], [], h) Q := by
  refine ar_aload_n i_65_0 rfl ?_
  refine ar_obj i_65_1 (Nat.le_of_ble_eq_true rfl) ?_
  refine ar_aload_n i_65_4 rfl ?_
  refine ar_iload_n i_65_5 rfl ?_
  exact ar_put i_65_6 rfl F
theorem B65_9 {a0 : Nat} {x1 : Int32} {x2 : Int32} {x3 : Int32} {x4 : Int32} {h : am_H} {Q : am_H → Option Value → Prop} (F : am_wf h a0 1 1 (.int x2) (fun h1 => am_Run (65, 14, [some (.ref a0), some (.int x1), some (.int x2), some (.int x3), some (.int x4)], [], h1) Q)) : am_Run (65, 9, [some (.ref a0), some (.int x1), some (.int x2), some (.int x3), some (.int x4)], [], h) Q := by
  refine ar_aload_n i_65_9 rfl ?_
  refine ar_iload_n i_65_10 rfl ?_
  exact ar_put i_65_11 rfl F
theorem B65_14 {a0 : Nat} {x1 : Int32} {x2 : Int32} {x3 : Int32} {x4 : Int32} {h : am_H} {Q : am_H → Option Value → Prop} (F : am_wf h a0 1 2 (.int x3) (fun h1 => am_Run (65, 19, [some (.ref a0), some (.int x1), some (.int x2), some (.int x3), some (.int x4)], [], h1) Q)) : am_Run (65, 14, [some (.ref a0), some (.int x1), some (.int x2), some (.int x3), some (.int x4)], [], h) Q := by
  refine ar_aload_n i_65_14 rfl ?_
  refine ar_iload_n i_65_15 rfl ?_
  exact ar_put i_65_16 rfl F
theorem B65_19 {a0 : Nat} {x1 : Int32} {x2 : Int32} {x3 : Int32} {x4 : Int32} {h : am_H} {Q : am_H → Option Value → Prop} (F : am_wf h a0 1 3 (.int x4) (fun h1 => am_Run (65, 25, [some (.ref a0), some (.int x1), some (.int x2), some (.int x3), some (.int x4)], [], h1) Q)) : am_Run (65, 19, [some (.ref a0), some (.int x1), some (.int x2), some (.int x3), some (.int x4)], [], h) Q := by
  refine ar_aload_n i_65_19 rfl ?_
  refine ar_iload i_65_20 rfl ?_
  exact ar_put i_65_22 rfl F
theorem B65_25 {a0 : Nat} {x1 : Int32} {x2 : Int32} {x3 : Int32} {x4 : Int32} {h : am_H} {Q : am_H → Option Value → Prop} (F : Q h none) : am_Run (65, 25, [some (.ref a0), some (.int x1), some (.int x2), some (.int x3), some (.int x4)], [], h) Q := by
  exact ar_vret i_65_25 F
theorem B66_0_1 {a0 : Nat} {x1 : Int32} {x2 : Int32} {h : am_H} {Q : am_H → Option Value → Prop} (F : am_wf h a0 3 0 (.int x1) (fun h1 => am_Run (66, 9, [some (.ref a0), some (.int x1), some (.int x2), some (.null)], [], h1) Q)) : am_Run (66, 0, [some (.ref a0), some (.int x1), some (.int x2), some (.null)], [], h) Q := by
  refine ar_aload_n i_66_0 rfl ?_
  refine ar_obj i_66_1 (Nat.le_of_ble_eq_true rfl) ?_
  refine ar_aload_n i_66_4 rfl ?_
  refine ar_iload_n i_66_5 rfl ?_
  exact ar_put i_66_6 rfl F
theorem B66_0 {a0 : Nat} {x1 : Int32} {x2 : Int32} {a3 : Nat} {h : am_H} {Q : am_H → Option Value → Prop} (F : am_wf h a0 3 0 (.int x1) (fun h1 => am_Run (66, 9, [some (.ref a0), some (.int x1), some (.int x2), some (.ref a3)], [], h1) Q)) : am_Run (66, 0, [some (.ref a0), some (.int x1), some (.int x2), some (.ref a3)], [], h) Q := by
  refine ar_aload_n i_66_0 rfl ?_
  refine ar_obj i_66_1 (Nat.le_of_ble_eq_true rfl) ?_
  refine ar_aload_n i_66_4 rfl ?_
  refine ar_iload_n i_66_5 rfl ?_
  exact ar_put i_66_6 rfl F
theorem B66_9_1 {a0 : Nat} {x1 : Int32} {x2 : Int32} {h : am_H} {Q : am_H → Option Value → Prop} (F : am_wf h a0 3 1 (.int x2) (fun h1 => am_Run (66, 14, [some (.ref a0), some (.int x1), some (.int x2), some (.null)], [], h1) Q)) : am_Run (66, 9, [some (.ref a0), some (.int x1), some (.int x2), some (.null)], [], h) Q := by
  refine ar_aload_n i_66_9 rfl ?_
  refine ar_iload_n i_66_10 rfl ?_
  exact ar_put i_66_11 rfl F
theorem B66_9 {a0 : Nat} {x1 : Int32} {x2 : Int32} {a3 : Nat} {h : am_H} {Q : am_H → Option Value → Prop} (F : am_wf h a0 3 1 (.int x2) (fun h1 => am_Run (66, 14, [some (.ref a0), some (.int x1), some (.int x2), some (.ref a3)], [], h1) Q)) : am_Run (66, 9, [some (.ref a0), some (.int x1), some (.int x2), some (.ref a3)], [], h) Q := by
  refine ar_aload_n i_66_9 rfl ?_
  refine ar_iload_n i_66_10 rfl ?_
  exact ar_put i_66_11 rfl F
theorem B66_14_1 {a0 : Nat} {x1 : Int32} {x2 : Int32} {h : am_H} {Q : am_H → Option Value → Prop} (F : am_wf h a0 3 2 (.null) (fun h1 => am_Run (66, 19, [some (.ref a0), some (.int x1), some (.int x2), some (.null)], [], h1) Q)) : am_Run (66, 14, [some (.ref a0), some (.int x1), some (.int x2), some (.null)], [], h) Q := by
  refine ar_aload_n i_66_14 rfl ?_
  refine ar_aload_nN i_66_15 rfl ?_
  exact ar_put i_66_16 rfl F
theorem B66_14 {a0 : Nat} {x1 : Int32} {x2 : Int32} {a3 : Nat} {h : am_H} {Q : am_H → Option Value → Prop} (F : am_wf h a0 3 2 (.ref a3) (fun h1 => am_Run (66, 19, [some (.ref a0), some (.int x1), some (.int x2), some (.ref a3)], [], h1) Q)) : am_Run (66, 14, [some (.ref a0), some (.int x1), some (.int x2), some (.ref a3)], [], h) Q := by
  refine ar_aload_n i_66_14 rfl ?_
  refine ar_aload_n i_66_15 rfl ?_
  exact ar_put i_66_16 rfl F
theorem B66_19_1 {a0 : Nat} {x1 : Int32} {x2 : Int32} {h : am_H} {Q : am_H → Option Value → Prop} (F : am_Run (66, 24, [some (.ref a0), some (.int x1), some (.int x2), some (.null)], [.ref h.2.1, .ref a0], (am_new h (100, List.replicate (10 : Int32).toNatClampNeg (am_df 100)) (10 : Int32).toNatClampNeg)) Q) : am_Run (66, 19, [some (.ref a0), some (.int x1), some (.int x2), some (.null)], [], h) Q := by
  refine ar_aload_n i_66_19 rfl ?_
  refine ar_bipush i_66_20 ?_
  exact ar_newa i_66_22 (by decide) F
theorem B66_19 {a0 : Nat} {x1 : Int32} {x2 : Int32} {a3 : Nat} {h : am_H} {Q : am_H → Option Value → Prop} (F : am_Run (66, 24, [some (.ref a0), some (.int x1), some (.int x2), some (.ref a3)], [.ref h.2.1, .ref a0], (am_new h (100, List.replicate (10 : Int32).toNatClampNeg (am_df 100)) (10 : Int32).toNatClampNeg)) Q) : am_Run (66, 19, [some (.ref a0), some (.int x1), some (.int x2), some (.ref a3)], [], h) Q := by
  refine ar_aload_n i_66_19 rfl ?_
  refine ar_bipush i_66_20 ?_
  exact ar_newa i_66_22 (by decide) F
theorem B66_24_1 {a0 : Nat} {x1 : Int32} {x2 : Int32} {b1 : Nat} {b0 : Nat} {h : am_H} {Q : am_H → Option Value → Prop} (F : am_wf h b0 3 3 (.ref b1) (fun h1 => am_Run (66, 27, [some (.ref a0), some (.int x1), some (.int x2), some (.null)], [], h1) Q)) : am_Run (66, 24, [some (.ref a0), some (.int x1), some (.int x2), some (.null)], [.ref b1, .ref b0], h) Q := by
  exact ar_put i_66_24 rfl F
theorem B66_24 {a0 : Nat} {x1 : Int32} {x2 : Int32} {a3 : Nat} {b1 : Nat} {b0 : Nat} {h : am_H} {Q : am_H → Option Value → Prop} (F : am_wf h b0 3 3 (.ref b1) (fun h1 => am_Run (66, 27, [some (.ref a0), some (.int x1), some (.int x2), some (.ref a3)], [], h1) Q)) : am_Run (66, 24, [some (.ref a0), some (.int x1), some (.int x2), some (.ref a3)], [.ref b1, .ref b0], h) Q := by
  exact ar_put i_66_24 rfl F
theorem B66_27_1 {a0 : Nat} {x1 : Int32} {x2 : Int32} {h : am_H} {Q : am_H → Option Value → Prop} (F : Q h none) : am_Run (66, 27, [some (.ref a0), some (.int x1), some (.int x2), some (.null)], [], h) Q := by
  exact ar_vret i_66_27 F
theorem B66_27 {a0 : Nat} {x1 : Int32} {x2 : Int32} {a3 : Nat} {h : am_H} {Q : am_H → Option Value → Prop} (F : Q h none) : am_Run (66, 27, [some (.ref a0), some (.int x1), some (.int x2), some (.ref a3)], [], h) Q := by
  exact ar_vret i_66_27 F
theorem B67_0 {a0 : Nat} {x1 : Int32} {h : am_H} {Q : am_H → Option Value → Prop} (F : (∃ r1 : Nat, am_gr h a0 3 3 r1 ∧ (∃ v2 : Int32, am_ai h r1 x1 v2 ∧ ((v2 = 0 → (∃ r3 : Nat, am_gr h a0 3 3 r3 ∧ (∃ v4 : Int32, am_ai h r3 0 v4 ∧ Q h (some (.int v4))))) ∧ (¬ v2 = 0 → (∃ r5 : Nat, am_gr h a0 3 3 r5 ∧ (∃ v6 : Int32, am_ai h r5 x1 v6 ∧ Q h (some (.int v6))))))))) : am_Run (67, 0, [some (.ref a0), some (.int x1)], [], h) Q := by
  refine ar_aload_n i_67_0 rfl ?_
  obtain ⟨r1, g_r1, F⟩ := F
  refine ar_getR i_67_1 g_r1 ?_
  refine ar_iload_n i_67_4 rfl ?_
  obtain ⟨v2, g_v2, F⟩ := F
  refine ar_iald i_67_5 g_v2 ?_
  refine ar_if_eq i_67_6 (fun q => ?_) (fun q => ?_)
  · replace F := F.1 q
    refine ar_aload_n i_67_18 rfl ?_
    obtain ⟨r3, g_r3, F⟩ := F
    refine ar_getR i_67_19 g_r3 ?_
    refine ar_iconst i_67_22 ?_
    obtain ⟨v4, g_v4, F⟩ := F
    refine ar_iald i_67_23 g_v4 ?_
    exact ar_iret i_67_24 rfl F
  · replace F := F.2 q
    refine ar_aload_n i_67_9 rfl ?_
    obtain ⟨r5, g_r5, F⟩ := F
    refine ar_getR i_67_10 g_r5 ?_
    refine ar_iload_n i_67_13 rfl ?_
    obtain ⟨v6, g_v6, F⟩ := F
    refine ar_iald i_67_14 g_v6 ?_
    refine ar_goto i_67_15 ?_
    exact ar_iret i_67_24 rfl F
theorem B68_0_3 {a0 : Nat} {x1 : Int32} {l4 : Int64} {h : am_H} {Q : am_H → Option Value → Prop} (F : am_wf h a0 4 0 (.int x1) (fun h1 => am_Run (68, 9, [some (.ref a0), some (.int x1), some (.null), some (.null), some (.long l4), none], [], h1) Q)) : am_Run (68, 0, [some (.ref a0), some (.int x1), some (.null), some (.null), some (.long l4), none], [], h) Q := by
  refine ar_aload_n i_68_0 rfl ?_
  refine ar_obj i_68_1 (Nat.le_of_ble_eq_true rfl) ?_
  refine ar_aload_n i_68_4 rfl ?_
  refine ar_iload_n i_68_5 rfl ?_
  exact ar_put i_68_6 rfl F
theorem B68_0_2 {a0 : Nat} {x1 : Int32} {a3 : Nat} {l4 : Int64} {h : am_H} {Q : am_H → Option Value → Prop} (F : am_wf h a0 4 0 (.int x1) (fun h1 => am_Run (68, 9, [some (.ref a0), some (.int x1), some (.null), some (.ref a3), some (.long l4), none], [], h1) Q)) : am_Run (68, 0, [some (.ref a0), some (.int x1), some (.null), some (.ref a3), some (.long l4), none], [], h) Q := by
  refine ar_aload_n i_68_0 rfl ?_
  refine ar_obj i_68_1 (Nat.le_of_ble_eq_true rfl) ?_
  refine ar_aload_n i_68_4 rfl ?_
  refine ar_iload_n i_68_5 rfl ?_
  exact ar_put i_68_6 rfl F
theorem B68_0_1 {a0 : Nat} {x1 : Int32} {a2 : Nat} {l4 : Int64} {h : am_H} {Q : am_H → Option Value → Prop} (F : am_wf h a0 4 0 (.int x1) (fun h1 => am_Run (68, 9, [some (.ref a0), some (.int x1), some (.ref a2), some (.null), some (.long l4), none], [], h1) Q)) : am_Run (68, 0, [some (.ref a0), some (.int x1), some (.ref a2), some (.null), some (.long l4), none], [], h) Q := by
  refine ar_aload_n i_68_0 rfl ?_
  refine ar_obj i_68_1 (Nat.le_of_ble_eq_true rfl) ?_
  refine ar_aload_n i_68_4 rfl ?_
  refine ar_iload_n i_68_5 rfl ?_
  exact ar_put i_68_6 rfl F
theorem B68_0 {a0 : Nat} {x1 : Int32} {a2 : Nat} {a3 : Nat} {l4 : Int64} {h : am_H} {Q : am_H → Option Value → Prop} (F : am_wf h a0 4 0 (.int x1) (fun h1 => am_Run (68, 9, [some (.ref a0), some (.int x1), some (.ref a2), some (.ref a3), some (.long l4), none], [], h1) Q)) : am_Run (68, 0, [some (.ref a0), some (.int x1), some (.ref a2), some (.ref a3), some (.long l4), none], [], h) Q := by
  refine ar_aload_n i_68_0 rfl ?_
  refine ar_obj i_68_1 (Nat.le_of_ble_eq_true rfl) ?_
  refine ar_aload_n i_68_4 rfl ?_
  refine ar_iload_n i_68_5 rfl ?_
  exact ar_put i_68_6 rfl F
theorem B68_9_3 {a0 : Nat} {x1 : Int32} {l4 : Int64} {h : am_H} {Q : am_H → Option Value → Prop} (F : am_wf h a0 4 1 (.null) (fun h1 => am_Run (68, 14, [some (.ref a0), some (.int x1), some (.null), some (.null), some (.long l4), none], [], h1) Q)) : am_Run (68, 9, [some (.ref a0), some (.int x1), some (.null), some (.null), some (.long l4), none], [], h) Q := by
  refine ar_aload_n i_68_9 rfl ?_
  refine ar_aload_nN i_68_10 rfl ?_
  exact ar_put i_68_11 rfl F
theorem B68_9_2 {a0 : Nat} {x1 : Int32} {a3 : Nat} {l4 : Int64} {h : am_H} {Q : am_H → Option Value → Prop} (F : am_wf h a0 4 1 (.null) (fun h1 => am_Run (68, 14, [some (.ref a0), some (.int x1), some (.null), some (.ref a3), some (.long l4), none], [], h1) Q)) : am_Run (68, 9, [some (.ref a0), some (.int x1), some (.null), some (.ref a3), some (.long l4), none], [], h) Q := by
  refine ar_aload_n i_68_9 rfl ?_
  refine ar_aload_nN i_68_10 rfl ?_
  exact ar_put i_68_11 rfl F
theorem B68_9_1 {a0 : Nat} {x1 : Int32} {a2 : Nat} {l4 : Int64} {h : am_H} {Q : am_H → Option Value → Prop} (F : am_wf h a0 4 1 (.ref a2) (fun h1 => am_Run (68, 14, [some (.ref a0), some (.int x1), some (.ref a2), some (.null), some (.long l4), none], [], h1) Q)) : am_Run (68, 9, [some (.ref a0), some (.int x1), some (.ref a2), some (.null), some (.long l4), none], [], h) Q := by
  refine ar_aload_n i_68_9 rfl ?_
  refine ar_aload_n i_68_10 rfl ?_
  exact ar_put i_68_11 rfl F
theorem B68_9 {a0 : Nat} {x1 : Int32} {a2 : Nat} {a3 : Nat} {l4 : Int64} {h : am_H} {Q : am_H → Option Value → Prop} (F : am_wf h a0 4 1 (.ref a2) (fun h1 => am_Run (68, 14, [some (.ref a0), some (.int x1), some (.ref a2), some (.ref a3), some (.long l4), none], [], h1) Q)) : am_Run (68, 9, [some (.ref a0), some (.int x1), some (.ref a2), some (.ref a3), some (.long l4), none], [], h) Q := by
  refine ar_aload_n i_68_9 rfl ?_
  refine ar_aload_n i_68_10 rfl ?_
  exact ar_put i_68_11 rfl F
theorem B68_14_3 {a0 : Nat} {x1 : Int32} {l4 : Int64} {h : am_H} {Q : am_H → Option Value → Prop} (F : am_wf h a0 4 2 (.null) (fun h1 => am_Run (68, 19, [some (.ref a0), some (.int x1), some (.null), some (.null), some (.long l4), none], [], h1) Q)) : am_Run (68, 14, [some (.ref a0), some (.int x1), some (.null), some (.null), some (.long l4), none], [], h) Q := by
  refine ar_aload_n i_68_14 rfl ?_
  refine ar_aload_nN i_68_15 rfl ?_
  exact ar_put i_68_16 rfl F
theorem B68_14_2 {a0 : Nat} {x1 : Int32} {a3 : Nat} {l4 : Int64} {h : am_H} {Q : am_H → Option Value → Prop} (F : am_wf h a0 4 2 (.ref a3) (fun h1 => am_Run (68, 19, [some (.ref a0), some (.int x1), some (.null), some (.ref a3), some (.long l4), none], [], h1) Q)) : am_Run (68, 14, [some (.ref a0), some (.int x1), some (.null), some (.ref a3), some (.long l4), none], [], h) Q := by
  refine ar_aload_n i_68_14 rfl ?_
  refine ar_aload_n i_68_15 rfl ?_
  exact ar_put i_68_16 rfl F
theorem B68_14_1 {a0 : Nat} {x1 : Int32} {a2 : Nat} {l4 : Int64} {h : am_H} {Q : am_H → Option Value → Prop} (F : am_wf h a0 4 2 (.null) (fun h1 => am_Run (68, 19, [some (.ref a0), some (.int x1), some (.ref a2), some (.null), some (.long l4), none], [], h1) Q)) : am_Run (68, 14, [some (.ref a0), some (.int x1), some (.ref a2), some (.null), some (.long l4), none], [], h) Q := by
  refine ar_aload_n i_68_14 rfl ?_
  refine ar_aload_nN i_68_15 rfl ?_
  exact ar_put i_68_16 rfl F
theorem B68_14 {a0 : Nat} {x1 : Int32} {a2 : Nat} {a3 : Nat} {l4 : Int64} {h : am_H} {Q : am_H → Option Value → Prop} (F : am_wf h a0 4 2 (.ref a3) (fun h1 => am_Run (68, 19, [some (.ref a0), some (.int x1), some (.ref a2), some (.ref a3), some (.long l4), none], [], h1) Q)) : am_Run (68, 14, [some (.ref a0), some (.int x1), some (.ref a2), some (.ref a3), some (.long l4), none], [], h) Q := by
  refine ar_aload_n i_68_14 rfl ?_
  refine ar_aload_n i_68_15 rfl ?_
  exact ar_put i_68_16 rfl F
theorem B68_19_3 {a0 : Nat} {x1 : Int32} {l4 : Int64} {h : am_H} {Q : am_H → Option Value → Prop} (F : am_wf h a0 4 3 (.long l4) (fun h1 => am_Run (68, 25, [some (.ref a0), some (.int x1), some (.null), some (.null), some (.long l4), none], [], h1) Q)) : am_Run (68, 19, [some (.ref a0), some (.int x1), some (.null), some (.null), some (.long l4), none], [], h) Q := by
  refine ar_aload_n i_68_19 rfl ?_
  refine ar_lload i_68_20 rfl ?_
  exact ar_put i_68_22 rfl F
theorem B68_19_2 {a0 : Nat} {x1 : Int32} {a3 : Nat} {l4 : Int64} {h : am_H} {Q : am_H → Option Value → Prop} (F : am_wf h a0 4 3 (.long l4) (fun h1 => am_Run (68, 25, [some (.ref a0), some (.int x1), some (.null), some (.ref a3), some (.long l4), none], [], h1) Q)) : am_Run (68, 19, [some (.ref a0), some (.int x1), some (.null), some (.ref a3), some (.long l4), none], [], h) Q := by
  refine ar_aload_n i_68_19 rfl ?_
  refine ar_lload i_68_20 rfl ?_
  exact ar_put i_68_22 rfl F
theorem B68_19_1 {a0 : Nat} {x1 : Int32} {a2 : Nat} {l4 : Int64} {h : am_H} {Q : am_H → Option Value → Prop} (F : am_wf h a0 4 3 (.long l4) (fun h1 => am_Run (68, 25, [some (.ref a0), some (.int x1), some (.ref a2), some (.null), some (.long l4), none], [], h1) Q)) : am_Run (68, 19, [some (.ref a0), some (.int x1), some (.ref a2), some (.null), some (.long l4), none], [], h) Q := by
  refine ar_aload_n i_68_19 rfl ?_
  refine ar_lload i_68_20 rfl ?_
  exact ar_put i_68_22 rfl F
theorem B68_19 {a0 : Nat} {x1 : Int32} {a2 : Nat} {a3 : Nat} {l4 : Int64} {h : am_H} {Q : am_H → Option Value → Prop} (F : am_wf h a0 4 3 (.long l4) (fun h1 => am_Run (68, 25, [some (.ref a0), some (.int x1), some (.ref a2), some (.ref a3), some (.long l4), none], [], h1) Q)) : am_Run (68, 19, [some (.ref a0), some (.int x1), some (.ref a2), some (.ref a3), some (.long l4), none], [], h) Q := by
  refine ar_aload_n i_68_19 rfl ?_
  refine ar_lload i_68_20 rfl ?_
  exact ar_put i_68_22 rfl F
theorem B68_25_3 {a0 : Nat} {x1 : Int32} {l4 : Int64} {h : am_H} {Q : am_H → Option Value → Prop} (F : am_wf h a0 4 4 (.int 0) (fun h1 => am_Run (68, 30, [some (.ref a0), some (.int x1), some (.null), some (.null), some (.long l4), none], [], h1) Q)) : am_Run (68, 25, [some (.ref a0), some (.int x1), some (.null), some (.null), some (.long l4), none], [], h) Q := by
  refine ar_aload_n i_68_25 rfl ?_
  refine ar_iconst i_68_26 ?_
  exact ar_put i_68_27 rfl F
theorem B68_25_2 {a0 : Nat} {x1 : Int32} {a3 : Nat} {l4 : Int64} {h : am_H} {Q : am_H → Option Value → Prop} (F : am_wf h a0 4 4 (.int 0) (fun h1 => am_Run (68, 30, [some (.ref a0), some (.int x1), some (.null), some (.ref a3), some (.long l4), none], [], h1) Q)) : am_Run (68, 25, [some (.ref a0), some (.int x1), some (.null), some (.ref a3), some (.long l4), none], [], h) Q := by
  refine ar_aload_n i_68_25 rfl ?_
  refine ar_iconst i_68_26 ?_
  exact ar_put i_68_27 rfl F
theorem B68_25_1 {a0 : Nat} {x1 : Int32} {a2 : Nat} {l4 : Int64} {h : am_H} {Q : am_H → Option Value → Prop} (F : am_wf h a0 4 4 (.int 0) (fun h1 => am_Run (68, 30, [some (.ref a0), some (.int x1), some (.ref a2), some (.null), some (.long l4), none], [], h1) Q)) : am_Run (68, 25, [some (.ref a0), some (.int x1), some (.ref a2), some (.null), some (.long l4), none], [], h) Q := by
  refine ar_aload_n i_68_25 rfl ?_
  refine ar_iconst i_68_26 ?_
  exact ar_put i_68_27 rfl F
theorem B68_25 {a0 : Nat} {x1 : Int32} {a2 : Nat} {a3 : Nat} {l4 : Int64} {h : am_H} {Q : am_H → Option Value → Prop} (F : am_wf h a0 4 4 (.int 0) (fun h1 => am_Run (68, 30, [some (.ref a0), some (.int x1), some (.ref a2), some (.ref a3), some (.long l4), none], [], h1) Q)) : am_Run (68, 25, [some (.ref a0), some (.int x1), some (.ref a2), some (.ref a3), some (.long l4), none], [], h) Q := by
  refine ar_aload_n i_68_25 rfl ?_
  refine ar_iconst i_68_26 ?_
  exact ar_put i_68_27 rfl F
theorem B68_30_3 {a0 : Nat} {x1 : Int32} {l4 : Int64} {h : am_H} {Q : am_H → Option Value → Prop} (F : am_wf h a0 4 5 (.int ((-1))) (fun h1 => am_Run (68, 35, [some (.ref a0), some (.int x1), some (.null), some (.null), some (.long l4), none], [], h1) Q)) : am_Run (68, 30, [some (.ref a0), some (.int x1), some (.null), some (.null), some (.long l4), none], [], h) Q := by
  refine ar_aload_n i_68_30 rfl ?_
  refine ar_iconst i_68_31 ?_
  exact ar_put i_68_32 rfl F
theorem B68_30_2 {a0 : Nat} {x1 : Int32} {a3 : Nat} {l4 : Int64} {h : am_H} {Q : am_H → Option Value → Prop} (F : am_wf h a0 4 5 (.int ((-1))) (fun h1 => am_Run (68, 35, [some (.ref a0), some (.int x1), some (.null), some (.ref a3), some (.long l4), none], [], h1) Q)) : am_Run (68, 30, [some (.ref a0), some (.int x1), some (.null), some (.ref a3), some (.long l4), none], [], h) Q := by
  refine ar_aload_n i_68_30 rfl ?_
  refine ar_iconst i_68_31 ?_
  exact ar_put i_68_32 rfl F
theorem B68_30_1 {a0 : Nat} {x1 : Int32} {a2 : Nat} {l4 : Int64} {h : am_H} {Q : am_H → Option Value → Prop} (F : am_wf h a0 4 5 (.int ((-1))) (fun h1 => am_Run (68, 35, [some (.ref a0), some (.int x1), some (.ref a2), some (.null), some (.long l4), none], [], h1) Q)) : am_Run (68, 30, [some (.ref a0), some (.int x1), some (.ref a2), some (.null), some (.long l4), none], [], h) Q := by
  refine ar_aload_n i_68_30 rfl ?_
  refine ar_iconst i_68_31 ?_
  exact ar_put i_68_32 rfl F
theorem B68_30 {a0 : Nat} {x1 : Int32} {a2 : Nat} {a3 : Nat} {l4 : Int64} {h : am_H} {Q : am_H → Option Value → Prop} (F : am_wf h a0 4 5 (.int ((-1))) (fun h1 => am_Run (68, 35, [some (.ref a0), some (.int x1), some (.ref a2), some (.ref a3), some (.long l4), none], [], h1) Q)) : am_Run (68, 30, [some (.ref a0), some (.int x1), some (.ref a2), some (.ref a3), some (.long l4), none], [], h) Q := by
  refine ar_aload_n i_68_30 rfl ?_
  refine ar_iconst i_68_31 ?_
  exact ar_put i_68_32 rfl F
theorem B68_35_3 {a0 : Nat} {x1 : Int32} {l4 : Int64} {h : am_H} {Q : am_H → Option Value → Prop} (F : am_Run (68, 39, [some (.ref a0), some (.int x1), some (.null), some (.null), some (.long l4), none], [.ref h.2.1, .ref a0], (am_new h (3, am_dfs 3) (am_dfs 3).length)) Q) : am_Run (68, 35, [some (.ref a0), some (.int x1), some (.null), some (.null), some (.long l4), none], [], h) Q := by
  refine ar_aload_n i_68_35 rfl ?_
  exact ar_new i_68_36 F
theorem B68_35_2 {a0 : Nat} {x1 : Int32} {a3 : Nat} {l4 : Int64} {h : am_H} {Q : am_H → Option Value → Prop} (F : am_Run (68, 39, [some (.ref a0), some (.int x1), some (.null), some (.ref a3), some (.long l4), none], [.ref h.2.1, .ref a0], (am_new h (3, am_dfs 3) (am_dfs 3).length)) Q) : am_Run (68, 35, [some (.ref a0), some (.int x1), some (.null), some (.ref a3), some (.long l4), none], [], h) Q := by
  refine ar_aload_n i_68_35 rfl ?_
  exact ar_new i_68_36 F
theorem B68_35_1 {a0 : Nat} {x1 : Int32} {a2 : Nat} {l4 : Int64} {h : am_H} {Q : am_H → Option Value → Prop} (F : am_Run (68, 39, [some (.ref a0), some (.int x1), some (.ref a2), some (.null), some (.long l4), none], [.ref h.2.1, .ref a0], (am_new h (3, am_dfs 3) (am_dfs 3).length)) Q) : am_Run (68, 35, [some (.ref a0), some (.int x1), some (.ref a2), some (.null), some (.long l4), none], [], h) Q := by
  refine ar_aload_n i_68_35 rfl ?_
  exact ar_new i_68_36 F
theorem B68_35 {a0 : Nat} {x1 : Int32} {a2 : Nat} {a3 : Nat} {l4 : Int64} {h : am_H} {Q : am_H → Option Value → Prop} (F : am_Run (68, 39, [some (.ref a0), some (.int x1), some (.ref a2), some (.ref a3), some (.long l4), none], [.ref h.2.1, .ref a0], (am_new h (3, am_dfs 3) (am_dfs 3).length)) Q) : am_Run (68, 35, [some (.ref a0), some (.int x1), some (.ref a2), some (.ref a3), some (.long l4), none], [], h) Q := by
  refine ar_aload_n i_68_35 rfl ?_
  exact ar_new i_68_36 F
theorem B68_39_3 {a0 : Nat} {x1 : Int32} {l4 : Int64} {b1 : Nat} {b0 : Nat} {h : am_H} {Q : am_H → Option Value → Prop} (F : False) : am_Run (68, 39, [some (.ref a0), some (.int x1), some (.null), some (.null), some (.long l4), none], [.ref b1, .ref b0], h) Q := by
  refine ar_dup i_68_39 rfl ?_
  refine ar_aload_nN i_68_40 rfl ?_
  exact False.elim F
theorem B68_39_2 {a0 : Nat} {x1 : Int32} {a3 : Nat} {l4 : Int64} {b1 : Nat} {b0 : Nat} {h : am_H} {Q : am_H → Option Value → Prop} (F : False) : am_Run (68, 39, [some (.ref a0), some (.int x1), some (.null), some (.ref a3), some (.long l4), none], [.ref b1, .ref b0], h) Q := by
  refine ar_dup i_68_39 rfl ?_
  refine ar_aload_nN i_68_40 rfl ?_
  exact False.elim F
theorem B68_39_1 {a0 : Nat} {x1 : Int32} {a2 : Nat} {l4 : Int64} {b1 : Nat} {b0 : Nat} {h : am_H} {Q : am_H → Option Value → Prop} (F : (∃ v1 : Int32, am_gi h a2 1 1 v1 ∧ am_Run (am_in 66 [.ref b1, .int v1, .int 1, .null] h) (fun h1 v => am_Run (am_bk (68, 49, [some (.ref a0), some (.int x1), some (.ref a2), some (.null), some (.long l4), none], [.ref b1, .ref b0], h) h1 v) Q))) : am_Run (68, 39, [some (.ref a0), some (.int x1), some (.ref a2), some (.null), some (.long l4), none], [.ref b1, .ref b0], h) Q := by
  refine ar_dup i_68_39 rfl ?_
  refine ar_aload_n i_68_40 rfl ?_
  obtain ⟨v1, g_v1, F⟩ := F
  refine ar_getI i_68_41 g_v1 ?_
  refine ar_iconst i_68_44 ?_
  refine ar_aconst_null i_68_45 ?_
  exact ar_callI i_68_46 (by decide) rfl rfl (Nat.le_of_ble_eq_true rfl) (Nat.le_of_ble_eq_true rfl) F
theorem B68_39 {a0 : Nat} {x1 : Int32} {a2 : Nat} {a3 : Nat} {l4 : Int64} {b1 : Nat} {b0 : Nat} {h : am_H} {Q : am_H → Option Value → Prop} (F : (∃ v1 : Int32, am_gi h a2 1 1 v1 ∧ am_Run (am_in 66 [.ref b1, .int v1, .int 1, .null] h) (fun h1 v => am_Run (am_bk (68, 49, [some (.ref a0), some (.int x1), some (.ref a2), some (.ref a3), some (.long l4), none], [.ref b1, .ref b0], h) h1 v) Q))) : am_Run (68, 39, [some (.ref a0), some (.int x1), some (.ref a2), some (.ref a3), some (.long l4), none], [.ref b1, .ref b0], h) Q := by
  refine ar_dup i_68_39 rfl ?_
  refine ar_aload_n i_68_40 rfl ?_
  obtain ⟨v1, g_v1, F⟩ := F
  refine ar_getI i_68_41 g_v1 ?_
  refine ar_iconst i_68_44 ?_
  refine ar_aconst_null i_68_45 ?_
  exact ar_callI i_68_46 (by decide) rfl rfl (Nat.le_of_ble_eq_true rfl) (Nat.le_of_ble_eq_true rfl) F
theorem B68_49_1 {a0 : Nat} {x1 : Int32} {a2 : Nat} {l4 : Int64} {b1 : Nat} {b0 : Nat} {h : am_H} {Q : am_H → Option Value → Prop} (F : am_wf h b0 4 7 (.ref b1) (fun h1 => am_Run (68, 52, [some (.ref a0), some (.int x1), some (.ref a2), some (.null), some (.long l4), none], [], h1) Q)) : am_Run (68, 49, [some (.ref a0), some (.int x1), some (.ref a2), some (.null), some (.long l4), none], [.ref b1, .ref b0], h) Q := by
  exact ar_put i_68_49 rfl F
theorem B68_49 {a0 : Nat} {x1 : Int32} {a2 : Nat} {a3 : Nat} {l4 : Int64} {b1 : Nat} {b0 : Nat} {h : am_H} {Q : am_H → Option Value → Prop} (F : am_wf h b0 4 7 (.ref b1) (fun h1 => am_Run (68, 52, [some (.ref a0), some (.int x1), some (.ref a2), some (.ref a3), some (.long l4), none], [], h1) Q)) : am_Run (68, 49, [some (.ref a0), some (.int x1), some (.ref a2), some (.ref a3), some (.long l4), none], [.ref b1, .ref b0], h) Q := by
  exact ar_put i_68_49 rfl F
theorem B68_52_1 {a0 : Nat} {x1 : Int32} {a2 : Nat} {l4 : Int64} {h : am_H} {Q : am_H → Option Value → Prop} (F : Q h none) : am_Run (68, 52, [some (.ref a0), some (.int x1), some (.ref a2), some (.null), some (.long l4), none], [], h) Q := by
  exact ar_vret i_68_52 F
theorem B68_52 {a0 : Nat} {x1 : Int32} {a2 : Nat} {a3 : Nat} {l4 : Int64} {h : am_H} {Q : am_H → Option Value → Prop} (F : Q h none) : am_Run (68, 52, [some (.ref a0), some (.int x1), some (.ref a2), some (.ref a3), some (.long l4), none], [], h) Q := by
  exact ar_vret i_68_52 F
theorem B69_0 {a0 : Nat} {h : am_H} {Q : am_H → Option Value → Prop} (F : (∃ v1 : Int32, am_gi h a0 4 4 v1 ∧ ((v1 = 1 → am_Run (69, 16, [some (.ref a0)], [], h) Q) ∧ (¬ v1 = 1 → (∃ v2 : Int32, am_gi h a0 4 4 v2 ∧ ((¬ v2 = 2 → Q h (some (.int 0))) ∧ (v2 = 2 → am_Run (69, 16, [some (.ref a0)], [], h) Q))))))) : am_Run (69, 0, [some (.ref a0)], [], h) Q := by
  refine ar_aload_n i_69_0 rfl ?_
  obtain ⟨v1, g_v1, F⟩ := F
  refine ar_getI i_69_1 g_v1 ?_
  refine ar_iconst i_69_4 ?_
  refine ar_icmp_eq i_69_5 (fun q => ?_) (fun q => ?_)
  · replace F := F.1 q
    exact F
  · replace F := F.2 q
    refine ar_aload_n i_69_8 rfl ?_
    obtain ⟨v2, g_v2, F⟩ := F
    refine ar_getI i_69_9 g_v2 ?_
    refine ar_iconst i_69_12 ?_
    refine ar_icmp_ne i_69_13 (fun q => ?_) (fun q => ?_)
    · replace F := F.1 q
      refine ar_iconst i_69_20 ?_
      exact ar_iret i_69_21 rfl F
    · replace F := F.2 q
      exact F
theorem B69_16 {a0 : Nat} {h : am_H} {Q : am_H → Option Value → Prop} (F : Q h (some (.int 1))) : am_Run (69, 16, [some (.ref a0)], [], h) Q := by
  refine ar_iconst i_69_16 ?_
  refine ar_goto i_69_17 ?_
  exact ar_iret i_69_21 rfl F
theorem B70_0 {a0 : Nat} {x1 : Int32} {h : am_H} {Q : am_H → Option Value → Prop} (F : am_wf h a0 2 0 (.int x1) (fun h1 => am_Run (70, 9, [some (.ref a0), some (.int x1)], [], h1) Q)) : am_Run (70, 0, [some (.ref a0), some (.int x1)], [], h) Q := by
  refine ar_aload_n i_70_0 rfl ?_
  refine ar_obj i_70_1 (Nat.le_of_ble_eq_true rfl) ?_
  refine ar_aload_n i_70_4 rfl ?_
  refine ar_iload_n i_70_5 rfl ?_
  exact ar_put i_70_6 rfl F
theorem B70_9 {a0 : Nat} {x1 : Int32} {h : am_H} {Q : am_H → Option Value → Prop} (F : Q h none) : am_Run (70, 9, [some (.ref a0), some (.int x1)], [], h) Q := by
  exact ar_vret i_70_9 F
