theorem e_0 (a0 : Nat) (h : am_H) : am_in 0 [.ref a0] h = (0, 0, [some (.ref a0), none], [], h) := rfl
theorem e_1 (a0 : Nat) (x1 : Int32) (x2 : Int32) (x3 : Int32) (h : am_H) : am_in 1 [.ref a0, .int x1, .int x2, .int x3] h = (1, 0, [some (.ref a0), some (.int x1), some (.int x2), some (.int x3)], [], h) := rfl
theorem e_2 (a0 : Nat) (h : am_H) : am_in 2 [.ref a0] h = (2, 0, [some (.ref a0)], [], h) := rfl
theorem e_3 (a0 : Nat) (x1 : Int32) (x2 : Int32) (l3 : Int64) (h : am_H) : am_in 3 [.ref a0, .int x1, .int x2, .long l3] h = (3, 0, [some (.ref a0), some (.int x1), some (.int x2), some (.long l3), none, none, none], [], h) := rfl
theorem e_4 (a0 : Nat) (x1 : Int32) (x2 : Int32) (x3 : Int32) (h : am_H) : am_in 4 [.ref a0, .int x1, .int x2, .int x3] h = (4, 0, [some (.ref a0), some (.int x1), some (.int x2), some (.int x3), none, none], [], h) := rfl
theorem e_5 (a0 : Nat) (x1 : Int32) (x2 : Int32) (h : am_H) : am_in 5 [.ref a0, .int x1, .int x2] h = (5, 0, [some (.ref a0), some (.int x1), some (.int x2), none], [], h) := rfl
theorem e_6 (a0 : Nat) (x1 : Int32) (x2 : Int32) (x3 : Int32) (h : am_H) : am_in 6 [.ref a0, .int x1, .int x2, .int x3] h = (6, 0, [some (.ref a0), some (.int x1), some (.int x2), some (.int x3), none, none, none, none], [], h) := rfl
theorem e_7 (a0 : Nat) (x1 : Int32) (h : am_H) : am_in 7 [.ref a0, .int x1] h = (7, 0, [some (.ref a0), some (.int x1), none], [], h) := rfl
theorem e_8 (a0 : Nat) (x1 : Int32) (x2 : Int32) (h : am_H) : am_in 8 [.ref a0, .int x1, .int x2] h = (8, 0, [some (.ref a0), some (.int x1), some (.int x2), none], [], h) := rfl
theorem e_9 (a0 : Nat) (x1 : Int32) (x2 : Int32) (h : am_H) : am_in 9 [.ref a0, .int x1, .int x2] h = (9, 0, [some (.ref a0), some (.int x1), some (.int x2), none], [], h) := rfl
theorem e_10 (a0 : Nat) (l1 : Int64) (h : am_H) : am_in 10 [.ref a0, .long l1] h = (10, 0, [some (.ref a0), some (.long l1), none], [], h) := rfl
theorem e_11 (a0 : Nat) (x1 : Int32) (h : am_H) : am_in 11 [.ref a0, .int x1] h = (11, 0, [some (.ref a0), some (.int x1), none], [], h) := rfl
theorem e_12 (a0 : Nat) (x1 : Int32) (x2 : Int32) (x3 : Int32) (h : am_H) : am_in 12 [.ref a0, .int x1, .int x2, .int x3] h = (12, 0, [some (.ref a0), some (.int x1), some (.int x2), some (.int x3), none, none], [], h) := rfl
theorem e_13 (a0 : Nat) (x1 : Int32) (x2 : Int32) (h : am_H) : am_in 13 [.ref a0, .int x1, .int x2] h = (13, 0, [some (.ref a0), some (.int x1), some (.int x2), none, none], [], h) := rfl
theorem e_14 (a0 : Nat) (x1 : Int32) (h : am_H) : am_in 14 [.ref a0, .int x1] h = (14, 0, [some (.ref a0), some (.int x1), none], [], h) := rfl
theorem e_15 (a0 : Nat) (x1 : Int32) (x2 : Int32) (h : am_H) : am_in 15 [.ref a0, .int x1, .int x2] h = (15, 0, [some (.ref a0), some (.int x1), some (.int x2), none], [], h) := rfl
theorem e_16 (a0 : Nat) (x1 : Int32) (h : am_H) : am_in 16 [.ref a0, .int x1] h = (16, 0, [some (.ref a0), some (.int x1), none], [], h) := rfl
theorem e_17 (a0 : Nat) (x1 : Int32) (h : am_H) : am_in 17 [.ref a0, .int x1] h = (17, 0, [some (.ref a0), some (.int x1)], [], h) := rfl
theorem e_18 (a0 : Nat) (x1 : Int32) (h : am_H) : am_in 18 [.ref a0, .int x1] h = (18, 0, [some (.ref a0), some (.int x1)], [], h) := rfl
theorem e_19 (a0 : Nat) (x1 : Int32) (h : am_H) : am_in 19 [.ref a0, .int x1] h = (19, 0, [some (.ref a0), some (.int x1), none, none, none], [], h) := rfl
theorem e_20 (a0 : Nat) (h : am_H) : am_in 20 [.ref a0] h = (20, 0, [some (.ref a0), none, none, none], [], h) := rfl
theorem e_21 (x0 : Int32) (x1 : Int32) (h : am_H) : am_in 21 [.int x0, .int x1] h = (21, 0, [some (.int x0), some (.int x1)], [], h) := rfl
theorem e_22 (x0 : Int32) (h : am_H) : am_in 22 [.int x0] h = (22, 0, [some (.int x0)], [], h) := rfl
theorem e_23 (x0 : Int32) (h : am_H) : am_in 23 [.int x0] h = (23, 0, [some (.int x0)], [], h) := rfl
theorem e_24 (x0 : Int32) (h : am_H) : am_in 24 [.int x0] h = (24, 0, [some (.int x0)], [], h) := rfl
theorem e_25 (a0 : Nat) (x1 : Int32) (h : am_H) : am_in 25 [.ref a0, .int x1] h = (25, 0, [some (.ref a0), some (.int x1)], [], h) := rfl
theorem e_26 (a0 : Nat) (x1 : Int32) (h : am_H) : am_in 26 [.ref a0, .int x1] h = (26, 0, [some (.ref a0), some (.int x1)], [], h) := rfl
theorem e_27 (a0 : Nat) (x1 : Int32) (h : am_H) : am_in 27 [.ref a0, .int x1] h = (27, 0, [some (.ref a0), some (.int x1)], [], h) := rfl
theorem e_28 (a0 : Nat) (a1 : Nat) (h : am_H) : am_in 28 [.ref a0, .ref a1] h = (28, 0, [some (.ref a0), some (.ref a1)], [], h) := rfl
theorem e_28_1 (a0 : Nat) (h : am_H) : am_in 28 [.ref a0, .null] h = (28, 0, [some (.ref a0), some .null], [], h) := rfl
theorem e_29 (a0 : Nat) (a1 : Nat) (x2 : Int32) (h : am_H) : am_in 29 [.ref a0, .ref a1, .int x2] h = (29, 0, [some (.ref a0), some (.ref a1), some (.int x2)], [], h) := rfl
theorem e_29_1 (a0 : Nat) (x2 : Int32) (h : am_H) : am_in 29 [.ref a0, .null, .int x2] h = (29, 0, [some (.ref a0), some .null, some (.int x2)], [], h) := rfl
theorem e_30 (a0 : Nat) (a1 : Nat) (x2 : Int32) (h : am_H) : am_in 30 [.ref a0, .ref a1, .int x2] h = (30, 0, [some (.ref a0), some (.ref a1), some (.int x2)], [], h) := rfl
theorem e_30_1 (a0 : Nat) (x2 : Int32) (h : am_H) : am_in 30 [.ref a0, .null, .int x2] h = (30, 0, [some (.ref a0), some .null, some (.int x2)], [], h) := rfl
theorem e_31 (a0 : Nat) (h : am_H) : am_in 31 [.ref a0] h = (31, 0, [some (.ref a0), none, none, none], [], h) := rfl
theorem e_32 (a0 : Nat) (h : am_H) : am_in 32 [.ref a0] h = (32, 0, [some (.ref a0), none, none, none], [], h) := rfl
theorem e_33 (a0 : Nat) (a1 : Nat) (h : am_H) : am_in 33 [.ref a0, .ref a1] h = (33, 0, [some (.ref a0), some (.ref a1)], [], h) := rfl
theorem e_33_1 (a0 : Nat) (h : am_H) : am_in 33 [.ref a0, .null] h = (33, 0, [some (.ref a0), some .null], [], h) := rfl
theorem e_34 (a0 : Nat) (a1 : Nat) (h : am_H) : am_in 34 [.ref a0, .ref a1] h = (34, 0, [some (.ref a0), some (.ref a1)], [], h) := rfl
theorem e_34_1 (a0 : Nat) (h : am_H) : am_in 34 [.ref a0, .null] h = (34, 0, [some (.ref a0), some .null], [], h) := rfl
theorem e_35 (a0 : Nat) (h : am_H) : am_in 35 [.ref a0] h = (35, 0, [some (.ref a0), none], [], h) := rfl
theorem e_36 (a0 : Nat) (x1 : Int32) (h : am_H) : am_in 36 [.ref a0, .int x1] h = (36, 0, [some (.ref a0), some (.int x1)], [], h) := rfl
theorem e_37 (a0 : Nat) (x1 : Int32) (h : am_H) : am_in 37 [.ref a0, .int x1] h = (37, 0, [some (.ref a0), some (.int x1)], [], h) := rfl
theorem e_38 (a0 : Nat) (x1 : Int32) (h : am_H) : am_in 38 [.ref a0, .int x1] h = (38, 0, [some (.ref a0), some (.int x1)], [], h) := rfl
theorem e_39 (a0 : Nat) (x1 : Int32) (h : am_H) : am_in 39 [.ref a0, .int x1] h = (39, 0, [some (.ref a0), some (.int x1)], [], h) := rfl
theorem e_40 (a0 : Nat) (x1 : Int32) (x2 : Int32) (x3 : Int32) (h : am_H) : am_in 40 [.ref a0, .int x1, .int x2, .int x3] h = (40, 0, [some (.ref a0), some (.int x1), some (.int x2), some (.int x3)], [], h) := rfl
theorem e_41 (a0 : Nat) (h : am_H) : am_in 41 [.ref a0] h = (41, 0, [some (.ref a0)], [], h) := rfl
theorem e_42 (a0 : Nat) (x1 : Int32) (h : am_H) : am_in 42 [.ref a0, .int x1] h = (42, 0, [some (.ref a0), some (.int x1), none, none], [], h) := rfl
theorem e_43 (a0 : Nat) (x1 : Int32) (h : am_H) : am_in 43 [.ref a0, .int x1] h = (43, 0, [some (.ref a0), some (.int x1), none, none], [], h) := rfl
theorem e_44 (a0 : Nat) (x1 : Int32) (h : am_H) : am_in 44 [.ref a0, .int x1] h = (44, 0, [some (.ref a0), some (.int x1)], [], h) := rfl
theorem e_45 (x0 : Int32) (x1 : Int32) (h : am_H) : am_in 45 [.int x0, .int x1] h = (45, 0, [some (.int x0), some (.int x1)], [], h) := rfl
theorem e_46 (a0 : Nat) (x1 : Int32) (x2 : Int32) (h : am_H) : am_in 46 [.ref a0, .int x1, .int x2] h = (46, 0, [some (.ref a0), some (.int x1), some (.int x2), none], [], h) := rfl
theorem e_47 (a0 : Nat) (h : am_H) : am_in 47 [.ref a0] h = (47, 0, [some (.ref a0), none, none, none], [], h) := rfl
theorem e_48 (a0 : Nat) (x1 : Int32) (x2 : Int32) (l3 : Int64) (h : am_H) : am_in 48 [.ref a0, .int x1, .int x2, .long l3] h = (48, 0, [some (.ref a0), some (.int x1), some (.int x2), some (.long l3), none, none, none], [], h) := rfl
theorem e_49 (a0 : Nat) (l1 : Int64) (h : am_H) : am_in 49 [.ref a0, .long l1] h = (49, 0, [some (.ref a0), some (.long l1), none], [], h) := rfl
theorem e_50 (a0 : Nat) (x1 : Int32) (x2 : Int32) (h : am_H) : am_in 50 [.ref a0, .int x1, .int x2] h = (50, 0, [some (.ref a0), some (.int x1), some (.int x2), none], [], h) := rfl
theorem e_51 (a0 : Nat) (x1 : Int32) (x2 : Int32) (h : am_H) : am_in 51 [.ref a0, .int x1, .int x2] h = (51, 0, [some (.ref a0), some (.int x1), some (.int x2)], [], h) := rfl
theorem e_52 (a0 : Nat) (x1 : Int32) (x2 : Int32) (x3 : Int32) (h : am_H) : am_in 52 [.ref a0, .int x1, .int x2, .int x3] h = (52, 0, [some (.ref a0), some (.int x1), some (.int x2), some (.int x3)], [], h) := rfl
theorem e_53 (a0 : Nat) (x1 : Int32) (x2 : Int32) (h : am_H) : am_in 53 [.ref a0, .int x1, .int x2] h = (53, 0, [some (.ref a0), some (.int x1), some (.int x2)], [], h) := rfl
theorem e_54 (a0 : Nat) (x1 : Int32) (x2 : Int32) (x3 : Int32) (h : am_H) : am_in 54 [.ref a0, .int x1, .int x2, .int x3] h = (54, 0, [some (.ref a0), some (.int x1), some (.int x2), some (.int x3), none], [], h) := rfl
theorem e_55 (a0 : Nat) (x1 : Int32) (h : am_H) : am_in 55 [.ref a0, .int x1] h = (55, 0, [some (.ref a0), some (.int x1)], [], h) := rfl
theorem e_56 (a0 : Nat) (x1 : Int32) (x2 : Int32) (h : am_H) : am_in 56 [.ref a0, .int x1, .int x2] h = (56, 0, [some (.ref a0), some (.int x1), some (.int x2)], [], h) := rfl
theorem e_57 (a0 : Nat) (x1 : Int32) (x2 : Int32) (h : am_H) : am_in 57 [.ref a0, .int x1, .int x2] h = (57, 0, [some (.ref a0), some (.int x1), some (.int x2)], [], h) := rfl
theorem e_58 (a0 : Nat) (x1 : Int32) (x2 : Int32) (x3 : Int32) (h : am_H) : am_in 58 [.ref a0, .int x1, .int x2, .int x3] h = (58, 0, [some (.ref a0), some (.int x1), some (.int x2), some (.int x3), none], [], h) := rfl
theorem e_59 (a0 : Nat) (x1 : Int32) (x2 : Int32) (h : am_H) : am_in 59 [.ref a0, .int x1, .int x2] h = (59, 0, [some (.ref a0), some (.int x1), some (.int x2), none, none], [], h) := rfl
theorem e_60 (a0 : Nat) (x1 : Int32) (h : am_H) : am_in 60 [.ref a0, .int x1] h = (60, 0, [some (.ref a0), some (.int x1)], [], h) := rfl
theorem e_61 (a0 : Nat) (x1 : Int32) (h : am_H) : am_in 61 [.ref a0, .int x1] h = (61, 0, [some (.ref a0), some (.int x1)], [], h) := rfl
theorem e_62 (a0 : Nat) (x1 : Int32) (x2 : Int32) (h : am_H) : am_in 62 [.ref a0, .int x1, .int x2] h = (62, 0, [some (.ref a0), some (.int x1), some (.int x2)], [], h) := rfl
theorem e_63 (a0 : Nat) (x1 : Int32) (h : am_H) : am_in 63 [.ref a0, .int x1] h = (63, 0, [some (.ref a0), some (.int x1)], [], h) := rfl
theorem e_64 (a0 : Nat) (x1 : Int32) (h : am_H) : am_in 64 [.ref a0, .int x1] h = (64, 0, [some (.ref a0), some (.int x1), none, none, none, none], [], h) := rfl
theorem e_65 (a0 : Nat) (x1 : Int32) (x2 : Int32) (x3 : Int32) (x4 : Int32) (h : am_H) : am_in 65 [.ref a0, .int x1, .int x2, .int x3, .int x4] h = (65, 0, [some (.ref a0), some (.int x1), some (.int x2), some (.int x3), some (.int x4)], [], h) := rfl
theorem e_66 (a0 : Nat) (x1 : Int32) (x2 : Int32) (a3 : Nat) (h : am_H) : am_in 66 [.ref a0, .int x1, .int x2, .ref a3] h = (66, 0, [some (.ref a0), some (.int x1), some (.int x2), some (.ref a3)], [], h) := rfl
theorem e_66_1 (a0 : Nat) (x1 : Int32) (x2 : Int32) (h : am_H) : am_in 66 [.ref a0, .int x1, .int x2, .null] h = (66, 0, [some (.ref a0), some (.int x1), some (.int x2), some .null], [], h) := rfl
theorem e_67 (a0 : Nat) (x1 : Int32) (h : am_H) : am_in 67 [.ref a0, .int x1] h = (67, 0, [some (.ref a0), some (.int x1)], [], h) := rfl
theorem e_68 (a0 : Nat) (x1 : Int32) (a2 : Nat) (a3 : Nat) (l4 : Int64) (h : am_H) : am_in 68 [.ref a0, .int x1, .ref a2, .ref a3, .long l4] h = (68, 0, [some (.ref a0), some (.int x1), some (.ref a2), some (.ref a3), some (.long l4), none], [], h) := rfl
theorem e_68_1 (a0 : Nat) (x1 : Int32) (a2 : Nat) (l4 : Int64) (h : am_H) : am_in 68 [.ref a0, .int x1, .ref a2, .null, .long l4] h = (68, 0, [some (.ref a0), some (.int x1), some (.ref a2), some .null, some (.long l4), none], [], h) := rfl
theorem e_68_2 (a0 : Nat) (x1 : Int32) (a3 : Nat) (l4 : Int64) (h : am_H) : am_in 68 [.ref a0, .int x1, .null, .ref a3, .long l4] h = (68, 0, [some (.ref a0), some (.int x1), some .null, some (.ref a3), some (.long l4), none], [], h) := rfl
theorem e_68_3 (a0 : Nat) (x1 : Int32) (l4 : Int64) (h : am_H) : am_in 68 [.ref a0, .int x1, .null, .null, .long l4] h = (68, 0, [some (.ref a0), some (.int x1), some .null, some .null, some (.long l4), none], [], h) := rfl
theorem e_69 (a0 : Nat) (h : am_H) : am_in 69 [.ref a0] h = (69, 0, [some (.ref a0)], [], h) := rfl
theorem e_70 (a0 : Nat) (x1 : Int32) (h : am_H) : am_in 70 [.ref a0, .int x1] h = (70, 0, [some (.ref a0), some (.int x1)], [], h) := rfl
theorem e_71 (a0 : Nat) (h : am_H) : am_in 71 [.ref a0] h = (71, 0, [some (.ref a0), none, none, none], [], h) := rfl
theorem e_71_1  (h : am_H) : am_in 71 [.null] h = (71, 0, [some .null, none, none, none], [], h) := rfl
