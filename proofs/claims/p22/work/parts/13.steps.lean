theorem dX12_odds_0 : decode cX12_odds 0 = .ok (.iload_n 1, 1) := by decide +kernel
theorem dX12_odds_1 : decode cX12_odds 1 = .ok (.iconst (-1), 1) := by decide +kernel
theorem dX12_odds_2 : decode cX12_odds 2 = .ok (.if_icmp .eq 11, 3) := by decide +kernel
theorem dX12_odds_5 : decode cX12_odds 5 = .ok (.aload_n 0, 1) := by decide +kernel
theorem dX12_odds_6 : decode cX12_odds 6 = .ok (.iload_n 1, 1) := by decide +kernel
theorem dX12_odds_7 : decode cX12_odds 7 = .ok (.invokevirtual 507, 3) := by decide +kernel
theorem dX12_odds_10 : decode cX12_odds 10 = .ok (.ifCond .eq 25, 3) := by decide +kernel
theorem dX12_odds_13 : decode cX12_odds 13 = .ok (.aload_n 0, 1) := by decide +kernel
theorem dX12_odds_14 : decode cX12_odds 14 = .ok (.getfield 69, 3) := by decide +kernel
theorem dX12_odds_17 : decode cX12_odds 17 = .ok (.aload_n 0, 1) := by decide +kernel
theorem dX12_odds_18 : decode cX12_odds 18 = .ok (.getfield 51, 3) := by decide +kernel
theorem dX12_odds_21 : decode cX12_odds 21 = .ok (.iaload, 1) := by decide +kernel
theorem dX12_odds_22 : decode cX12_odds 22 = .ok (.ifCond .eq 13, 3) := by decide +kernel
theorem dX12_odds_25 : decode cX12_odds 25 = .ok (.aload_n 0, 1) := by decide +kernel
theorem dX12_odds_26 : decode cX12_odds 26 = .ok (.iconst 1, 1) := by decide +kernel
theorem dX12_odds_27 : decode cX12_odds 27 = .ok (.iconst 1, 1) := by decide +kernel
theorem dX12_odds_28 : decode cX12_odds 28 = .ok (.iconst 1, 1) := by decide +kernel
theorem dX12_odds_29 : decode cX12_odds 29 = .ok (.invokevirtual 518, 3) := by decide +kernel
theorem dX12_odds_32 : decode cX12_odds 32 = .ok (.ifCond .ne 5, 3) := by decide +kernel
theorem dX12_odds_35 : decode cX12_odds 35 = .ok (.iconst (-1), 1) := by decide +kernel
theorem dX12_odds_36 : decode cX12_odds 36 = .ok (.ireturn, 1) := by decide +kernel
theorem dX12_odds_37 : decode cX12_odds 37 = .ok (.iload_n 1, 1) := by decide +kernel
theorem dX12_odds_38 : decode cX12_odds 38 = .ok (.iconst (-1), 1) := by decide +kernel
theorem dX12_odds_39 : decode cX12_odds 39 = .ok (.if_icmp .ne 16, 3) := by decide +kernel
theorem dX12_odds_42 : decode cX12_odds 42 = .ok (.bipush 100, 2) := by decide +kernel
theorem dX12_odds_44 : decode cX12_odds 44 = .ok (.aload_n 0, 1) := by decide +kernel
theorem dX12_odds_45 : decode cX12_odds 45 = .ok (.getfield 69, 3) := by decide +kernel
theorem dX12_odds_48 : decode cX12_odds 48 = .ok (.aload_n 0, 1) := by decide +kernel
theorem dX12_odds_49 : decode cX12_odds 49 = .ok (.getfield 51, 3) := by decide +kernel
theorem dX12_odds_52 : decode cX12_odds 52 = .ok (.iaload, 1) := by decide +kernel
theorem dX12_odds_53 : decode cX12_odds 53 = .ok (.imul, 1) := by decide +kernel
theorem dX12_odds_54 : decode cX12_odds 54 = .ok (.ireturn, 1) := by decide +kernel
theorem dX12_odds_55 : decode cX12_odds 55 = .ok (.iconst 0, 1) := by decide +kernel
theorem dX12_odds_56 : decode cX12_odds 56 = .ok (.istore_n 2, 1) := by decide +kernel
theorem dX12_odds_57 : decode cX12_odds 57 = .ok (.iconst (-1), 1) := by decide +kernel
theorem dX12_odds_58 : decode cX12_odds 58 = .ok (.istore_n 3, 1) := by decide +kernel
theorem dX12_odds_59 : decode cX12_odds 59 = .ok (.iload_n 3, 1) := by decide +kernel
theorem dX12_odds_60 : decode cX12_odds 60 = .ok (.aload_n 0, 1) := by decide +kernel
theorem dX12_odds_61 : decode cX12_odds 61 = .ok (.getfield 69, 3) := by decide +kernel
theorem dX12_odds_64 : decode cX12_odds 64 = .ok (.aload_n 0, 1) := by decide +kernel
theorem dX12_odds_65 : decode cX12_odds 65 = .ok (.getfield 51, 3) := by decide +kernel
theorem dX12_odds_68 : decode cX12_odds 68 = .ok (.iaload, 1) := by decide +kernel
theorem dX12_odds_69 : decode cX12_odds 69 = .ok (.if_icmp .ge 81, 3) := by decide +kernel
theorem dX12_odds_72 : decode cX12_odds 72 = .ok (.aload_n 0, 1) := by decide +kernel
theorem dX12_odds_73 : decode cX12_odds 73 = .ok (.iconst 1, 1) := by decide +kernel
theorem dX12_odds_74 : decode cX12_odds 74 = .ok (.iconst 0, 1) := by decide +kernel
theorem dX12_odds_75 : decode cX12_odds 75 = .ok (.invokevirtual 425, 3) := by decide +kernel
theorem dX12_odds_78 : decode cX12_odds 78 = .ok (.aload_n 0, 1) := by decide +kernel
theorem dX12_odds_79 : decode cX12_odds 79 = .ok (.iconst 1, 1) := by decide +kernel
theorem dX12_odds_80 : decode cX12_odds 80 = .ok (.iload_n 3, 1) := by decide +kernel
theorem dX12_odds_81 : decode cX12_odds 81 = .ok (.invokevirtual 515, 3) := by decide +kernel
theorem dX12_odds_84 : decode cX12_odds 84 = .ok (.pop, 1) := by decide +kernel
theorem dX12_odds_85 : decode cX12_odds 85 = .ok (.iload_n 3, 1) := by decide +kernel
theorem dX12_odds_86 : decode cX12_odds 86 = .ok (.iconst (-1), 1) := by decide +kernel
theorem dX12_odds_87 : decode cX12_odds 87 = .ok (.if_icmp .ne 28, 3) := by decide +kernel
theorem dX12_odds_90 : decode cX12_odds 90 = .ok (.bipush 100, 2) := by decide +kernel
theorem dX12_odds_92 : decode cX12_odds 92 = .ok (.aload_n 0, 1) := by decide +kernel
theorem dX12_odds_93 : decode cX12_odds 93 = .ok (.getfield 63, 3) := by decide +kernel
theorem dX12_odds_96 : decode cX12_odds 96 = .ok (.aload_n 0, 1) := by decide +kernel
theorem dX12_odds_97 : decode cX12_odds 97 = .ok (.getfield 51, 3) := by decide +kernel
theorem dX12_odds_100 : decode cX12_odds 100 = .ok (.iaload, 1) := by decide +kernel
theorem dX12_odds_101 : decode cX12_odds 101 = .ok (.isub, 1) := by decide +kernel
theorem dX12_odds_102 : decode cX12_odds 102 = .ok (.aload_n 0, 1) := by decide +kernel
theorem dX12_odds_103 : decode cX12_odds 103 = .ok (.getfield 69, 3) := by decide +kernel
theorem dX12_odds_106 : decode cX12_odds 106 = .ok (.aload_n 0, 1) := by decide +kernel
theorem dX12_odds_107 : decode cX12_odds 107 = .ok (.getfield 51, 3) := by decide +kernel
theorem dX12_odds_110 : decode cX12_odds 110 = .ok (.iaload, 1) := by decide +kernel
theorem dX12_odds_111 : decode cX12_odds 111 = .ok (.imul, 1) := by decide +kernel
theorem dX12_odds_112 : decode cX12_odds 112 = .ok (.goto 12, 3) := by decide +kernel
theorem dX12_odds_115 : decode cX12_odds 115 = .ok (.aload_n 0, 1) := by decide +kernel
theorem dX12_odds_116 : decode cX12_odds 116 = .ok (.getfield 63, 3) := by decide +kernel
theorem dX12_odds_119 : decode cX12_odds 119 = .ok (.aload_n 0, 1) := by decide +kernel
theorem dX12_odds_120 : decode cX12_odds 120 = .ok (.getfield 51, 3) := by decide +kernel
theorem dX12_odds_123 : decode cX12_odds 123 = .ok (.iaload, 1) := by decide +kernel
theorem dX12_odds_124 : decode cX12_odds 124 = .ok (.istore 4, 2) := by decide +kernel
theorem dX12_odds_126 : decode cX12_odds 126 = .ok (.iload_n 2, 1) := by decide +kernel
theorem dX12_odds_127 : decode cX12_odds 127 = .ok (.aload_n 0, 1) := by decide +kernel
theorem dX12_odds_128 : decode cX12_odds 128 = .ok (.iconst 1, 1) := by decide +kernel
theorem dX12_odds_129 : decode cX12_odds 129 = .ok (.iload_n 1, 1) := by decide +kernel
theorem dX12_odds_130 : decode cX12_odds 130 = .ok (.invokevirtual 498, 3) := by decide +kernel
theorem dX12_odds_133 : decode cX12_odds 133 = .ok (.ifCond .eq 8, 3) := by decide +kernel
theorem dX12_odds_136 : decode cX12_odds 136 = .ok (.iload 4, 2) := by decide +kernel
theorem dX12_odds_138 : decode cX12_odds 138 = .ok (.goto 4, 3) := by decide +kernel
theorem dX12_odds_141 : decode cX12_odds 141 = .ok (.iconst 0, 1) := by decide +kernel
theorem dX12_odds_142 : decode cX12_odds 142 = .ok (.iadd, 1) := by decide +kernel
theorem dX12_odds_143 : decode cX12_odds 143 = .ok (.istore_n 2, 1) := by decide +kernel
theorem dX12_odds_144 : decode cX12_odds 144 = .ok (.iinc 3 1, 3) := by decide +kernel
theorem dX12_odds_147 : decode cX12_odds 147 = .ok (.goto (-88), 3) := by decide +kernel
theorem dX12_odds_150 : decode cX12_odds 150 = .ok (.iload_n 2, 1) := by decide +kernel
theorem dX12_odds_151 : decode cX12_odds 151 = .ok (.ireturn, 1) := by decide +kernel
noncomputable def tX12_odds_0 : List (Nat × zF) := [(0, (zli4 1 1)), (1, (zst 1 (zp (.int ((-1)))))), (2, (z_ic_eq 13)), (5, (zla4 0 1)), (6, (zli4 1 1)), (7, (zcv 237 1 12)), (10, (z_if_eq 35)), (13, (zla4 0 1)), (14, (zgf 12 19)), (17, (zla4 0 1)), (18, (zgf 12 13)), (21, (zal 0))]
theorem kX12_odds_0 : ∀ q ∈ tX12_odds_0, zOk zg iX12_odds q.1 q.2 := (z_c (ok_iload_n dX12_odds_0 rfl) (z_c (ok_iconst (v := (-1)) dX12_odds_1 (by decide)) (z_c (ok_icmp_eq dX12_odds_2 (by decide)) (z_c (ok_aload_n dX12_odds_5 rfl) (z_c (ok_iload_n dX12_odds_6 rfl) (z_c (ok_callV zcal_237 (q := (RX12, TX12, 73)) rfl zw_975 zw_976 zw_977 dX12_odds_7) (z_c (ok_if_eq dX12_odds_10 (by decide)) (z_c (ok_aload_n dX12_odds_13 rfl) (z_c (ok_getf (C := RX12) (T := TX12) (N := 73) rfl (by decide) zinX12 rfl zw_706 dX12_odds_14) (z_c (ok_aload_n dX12_odds_17 rfl) (z_c (ok_getf (C := RX12) (T := TX12) (N := 73) rfl (by decide) zinX12 rfl zw_700 dX12_odds_18) (z_c (ok_iaload rfl dX12_odds_21) z_n))))))))))))
noncomputable def tX12_odds_1 : List (Nat × zF) := [(22, (z_if_eq 35)), (25, (zla4 0 1)), (26, (zst 1 (zp (.int (1))))), (27, (zst 1 (zp (.int (1))))), (28, (zst 1 (zp (.int (1))))), (29, (zcv 245 3 12)), (32, (z_if_ne 37)), (35, (zst 1 (zp (.int ((-1)))))), (36, (zri false)), (37, (zli4 1 1)), (38, (zst 1 (zp (.int ((-1)))))), (39, (z_ic_ne 55))]
theorem kX12_odds_1 : ∀ q ∈ tX12_odds_1, zOk zg iX12_odds q.1 q.2 := (z_c (ok_if_eq dX12_odds_22 (by decide)) (z_c (ok_aload_n dX12_odds_25 rfl) (z_c (ok_iconst (v := (1)) dX12_odds_26 (by decide)) (z_c (ok_iconst (v := (1)) dX12_odds_27 (by decide)) (z_c (ok_iconst (v := (1)) dX12_odds_28 (by decide)) (z_c (ok_callV zcal_245 (q := (RX12, TX12, 73)) rfl zw_984 zw_985 zw_986 dX12_odds_29) (z_c (ok_if_ne dX12_odds_32 (by decide)) (z_c (ok_iconst (v := (-1)) dX12_odds_35 (by decide)) (z_c (ok_ireturn rfl dX12_odds_36) (z_c (ok_iload_n dX12_odds_37 rfl) (z_c (ok_iconst (v := (-1)) dX12_odds_38 (by decide)) (z_c (ok_icmp_ne dX12_odds_39 (by decide)) z_n))))))))))))
noncomputable def tX12_odds_2 : List (Nat × zF) := [(42, (zst 2 (zp (.int (100))))), (44, (zla4 0 1)), (45, (zgf 12 19)), (48, (zla4 0 1)), (49, (zgf 12 13)), (52, (zal 0)), (53, (zst 1 z_imul)), (54, (zri false)), (55, (zst 1 (zp (.int (0))))), (56, (zsi4 5 2 1)), (57, (zst 1 (zp (.int ((-1)))))), (58, (zsi4 5 3 1))]
theorem kX12_odds_2 : ∀ q ∈ tX12_odds_2, zOk zg iX12_odds q.1 q.2 := (z_c (ok_bipush (v := (100)) dX12_odds_42 (by decide)) (z_c (ok_aload_n dX12_odds_44 rfl) (z_c (ok_getf (C := RX12) (T := TX12) (N := 73) rfl (by decide) zinX12 rfl zw_706 dX12_odds_45) (z_c (ok_aload_n dX12_odds_48 rfl) (z_c (ok_getf (C := RX12) (T := TX12) (N := 73) rfl (by decide) zinX12 rfl zw_700 dX12_odds_49) (z_c (ok_iaload rfl dX12_odds_52) (z_c (ok_imul dX12_odds_53) (z_c (ok_ireturn rfl dX12_odds_54) (z_c (ok_iconst (v := (0)) dX12_odds_55 (by decide)) (z_c (ok_istore_n dX12_odds_56 rfl) (z_c (ok_iconst (v := (-1)) dX12_odds_57 (by decide)) (z_c (ok_istore_n dX12_odds_58 rfl) z_n))))))))))))
noncomputable def tX12_odds_3 : List (Nat × zF) := [(59, (zli4 3 1)), (60, (zla4 0 1)), (61, (zgf 12 19)), (64, (zla4 0 1)), (65, (zgf 12 13)), (68, (zal 0)), (69, (z_ic_ge 150)), (72, (zla4 0 1)), (73, (zst 1 (zp (.int (1))))), (74, (zst 1 (zp (.int (0))))), (75, (zcv 210 2 12)), (78, (zla4 0 1))]
theorem kX12_odds_3 : ∀ q ∈ tX12_odds_3, zOk zg iX12_odds q.1 q.2 := (z_c (ok_iload_n dX12_odds_59 rfl) (z_c (ok_aload_n dX12_odds_60 rfl) (z_c (ok_getf (C := RX12) (T := TX12) (N := 73) rfl (by decide) zinX12 rfl zw_706 dX12_odds_61) (z_c (ok_aload_n dX12_odds_64 rfl) (z_c (ok_getf (C := RX12) (T := TX12) (N := 73) rfl (by decide) zinX12 rfl zw_700 dX12_odds_65) (z_c (ok_iaload rfl dX12_odds_68) (z_c (ok_icmp_ge dX12_odds_69 (by decide)) (z_c (ok_aload_n dX12_odds_72 rfl) (z_c (ok_iconst (v := (1)) dX12_odds_73 (by decide)) (z_c (ok_iconst (v := (0)) dX12_odds_74 (by decide)) (z_c (ok_callV zcal_210 (q := (RX12, TX12, 73)) rfl zw_907 zw_908 zw_909 dX12_odds_75) (z_c (ok_aload_n dX12_odds_78 rfl) z_n))))))))))))
noncomputable def tX12_odds_4 : List (Nat × zF) := [(79, (zst 1 (zp (.int (1))))), (80, (zli4 3 1)), (81, (zcv 235 2 12)), (84, (zst 1 zpo)), (85, (zli4 3 1)), (86, (zst 1 (zp (.int ((-1)))))), (87, (z_ic_ne 115)), (90, (zst 2 (zp (.int (100))))), (92, (zla4 0 1)), (93, (zgf 12 17)), (96, (zla4 0 1)), (97, (zgf 12 13))]
theorem kX12_odds_4 : ∀ q ∈ tX12_odds_4, zOk zg iX12_odds q.1 q.2 := (z_c (ok_iconst (v := (1)) dX12_odds_79 (by decide)) (z_c (ok_iload_n dX12_odds_80 rfl) (z_c (ok_callV zcal_235 (q := (RX12, TX12, 73)) rfl zw_981 zw_982 zw_983 dX12_odds_81) (z_c (ok_pop dX12_odds_84) (z_c (ok_iload_n dX12_odds_85 rfl) (z_c (ok_iconst (v := (-1)) dX12_odds_86 (by decide)) (z_c (ok_icmp_ne dX12_odds_87 (by decide)) (z_c (ok_bipush (v := (100)) dX12_odds_90 (by decide)) (z_c (ok_aload_n dX12_odds_92 rfl) (z_c (ok_getf (C := RX12) (T := TX12) (N := 73) rfl (by decide) zinX12 rfl zw_704 dX12_odds_93) (z_c (ok_aload_n dX12_odds_96 rfl) (z_c (ok_getf (C := RX12) (T := TX12) (N := 73) rfl (by decide) zinX12 rfl zw_700 dX12_odds_97) z_n))))))))))))
noncomputable def tX12_odds_5 : List (Nat × zF) := [(100, (zal 0)), (101, (zst 1 z_isub)), (102, (zla4 0 1)), (103, (zgf 12 19)), (106, (zla4 0 1)), (107, (zgf 12 13)), (110, (zal 0)), (111, (zst 1 z_imul)), (112, (zgt 124)), (115, (zla4 0 1)), (116, (zgf 12 17)), (119, (zla4 0 1))]
theorem kX12_odds_5 : ∀ q ∈ tX12_odds_5, zOk zg iX12_odds q.1 q.2 := (z_c (ok_iaload rfl dX12_odds_100) (z_c (ok_isub dX12_odds_101) (z_c (ok_aload_n dX12_odds_102 rfl) (z_c (ok_getf (C := RX12) (T := TX12) (N := 73) rfl (by decide) zinX12 rfl zw_706 dX12_odds_103) (z_c (ok_aload_n dX12_odds_106 rfl) (z_c (ok_getf (C := RX12) (T := TX12) (N := 73) rfl (by decide) zinX12 rfl zw_700 dX12_odds_107) (z_c (ok_iaload rfl dX12_odds_110) (z_c (ok_imul dX12_odds_111) (z_c (ok_goto dX12_odds_112 (by decide)) (z_c (ok_aload_n dX12_odds_115 rfl) (z_c (ok_getf (C := RX12) (T := TX12) (N := 73) rfl (by decide) zinX12 rfl zw_704 dX12_odds_116) (z_c (ok_aload_n dX12_odds_119 rfl) z_n))))))))))))
noncomputable def tX12_odds_6 : List (Nat × zF) := [(120, (zgf 12 13)), (123, (zal 0)), (124, (zsi4 5 4 2)), (126, (zli4 2 1)), (127, (zla4 0 1)), (128, (zst 1 (zp (.int (1))))), (129, (zli4 1 1)), (130, (zcv 231 2 12)), (133, (z_if_eq 141)), (136, (zli4 4 2)), (138, (zgt 142)), (141, (zst 1 (zp (.int (0)))))]
theorem kX12_odds_6 : ∀ q ∈ tX12_odds_6, zOk zg iX12_odds q.1 q.2 := (z_c (ok_getf (C := RX12) (T := TX12) (N := 73) rfl (by decide) zinX12 rfl zw_700 dX12_odds_120) (z_c (ok_iaload rfl dX12_odds_123) (z_c (ok_istore dX12_odds_124) (z_c (ok_iload_n dX12_odds_126 rfl) (z_c (ok_aload_n dX12_odds_127 rfl) (z_c (ok_iconst (v := (1)) dX12_odds_128 (by decide)) (z_c (ok_iload_n dX12_odds_129 rfl) (z_c (ok_callV zcal_231 (q := (RX12, TX12, 73)) rfl zw_966 zw_967 zw_968 dX12_odds_130) (z_c (ok_if_eq dX12_odds_133 (by decide)) (z_c (ok_iload dX12_odds_136) (z_c (ok_goto dX12_odds_138 (by decide)) (z_c (ok_iconst (v := (0)) dX12_odds_141 (by decide)) z_n))))))))))))
noncomputable def tX12_odds_7 : List (Nat × zF) := [(142, (zst 1 z_iadd)), (143, (zsi4 5 2 1)), (144, (zin4 5 3 (1))), (147, (zgt 59)), (150, (zli4 2 1)), (151, (zri false))]
theorem kX12_odds_7 : ∀ q ∈ tX12_odds_7, zOk zg iX12_odds q.1 q.2 := (z_c (ok_iadd dX12_odds_142) (z_c (ok_istore_n dX12_odds_143 rfl) (z_c (ok_iinc (v := (1)) dX12_odds_144 (by decide)) (z_c (ok_goto dX12_odds_147 (by decide)) (z_c (ok_iload_n dX12_odds_150 rfl) (z_c (ok_ireturn rfl dX12_odds_151) z_n))))))
noncomputable def tX12_odds : zT := [(22, tX12_odds_0), (42, tX12_odds_1), (59, tX12_odds_2), (79, tX12_odds_3), (100, tX12_odds_4), (120, tX12_odds_5), (142, tX12_odds_6), (100000, tX12_odds_7)]
theorem kX12_odds : zTok zg iX12_odds tX12_odds := (z_t kX12_odds_0 (z_t kX12_odds_1 (z_t kX12_odds_2 (z_t kX12_odds_3 (z_t kX12_odds_4 (z_t kX12_odds_5 (z_t kX12_odds_6 (z_t kX12_odds_7 z_tn))))))))
theorem dX12_meet_0 : decode cX12_meet 0 = .ok (.aload_n 0, 1) := by decide +kernel
theorem dX12_meet_1 : decode cX12_meet 1 = .ok (.getfield 13, 3) := by decide +kernel
theorem dX12_meet_4 : decode cX12_meet 4 = .ok (.istore_n 1, 1) := by decide +kernel
theorem dX12_meet_5 : decode cX12_meet 5 = .ok (.aload_n 0, 1) := by decide +kernel
theorem dX12_meet_6 : decode cX12_meet 6 = .ok (.iconst 0, 1) := by decide +kernel
theorem dX12_meet_7 : decode cX12_meet 7 = .ok (.putfield 13, 3) := by decide +kernel
theorem dX12_meet_10 : decode cX12_meet 10 = .ok (.iload_n 1, 1) := by decide +kernel
theorem dX12_meet_11 : decode cX12_meet 11 = .ok (.ifCond .le 19, 3) := by decide +kernel
theorem dX12_meet_14 : decode cX12_meet 14 = .ok (.iload_n 1, 1) := by decide +kernel
theorem dX12_meet_15 : decode cX12_meet 15 = .ok (.iconst 4, 1) := by decide +kernel
theorem dX12_meet_16 : decode cX12_meet 16 = .ok (.irem, 1) := by decide +kernel
theorem dX12_meet_17 : decode cX12_meet 17 = .ok (.ifCond .ne 13, 3) := by decide +kernel
theorem dX12_meet_20 : decode cX12_meet 20 = .ok (.iload_n 1, 1) := by decide +kernel
theorem dX12_meet_21 : decode cX12_meet 21 = .ok (.bipush 64, 2) := by decide +kernel
theorem dX12_meet_23 : decode cX12_meet 23 = .ok (.if_icmp .gt 7, 3) := by decide +kernel
theorem dX12_meet_26 : decode cX12_meet 26 = .ok (.iconst 1, 1) := by decide +kernel
theorem dX12_meet_27 : decode cX12_meet 27 = .ok (.goto 4, 3) := by decide +kernel
theorem dX12_meet_30 : decode cX12_meet 30 = .ok (.iconst 0, 1) := by decide +kernel
theorem dX12_meet_31 : decode cX12_meet 31 = .ok (.istore_n 2, 1) := by decide +kernel
theorem dX12_meet_32 : decode cX12_meet 32 = .ok (.iconst 0, 1) := by decide +kernel
theorem dX12_meet_33 : decode cX12_meet 33 = .ok (.istore_n 3, 1) := by decide +kernel
theorem dX12_meet_34 : decode cX12_meet 34 = .ok (.iload_n 3, 1) := by decide +kernel
theorem dX12_meet_35 : decode cX12_meet 35 = .ok (.iload_n 1, 1) := by decide +kernel
theorem dX12_meet_36 : decode cX12_meet 36 = .ok (.if_icmp .ge 68, 3) := by decide +kernel
theorem dX12_meet_39 : decode cX12_meet 39 = .ok (.iload_n 2, 1) := by decide +kernel
theorem dX12_meet_40 : decode cX12_meet 40 = .ok (.ifCond .eq 64, 3) := by decide +kernel
theorem dX12_meet_43 : decode cX12_meet 43 = .ok (.aload_n 0, 1) := by decide +kernel
theorem dX12_meet_44 : decode cX12_meet 44 = .ok (.getfield 7, 3) := by decide +kernel
theorem dX12_meet_47 : decode cX12_meet 47 = .ok (.iload_n 3, 1) := by decide +kernel
theorem dX12_meet_48 : decode cX12_meet 48 = .ok (.iaload, 1) := by decide +kernel
theorem dX12_meet_49 : decode cX12_meet 49 = .ok (.bipush 30, 2) := by decide +kernel
theorem dX12_meet_51 : decode cX12_meet 51 = .ok (.if_icmp .gt 45, 3) := by decide +kernel
theorem dX12_meet_54 : decode cX12_meet 54 = .ok (.aload_n 0, 1) := by decide +kernel
theorem dX12_meet_55 : decode cX12_meet 55 = .ok (.aload_n 0, 1) := by decide +kernel
theorem dX12_meet_56 : decode cX12_meet 56 = .ok (.getfield 7, 3) := by decide +kernel
theorem dX12_meet_59 : decode cX12_meet 59 = .ok (.iload_n 3, 1) := by decide +kernel
theorem dX12_meet_60 : decode cX12_meet 60 = .ok (.iconst 1, 1) := by decide +kernel
theorem dX12_meet_61 : decode cX12_meet 61 = .ok (.iadd, 1) := by decide +kernel
theorem dX12_meet_62 : decode cX12_meet 62 = .ok (.iaload, 1) := by decide +kernel
theorem dX12_meet_63 : decode cX12_meet 63 = .ok (.invokevirtual 507, 3) := by decide +kernel
theorem dX12_meet_66 : decode cX12_meet 66 = .ok (.ifCond .eq 30, 3) := by decide +kernel
theorem dX12_meet_69 : decode cX12_meet 69 = .ok (.aload_n 0, 1) := by decide +kernel
theorem dX12_meet_70 : decode cX12_meet 70 = .ok (.aload_n 0, 1) := by decide +kernel
theorem dX12_meet_71 : decode cX12_meet 71 = .ok (.getfield 7, 3) := by decide +kernel
theorem dX12_meet_74 : decode cX12_meet 74 = .ok (.iload_n 3, 1) := by decide +kernel
theorem dX12_meet_75 : decode cX12_meet 75 = .ok (.iconst 2, 1) := by decide +kernel
theorem dX12_meet_76 : decode cX12_meet 76 = .ok (.iadd, 1) := by decide +kernel
theorem dX12_meet_77 : decode cX12_meet 77 = .ok (.iaload, 1) := by decide +kernel
theorem dX12_meet_78 : decode cX12_meet 78 = .ok (.aload_n 0, 1) := by decide +kernel
theorem dX12_meet_79 : decode cX12_meet 79 = .ok (.getfield 7, 3) := by decide +kernel
theorem dX12_meet_82 : decode cX12_meet 82 = .ok (.iload_n 3, 1) := by decide +kernel
theorem dX12_meet_83 : decode cX12_meet 83 = .ok (.iconst 3, 1) := by decide +kernel
theorem dX12_meet_84 : decode cX12_meet 84 = .ok (.iadd, 1) := by decide +kernel
theorem dX12_meet_85 : decode cX12_meet 85 = .ok (.iaload, 1) := by decide +kernel
theorem dX12_meet_86 : decode cX12_meet 86 = .ok (.invokevirtual 444, 3) := by decide +kernel
theorem dX12_meet_89 : decode cX12_meet 89 = .ok (.ifCond .eq 7, 3) := by decide +kernel
theorem dX12_meet_92 : decode cX12_meet 92 = .ok (.iconst 1, 1) := by decide +kernel
theorem dX12_meet_93 : decode cX12_meet 93 = .ok (.goto 4, 3) := by decide +kernel
theorem dX12_meet_96 : decode cX12_meet 96 = .ok (.iconst 0, 1) := by decide +kernel
theorem dX12_meet_97 : decode cX12_meet 97 = .ok (.istore_n 2, 1) := by decide +kernel
theorem dX12_meet_98 : decode cX12_meet 98 = .ok (.iinc 3 4, 3) := by decide +kernel
theorem dX12_meet_101 : decode cX12_meet 101 = .ok (.goto (-67), 3) := by decide +kernel
theorem dX12_meet_104 : decode cX12_meet 104 = .ok (.iload_n 2, 1) := by decide +kernel
theorem dX12_meet_105 : decode cX12_meet 105 = .ok (.ifCond .ne 9, 3) := by decide +kernel
theorem dX12_meet_108 : decode cX12_meet 108 = .ok (.aload_n 0, 1) := by decide +kernel
theorem dX12_meet_109 : decode cX12_meet 109 = .ok (.iconst 5, 1) := by decide +kernel
theorem dX12_meet_110 : decode cX12_meet 110 = .ok (.invokevirtual 234, 3) := by decide +kernel
theorem dX12_meet_113 : decode cX12_meet 113 = .ok (.ireturn, 1) := by decide +kernel
theorem dX12_meet_114 : decode cX12_meet 114 = .ok (.aload_n 0, 1) := by decide +kernel
theorem dX12_meet_115 : decode cX12_meet 115 = .ok (.iload_n 1, 1) := by decide +kernel
theorem dX12_meet_116 : decode cX12_meet 116 = .ok (.iconst 4, 1) := by decide +kernel
theorem dX12_meet_117 : decode cX12_meet 117 = .ok (.idiv, 1) := by decide +kernel
theorem dX12_meet_118 : decode cX12_meet 118 = .ok (.putfield 213, 3) := by decide +kernel
theorem dX12_meet_121 : decode cX12_meet 121 = .ok (.iconst 0, 1) := by decide +kernel
theorem dX12_meet_122 : decode cX12_meet 122 = .ok (.istore_n 3, 1) := by decide +kernel
theorem dX12_meet_123 : decode cX12_meet 123 = .ok (.iload_n 3, 1) := by decide +kernel
theorem dX12_meet_124 : decode cX12_meet 124 = .ok (.aload_n 0, 1) := by decide +kernel
theorem dX12_meet_125 : decode cX12_meet 125 = .ok (.getfield 213, 3) := by decide +kernel
theorem dX12_meet_128 : decode cX12_meet 128 = .ok (.if_icmp .ge 69, 3) := by decide +kernel
theorem dX12_meet_131 : decode cX12_meet 131 = .ok (.aload_n 0, 1) := by decide +kernel
theorem dX12_meet_132 : decode cX12_meet 132 = .ok (.getfield 216, 3) := by decide +kernel
theorem dX12_meet_135 : decode cX12_meet 135 = .ok (.iload_n 3, 1) := by decide +kernel
theorem dX12_meet_136 : decode cX12_meet 136 = .ok (.aload_n 0, 1) := by decide +kernel
theorem dX12_meet_137 : decode cX12_meet 137 = .ok (.getfield 7, 3) := by decide +kernel
theorem dX12_meet_140 : decode cX12_meet 140 = .ok (.iconst 4, 1) := by decide +kernel
theorem dX12_meet_141 : decode cX12_meet 141 = .ok (.iload_n 3, 1) := by decide +kernel
theorem dX12_meet_142 : decode cX12_meet 142 = .ok (.imul, 1) := by decide +kernel
theorem dX12_meet_143 : decode cX12_meet 143 = .ok (.iaload, 1) := by decide +kernel
theorem dX12_meet_144 : decode cX12_meet 144 = .ok (.iastore, 1) := by decide +kernel
theorem dX12_meet_145 : decode cX12_meet 145 = .ok (.aload_n 0, 1) := by decide +kernel
theorem dX12_meet_146 : decode cX12_meet 146 = .ok (.getfield 219, 3) := by decide +kernel
theorem dX12_meet_149 : decode cX12_meet 149 = .ok (.iload_n 3, 1) := by decide +kernel
theorem dX12_meet_150 : decode cX12_meet 150 = .ok (.aload_n 0, 1) := by decide +kernel
theorem dX12_meet_151 : decode cX12_meet 151 = .ok (.getfield 7, 3) := by decide +kernel
theorem dX12_meet_154 : decode cX12_meet 154 = .ok (.iconst 4, 1) := by decide +kernel
theorem dX12_meet_155 : decode cX12_meet 155 = .ok (.iload_n 3, 1) := by decide +kernel
theorem dX12_meet_156 : decode cX12_meet 156 = .ok (.imul, 1) := by decide +kernel
theorem dX12_meet_157 : decode cX12_meet 157 = .ok (.iconst 1, 1) := by decide +kernel
theorem dX12_meet_158 : decode cX12_meet 158 = .ok (.iadd, 1) := by decide +kernel
theorem dX12_meet_159 : decode cX12_meet 159 = .ok (.iaload, 1) := by decide +kernel
theorem dX12_meet_160 : decode cX12_meet 160 = .ok (.iastore, 1) := by decide +kernel
theorem dX12_meet_161 : decode cX12_meet 161 = .ok (.aload_n 0, 1) := by decide +kernel
theorem dX12_meet_162 : decode cX12_meet 162 = .ok (.getfield 222, 3) := by decide +kernel
theorem dX12_meet_165 : decode cX12_meet 165 = .ok (.iload_n 3, 1) := by decide +kernel
theorem dX12_meet_166 : decode cX12_meet 166 = .ok (.bipush 8, 2) := by decide +kernel
theorem dX12_meet_168 : decode cX12_meet 168 = .ok (.aload_n 0, 1) := by decide +kernel
theorem dX12_meet_169 : decode cX12_meet 169 = .ok (.getfield 7, 3) := by decide +kernel
theorem dX12_meet_172 : decode cX12_meet 172 = .ok (.iconst 4, 1) := by decide +kernel
theorem dX12_meet_173 : decode cX12_meet 173 = .ok (.iload_n 3, 1) := by decide +kernel
theorem dX12_meet_174 : decode cX12_meet 174 = .ok (.imul, 1) := by decide +kernel
theorem dX12_meet_175 : decode cX12_meet 175 = .ok (.iconst 3, 1) := by decide +kernel
theorem dX12_meet_176 : decode cX12_meet 176 = .ok (.iadd, 1) := by decide +kernel
theorem dX12_meet_177 : decode cX12_meet 177 = .ok (.iaload, 1) := by decide +kernel
theorem dX12_meet_178 : decode cX12_meet 178 = .ok (.imul, 1) := by decide +kernel
theorem dX12_meet_179 : decode cX12_meet 179 = .ok (.aload_n 0, 1) := by decide +kernel
theorem dX12_meet_180 : decode cX12_meet 180 = .ok (.getfield 7, 3) := by decide +kernel
theorem dX12_meet_183 : decode cX12_meet 183 = .ok (.iconst 4, 1) := by decide +kernel
theorem dX12_meet_184 : decode cX12_meet 184 = .ok (.iload_n 3, 1) := by decide +kernel
theorem dX12_meet_185 : decode cX12_meet 185 = .ok (.imul, 1) := by decide +kernel
theorem dX12_meet_186 : decode cX12_meet 186 = .ok (.iconst 2, 1) := by decide +kernel
theorem dX12_meet_187 : decode cX12_meet 187 = .ok (.iadd, 1) := by decide +kernel
theorem dX12_meet_188 : decode cX12_meet 188 = .ok (.iaload, 1) := by decide +kernel
theorem dX12_meet_189 : decode cX12_meet 189 = .ok (.iadd, 1) := by decide +kernel
theorem dX12_meet_190 : decode cX12_meet 190 = .ok (.iastore, 1) := by decide +kernel
theorem dX12_meet_191 : decode cX12_meet 191 = .ok (.iinc 3 1, 3) := by decide +kernel
theorem dX12_meet_194 : decode cX12_meet 194 = .ok (.goto (-71), 3) := by decide +kernel
theorem dX12_meet_197 : decode cX12_meet 197 = .ok (.aload_n 0, 1) := by decide +kernel
theorem dX12_meet_198 : decode cX12_meet 198 = .ok (.getfield 213, 3) := by decide +kernel
theorem dX12_meet_201 : decode cX12_meet 201 = .ok (.ireturn, 1) := by decide +kernel
noncomputable def tX12_meet_0 : List (Nat × zF) := [(0, (zla4 0 1)), (1, (zgf 12 1)), (4, (zsi4 4 1 1)), (5, (zla4 0 1)), (6, (zst 1 (zp (.int (0))))), (7, (zpf 12 1 (.int))), (10, (zli4 1 1)), (11, (z_if_le 30)), (14, (zli4 1 1)), (15, (zst 1 (zp (.int (4))))), (16, (zst 1 z_irem)), (17, (z_if_ne 30))]
theorem kX12_meet_0 : ∀ q ∈ tX12_meet_0, zOk zg iX12_meet q.1 q.2 := (z_c (ok_aload_n dX12_meet_0 rfl) (z_c (ok_getf (C := RX12) (T := TX12) (N := 73) rfl (by decide) zinX12 rfl zw_688 dX12_meet_1) (z_c (ok_istore_n dX12_meet_4 rfl) (z_c (ok_aload_n dX12_meet_5 rfl) (z_c (ok_iconst (v := (0)) dX12_meet_6 (by decide)) (z_c (ok_putf (C := RX12) (T := TX12) (N := 73) false tyX12 tyX12_ok nmX12 rfl (by decide) zinX12 rfl zw_688 rfl (fun h => absurd h (by decide)) rfl dX12_meet_7) (z_c (ok_iload_n dX12_meet_10 rfl) (z_c (ok_if_le dX12_meet_11 (by decide)) (z_c (ok_iload_n dX12_meet_14 rfl) (z_c (ok_iconst (v := (4)) dX12_meet_15 (by decide)) (z_c (ok_irem dX12_meet_16) (z_c (ok_if_ne dX12_meet_17 (by decide)) z_n))))))))))))
noncomputable def tX12_meet_1 : List (Nat × zF) := [(20, (zli4 1 1)), (21, (zst 2 (zp (.int (64))))), (23, (z_ic_gt 30)), (26, (zst 1 (zp (.int (1))))), (27, (zgt 31)), (30, (zst 1 (zp (.int (0))))), (31, (zsi4 4 2 1)), (32, (zst 1 (zp (.int (0))))), (33, (zsi4 4 3 1)), (34, (zli4 3 1)), (35, (zli4 1 1)), (36, (z_ic_ge 104))]
theorem kX12_meet_1 : ∀ q ∈ tX12_meet_1, zOk zg iX12_meet q.1 q.2 := (z_c (ok_iload_n dX12_meet_20 rfl) (z_c (ok_bipush (v := (64)) dX12_meet_21 (by decide)) (z_c (ok_icmp_gt dX12_meet_23 (by decide)) (z_c (ok_iconst (v := (1)) dX12_meet_26 (by decide)) (z_c (ok_goto dX12_meet_27 (by decide)) (z_c (ok_iconst (v := (0)) dX12_meet_30 (by decide)) (z_c (ok_istore_n dX12_meet_31 rfl) (z_c (ok_iconst (v := (0)) dX12_meet_32 (by decide)) (z_c (ok_istore_n dX12_meet_33 rfl) (z_c (ok_iload_n dX12_meet_34 rfl) (z_c (ok_iload_n dX12_meet_35 rfl) (z_c (ok_icmp_ge dX12_meet_36 (by decide)) z_n))))))))))))
noncomputable def tX12_meet_2 : List (Nat × zF) := [(39, (zli4 2 1)), (40, (z_if_eq 104)), (43, (zla4 0 1)), (44, (zgf 12 0)), (47, (zli4 3 1)), (48, (zal 0)), (49, (zst 2 (zp (.int (30))))), (51, (z_ic_gt 96)), (54, (zla4 0 1)), (55, (zla4 0 1)), (56, (zgf 12 0)), (59, (zli4 3 1))]
theorem kX12_meet_2 : ∀ q ∈ tX12_meet_2, zOk zg iX12_meet q.1 q.2 := (z_c (ok_iload_n dX12_meet_39 rfl) (z_c (ok_if_eq dX12_meet_40 (by decide)) (z_c (ok_aload_n dX12_meet_43 rfl) (z_c (ok_getf (C := RX12) (T := TX12) (N := 73) rfl (by decide) zinX12 rfl zw_687 dX12_meet_44) (z_c (ok_iload_n dX12_meet_47 rfl) (z_c (ok_iaload rfl dX12_meet_48) (z_c (ok_bipush (v := (30)) dX12_meet_49 (by decide)) (z_c (ok_icmp_gt dX12_meet_51 (by decide)) (z_c (ok_aload_n dX12_meet_54 rfl) (z_c (ok_aload_n dX12_meet_55 rfl) (z_c (ok_getf (C := RX12) (T := TX12) (N := 73) rfl (by decide) zinX12 rfl zw_687 dX12_meet_56) (z_c (ok_iload_n dX12_meet_59 rfl) z_n))))))))))))
noncomputable def tX12_meet_3 : List (Nat × zF) := [(60, (zst 1 (zp (.int (1))))), (61, (zst 1 z_iadd)), (62, (zal 0)), (63, (zcv 237 1 12)), (66, (z_if_eq 96)), (69, (zla4 0 1)), (70, (zla4 0 1)), (71, (zgf 12 0)), (74, (zli4 3 1)), (75, (zst 1 (zp (.int (2))))), (76, (zst 1 z_iadd)), (77, (zal 0))]
theorem kX12_meet_3 : ∀ q ∈ tX12_meet_3, zOk zg iX12_meet q.1 q.2 := (z_c (ok_iconst (v := (1)) dX12_meet_60 (by decide)) (z_c (ok_iadd dX12_meet_61) (z_c (ok_iaload rfl dX12_meet_62) (z_c (ok_callV zcal_237 (q := (RX12, TX12, 73)) rfl zw_975 zw_976 zw_977 dX12_meet_63) (z_c (ok_if_eq dX12_meet_66 (by decide)) (z_c (ok_aload_n dX12_meet_69 rfl) (z_c (ok_aload_n dX12_meet_70 rfl) (z_c (ok_getf (C := RX12) (T := TX12) (N := 73) rfl (by decide) zinX12 rfl zw_687 dX12_meet_71) (z_c (ok_iload_n dX12_meet_74 rfl) (z_c (ok_iconst (v := (2)) dX12_meet_75 (by decide)) (z_c (ok_iadd dX12_meet_76) (z_c (ok_iaload rfl dX12_meet_77) z_n))))))))))))
noncomputable def tX12_meet_4 : List (Nat × zF) := [(78, (zla4 0 1)), (79, (zgf 12 0)), (82, (zli4 3 1)), (83, (zst 1 (zp (.int (3))))), (84, (zst 1 z_iadd)), (85, (zal 0)), (86, (zcv 221 2 12)), (89, (z_if_eq 96)), (92, (zst 1 (zp (.int (1))))), (93, (zgt 97)), (96, (zst 1 (zp (.int (0))))), (97, (zsi4 4 2 1))]
theorem kX12_meet_4 : ∀ q ∈ tX12_meet_4, zOk zg iX12_meet q.1 q.2 := (z_c (ok_aload_n dX12_meet_78 rfl) (z_c (ok_getf (C := RX12) (T := TX12) (N := 73) rfl (by decide) zinX12 rfl zw_687 dX12_meet_79) (z_c (ok_iload_n dX12_meet_82 rfl) (z_c (ok_iconst (v := (3)) dX12_meet_83 (by decide)) (z_c (ok_iadd dX12_meet_84) (z_c (ok_iaload rfl dX12_meet_85) (z_c (ok_callV zcal_221 (q := (RX12, TX12, 73)) rfl zw_918 zw_919 zw_920 dX12_meet_86) (z_c (ok_if_eq dX12_meet_89 (by decide)) (z_c (ok_iconst (v := (1)) dX12_meet_92 (by decide)) (z_c (ok_goto dX12_meet_93 (by decide)) (z_c (ok_iconst (v := (0)) dX12_meet_96 (by decide)) (z_c (ok_istore_n dX12_meet_97 rfl) z_n))))))))))))
noncomputable def tX12_meet_5 : List (Nat × zF) := [(98, (zin4 4 3 (4))), (101, (zgt 34)), (104, (zli4 2 1)), (105, (z_if_ne 114)), (108, (zla4 0 1)), (109, (zst 1 (zp (.int (5))))), (110, (zcv 208 1 12)), (113, (zri false)), (114, (zla4 0 1)), (115, (zli4 1 1)), (116, (zst 1 (zp (.int (4))))), (117, (zst 1 z_idiv))]
theorem kX12_meet_5 : ∀ q ∈ tX12_meet_5, zOk zg iX12_meet q.1 q.2 := (z_c (ok_iinc (v := (4)) dX12_meet_98 (by decide)) (z_c (ok_goto dX12_meet_101 (by decide)) (z_c (ok_iload_n dX12_meet_104 rfl) (z_c (ok_if_ne dX12_meet_105 (by decide)) (z_c (ok_aload_n dX12_meet_108 rfl) (z_c (ok_iconst (v := (5)) dX12_meet_109 (by decide)) (z_c (ok_callV zcal_208 (q := (RX12, TX12, 73)) rfl zw_761 zw_762 zw_763 dX12_meet_110) (z_c (ok_ireturn rfl dX12_meet_113) (z_c (ok_aload_n dX12_meet_114 rfl) (z_c (ok_iload_n dX12_meet_115 rfl) (z_c (ok_iconst (v := (4)) dX12_meet_116 (by decide)) (z_c (ok_idiv dX12_meet_117) z_n))))))))))))
noncomputable def tX12_meet_6 : List (Nat × zF) := [(118, (zpf 12 66 (.int))), (121, (zst 1 (zp (.int (0))))), (122, (zsi4 4 3 1)), (123, (zli4 3 1)), (124, (zla4 0 1)), (125, (zgf 12 66)), (128, (z_ic_ge 197)), (131, (zla4 0 1)), (132, (zgf 12 67)), (135, (zli4 3 1)), (136, (zla4 0 1)), (137, (zgf 12 0))]
theorem kX12_meet_6 : ∀ q ∈ tX12_meet_6, zOk zg iX12_meet q.1 q.2 := (z_c (ok_putf (C := RX12) (T := TX12) (N := 73) false tyX12 tyX12_ok nmX12 rfl (by decide) zinX12 rfl zw_754 rfl (fun h => absurd h (by decide)) rfl dX12_meet_118) (z_c (ok_iconst (v := (0)) dX12_meet_121 (by decide)) (z_c (ok_istore_n dX12_meet_122 rfl) (z_c (ok_iload_n dX12_meet_123 rfl) (z_c (ok_aload_n dX12_meet_124 rfl) (z_c (ok_getf (C := RX12) (T := TX12) (N := 73) rfl (by decide) zinX12 rfl zw_754 dX12_meet_125) (z_c (ok_icmp_ge dX12_meet_128 (by decide)) (z_c (ok_aload_n dX12_meet_131 rfl) (z_c (ok_getf (C := RX12) (T := TX12) (N := 73) rfl (by decide) zinX12 rfl zw_755 dX12_meet_132) (z_c (ok_iload_n dX12_meet_135 rfl) (z_c (ok_aload_n dX12_meet_136 rfl) (z_c (ok_getf (C := RX12) (T := TX12) (N := 73) rfl (by decide) zinX12 rfl zw_687 dX12_meet_137) z_n))))))))))))
noncomputable def tX12_meet_7 : List (Nat × zF) := [(140, (zst 1 (zp (.int (4))))), (141, (zli4 3 1)), (142, (zst 1 z_imul)), (143, (zal 0)), (144, (zas 0)), (145, (zla4 0 1)), (146, (zgf 12 68)), (149, (zli4 3 1)), (150, (zla4 0 1)), (151, (zgf 12 0)), (154, (zst 1 (zp (.int (4))))), (155, (zli4 3 1))]
theorem kX12_meet_7 : ∀ q ∈ tX12_meet_7, zOk zg iX12_meet q.1 q.2 := (z_c (ok_iconst (v := (4)) dX12_meet_140 (by decide)) (z_c (ok_iload_n dX12_meet_141 rfl) (z_c (ok_imul dX12_meet_142) (z_c (ok_iaload rfl dX12_meet_143) (z_c (ok_iastore rfl dX12_meet_144) (z_c (ok_aload_n dX12_meet_145 rfl) (z_c (ok_getf (C := RX12) (T := TX12) (N := 73) rfl (by decide) zinX12 rfl zw_756 dX12_meet_146) (z_c (ok_iload_n dX12_meet_149 rfl) (z_c (ok_aload_n dX12_meet_150 rfl) (z_c (ok_getf (C := RX12) (T := TX12) (N := 73) rfl (by decide) zinX12 rfl zw_687 dX12_meet_151) (z_c (ok_iconst (v := (4)) dX12_meet_154 (by decide)) (z_c (ok_iload_n dX12_meet_155 rfl) z_n))))))))))))
noncomputable def tX12_meet_8 : List (Nat × zF) := [(156, (zst 1 z_imul)), (157, (zst 1 (zp (.int (1))))), (158, (zst 1 z_iadd)), (159, (zal 0)), (160, (zas 0)), (161, (zla4 0 1)), (162, (zgf 12 69)), (165, (zli4 3 1)), (166, (zst 2 (zp (.int (8))))), (168, (zla4 0 1)), (169, (zgf 12 0)), (172, (zst 1 (zp (.int (4)))))]
theorem kX12_meet_8 : ∀ q ∈ tX12_meet_8, zOk zg iX12_meet q.1 q.2 := (z_c (ok_imul dX12_meet_156) (z_c (ok_iconst (v := (1)) dX12_meet_157 (by decide)) (z_c (ok_iadd dX12_meet_158) (z_c (ok_iaload rfl dX12_meet_159) (z_c (ok_iastore rfl dX12_meet_160) (z_c (ok_aload_n dX12_meet_161 rfl) (z_c (ok_getf (C := RX12) (T := TX12) (N := 73) rfl (by decide) zinX12 rfl zw_757 dX12_meet_162) (z_c (ok_iload_n dX12_meet_165 rfl) (z_c (ok_bipush (v := (8)) dX12_meet_166 (by decide)) (z_c (ok_aload_n dX12_meet_168 rfl) (z_c (ok_getf (C := RX12) (T := TX12) (N := 73) rfl (by decide) zinX12 rfl zw_687 dX12_meet_169) (z_c (ok_iconst (v := (4)) dX12_meet_172 (by decide)) z_n))))))))))))
noncomputable def tX12_meet_9 : List (Nat × zF) := [(173, (zli4 3 1)), (174, (zst 1 z_imul)), (175, (zst 1 (zp (.int (3))))), (176, (zst 1 z_iadd)), (177, (zal 0)), (178, (zst 1 z_imul)), (179, (zla4 0 1)), (180, (zgf 12 0)), (183, (zst 1 (zp (.int (4))))), (184, (zli4 3 1)), (185, (zst 1 z_imul)), (186, (zst 1 (zp (.int (2)))))]
theorem kX12_meet_9 : ∀ q ∈ tX12_meet_9, zOk zg iX12_meet q.1 q.2 := (z_c (ok_iload_n dX12_meet_173 rfl) (z_c (ok_imul dX12_meet_174) (z_c (ok_iconst (v := (3)) dX12_meet_175 (by decide)) (z_c (ok_iadd dX12_meet_176) (z_c (ok_iaload rfl dX12_meet_177) (z_c (ok_imul dX12_meet_178) (z_c (ok_aload_n dX12_meet_179 rfl) (z_c (ok_getf (C := RX12) (T := TX12) (N := 73) rfl (by decide) zinX12 rfl zw_687 dX12_meet_180) (z_c (ok_iconst (v := (4)) dX12_meet_183 (by decide)) (z_c (ok_iload_n dX12_meet_184 rfl) (z_c (ok_imul dX12_meet_185) (z_c (ok_iconst (v := (2)) dX12_meet_186 (by decide)) z_n))))))))))))
noncomputable def tX12_meet_10 : List (Nat × zF) := [(187, (zst 1 z_iadd)), (188, (zal 0)), (189, (zst 1 z_iadd)), (190, (zas 0)), (191, (zin4 4 3 (1))), (194, (zgt 123)), (197, (zla4 0 1)), (198, (zgf 12 66)), (201, (zri false))]
theorem kX12_meet_10 : ∀ q ∈ tX12_meet_10, zOk zg iX12_meet q.1 q.2 := (z_c (ok_iadd dX12_meet_187) (z_c (ok_iaload rfl dX12_meet_188) (z_c (ok_iadd dX12_meet_189) (z_c (ok_iastore rfl dX12_meet_190) (z_c (ok_iinc (v := (1)) dX12_meet_191 (by decide)) (z_c (ok_goto dX12_meet_194 (by decide)) (z_c (ok_aload_n dX12_meet_197 rfl) (z_c (ok_getf (C := RX12) (T := TX12) (N := 73) rfl (by decide) zinX12 rfl zw_754 dX12_meet_198) (z_c (ok_ireturn rfl dX12_meet_201) z_n)))))))))
noncomputable def tX12_meet : zT := [(20, tX12_meet_0), (39, tX12_meet_1), (60, tX12_meet_2), (78, tX12_meet_3), (98, tX12_meet_4), (118, tX12_meet_5), (140, tX12_meet_6), (156, tX12_meet_7), (173, tX12_meet_8), (187, tX12_meet_9), (100000, tX12_meet_10)]
theorem kX12_meet : zTok zg iX12_meet tX12_meet := (z_t kX12_meet_0 (z_t kX12_meet_1 (z_t kX12_meet_2 (z_t kX12_meet_3 (z_t kX12_meet_4 (z_t kX12_meet_5 (z_t kX12_meet_6 (z_t kX12_meet_7 (z_t kX12_meet_8 (z_t kX12_meet_9 (z_t kX12_meet_10 z_tn)))))))))))
theorem dX12_hueBits_0 : decode cX12_hueBits 0 = .ok (.iconst 0, 1) := by decide +kernel
theorem dX12_hueBits_1 : decode cX12_hueBits 1 = .ok (.istore_n 2, 1) := by decide +kernel
theorem dX12_hueBits_2 : decode cX12_hueBits 2 = .ok (.iconst 0, 1) := by decide +kernel
theorem dX12_hueBits_3 : decode cX12_hueBits 3 = .ok (.istore_n 3, 1) := by decide +kernel
theorem dX12_hueBits_4 : decode cX12_hueBits 4 = .ok (.iload_n 3, 1) := by decide +kernel
theorem dX12_hueBits_5 : decode cX12_hueBits 5 = .ok (.bipush 9, 2) := by decide +kernel
theorem dX12_hueBits_7 : decode cX12_hueBits 7 = .ok (.if_icmp .ge 190, 3) := by decide +kernel
theorem dX12_hueBits_10 : decode cX12_hueBits 10 = .ok (.aload_n 0, 1) := by decide +kernel
theorem dX12_hueBits_11 : decode cX12_hueBits 11 = .ok (.iconst 1, 1) := by decide +kernel
theorem dX12_hueBits_12 : decode cX12_hueBits 12 = .ok (.iconst 0, 1) := by decide +kernel
theorem dX12_hueBits_13 : decode cX12_hueBits 13 = .ok (.invokevirtual 425, 3) := by decide +kernel
theorem dX12_hueBits_16 : decode cX12_hueBits 16 = .ok (.aload_n 0, 1) := by decide +kernel
theorem dX12_hueBits_17 : decode cX12_hueBits 17 = .ok (.getfield 186, 3) := by decide +kernel
theorem dX12_hueBits_20 : decode cX12_hueBits 20 = .ok (.iload_n 1, 1) := by decide +kernel
theorem dX12_hueBits_21 : decode cX12_hueBits 21 = .ok (.iload_n 3, 1) := by decide +kernel
theorem dX12_hueBits_22 : decode cX12_hueBits 22 = .ok (.iconst 1, 1) := by decide +kernel
theorem dX12_hueBits_23 : decode cX12_hueBits 23 = .ok (.iadd, 1) := by decide +kernel
theorem dX12_hueBits_24 : decode cX12_hueBits 24 = .ok (.iastore, 1) := by decide +kernel
theorem dX12_hueBits_25 : decode cX12_hueBits 25 = .ok (.iconst 0, 1) := by decide +kernel
theorem dX12_hueBits_26 : decode cX12_hueBits 26 = .ok (.istore 4, 2) := by decide +kernel
theorem dX12_hueBits_28 : decode cX12_hueBits 28 = .ok (.iconst 0, 1) := by decide +kernel
theorem dX12_hueBits_29 : decode cX12_hueBits 29 = .ok (.istore 5, 2) := by decide +kernel
theorem dX12_hueBits_31 : decode cX12_hueBits 31 = .ok (.aload_n 0, 1) := by decide +kernel
theorem dX12_hueBits_32 : decode cX12_hueBits 32 = .ok (.iload 5, 2) := by decide +kernel
theorem dX12_hueBits_34 : decode cX12_hueBits 34 = .ok (.iconst 0, 1) := by decide +kernel
theorem dX12_hueBits_35 : decode cX12_hueBits 35 = .ok (.bipush 30, 2) := by decide +kernel
theorem dX12_hueBits_37 : decode cX12_hueBits 37 = .ok (.invokevirtual 518, 3) := by decide +kernel
theorem dX12_hueBits_40 : decode cX12_hueBits 40 = .ok (.ifCond .eq 132, 3) := by decide +kernel
theorem dX12_hueBits_43 : decode cX12_hueBits 43 = .ok (.iconst 0, 1) := by decide +kernel
theorem dX12_hueBits_44 : decode cX12_hueBits 44 = .ok (.istore 6, 2) := by decide +kernel
theorem dX12_hueBits_46 : decode cX12_hueBits 46 = .ok (.iload 6, 2) := by decide +kernel
theorem dX12_hueBits_48 : decode cX12_hueBits 48 = .ok (.aload_n 0, 1) := by decide +kernel
theorem dX12_hueBits_49 : decode cX12_hueBits 49 = .ok (.getfield 84, 3) := by decide +kernel
theorem dX12_hueBits_52 : decode cX12_hueBits 52 = .ok (.aload_n 0, 1) := by decide +kernel
theorem dX12_hueBits_53 : decode cX12_hueBits 53 = .ok (.getfield 51, 3) := by decide +kernel
theorem dX12_hueBits_56 : decode cX12_hueBits 56 = .ok (.iaload, 1) := by decide +kernel
theorem dX12_hueBits_57 : decode cX12_hueBits 57 = .ok (.if_icmp .ge 37, 3) := by decide +kernel
theorem dX12_hueBits_60 : decode cX12_hueBits 60 = .ok (.aload_n 0, 1) := by decide +kernel
theorem dX12_hueBits_61 : decode cX12_hueBits 61 = .ok (.getfield 225, 3) := by decide +kernel
theorem dX12_hueBits_64 : decode cX12_hueBits 64 = .ok (.bipush 6, 2) := by decide +kernel
theorem dX12_hueBits_66 : decode cX12_hueBits 66 = .ok (.bipush 31, 2) := by decide +kernel
theorem dX12_hueBits_68 : decode cX12_hueBits 68 = .ok (.iload_n 3, 1) := by decide +kernel
theorem dX12_hueBits_69 : decode cX12_hueBits 69 = .ok (.imul, 1) := by decide +kernel
theorem dX12_hueBits_70 : decode cX12_hueBits 70 = .ok (.iload 5, 2) := by decide +kernel
theorem dX12_hueBits_72 : decode cX12_hueBits 72 = .ok (.iadd, 1) := by decide +kernel
theorem dX12_hueBits_73 : decode cX12_hueBits 73 = .ok (.imul, 1) := by decide +kernel
theorem dX12_hueBits_74 : decode cX12_hueBits 74 = .ok (.iload 6, 2) := by decide +kernel
theorem dX12_hueBits_76 : decode cX12_hueBits 76 = .ok (.iadd, 1) := by decide +kernel
theorem dX12_hueBits_77 : decode cX12_hueBits 77 = .ok (.aload_n 0, 1) := by decide +kernel
theorem dX12_hueBits_78 : decode cX12_hueBits 78 = .ok (.getfield 168, 3) := by decide +kernel
theorem dX12_hueBits_81 : decode cX12_hueBits 81 = .ok (.bipush 6, 2) := by decide +kernel
theorem dX12_hueBits_83 : decode cX12_hueBits 83 = .ok (.iload 6, 2) := by decide +kernel
theorem dX12_hueBits_85 : decode cX12_hueBits 85 = .ok (.iadd, 1) := by decide +kernel
theorem dX12_hueBits_86 : decode cX12_hueBits 86 = .ok (.iaload, 1) := by decide +kernel
theorem dX12_hueBits_87 : decode cX12_hueBits 87 = .ok (.iastore, 1) := by decide +kernel
theorem dX12_hueBits_88 : decode cX12_hueBits 88 = .ok (.iinc 6 1, 3) := by decide +kernel
theorem dX12_hueBits_91 : decode cX12_hueBits 91 = .ok (.goto (-45), 3) := by decide +kernel
theorem dX12_hueBits_94 : decode cX12_hueBits 94 = .ok (.iconst 0, 1) := by decide +kernel
theorem dX12_hueBits_95 : decode cX12_hueBits 95 = .ok (.istore 6, 2) := by decide +kernel
theorem dX12_hueBits_97 : decode cX12_hueBits 97 = .ok (.iload 6, 2) := by decide +kernel
theorem dX12_hueBits_99 : decode cX12_hueBits 99 = .ok (.aload_n 0, 1) := by decide +kernel
theorem dX12_hueBits_100 : decode cX12_hueBits 100 = .ok (.getfield 213, 3) := by decide +kernel
theorem dX12_hueBits_103 : decode cX12_hueBits 103 = .ok (.if_icmp .ge 56, 3) := by decide +kernel
theorem dX12_hueBits_106 : decode cX12_hueBits 106 = .ok (.iload 4, 2) := by decide +kernel
theorem dX12_hueBits_108 : decode cX12_hueBits 108 = .ok (.aload_n 0, 1) := by decide +kernel
theorem dX12_hueBits_109 : decode cX12_hueBits 109 = .ok (.getfield 216, 3) := by decide +kernel
theorem dX12_hueBits_112 : decode cX12_hueBits 112 = .ok (.iload 6, 2) := by decide +kernel
theorem dX12_hueBits_114 : decode cX12_hueBits 114 = .ok (.iaload, 1) := by decide +kernel
theorem dX12_hueBits_115 : decode cX12_hueBits 115 = .ok (.iload 5, 2) := by decide +kernel
theorem dX12_hueBits_117 : decode cX12_hueBits 117 = .ok (.if_icmp .ne 32, 3) := by decide +kernel
theorem dX12_hueBits_120 : decode cX12_hueBits 120 = .ok (.aload_n 0, 1) := by decide +kernel
theorem dX12_hueBits_121 : decode cX12_hueBits 121 = .ok (.getfield 168, 3) := by decide +kernel
theorem dX12_hueBits_124 : decode cX12_hueBits 124 = .ok (.bipush 6, 2) := by decide +kernel
theorem dX12_hueBits_126 : decode cX12_hueBits 126 = .ok (.aload_n 0, 1) := by decide +kernel
theorem dX12_hueBits_127 : decode cX12_hueBits 127 = .ok (.getfield 219, 3) := by decide +kernel
theorem dX12_hueBits_130 : decode cX12_hueBits 130 = .ok (.iload 6, 2) := by decide +kernel
theorem dX12_hueBits_132 : decode cX12_hueBits 132 = .ok (.iaload, 1) := by decide +kernel
theorem dX12_hueBits_133 : decode cX12_hueBits 133 = .ok (.iadd, 1) := by decide +kernel
theorem dX12_hueBits_134 : decode cX12_hueBits 134 = .ok (.iaload, 1) := by decide +kernel
theorem dX12_hueBits_135 : decode cX12_hueBits 135 = .ok (.aload_n 0, 1) := by decide +kernel
theorem dX12_hueBits_136 : decode cX12_hueBits 136 = .ok (.getfield 222, 3) := by decide +kernel
theorem dX12_hueBits_139 : decode cX12_hueBits 139 = .ok (.iload 6, 2) := by decide +kernel
theorem dX12_hueBits_141 : decode cX12_hueBits 141 = .ok (.iaload, 1) := by decide +kernel
theorem dX12_hueBits_142 : decode cX12_hueBits 142 = .ok (.if_icmp .ne 7, 3) := by decide +kernel
theorem dX12_hueBits_145 : decode cX12_hueBits 145 = .ok (.iconst 1, 1) := by decide +kernel
theorem dX12_hueBits_146 : decode cX12_hueBits 146 = .ok (.goto 4, 3) := by decide +kernel
theorem dX12_hueBits_149 : decode cX12_hueBits 149 = .ok (.iconst 0, 1) := by decide +kernel
theorem dX12_hueBits_150 : decode cX12_hueBits 150 = .ok (.iadd, 1) := by decide +kernel
theorem dX12_hueBits_151 : decode cX12_hueBits 151 = .ok (.istore 4, 2) := by decide +kernel
theorem dX12_hueBits_153 : decode cX12_hueBits 153 = .ok (.iinc 6 1, 3) := by decide +kernel
theorem dX12_hueBits_156 : decode cX12_hueBits 156 = .ok (.goto (-59), 3) := by decide +kernel
theorem dX12_hueBits_159 : decode cX12_hueBits 159 = .ok (.aload_n 0, 1) := by decide +kernel
theorem dX12_hueBits_160 : decode cX12_hueBits 160 = .ok (.iconst 1, 1) := by decide +kernel
theorem dX12_hueBits_161 : decode cX12_hueBits 161 = .ok (.iconst (-1), 1) := by decide +kernel
theorem dX12_hueBits_162 : decode cX12_hueBits 162 = .ok (.invokevirtual 515, 3) := by decide +kernel
theorem dX12_hueBits_165 : decode cX12_hueBits 165 = .ok (.pop, 1) := by decide +kernel
theorem dX12_hueBits_166 : decode cX12_hueBits 166 = .ok (.iinc 5 1, 3) := by decide +kernel
theorem dX12_hueBits_169 : decode cX12_hueBits 169 = .ok (.goto (-138), 3) := by decide +kernel
theorem dX12_hueBits_172 : decode cX12_hueBits 172 = .ok (.iload_n 2, 1) := by decide +kernel
theorem dX12_hueBits_173 : decode cX12_hueBits 173 = .ok (.iload 4, 2) := by decide +kernel
theorem dX12_hueBits_175 : decode cX12_hueBits 175 = .ok (.aload_n 0, 1) := by decide +kernel
theorem dX12_hueBits_176 : decode cX12_hueBits 176 = .ok (.getfield 213, 3) := by decide +kernel
theorem dX12_hueBits_179 : decode cX12_hueBits 179 = .ok (.if_icmp .ne 9, 3) := by decide +kernel
theorem dX12_hueBits_182 : decode cX12_hueBits 182 = .ok (.iconst 1, 1) := by decide +kernel
theorem dX12_hueBits_183 : decode cX12_hueBits 183 = .ok (.iload_n 3, 1) := by decide +kernel
theorem dX12_hueBits_184 : decode cX12_hueBits 184 = .ok (.ishl, 1) := by decide +kernel
theorem dX12_hueBits_185 : decode cX12_hueBits 185 = .ok (.goto 4, 3) := by decide +kernel
theorem dX12_hueBits_188 : decode cX12_hueBits 188 = .ok (.iconst 0, 1) := by decide +kernel
theorem dX12_hueBits_189 : decode cX12_hueBits 189 = .ok (.ior, 1) := by decide +kernel
theorem dX12_hueBits_190 : decode cX12_hueBits 190 = .ok (.istore_n 2, 1) := by decide +kernel
theorem dX12_hueBits_191 : decode cX12_hueBits 191 = .ok (.iinc 3 1, 3) := by decide +kernel
theorem dX12_hueBits_194 : decode cX12_hueBits 194 = .ok (.goto (-190), 3) := by decide +kernel
theorem dX12_hueBits_197 : decode cX12_hueBits 197 = .ok (.aload_n 0, 1) := by decide +kernel
theorem dX12_hueBits_198 : decode cX12_hueBits 198 = .ok (.getfield 186, 3) := by decide +kernel
theorem dX12_hueBits_201 : decode cX12_hueBits 201 = .ok (.iload_n 1, 1) := by decide +kernel
theorem dX12_hueBits_202 : decode cX12_hueBits 202 = .ok (.aload_n 0, 1) := by decide +kernel
theorem dX12_hueBits_203 : decode cX12_hueBits 203 = .ok (.getfield 75, 3) := by decide +kernel
theorem dX12_hueBits_206 : decode cX12_hueBits 206 = .ok (.bipush 9, 2) := by decide +kernel
theorem dX12_hueBits_208 : decode cX12_hueBits 208 = .ok (.aload_n 0, 1) := by decide +kernel
theorem dX12_hueBits_209 : decode cX12_hueBits 209 = .ok (.getfield 51, 3) := by decide +kernel
theorem dX12_hueBits_212 : decode cX12_hueBits 212 = .ok (.imul, 1) := by decide +kernel
theorem dX12_hueBits_213 : decode cX12_hueBits 213 = .ok (.iload_n 1, 1) := by decide +kernel
theorem dX12_hueBits_214 : decode cX12_hueBits 214 = .ok (.iadd, 1) := by decide +kernel
theorem dX12_hueBits_215 : decode cX12_hueBits 215 = .ok (.iaload, 1) := by decide +kernel
theorem dX12_hueBits_216 : decode cX12_hueBits 216 = .ok (.iastore, 1) := by decide +kernel
theorem dX12_hueBits_217 : decode cX12_hueBits 217 = .ok (.iload_n 2, 1) := by decide +kernel
theorem dX12_hueBits_218 : decode cX12_hueBits 218 = .ok (.ireturn, 1) := by decide +kernel
noncomputable def tX12_hueBits_0 : List (Nat × zF) := [(0, (zst 1 (zp (.int (0))))), (1, (zsi4 7 2 1)), (2, (zst 1 (zp (.int (0))))), (3, (zsi4 7 3 1)), (4, (zli4 3 1)), (5, (zst 2 (zp (.int (9))))), (7, (z_ic_ge 197)), (10, (zla4 0 1)), (11, (zst 1 (zp (.int (1))))), (12, (zst 1 (zp (.int (0))))), (13, (zcv 210 2 12)), (16, (zla4 0 1))]
theorem kX12_hueBits_0 : ∀ q ∈ tX12_hueBits_0, zOk zg iX12_hueBits q.1 q.2 := (z_c (ok_iconst (v := (0)) dX12_hueBits_0 (by decide)) (z_c (ok_istore_n dX12_hueBits_1 rfl) (z_c (ok_iconst (v := (0)) dX12_hueBits_2 (by decide)) (z_c (ok_istore_n dX12_hueBits_3 rfl) (z_c (ok_iload_n dX12_hueBits_4 rfl) (z_c (ok_bipush (v := (9)) dX12_hueBits_5 (by decide)) (z_c (ok_icmp_ge dX12_hueBits_7 (by decide)) (z_c (ok_aload_n dX12_hueBits_10 rfl) (z_c (ok_iconst (v := (1)) dX12_hueBits_11 (by decide)) (z_c (ok_iconst (v := (0)) dX12_hueBits_12 (by decide)) (z_c (ok_callV zcal_210 (q := (RX12, TX12, 73)) rfl zw_907 zw_908 zw_909 dX12_hueBits_13) (z_c (ok_aload_n dX12_hueBits_16 rfl) z_n))))))))))))
noncomputable def tX12_hueBits_1 : List (Nat × zF) := [(17, (zgf 12 57)), (20, (zli4 1 1)), (21, (zli4 3 1)), (22, (zst 1 (zp (.int (1))))), (23, (zst 1 z_iadd)), (24, (zas 0)), (25, (zst 1 (zp (.int (0))))), (26, (zsi4 7 4 2)), (28, (zst 1 (zp (.int (0))))), (29, (zsi4 7 5 2)), (31, (zla4 0 1)), (32, (zli4 5 2))]
theorem kX12_hueBits_1 : ∀ q ∈ tX12_hueBits_1, zOk zg iX12_hueBits q.1 q.2 := (z_c (ok_getf (C := RX12) (T := TX12) (N := 73) rfl (by decide) zinX12 rfl zw_745 dX12_hueBits_17) (z_c (ok_iload_n dX12_hueBits_20 rfl) (z_c (ok_iload_n dX12_hueBits_21 rfl) (z_c (ok_iconst (v := (1)) dX12_hueBits_22 (by decide)) (z_c (ok_iadd dX12_hueBits_23) (z_c (ok_iastore rfl dX12_hueBits_24) (z_c (ok_iconst (v := (0)) dX12_hueBits_25 (by decide)) (z_c (ok_istore dX12_hueBits_26) (z_c (ok_iconst (v := (0)) dX12_hueBits_28 (by decide)) (z_c (ok_istore dX12_hueBits_29) (z_c (ok_aload_n dX12_hueBits_31 rfl) (z_c (ok_iload dX12_hueBits_32) z_n))))))))))))
noncomputable def tX12_hueBits_2 : List (Nat × zF) := [(34, (zst 1 (zp (.int (0))))), (35, (zst 2 (zp (.int (30))))), (37, (zcv 245 3 12)), (40, (z_if_eq 172)), (43, (zst 1 (zp (.int (0))))), (44, (zsi4 7 6 2)), (46, (zli4 6 2)), (48, (zla4 0 1)), (49, (zgf 12 24)), (52, (zla4 0 1)), (53, (zgf 12 13)), (56, (zal 0))]
theorem kX12_hueBits_2 : ∀ q ∈ tX12_hueBits_2, zOk zg iX12_hueBits q.1 q.2 := (z_c (ok_iconst (v := (0)) dX12_hueBits_34 (by decide)) (z_c (ok_bipush (v := (30)) dX12_hueBits_35 (by decide)) (z_c (ok_callV zcal_245 (q := (RX12, TX12, 73)) rfl zw_984 zw_985 zw_986 dX12_hueBits_37) (z_c (ok_if_eq dX12_hueBits_40 (by decide)) (z_c (ok_iconst (v := (0)) dX12_hueBits_43 (by decide)) (z_c (ok_istore dX12_hueBits_44) (z_c (ok_iload dX12_hueBits_46) (z_c (ok_aload_n dX12_hueBits_48 rfl) (z_c (ok_getf (C := RX12) (T := TX12) (N := 73) rfl (by decide) zinX12 rfl zw_711 dX12_hueBits_49) (z_c (ok_aload_n dX12_hueBits_52 rfl) (z_c (ok_getf (C := RX12) (T := TX12) (N := 73) rfl (by decide) zinX12 rfl zw_700 dX12_hueBits_53) (z_c (ok_iaload rfl dX12_hueBits_56) z_n))))))))))))
noncomputable def tX12_hueBits_3 : List (Nat × zF) := [(57, (z_ic_ge 94)), (60, (zla4 0 1)), (61, (zgf 12 70)), (64, (zst 2 (zp (.int (6))))), (66, (zst 2 (zp (.int (31))))), (68, (zli4 3 1)), (69, (zst 1 z_imul)), (70, (zli4 5 2)), (72, (zst 1 z_iadd)), (73, (zst 1 z_imul)), (74, (zli4 6 2)), (76, (zst 1 z_iadd))]
theorem kX12_hueBits_3 : ∀ q ∈ tX12_hueBits_3, zOk zg iX12_hueBits q.1 q.2 := (z_c (ok_icmp_ge dX12_hueBits_57 (by decide)) (z_c (ok_aload_n dX12_hueBits_60 rfl) (z_c (ok_getf (C := RX12) (T := TX12) (N := 73) rfl (by decide) zinX12 rfl zw_758 dX12_hueBits_61) (z_c (ok_bipush (v := (6)) dX12_hueBits_64 (by decide)) (z_c (ok_bipush (v := (31)) dX12_hueBits_66 (by decide)) (z_c (ok_iload_n dX12_hueBits_68 rfl) (z_c (ok_imul dX12_hueBits_69) (z_c (ok_iload dX12_hueBits_70) (z_c (ok_iadd dX12_hueBits_72) (z_c (ok_imul dX12_hueBits_73) (z_c (ok_iload dX12_hueBits_74) (z_c (ok_iadd dX12_hueBits_76) z_n))))))))))))
noncomputable def tX12_hueBits_4 : List (Nat × zF) := [(77, (zla4 0 1)), (78, (zgf 12 51)), (81, (zst 2 (zp (.int (6))))), (83, (zli4 6 2)), (85, (zst 1 z_iadd)), (86, (zal 0)), (87, (zas 0)), (88, (zin4 7 6 (1))), (91, (zgt 46)), (94, (zst 1 (zp (.int (0))))), (95, (zsi4 7 6 2)), (97, (zli4 6 2))]
theorem kX12_hueBits_4 : ∀ q ∈ tX12_hueBits_4, zOk zg iX12_hueBits q.1 q.2 := (z_c (ok_aload_n dX12_hueBits_77 rfl) (z_c (ok_getf (C := RX12) (T := TX12) (N := 73) rfl (by decide) zinX12 rfl zw_739 dX12_hueBits_78) (z_c (ok_bipush (v := (6)) dX12_hueBits_81 (by decide)) (z_c (ok_iload dX12_hueBits_83) (z_c (ok_iadd dX12_hueBits_85) (z_c (ok_iaload rfl dX12_hueBits_86) (z_c (ok_iastore rfl dX12_hueBits_87) (z_c (ok_iinc (v := (1)) dX12_hueBits_88 (by decide)) (z_c (ok_goto dX12_hueBits_91 (by decide)) (z_c (ok_iconst (v := (0)) dX12_hueBits_94 (by decide)) (z_c (ok_istore dX12_hueBits_95) (z_c (ok_iload dX12_hueBits_97) z_n))))))))))))
noncomputable def tX12_hueBits_5 : List (Nat × zF) := [(99, (zla4 0 1)), (100, (zgf 12 66)), (103, (z_ic_ge 159)), (106, (zli4 4 2)), (108, (zla4 0 1)), (109, (zgf 12 67)), (112, (zli4 6 2)), (114, (zal 0)), (115, (zli4 5 2)), (117, (z_ic_ne 149)), (120, (zla4 0 1)), (121, (zgf 12 51))]
theorem kX12_hueBits_5 : ∀ q ∈ tX12_hueBits_5, zOk zg iX12_hueBits q.1 q.2 := (z_c (ok_aload_n dX12_hueBits_99 rfl) (z_c (ok_getf (C := RX12) (T := TX12) (N := 73) rfl (by decide) zinX12 rfl zw_754 dX12_hueBits_100) (z_c (ok_icmp_ge dX12_hueBits_103 (by decide)) (z_c (ok_iload dX12_hueBits_106) (z_c (ok_aload_n dX12_hueBits_108 rfl) (z_c (ok_getf (C := RX12) (T := TX12) (N := 73) rfl (by decide) zinX12 rfl zw_755 dX12_hueBits_109) (z_c (ok_iload dX12_hueBits_112) (z_c (ok_iaload rfl dX12_hueBits_114) (z_c (ok_iload dX12_hueBits_115) (z_c (ok_icmp_ne dX12_hueBits_117 (by decide)) (z_c (ok_aload_n dX12_hueBits_120 rfl) (z_c (ok_getf (C := RX12) (T := TX12) (N := 73) rfl (by decide) zinX12 rfl zw_739 dX12_hueBits_121) z_n))))))))))))
noncomputable def tX12_hueBits_6 : List (Nat × zF) := [(124, (zst 2 (zp (.int (6))))), (126, (zla4 0 1)), (127, (zgf 12 68)), (130, (zli4 6 2)), (132, (zal 0)), (133, (zst 1 z_iadd)), (134, (zal 0)), (135, (zla4 0 1)), (136, (zgf 12 69)), (139, (zli4 6 2)), (141, (zal 0)), (142, (z_ic_ne 149))]
theorem kX12_hueBits_6 : ∀ q ∈ tX12_hueBits_6, zOk zg iX12_hueBits q.1 q.2 := (z_c (ok_bipush (v := (6)) dX12_hueBits_124 (by decide)) (z_c (ok_aload_n dX12_hueBits_126 rfl) (z_c (ok_getf (C := RX12) (T := TX12) (N := 73) rfl (by decide) zinX12 rfl zw_756 dX12_hueBits_127) (z_c (ok_iload dX12_hueBits_130) (z_c (ok_iaload rfl dX12_hueBits_132) (z_c (ok_iadd dX12_hueBits_133) (z_c (ok_iaload rfl dX12_hueBits_134) (z_c (ok_aload_n dX12_hueBits_135 rfl) (z_c (ok_getf (C := RX12) (T := TX12) (N := 73) rfl (by decide) zinX12 rfl zw_757 dX12_hueBits_136) (z_c (ok_iload dX12_hueBits_139) (z_c (ok_iaload rfl dX12_hueBits_141) (z_c (ok_icmp_ne dX12_hueBits_142 (by decide)) z_n))))))))))))
noncomputable def tX12_hueBits_7 : List (Nat × zF) := [(145, (zst 1 (zp (.int (1))))), (146, (zgt 150)), (149, (zst 1 (zp (.int (0))))), (150, (zst 1 z_iadd)), (151, (zsi4 7 4 2)), (153, (zin4 7 6 (1))), (156, (zgt 97)), (159, (zla4 0 1)), (160, (zst 1 (zp (.int (1))))), (161, (zst 1 (zp (.int ((-1)))))), (162, (zcv 235 2 12)), (165, (zst 1 zpo))]
theorem kX12_hueBits_7 : ∀ q ∈ tX12_hueBits_7, zOk zg iX12_hueBits q.1 q.2 := (z_c (ok_iconst (v := (1)) dX12_hueBits_145 (by decide)) (z_c (ok_goto dX12_hueBits_146 (by decide)) (z_c (ok_iconst (v := (0)) dX12_hueBits_149 (by decide)) (z_c (ok_iadd dX12_hueBits_150) (z_c (ok_istore dX12_hueBits_151) (z_c (ok_iinc (v := (1)) dX12_hueBits_153 (by decide)) (z_c (ok_goto dX12_hueBits_156 (by decide)) (z_c (ok_aload_n dX12_hueBits_159 rfl) (z_c (ok_iconst (v := (1)) dX12_hueBits_160 (by decide)) (z_c (ok_iconst (v := (-1)) dX12_hueBits_161 (by decide)) (z_c (ok_callV zcal_235 (q := (RX12, TX12, 73)) rfl zw_981 zw_982 zw_983 dX12_hueBits_162) (z_c (ok_pop dX12_hueBits_165) z_n))))))))))))
noncomputable def tX12_hueBits_8 : List (Nat × zF) := [(166, (zin4 7 5 (1))), (169, (zgt 31)), (172, (zli4 2 1)), (173, (zli4 4 2)), (175, (zla4 0 1)), (176, (zgf 12 66)), (179, (z_ic_ne 188)), (182, (zst 1 (zp (.int (1))))), (183, (zli4 3 1)), (184, (zst 1 z_ishl)), (185, (zgt 189)), (188, (zst 1 (zp (.int (0)))))]
theorem kX12_hueBits_8 : ∀ q ∈ tX12_hueBits_8, zOk zg iX12_hueBits q.1 q.2 := (z_c (ok_iinc (v := (1)) dX12_hueBits_166 (by decide)) (z_c (ok_goto dX12_hueBits_169 (by decide)) (z_c (ok_iload_n dX12_hueBits_172 rfl) (z_c (ok_iload dX12_hueBits_173) (z_c (ok_aload_n dX12_hueBits_175 rfl) (z_c (ok_getf (C := RX12) (T := TX12) (N := 73) rfl (by decide) zinX12 rfl zw_754 dX12_hueBits_176) (z_c (ok_icmp_ne dX12_hueBits_179 (by decide)) (z_c (ok_iconst (v := (1)) dX12_hueBits_182 (by decide)) (z_c (ok_iload_n dX12_hueBits_183 rfl) (z_c (ok_ishl dX12_hueBits_184) (z_c (ok_goto dX12_hueBits_185 (by decide)) (z_c (ok_iconst (v := (0)) dX12_hueBits_188 (by decide)) z_n))))))))))))
noncomputable def tX12_hueBits_9 : List (Nat × zF) := [(189, (zst 1 z_ior)), (190, (zsi4 7 2 1)), (191, (zin4 7 3 (1))), (194, (zgt 4)), (197, (zla4 0 1)), (198, (zgf 12 57)), (201, (zli4 1 1)), (202, (zla4 0 1)), (203, (zgf 12 21)), (206, (zst 2 (zp (.int (9))))), (208, (zla4 0 1)), (209, (zgf 12 13))]
theorem kX12_hueBits_9 : ∀ q ∈ tX12_hueBits_9, zOk zg iX12_hueBits q.1 q.2 := (z_c (ok_ior dX12_hueBits_189) (z_c (ok_istore_n dX12_hueBits_190 rfl) (z_c (ok_iinc (v := (1)) dX12_hueBits_191 (by decide)) (z_c (ok_goto dX12_hueBits_194 (by decide)) (z_c (ok_aload_n dX12_hueBits_197 rfl) (z_c (ok_getf (C := RX12) (T := TX12) (N := 73) rfl (by decide) zinX12 rfl zw_745 dX12_hueBits_198) (z_c (ok_iload_n dX12_hueBits_201 rfl) (z_c (ok_aload_n dX12_hueBits_202 rfl) (z_c (ok_getf (C := RX12) (T := TX12) (N := 73) rfl (by decide) zinX12 rfl zw_708 dX12_hueBits_203) (z_c (ok_bipush (v := (9)) dX12_hueBits_206 (by decide)) (z_c (ok_aload_n dX12_hueBits_208 rfl) (z_c (ok_getf (C := RX12) (T := TX12) (N := 73) rfl (by decide) zinX12 rfl zw_700 dX12_hueBits_209) z_n))))))))))))
noncomputable def tX12_hueBits_10 : List (Nat × zF) := [(212, (zst 1 z_imul)), (213, (zli4 1 1)), (214, (zst 1 z_iadd)), (215, (zal 0)), (216, (zas 0)), (217, (zli4 2 1)), (218, (zri false))]
theorem kX12_hueBits_10 : ∀ q ∈ tX12_hueBits_10, zOk zg iX12_hueBits q.1 q.2 := (z_c (ok_imul dX12_hueBits_212) (z_c (ok_iload_n dX12_hueBits_213 rfl) (z_c (ok_iadd dX12_hueBits_214) (z_c (ok_iaload rfl dX12_hueBits_215) (z_c (ok_iastore rfl dX12_hueBits_216) (z_c (ok_iload_n dX12_hueBits_217 rfl) (z_c (ok_ireturn rfl dX12_hueBits_218) z_n)))))))
noncomputable def tX12_hueBits : zT := [(17, tX12_hueBits_0), (34, tX12_hueBits_1), (57, tX12_hueBits_2), (77, tX12_hueBits_3), (99, tX12_hueBits_4), (124, tX12_hueBits_5), (145, tX12_hueBits_6), (166, tX12_hueBits_7), (189, tX12_hueBits_8), (212, tX12_hueBits_9), (100000, tX12_hueBits_10)]
theorem kX12_hueBits : zTok zg iX12_hueBits tX12_hueBits := (z_t kX12_hueBits_0 (z_t kX12_hueBits_1 (z_t kX12_hueBits_2 (z_t kX12_hueBits_3 (z_t kX12_hueBits_4 (z_t kX12_hueBits_5 (z_t kX12_hueBits_6 (z_t kX12_hueBits_7 (z_t kX12_hueBits_8 (z_t kX12_hueBits_9 (z_t kX12_hueBits_10 z_tn)))))))))))
theorem dX12_hues_0 : decode cX12_hues 0 = .ok (.aload_n 0, 1) := by decide +kernel
theorem dX12_hues_1 : decode cX12_hues 1 = .ok (.iload_n 1, 1) := by decide +kernel
theorem dX12_hues_2 : decode cX12_hues 2 = .ok (.invokevirtual 504, 3) := by decide +kernel
theorem dX12_hues_5 : decode cX12_hues 5 = .ok (.ifCond .eq 11, 3) := by decide +kernel
theorem dX12_hues_8 : decode cX12_hues 8 = .ok (.aload_n 0, 1) := by decide +kernel
theorem dX12_hues_9 : decode cX12_hues 9 = .ok (.iload_n 1, 1) := by decide +kernel
theorem dX12_hues_10 : decode cX12_hues 10 = .ok (.invokevirtual 537, 3) := by decide +kernel
theorem dX12_hues_13 : decode cX12_hues 13 = .ok (.goto 4, 3) := by decide +kernel
theorem dX12_hues_16 : decode cX12_hues 16 = .ok (.iconst (-1), 1) := by decide +kernel
theorem dX12_hues_17 : decode cX12_hues 17 = .ok (.ireturn, 1) := by decide +kernel
noncomputable def tX12_hues_0 : List (Nat × zF) := [(0, (zla4 0 1)), (1, (zli4 1 1)), (2, (zcv 236 1 12)), (5, (z_if_eq 16)), (8, (zla4 0 1)), (9, (zli4 1 1)), (10, (zcv 260 1 12)), (13, (zgt 17)), (16, (zst 1 (zp (.int ((-1)))))), (17, (zri false))]
theorem kX12_hues_0 : ∀ q ∈ tX12_hues_0, zOk zg iX12_hues q.1 q.2 := (z_c (ok_aload_n dX12_hues_0 rfl) (z_c (ok_iload_n dX12_hues_1 rfl) (z_c (ok_callV zcal_236 (q := (RX12, TX12, 73)) rfl zw_972 zw_973 zw_974 dX12_hues_2) (z_c (ok_if_eq dX12_hues_5 (by decide)) (z_c (ok_aload_n dX12_hues_8 rfl) (z_c (ok_iload_n dX12_hues_9 rfl) (z_c (ok_callV zcal_260 (q := (RX12, TX12, 73)) rfl zw_1001 zw_1002 zw_1003 dX12_hues_10) (z_c (ok_goto dX12_hues_13 (by decide)) (z_c (ok_iconst (v := (-1)) dX12_hues_16 (by decide)) (z_c (ok_ireturn rfl dX12_hues_17) z_n))))))))))
noncomputable def tX12_hues : zT := [(100000, tX12_hues_0)]
theorem kX12_hues : zTok zg iX12_hues tX12_hues := (z_t kX12_hues_0 z_tn)
theorem dX12_mostBy_0 : decode cX12_mostBy 0 = .ok (.iconst 0, 1) := by decide +kernel
theorem dX12_mostBy_1 : decode cX12_mostBy 1 = .ok (.istore 4, 2) := by decide +kernel
theorem dX12_mostBy_3 : decode cX12_mostBy 3 = .ok (.iconst 0, 1) := by decide +kernel
theorem dX12_mostBy_4 : decode cX12_mostBy 4 = .ok (.istore 5, 2) := by decide +kernel
theorem dX12_mostBy_6 : decode cX12_mostBy 6 = .ok (.iload 5, 2) := by decide +kernel
theorem dX12_mostBy_8 : decode cX12_mostBy 8 = .ok (.bipush 9, 2) := by decide +kernel
theorem dX12_mostBy_10 : decode cX12_mostBy 10 = .ok (.if_icmp .ge 109, 3) := by decide +kernel
theorem dX12_mostBy_13 : decode cX12_mostBy 13 = .ok (.iconst 0, 1) := by decide +kernel
theorem dX12_mostBy_14 : decode cX12_mostBy 14 = .ok (.istore 6, 2) := by decide +kernel
theorem dX12_mostBy_16 : decode cX12_mostBy 16 = .ok (.iconst 0, 1) := by decide +kernel
theorem dX12_mostBy_17 : decode cX12_mostBy 17 = .ok (.istore 7, 2) := by decide +kernel
theorem dX12_mostBy_19 : decode cX12_mostBy 19 = .ok (.iload 7, 2) := by decide +kernel
theorem dX12_mostBy_21 : decode cX12_mostBy 21 = .ok (.bipush 9, 2) := by decide +kernel
theorem dX12_mostBy_23 : decode cX12_mostBy 23 = .ok (.if_icmp .ge 74, 3) := by decide +kernel
theorem dX12_mostBy_26 : decode cX12_mostBy 26 = .ok (.iload 6, 2) := by decide +kernel
theorem dX12_mostBy_28 : decode cX12_mostBy 28 = .ok (.iload_n 1, 1) := by decide +kernel
theorem dX12_mostBy_29 : decode cX12_mostBy 29 = .ok (.iload 5, 2) := by decide +kernel
theorem dX12_mostBy_31 : decode cX12_mostBy 31 = .ok (.invokestatic 382, 3) := by decide +kernel
theorem dX12_mostBy_34 : decode cX12_mostBy 34 = .ok (.ifCond .eq 53, 3) := by decide +kernel
theorem dX12_mostBy_37 : decode cX12_mostBy 37 = .ok (.iload_n 1, 1) := by decide +kernel
theorem dX12_mostBy_38 : decode cX12_mostBy 38 = .ok (.iload 7, 2) := by decide +kernel
theorem dX12_mostBy_40 : decode cX12_mostBy 40 = .ok (.invokestatic 382, 3) := by decide +kernel
theorem dX12_mostBy_43 : decode cX12_mostBy 43 = .ok (.ifCond .eq 44, 3) := by decide +kernel
theorem dX12_mostBy_46 : decode cX12_mostBy 46 = .ok (.aload_n 0, 1) := by decide +kernel
theorem dX12_mostBy_47 : decode cX12_mostBy 47 = .ok (.getfield 225, 3) := by decide +kernel
theorem dX12_mostBy_50 : decode cX12_mostBy 50 = .ok (.bipush 6, 2) := by decide +kernel
theorem dX12_mostBy_52 : decode cX12_mostBy 52 = .ok (.bipush 31, 2) := by decide +kernel
theorem dX12_mostBy_54 : decode cX12_mostBy 54 = .ok (.iload 5, 2) := by decide +kernel
theorem dX12_mostBy_56 : decode cX12_mostBy 56 = .ok (.imul, 1) := by decide +kernel
theorem dX12_mostBy_57 : decode cX12_mostBy 57 = .ok (.iload_n 2, 1) := by decide +kernel
theorem dX12_mostBy_58 : decode cX12_mostBy 58 = .ok (.iadd, 1) := by decide +kernel
theorem dX12_mostBy_59 : decode cX12_mostBy 59 = .ok (.imul, 1) := by decide +kernel
theorem dX12_mostBy_60 : decode cX12_mostBy 60 = .ok (.iload_n 3, 1) := by decide +kernel
theorem dX12_mostBy_61 : decode cX12_mostBy 61 = .ok (.iadd, 1) := by decide +kernel
theorem dX12_mostBy_62 : decode cX12_mostBy 62 = .ok (.iaload, 1) := by decide +kernel
theorem dX12_mostBy_63 : decode cX12_mostBy 63 = .ok (.aload_n 0, 1) := by decide +kernel
theorem dX12_mostBy_64 : decode cX12_mostBy 64 = .ok (.getfield 225, 3) := by decide +kernel
theorem dX12_mostBy_67 : decode cX12_mostBy 67 = .ok (.bipush 6, 2) := by decide +kernel
theorem dX12_mostBy_69 : decode cX12_mostBy 69 = .ok (.bipush 31, 2) := by decide +kernel
theorem dX12_mostBy_71 : decode cX12_mostBy 71 = .ok (.iload 7, 2) := by decide +kernel
theorem dX12_mostBy_73 : decode cX12_mostBy 73 = .ok (.imul, 1) := by decide +kernel
theorem dX12_mostBy_74 : decode cX12_mostBy 74 = .ok (.iload_n 2, 1) := by decide +kernel
theorem dX12_mostBy_75 : decode cX12_mostBy 75 = .ok (.iadd, 1) := by decide +kernel
theorem dX12_mostBy_76 : decode cX12_mostBy 76 = .ok (.imul, 1) := by decide +kernel
theorem dX12_mostBy_77 : decode cX12_mostBy 77 = .ok (.iload_n 3, 1) := by decide +kernel
theorem dX12_mostBy_78 : decode cX12_mostBy 78 = .ok (.iadd, 1) := by decide +kernel
theorem dX12_mostBy_79 : decode cX12_mostBy 79 = .ok (.iaload, 1) := by decide +kernel
theorem dX12_mostBy_80 : decode cX12_mostBy 80 = .ok (.if_icmp .ne 7, 3) := by decide +kernel
theorem dX12_mostBy_83 : decode cX12_mostBy 83 = .ok (.iconst 1, 1) := by decide +kernel
theorem dX12_mostBy_84 : decode cX12_mostBy 84 = .ok (.goto 4, 3) := by decide +kernel
theorem dX12_mostBy_87 : decode cX12_mostBy 87 = .ok (.iconst 0, 1) := by decide +kernel
theorem dX12_mostBy_88 : decode cX12_mostBy 88 = .ok (.iadd, 1) := by decide +kernel
theorem dX12_mostBy_89 : decode cX12_mostBy 89 = .ok (.istore 6, 2) := by decide +kernel
theorem dX12_mostBy_91 : decode cX12_mostBy 91 = .ok (.iinc 7 1, 3) := by decide +kernel
theorem dX12_mostBy_94 : decode cX12_mostBy 94 = .ok (.goto (-75), 3) := by decide +kernel
theorem dX12_mostBy_97 : decode cX12_mostBy 97 = .ok (.iload 6, 2) := by decide +kernel
theorem dX12_mostBy_99 : decode cX12_mostBy 99 = .ok (.iload 4, 2) := by decide +kernel
theorem dX12_mostBy_101 : decode cX12_mostBy 101 = .ok (.if_icmp .le 8, 3) := by decide +kernel
theorem dX12_mostBy_104 : decode cX12_mostBy 104 = .ok (.iload 6, 2) := by decide +kernel
theorem dX12_mostBy_106 : decode cX12_mostBy 106 = .ok (.goto 5, 3) := by decide +kernel
theorem dX12_mostBy_109 : decode cX12_mostBy 109 = .ok (.iload 4, 2) := by decide +kernel
theorem dX12_mostBy_111 : decode cX12_mostBy 111 = .ok (.istore 4, 2) := by decide +kernel
theorem dX12_mostBy_113 : decode cX12_mostBy 113 = .ok (.iinc 5 1, 3) := by decide +kernel
theorem dX12_mostBy_116 : decode cX12_mostBy 116 = .ok (.goto (-110), 3) := by decide +kernel
theorem dX12_mostBy_119 : decode cX12_mostBy 119 = .ok (.iload 4, 2) := by decide +kernel
theorem dX12_mostBy_121 : decode cX12_mostBy 121 = .ok (.ireturn, 1) := by decide +kernel
noncomputable def tX12_mostBy_0 : List (Nat × zF) := [(0, (zst 1 (zp (.int (0))))), (1, (zsi4 8 4 2)), (3, (zst 1 (zp (.int (0))))), (4, (zsi4 8 5 2)), (6, (zli4 5 2)), (8, (zst 2 (zp (.int (9))))), (10, (z_ic_ge 119)), (13, (zst 1 (zp (.int (0))))), (14, (zsi4 8 6 2)), (16, (zst 1 (zp (.int (0))))), (17, (zsi4 8 7 2)), (19, (zli4 7 2))]
theorem kX12_mostBy_0 : ∀ q ∈ tX12_mostBy_0, zOk zg iX12_mostBy q.1 q.2 := (z_c (ok_iconst (v := (0)) dX12_mostBy_0 (by decide)) (z_c (ok_istore dX12_mostBy_1) (z_c (ok_iconst (v := (0)) dX12_mostBy_3 (by decide)) (z_c (ok_istore dX12_mostBy_4) (z_c (ok_iload dX12_mostBy_6) (z_c (ok_bipush (v := (9)) dX12_mostBy_8 (by decide)) (z_c (ok_icmp_ge dX12_mostBy_10 (by decide)) (z_c (ok_iconst (v := (0)) dX12_mostBy_13 (by decide)) (z_c (ok_istore dX12_mostBy_14) (z_c (ok_iconst (v := (0)) dX12_mostBy_16 (by decide)) (z_c (ok_istore dX12_mostBy_17) (z_c (ok_iload dX12_mostBy_19) z_n))))))))))))
noncomputable def tX12_mostBy_1 : List (Nat × zF) := [(21, (zst 2 (zp (.int (9))))), (23, (z_ic_ge 97)), (26, (zli4 6 2)), (28, (zli4 1 1)), (29, (zli4 5 2)), (31, (zcs 193 2)), (34, (z_if_eq 87)), (37, (zli4 1 1)), (38, (zli4 7 2)), (40, (zcs 193 2)), (43, (z_if_eq 87)), (46, (zla4 0 1))]
theorem kX12_mostBy_1 : ∀ q ∈ tX12_mostBy_1, zOk zg iX12_mostBy q.1 q.2 := (z_c (ok_bipush (v := (9)) dX12_mostBy_21 (by decide)) (z_c (ok_icmp_ge dX12_mostBy_23 (by decide)) (z_c (ok_iload dX12_mostBy_26) (z_c (ok_iload_n dX12_mostBy_28 rfl) (z_c (ok_iload dX12_mostBy_29) (z_c (ok_callS zcal_193 zw_866 zw_867 dX12_mostBy_31) (z_c (ok_if_eq dX12_mostBy_34 (by decide)) (z_c (ok_iload_n dX12_mostBy_37 rfl) (z_c (ok_iload dX12_mostBy_38) (z_c (ok_callS zcal_193 zw_866 zw_867 dX12_mostBy_40) (z_c (ok_if_eq dX12_mostBy_43 (by decide)) (z_c (ok_aload_n dX12_mostBy_46 rfl) z_n))))))))))))
noncomputable def tX12_mostBy_2 : List (Nat × zF) := [(47, (zgf 12 70)), (50, (zst 2 (zp (.int (6))))), (52, (zst 2 (zp (.int (31))))), (54, (zli4 5 2)), (56, (zst 1 z_imul)), (57, (zli4 2 1)), (58, (zst 1 z_iadd)), (59, (zst 1 z_imul)), (60, (zli4 3 1)), (61, (zst 1 z_iadd)), (62, (zal 0)), (63, (zla4 0 1))]
theorem kX12_mostBy_2 : ∀ q ∈ tX12_mostBy_2, zOk zg iX12_mostBy q.1 q.2 := (z_c (ok_getf (C := RX12) (T := TX12) (N := 73) rfl (by decide) zinX12 rfl zw_758 dX12_mostBy_47) (z_c (ok_bipush (v := (6)) dX12_mostBy_50 (by decide)) (z_c (ok_bipush (v := (31)) dX12_mostBy_52 (by decide)) (z_c (ok_iload dX12_mostBy_54) (z_c (ok_imul dX12_mostBy_56) (z_c (ok_iload_n dX12_mostBy_57 rfl) (z_c (ok_iadd dX12_mostBy_58) (z_c (ok_imul dX12_mostBy_59) (z_c (ok_iload_n dX12_mostBy_60 rfl) (z_c (ok_iadd dX12_mostBy_61) (z_c (ok_iaload rfl dX12_mostBy_62) (z_c (ok_aload_n dX12_mostBy_63 rfl) z_n))))))))))))
noncomputable def tX12_mostBy_3 : List (Nat × zF) := [(64, (zgf 12 70)), (67, (zst 2 (zp (.int (6))))), (69, (zst 2 (zp (.int (31))))), (71, (zli4 7 2)), (73, (zst 1 z_imul)), (74, (zli4 2 1)), (75, (zst 1 z_iadd)), (76, (zst 1 z_imul)), (77, (zli4 3 1)), (78, (zst 1 z_iadd)), (79, (zal 0)), (80, (z_ic_ne 87))]
theorem kX12_mostBy_3 : ∀ q ∈ tX12_mostBy_3, zOk zg iX12_mostBy q.1 q.2 := (z_c (ok_getf (C := RX12) (T := TX12) (N := 73) rfl (by decide) zinX12 rfl zw_758 dX12_mostBy_64) (z_c (ok_bipush (v := (6)) dX12_mostBy_67 (by decide)) (z_c (ok_bipush (v := (31)) dX12_mostBy_69 (by decide)) (z_c (ok_iload dX12_mostBy_71) (z_c (ok_imul dX12_mostBy_73) (z_c (ok_iload_n dX12_mostBy_74 rfl) (z_c (ok_iadd dX12_mostBy_75) (z_c (ok_imul dX12_mostBy_76) (z_c (ok_iload_n dX12_mostBy_77 rfl) (z_c (ok_iadd dX12_mostBy_78) (z_c (ok_iaload rfl dX12_mostBy_79) (z_c (ok_icmp_ne dX12_mostBy_80 (by decide)) z_n))))))))))))
noncomputable def tX12_mostBy_4 : List (Nat × zF) := [(83, (zst 1 (zp (.int (1))))), (84, (zgt 88)), (87, (zst 1 (zp (.int (0))))), (88, (zst 1 z_iadd)), (89, (zsi4 8 6 2)), (91, (zin4 8 7 (1))), (94, (zgt 19)), (97, (zli4 6 2)), (99, (zli4 4 2)), (101, (z_ic_le 109)), (104, (zli4 6 2)), (106, (zgt 111))]
theorem kX12_mostBy_4 : ∀ q ∈ tX12_mostBy_4, zOk zg iX12_mostBy q.1 q.2 := (z_c (ok_iconst (v := (1)) dX12_mostBy_83 (by decide)) (z_c (ok_goto dX12_mostBy_84 (by decide)) (z_c (ok_iconst (v := (0)) dX12_mostBy_87 (by decide)) (z_c (ok_iadd dX12_mostBy_88) (z_c (ok_istore dX12_mostBy_89) (z_c (ok_iinc (v := (1)) dX12_mostBy_91 (by decide)) (z_c (ok_goto dX12_mostBy_94 (by decide)) (z_c (ok_iload dX12_mostBy_97) (z_c (ok_iload dX12_mostBy_99) (z_c (ok_icmp_le dX12_mostBy_101 (by decide)) (z_c (ok_iload dX12_mostBy_104) (z_c (ok_goto dX12_mostBy_106 (by decide)) z_n))))))))))))
noncomputable def tX12_mostBy_5 : List (Nat × zF) := [(109, (zli4 4 2)), (111, (zsi4 8 4 2)), (113, (zin4 8 5 (1))), (116, (zgt 6)), (119, (zli4 4 2)), (121, (zri false))]
theorem kX12_mostBy_5 : ∀ q ∈ tX12_mostBy_5, zOk zg iX12_mostBy q.1 q.2 := (z_c (ok_iload dX12_mostBy_109) (z_c (ok_istore dX12_mostBy_111) (z_c (ok_iinc (v := (1)) dX12_mostBy_113 (by decide)) (z_c (ok_goto dX12_mostBy_116 (by decide)) (z_c (ok_iload dX12_mostBy_119) (z_c (ok_ireturn rfl dX12_mostBy_121) z_n))))))
noncomputable def tX12_mostBy : zT := [(21, tX12_mostBy_0), (47, tX12_mostBy_1), (64, tX12_mostBy_2), (83, tX12_mostBy_3), (109, tX12_mostBy_4), (100000, tX12_mostBy_5)]
theorem kX12_mostBy : zTok zg iX12_mostBy tX12_mostBy := (z_t kX12_mostBy_0 (z_t kX12_mostBy_1 (z_t kX12_mostBy_2 (z_t kX12_mostBy_3 (z_t kX12_mostBy_4 (z_t kX12_mostBy_5 z_tn))))))
theorem dX12_tells_0 : decode cX12_tells 0 = .ok (.aload_n 0, 1) := by decide +kernel
theorem dX12_tells_1 : decode cX12_tells 1 = .ok (.iload_n 1, 1) := by decide +kernel
theorem dX12_tells_2 : decode cX12_tells 2 = .ok (.invokevirtual 504, 3) := by decide +kernel
theorem dX12_tells_5 : decode cX12_tells 5 = .ok (.ifCond .eq 12, 3) := by decide +kernel
theorem dX12_tells_8 : decode cX12_tells 8 = .ok (.iload_n 2, 1) := by decide +kernel
theorem dX12_tells_9 : decode cX12_tells 9 = .ok (.iconst 0, 1) := by decide +kernel
theorem dX12_tells_10 : decode cX12_tells 10 = .ok (.iconst 2, 1) := by decide +kernel
theorem dX12_tells_11 : decode cX12_tells 11 = .ok (.invokestatic 318, 3) := by decide +kernel
theorem dX12_tells_14 : decode cX12_tells 14 = .ok (.ifCond .ne 5, 3) := by decide +kernel
theorem dX12_tells_17 : decode cX12_tells 17 = .ok (.iconst (-1), 1) := by decide +kernel
theorem dX12_tells_18 : decode cX12_tells 18 = .ok (.ireturn, 1) := by decide +kernel
theorem dX12_tells_19 : decode cX12_tells 19 = .ok (.aload_n 0, 1) := by decide +kernel
theorem dX12_tells_20 : decode cX12_tells 20 = .ok (.iload_n 1, 1) := by decide +kernel
theorem dX12_tells_21 : decode cX12_tells 21 = .ok (.invokevirtual 537, 3) := by decide +kernel
theorem dX12_tells_24 : decode cX12_tells 24 = .ok (.istore_n 3, 1) := by decide +kernel
theorem dX12_tells_25 : decode cX12_tells 25 = .ok (.iconst (-1), 1) := by decide +kernel
theorem dX12_tells_26 : decode cX12_tells 26 = .ok (.istore 4, 2) := by decide +kernel
theorem dX12_tells_28 : decode cX12_tells 28 = .ok (.ldc_w 474, 3) := by decide +kernel
theorem dX12_tells_31 : decode cX12_tells 31 = .ok (.istore 5, 2) := by decide +kernel
theorem dX12_tells_33 : decode cX12_tells 33 = .ok (.iconst 1, 1) := by decide +kernel
theorem dX12_tells_34 : decode cX12_tells 34 = .ok (.istore 6, 2) := by decide +kernel
theorem dX12_tells_36 : decode cX12_tells 36 = .ok (.aload_n 0, 1) := by decide +kernel
theorem dX12_tells_37 : decode cX12_tells 37 = .ok (.iload 6, 2) := by decide +kernel
theorem dX12_tells_39 : decode cX12_tells 39 = .ok (.iconst 1, 1) := by decide +kernel
theorem dX12_tells_40 : decode cX12_tells 40 = .ok (.bipush 30, 2) := by decide +kernel
theorem dX12_tells_42 : decode cX12_tells 42 = .ok (.invokevirtual 518, 3) := by decide +kernel
theorem dX12_tells_45 : decode cX12_tells 45 = .ok (.ifCond .eq 71, 3) := by decide +kernel
theorem dX12_tells_48 : decode cX12_tells 48 = .ok (.iload_n 3, 1) := by decide +kernel
theorem dX12_tells_49 : decode cX12_tells 49 = .ok (.ifCond .eq 67, 3) := by decide +kernel
theorem dX12_tells_52 : decode cX12_tells 52 = .ok (.iconst 0, 1) := by decide +kernel
theorem dX12_tells_53 : decode cX12_tells 53 = .ok (.istore 7, 2) := by decide +kernel
theorem dX12_tells_55 : decode cX12_tells 55 = .ok (.iload 7, 2) := by decide +kernel
theorem dX12_tells_57 : decode cX12_tells 57 = .ok (.aload_n 0, 1) := by decide +kernel
theorem dX12_tells_58 : decode cX12_tells 58 = .ok (.getfield 84, 3) := by decide +kernel
theorem dX12_tells_61 : decode cX12_tells 61 = .ok (.aload_n 0, 1) := by decide +kernel
theorem dX12_tells_62 : decode cX12_tells 62 = .ok (.getfield 51, 3) := by decide +kernel
theorem dX12_tells_65 : decode cX12_tells 65 = .ok (.iaload, 1) := by decide +kernel
theorem dX12_tells_66 : decode cX12_tells 66 = .ok (.if_icmp .ge 44, 3) := by decide +kernel
theorem dX12_tells_69 : decode cX12_tells 69 = .ok (.aload_n 0, 1) := by decide +kernel
theorem dX12_tells_70 : decode cX12_tells 70 = .ok (.iload_n 3, 1) := by decide +kernel
theorem dX12_tells_71 : decode cX12_tells 71 = .ok (.iload 6, 2) := by decide +kernel
theorem dX12_tells_73 : decode cX12_tells 73 = .ok (.iload 7, 2) := by decide +kernel
theorem dX12_tells_75 : decode cX12_tells 75 = .ok (.invokevirtual 540, 3) := by decide +kernel
theorem dX12_tells_78 : decode cX12_tells 78 = .ok (.istore 8, 2) := by decide +kernel
theorem dX12_tells_80 : decode cX12_tells 80 = .ok (.iload 8, 2) := by decide +kernel
theorem dX12_tells_82 : decode cX12_tells 82 = .ok (.iload 5, 2) := by decide +kernel
theorem dX12_tells_84 : decode cX12_tells 84 = .ok (.if_icmp .lt 6, 3) := by decide +kernel
theorem dX12_tells_87 : decode cX12_tells 87 = .ok (.goto 17, 3) := by decide +kernel
theorem dX12_tells_90 : decode cX12_tells 90 = .ok (.iload 8, 2) := by decide +kernel
theorem dX12_tells_92 : decode cX12_tells 92 = .ok (.istore 5, 2) := by decide +kernel
theorem dX12_tells_94 : decode cX12_tells 94 = .ok (.bipush 6, 2) := by decide +kernel
theorem dX12_tells_96 : decode cX12_tells 96 = .ok (.iload 6, 2) := by decide +kernel
theorem dX12_tells_98 : decode cX12_tells 98 = .ok (.imul, 1) := by decide +kernel
theorem dX12_tells_99 : decode cX12_tells 99 = .ok (.iload 7, 2) := by decide +kernel
theorem dX12_tells_101 : decode cX12_tells 101 = .ok (.iadd, 1) := by decide +kernel
theorem dX12_tells_102 : decode cX12_tells 102 = .ok (.istore 4, 2) := by decide +kernel
theorem dX12_tells_104 : decode cX12_tells 104 = .ok (.iinc 7 1, 3) := by decide +kernel
theorem dX12_tells_107 : decode cX12_tells 107 = .ok (.goto (-52), 3) := by decide +kernel
theorem dX12_tells_110 : decode cX12_tells 110 = .ok (.iinc 6 1, 3) := by decide +kernel
theorem dX12_tells_113 : decode cX12_tells 113 = .ok (.goto (-77), 3) := by decide +kernel
theorem dX12_tells_116 : decode cX12_tells 116 = .ok (.iload 4, 2) := by decide +kernel
theorem dX12_tells_118 : decode cX12_tells 118 = .ok (.iconst (-1), 1) := by decide +kernel
theorem dX12_tells_119 : decode cX12_tells 119 = .ok (.if_icmp .ne 7, 3) := by decide +kernel
theorem dX12_tells_122 : decode cX12_tells 122 = .ok (.iconst (-1), 1) := by decide +kernel
theorem dX12_tells_123 : decode cX12_tells 123 = .ok (.goto 30, 3) := by decide +kernel
theorem dX12_tells_126 : decode cX12_tells 126 = .ok (.iload_n 2, 1) := by decide +kernel
theorem dX12_tells_127 : decode cX12_tells 127 = .ok (.ifCond .ne 11, 3) := by decide +kernel
theorem dX12_tells_130 : decode cX12_tells 130 = .ok (.iload 4, 2) := by decide +kernel
theorem dX12_tells_132 : decode cX12_tells 132 = .ok (.bipush 6, 2) := by decide +kernel
theorem dX12_tells_134 : decode cX12_tells 134 = .ok (.idiv, 1) := by decide +kernel
theorem dX12_tells_135 : decode cX12_tells 135 = .ok (.goto 18, 3) := by decide +kernel
theorem dX12_tells_138 : decode cX12_tells 138 = .ok (.iload_n 2, 1) := by decide +kernel
theorem dX12_tells_139 : decode cX12_tells 139 = .ok (.iconst 1, 1) := by decide +kernel
theorem dX12_tells_140 : decode cX12_tells 140 = .ok (.if_icmp .ne 11, 3) := by decide +kernel
theorem dX12_tells_143 : decode cX12_tells 143 = .ok (.iload 4, 2) := by decide +kernel
theorem dX12_tells_145 : decode cX12_tells 145 = .ok (.bipush 6, 2) := by decide +kernel
theorem dX12_tells_147 : decode cX12_tells 147 = .ok (.irem, 1) := by decide +kernel
theorem dX12_tells_148 : decode cX12_tells 148 = .ok (.goto 5, 3) := by decide +kernel
theorem dX12_tells_151 : decode cX12_tells 151 = .ok (.iload 5, 2) := by decide +kernel
theorem dX12_tells_153 : decode cX12_tells 153 = .ok (.ireturn, 1) := by decide +kernel
noncomputable def tX12_tells_0 : List (Nat × zF) := [(0, (zla4 0 1)), (1, (zli4 1 1)), (2, (zcv 236 1 12)), (5, (z_if_eq 17)), (8, (zli4 2 1)), (9, (zst 1 (zp (.int (0))))), (10, (zst 1 (zp (.int (2))))), (11, (zcs 165 3)), (14, (z_if_ne 19)), (17, (zst 1 (zp (.int ((-1)))))), (18, (zri false)), (19, (zla4 0 1))]
theorem kX12_tells_0 : ∀ q ∈ tX12_tells_0, zOk zg iX12_tells q.1 q.2 := (z_c (ok_aload_n dX12_tells_0 rfl) (z_c (ok_iload_n dX12_tells_1 rfl) (z_c (ok_callV zcal_236 (q := (RX12, TX12, 73)) rfl zw_972 zw_973 zw_974 dX12_tells_2) (z_c (ok_if_eq dX12_tells_5 (by decide)) (z_c (ok_iload_n dX12_tells_8 rfl) (z_c (ok_iconst (v := (0)) dX12_tells_9 (by decide)) (z_c (ok_iconst (v := (2)) dX12_tells_10 (by decide)) (z_c (ok_callS zcal_165 zw_812 zw_813 dX12_tells_11) (z_c (ok_if_ne dX12_tells_14 (by decide)) (z_c (ok_iconst (v := (-1)) dX12_tells_17 (by decide)) (z_c (ok_ireturn rfl dX12_tells_18) (z_c (ok_aload_n dX12_tells_19 rfl) z_n))))))))))))
noncomputable def tX12_tells_1 : List (Nat × zF) := [(20, (zli4 1 1)), (21, (zcv 260 1 12)), (24, (zsi4 9 3 1)), (25, (zst 1 (zp (.int ((-1)))))), (26, (zsi4 9 4 2)), (28, (zst 3 (zp (.int (100000000))))), (31, (zsi4 9 5 2)), (33, (zst 1 (zp (.int (1))))), (34, (zsi4 9 6 2)), (36, (zla4 0 1)), (37, (zli4 6 2)), (39, (zst 1 (zp (.int (1)))))]
theorem kX12_tells_1 : ∀ q ∈ tX12_tells_1, zOk zg iX12_tells q.1 q.2 := (z_c (ok_iload_n dX12_tells_20 rfl) (z_c (ok_callV zcal_260 (q := (RX12, TX12, 73)) rfl zw_1001 zw_1002 zw_1003 dX12_tells_21) (z_c (ok_istore_n dX12_tells_24 rfl) (z_c (ok_iconst (v := (-1)) dX12_tells_25 (by decide)) (z_c (ok_istore dX12_tells_26) (z_c (ok_ldcw (v := (100000000)) zw_944 dX12_tells_28) (z_c (ok_istore dX12_tells_31) (z_c (ok_iconst (v := (1)) dX12_tells_33 (by decide)) (z_c (ok_istore dX12_tells_34) (z_c (ok_aload_n dX12_tells_36 rfl) (z_c (ok_iload dX12_tells_37) (z_c (ok_iconst (v := (1)) dX12_tells_39 (by decide)) z_n))))))))))))
noncomputable def tX12_tells_2 : List (Nat × zF) := [(40, (zst 2 (zp (.int (30))))), (42, (zcv 245 3 12)), (45, (z_if_eq 116)), (48, (zli4 3 1)), (49, (z_if_eq 116)), (52, (zst 1 (zp (.int (0))))), (53, (zsi4 9 7 2)), (55, (zli4 7 2)), (57, (zla4 0 1)), (58, (zgf 12 24)), (61, (zla4 0 1)), (62, (zgf 12 13))]
theorem kX12_tells_2 : ∀ q ∈ tX12_tells_2, zOk zg iX12_tells q.1 q.2 := (z_c (ok_bipush (v := (30)) dX12_tells_40 (by decide)) (z_c (ok_callV zcal_245 (q := (RX12, TX12, 73)) rfl zw_984 zw_985 zw_986 dX12_tells_42) (z_c (ok_if_eq dX12_tells_45 (by decide)) (z_c (ok_iload_n dX12_tells_48 rfl) (z_c (ok_if_eq dX12_tells_49 (by decide)) (z_c (ok_iconst (v := (0)) dX12_tells_52 (by decide)) (z_c (ok_istore dX12_tells_53) (z_c (ok_iload dX12_tells_55) (z_c (ok_aload_n dX12_tells_57 rfl) (z_c (ok_getf (C := RX12) (T := TX12) (N := 73) rfl (by decide) zinX12 rfl zw_711 dX12_tells_58) (z_c (ok_aload_n dX12_tells_61 rfl) (z_c (ok_getf (C := RX12) (T := TX12) (N := 73) rfl (by decide) zinX12 rfl zw_700 dX12_tells_62) z_n))))))))))))
noncomputable def tX12_tells_3 : List (Nat × zF) := [(65, (zal 0)), (66, (z_ic_ge 110)), (69, (zla4 0 1)), (70, (zli4 3 1)), (71, (zli4 6 2)), (73, (zli4 7 2)), (75, (zcv 262 3 12)), (78, (zsi4 9 8 2)), (80, (zli4 8 2)), (82, (zli4 5 2)), (84, (z_ic_lt 90)), (87, (zgt 104))]
theorem kX12_tells_3 : ∀ q ∈ tX12_tells_3, zOk zg iX12_tells q.1 q.2 := (z_c (ok_iaload rfl dX12_tells_65) (z_c (ok_icmp_ge dX12_tells_66 (by decide)) (z_c (ok_aload_n dX12_tells_69 rfl) (z_c (ok_iload_n dX12_tells_70 rfl) (z_c (ok_iload dX12_tells_71) (z_c (ok_iload dX12_tells_73) (z_c (ok_callV zcal_262 (q := (RX12, TX12, 73)) rfl zw_1004 zw_1005 zw_1006 dX12_tells_75) (z_c (ok_istore dX12_tells_78) (z_c (ok_iload dX12_tells_80) (z_c (ok_iload dX12_tells_82) (z_c (ok_icmp_lt dX12_tells_84 (by decide)) (z_c (ok_goto dX12_tells_87 (by decide)) z_n))))))))))))
noncomputable def tX12_tells_4 : List (Nat × zF) := [(90, (zli4 8 2)), (92, (zsi4 9 5 2)), (94, (zst 2 (zp (.int (6))))), (96, (zli4 6 2)), (98, (zst 1 z_imul)), (99, (zli4 7 2)), (101, (zst 1 z_iadd)), (102, (zsi4 9 4 2)), (104, (zin4 9 7 (1))), (107, (zgt 55)), (110, (zin4 9 6 (1))), (113, (zgt 36))]
theorem kX12_tells_4 : ∀ q ∈ tX12_tells_4, zOk zg iX12_tells q.1 q.2 := (z_c (ok_iload dX12_tells_90) (z_c (ok_istore dX12_tells_92) (z_c (ok_bipush (v := (6)) dX12_tells_94 (by decide)) (z_c (ok_iload dX12_tells_96) (z_c (ok_imul dX12_tells_98) (z_c (ok_iload dX12_tells_99) (z_c (ok_iadd dX12_tells_101) (z_c (ok_istore dX12_tells_102) (z_c (ok_iinc (v := (1)) dX12_tells_104 (by decide)) (z_c (ok_goto dX12_tells_107 (by decide)) (z_c (ok_iinc (v := (1)) dX12_tells_110 (by decide)) (z_c (ok_goto dX12_tells_113 (by decide)) z_n))))))))))))
noncomputable def tX12_tells_5 : List (Nat × zF) := [(116, (zli4 4 2)), (118, (zst 1 (zp (.int ((-1)))))), (119, (z_ic_ne 126)), (122, (zst 1 (zp (.int ((-1)))))), (123, (zgt 153)), (126, (zli4 2 1)), (127, (z_if_ne 138)), (130, (zli4 4 2)), (132, (zst 2 (zp (.int (6))))), (134, (zst 1 z_idiv)), (135, (zgt 153)), (138, (zli4 2 1))]
theorem kX12_tells_5 : ∀ q ∈ tX12_tells_5, zOk zg iX12_tells q.1 q.2 := (z_c (ok_iload dX12_tells_116) (z_c (ok_iconst (v := (-1)) dX12_tells_118 (by decide)) (z_c (ok_icmp_ne dX12_tells_119 (by decide)) (z_c (ok_iconst (v := (-1)) dX12_tells_122 (by decide)) (z_c (ok_goto dX12_tells_123 (by decide)) (z_c (ok_iload_n dX12_tells_126 rfl) (z_c (ok_if_ne dX12_tells_127 (by decide)) (z_c (ok_iload dX12_tells_130) (z_c (ok_bipush (v := (6)) dX12_tells_132 (by decide)) (z_c (ok_idiv dX12_tells_134) (z_c (ok_goto dX12_tells_135 (by decide)) (z_c (ok_iload_n dX12_tells_138 rfl) z_n))))))))))))
noncomputable def tX12_tells_6 : List (Nat × zF) := [(139, (zst 1 (zp (.int (1))))), (140, (z_ic_ne 151)), (143, (zli4 4 2)), (145, (zst 2 (zp (.int (6))))), (147, (zst 1 z_irem)), (148, (zgt 153)), (151, (zli4 5 2)), (153, (zri false))]
theorem kX12_tells_6 : ∀ q ∈ tX12_tells_6, zOk zg iX12_tells q.1 q.2 := (z_c (ok_iconst (v := (1)) dX12_tells_139 (by decide)) (z_c (ok_icmp_ne dX12_tells_140 (by decide)) (z_c (ok_iload dX12_tells_143) (z_c (ok_bipush (v := (6)) dX12_tells_145 (by decide)) (z_c (ok_irem dX12_tells_147) (z_c (ok_goto dX12_tells_148 (by decide)) (z_c (ok_iload dX12_tells_151) (z_c (ok_ireturn rfl dX12_tells_153) z_n))))))))
noncomputable def tX12_tells : zT := [(20, tX12_tells_0), (40, tX12_tells_1), (65, tX12_tells_2), (90, tX12_tells_3), (116, tX12_tells_4), (139, tX12_tells_5), (100000, tX12_tells_6)]
theorem kX12_tells : zTok zg iX12_tells tX12_tells := (z_t kX12_tells_0 (z_t kX12_tells_1 (z_t kX12_tells_2 (z_t kX12_tells_3 (z_t kX12_tells_4 (z_t kX12_tells_5 (z_t kX12_tells_6 z_tn)))))))
theorem dX12_nights_0 : decode cX12_nights 0 = .ok (.aload_n 0, 1) := by decide +kernel
theorem dX12_nights_1 : decode cX12_nights 1 = .ok (.iload_n 1, 1) := by decide +kernel
theorem dX12_nights_2 : decode cX12_nights 2 = .ok (.iconst 1, 1) := by decide +kernel
theorem dX12_nights_3 : decode cX12_nights 3 = .ok (.bipush 40, 2) := by decide +kernel
theorem dX12_nights_5 : decode cX12_nights 5 = .ok (.invokevirtual 518, 3) := by decide +kernel
theorem dX12_nights_8 : decode cX12_nights 8 = .ok (.ifCond .ne 9, 3) := by decide +kernel
theorem dX12_nights_11 : decode cX12_nights 11 = .ok (.aload_n 0, 1) := by decide +kernel
theorem dX12_nights_12 : decode cX12_nights 12 = .ok (.iconst 2, 1) := by decide +kernel
theorem dX12_nights_13 : decode cX12_nights 13 = .ok (.invokevirtual 234, 3) := by decide +kernel
theorem dX12_nights_16 : decode cX12_nights 16 = .ok (.ireturn, 1) := by decide +kernel
theorem dX12_nights_17 : decode cX12_nights 17 = .ok (.aload_n 0, 1) := by decide +kernel
theorem dX12_nights_18 : decode cX12_nights 18 = .ok (.invokevirtual 543, 3) := by decide +kernel
theorem dX12_nights_21 : decode cX12_nights 21 = .ok (.iconst 0, 1) := by decide +kernel
theorem dX12_nights_22 : decode cX12_nights 22 = .ok (.istore_n 2, 1) := by decide +kernel
theorem dX12_nights_23 : decode cX12_nights 23 = .ok (.iconst 0, 1) := by decide +kernel
theorem dX12_nights_24 : decode cX12_nights 24 = .ok (.istore_n 3, 1) := by decide +kernel
theorem dX12_nights_25 : decode cX12_nights 25 = .ok (.iload_n 3, 1) := by decide +kernel
theorem dX12_nights_26 : decode cX12_nights 26 = .ok (.iload_n 1, 1) := by decide +kernel
theorem dX12_nights_27 : decode cX12_nights 27 = .ok (.if_icmp .ge 18, 3) := by decide +kernel
theorem dX12_nights_30 : decode cX12_nights 30 = .ok (.iload_n 2, 1) := by decide +kernel
theorem dX12_nights_31 : decode cX12_nights 31 = .ok (.aload_n 0, 1) := by decide +kernel
theorem dX12_nights_32 : decode cX12_nights 32 = .ok (.iconst 0, 1) := by decide +kernel
theorem dX12_nights_33 : decode cX12_nights 33 = .ok (.iconst (-1), 1) := by decide +kernel
theorem dX12_nights_34 : decode cX12_nights 34 = .ok (.invokevirtual 515, 3) := by decide +kernel
theorem dX12_nights_37 : decode cX12_nights 37 = .ok (.iadd, 1) := by decide +kernel
theorem dX12_nights_38 : decode cX12_nights 38 = .ok (.istore_n 2, 1) := by decide +kernel
theorem dX12_nights_39 : decode cX12_nights 39 = .ok (.iinc 3 1, 3) := by decide +kernel
theorem dX12_nights_42 : decode cX12_nights 42 = .ok (.goto (-17), 3) := by decide +kernel
theorem dX12_nights_45 : decode cX12_nights 45 = .ok (.iload_n 2, 1) := by decide +kernel
theorem dX12_nights_46 : decode cX12_nights 46 = .ok (.ireturn, 1) := by decide +kernel
noncomputable def tX12_nights_0 : List (Nat × zF) := [(0, (zla4 0 1)), (1, (zli4 1 1)), (2, (zst 1 (zp (.int (1))))), (3, (zst 2 (zp (.int (40))))), (5, (zcv 245 3 12)), (8, (z_if_ne 17)), (11, (zla4 0 1)), (12, (zst 1 (zp (.int (2))))), (13, (zcv 208 1 12)), (16, (zri false)), (17, (zla4 0 1)), (18, (zcv 213 0 12))]
theorem kX12_nights_0 : ∀ q ∈ tX12_nights_0, zOk zg iX12_nights q.1 q.2 := (z_c (ok_aload_n dX12_nights_0 rfl) (z_c (ok_iload_n dX12_nights_1 rfl) (z_c (ok_iconst (v := (1)) dX12_nights_2 (by decide)) (z_c (ok_bipush (v := (40)) dX12_nights_3 (by decide)) (z_c (ok_callV zcal_245 (q := (RX12, TX12, 73)) rfl zw_984 zw_985 zw_986 dX12_nights_5) (z_c (ok_if_ne dX12_nights_8 (by decide)) (z_c (ok_aload_n dX12_nights_11 rfl) (z_c (ok_iconst (v := (2)) dX12_nights_12 (by decide)) (z_c (ok_callV zcal_208 (q := (RX12, TX12, 73)) rfl zw_761 zw_762 zw_763 dX12_nights_13) (z_c (ok_ireturn rfl dX12_nights_16) (z_c (ok_aload_n dX12_nights_17 rfl) (z_c (ok_callV zcal_213 (q := (RX12, TX12, 73)) rfl zw_1007 zw_1008 zw_1009 dX12_nights_18) z_n))))))))))))
noncomputable def tX12_nights_1 : List (Nat × zF) := [(21, (zst 1 (zp (.int (0))))), (22, (zsi4 4 2 1)), (23, (zst 1 (zp (.int (0))))), (24, (zsi4 4 3 1)), (25, (zli4 3 1)), (26, (zli4 1 1)), (27, (z_ic_ge 45)), (30, (zli4 2 1)), (31, (zla4 0 1)), (32, (zst 1 (zp (.int (0))))), (33, (zst 1 (zp (.int ((-1)))))), (34, (zcv 235 2 12))]
theorem kX12_nights_1 : ∀ q ∈ tX12_nights_1, zOk zg iX12_nights q.1 q.2 := (z_c (ok_iconst (v := (0)) dX12_nights_21 (by decide)) (z_c (ok_istore_n dX12_nights_22 rfl) (z_c (ok_iconst (v := (0)) dX12_nights_23 (by decide)) (z_c (ok_istore_n dX12_nights_24 rfl) (z_c (ok_iload_n dX12_nights_25 rfl) (z_c (ok_iload_n dX12_nights_26 rfl) (z_c (ok_icmp_ge dX12_nights_27 (by decide)) (z_c (ok_iload_n dX12_nights_30 rfl) (z_c (ok_aload_n dX12_nights_31 rfl) (z_c (ok_iconst (v := (0)) dX12_nights_32 (by decide)) (z_c (ok_iconst (v := (-1)) dX12_nights_33 (by decide)) (z_c (ok_callV zcal_235 (q := (RX12, TX12, 73)) rfl zw_981 zw_982 zw_983 dX12_nights_34) z_n))))))))))))
noncomputable def tX12_nights_2 : List (Nat × zF) := [(37, (zst 1 z_iadd)), (38, (zsi4 4 2 1)), (39, (zin4 4 3 (1))), (42, (zgt 25)), (45, (zli4 2 1)), (46, (zri false))]
theorem kX12_nights_2 : ∀ q ∈ tX12_nights_2, zOk zg iX12_nights q.1 q.2 := (z_c (ok_iadd dX12_nights_37) (z_c (ok_istore_n dX12_nights_38 rfl) (z_c (ok_iinc (v := (1)) dX12_nights_39 (by decide)) (z_c (ok_goto dX12_nights_42 (by decide)) (z_c (ok_iload_n dX12_nights_45 rfl) (z_c (ok_ireturn rfl dX12_nights_46) z_n))))))
noncomputable def tX12_nights : zT := [(21, tX12_nights_0), (37, tX12_nights_1), (100000, tX12_nights_2)]
theorem kX12_nights : zTok zg iX12_nights tX12_nights := (z_t kX12_nights_0 (z_t kX12_nights_1 (z_t kX12_nights_2 z_tn)))
theorem dX12_draw_0 : decode cX12_draw 0 = .ok (.aload_n 0, 1) := by decide +kernel
theorem dX12_draw_1 : decode cX12_draw 1 = .ok (.ldc2_w 546, 3) := by decide +kernel
theorem dX12_draw_4 : decode cX12_draw 4 = .ok (.aload_n 0, 1) := by decide +kernel
theorem dX12_draw_5 : decode cX12_draw 5 = .ok (.getfield 183, 3) := by decide +kernel
theorem dX12_draw_8 : decode cX12_draw 8 = .ok (.lmul, 1) := by decide +kernel
theorem dX12_draw_9 : decode cX12_draw 9 = .ok (.ldc2_w 548, 3) := by decide +kernel
theorem dX12_draw_12 : decode cX12_draw 12 = .ok (.ladd, 1) := by decide +kernel
theorem dX12_draw_13 : decode cX12_draw 13 = .ok (.ldc2_w 550, 3) := by decide +kernel
theorem dX12_draw_16 : decode cX12_draw 16 = .ok (.lrem, 1) := by decide +kernel
theorem dX12_draw_17 : decode cX12_draw 17 = .ok (.putfield 183, 3) := by decide +kernel
theorem dX12_draw_20 : decode cX12_draw 20 = .ok (.aload_n 0, 1) := by decide +kernel
theorem dX12_draw_21 : decode cX12_draw 21 = .ok (.getfield 183, 3) := by decide +kernel
theorem dX12_draw_24 : decode cX12_draw 24 = .ok (.ldc2_w 552, 3) := by decide +kernel
theorem dX12_draw_27 : decode cX12_draw 27 = .ok (.ldiv, 1) := by decide +kernel
theorem dX12_draw_28 : decode cX12_draw 28 = .ok (.iload_n 1, 1) := by decide +kernel
theorem dX12_draw_29 : decode cX12_draw 29 = .ok (.i2l, 1) := by decide +kernel
theorem dX12_draw_30 : decode cX12_draw 30 = .ok (.lrem, 1) := by decide +kernel
theorem dX12_draw_31 : decode cX12_draw 31 = .ok (.l2i, 1) := by decide +kernel
theorem dX12_draw_32 : decode cX12_draw 32 = .ok (.ireturn, 1) := by decide +kernel
noncomputable def tX12_draw_0 : List (Nat × zF) := [(0, (zla4 0 1)), (1, (zst 3 (zp (.long (1103515245))))), (4, (zla4 0 1)), (5, (zgf 12 56)), (8, (zst 1 z_lmul)), (9, (zst 3 (zp (.long (12345))))), (12, (zst 1 z_ladd)), (13, (zst 3 (zp (.long (2147483648))))), (16, (zst 1 z_lrem)), (17, (zpf 12 56 (.long))), (20, (zla4 0 1)), (21, (zgf 12 56))]
theorem kX12_draw_0 : ∀ q ∈ tX12_draw_0, zOk zg iX12_draw q.1 q.2 := (z_c (ok_aload_n dX12_draw_0 rfl) (z_c (ok_ldc2 (v := (1103515245)) zw_1010 dX12_draw_1) (z_c (ok_aload_n dX12_draw_4 rfl) (z_c (ok_getf (C := RX12) (T := TX12) (N := 73) rfl (by decide) zinX12 rfl zw_744 dX12_draw_5) (z_c (ok_lmul dX12_draw_8) (z_c (ok_ldc2 (v := (12345)) zw_1011 dX12_draw_9) (z_c (ok_ladd dX12_draw_12) (z_c (ok_ldc2 (v := (2147483648)) zw_1012 dX12_draw_13) (z_c (ok_lrem dX12_draw_16) (z_c (ok_putf (C := RX12) (T := TX12) (N := 73) false tyX12 tyX12_ok nmX12 rfl (by decide) zinX12 rfl zw_744 rfl (fun h => absurd h (by decide)) rfl dX12_draw_17) (z_c (ok_aload_n dX12_draw_20 rfl) (z_c (ok_getf (C := RX12) (T := TX12) (N := 73) rfl (by decide) zinX12 rfl zw_744 dX12_draw_21) z_n))))))))))))
noncomputable def tX12_draw_1 : List (Nat × zF) := [(24, (zst 3 (zp (.long (64))))), (27, (zst 1 z_ldiv)), (28, (zli4 1 1)), (29, (zst 1 zil)), (30, (zst 1 z_lrem)), (31, (zst 1 zli)), (32, (zri false))]
theorem kX12_draw_1 : ∀ q ∈ tX12_draw_1, zOk zg iX12_draw q.1 q.2 := (z_c (ok_ldc2 (v := (64)) zw_1013 dX12_draw_24) (z_c (ok_ldiv dX12_draw_27) (z_c (ok_iload_n dX12_draw_28 rfl) (z_c (ok_i2l dX12_draw_29) (z_c (ok_lrem dX12_draw_30) (z_c (ok_l2i dX12_draw_31) (z_c (ok_ireturn rfl dX12_draw_32) z_n)))))))
noncomputable def tX12_draw : zT := [(24, tX12_draw_0), (100000, tX12_draw_1)]
theorem kX12_draw : zTok zg iX12_draw tX12_draw := (z_t kX12_draw_0 (z_t kX12_draw_1 z_tn))
theorem dX12_chance_0 : decode cX12_chance 0 = .ok (.aload_n 0, 1) := by decide +kernel
theorem dX12_chance_1 : decode cX12_chance 1 = .ok (.iload_n 1, 1) := by decide +kernel
theorem dX12_chance_2 : decode cX12_chance 2 = .ok (.iconst 1, 1) := by decide +kernel
theorem dX12_chance_3 : decode cX12_chance 3 = .ok (.bipush 40, 2) := by decide +kernel
theorem dX12_chance_5 : decode cX12_chance 5 = .ok (.invokevirtual 518, 3) := by decide +kernel
theorem dX12_chance_8 : decode cX12_chance 8 = .ok (.ifCond .ne 9, 3) := by decide +kernel
theorem dX12_chance_11 : decode cX12_chance 11 = .ok (.aload_n 0, 1) := by decide +kernel
theorem dX12_chance_12 : decode cX12_chance 12 = .ok (.iconst 2, 1) := by decide +kernel
theorem dX12_chance_13 : decode cX12_chance 13 = .ok (.invokevirtual 234, 3) := by decide +kernel
theorem dX12_chance_16 : decode cX12_chance 16 = .ok (.ireturn, 1) := by decide +kernel
theorem dX12_chance_17 : decode cX12_chance 17 = .ok (.aload_n 0, 1) := by decide +kernel
theorem dX12_chance_18 : decode cX12_chance 18 = .ok (.invokevirtual 543, 3) := by decide +kernel
theorem dX12_chance_21 : decode cX12_chance 21 = .ok (.iconst 0, 1) := by decide +kernel
theorem dX12_chance_22 : decode cX12_chance 22 = .ok (.istore_n 2, 1) := by decide +kernel
theorem dX12_chance_23 : decode cX12_chance 23 = .ok (.iconst 0, 1) := by decide +kernel
theorem dX12_chance_24 : decode cX12_chance 24 = .ok (.istore_n 3, 1) := by decide +kernel
theorem dX12_chance_25 : decode cX12_chance 25 = .ok (.iload_n 3, 1) := by decide +kernel
theorem dX12_chance_26 : decode cX12_chance 26 = .ok (.iload_n 1, 1) := by decide +kernel
theorem dX12_chance_27 : decode cX12_chance 27 = .ok (.if_icmp .ge 87, 3) := by decide +kernel
theorem dX12_chance_30 : decode cX12_chance 30 = .ok (.aload_n 0, 1) := by decide +kernel
theorem dX12_chance_31 : decode cX12_chance 31 = .ok (.bipush 100, 2) := by decide +kernel
theorem dX12_chance_33 : decode cX12_chance 33 = .ok (.invokevirtual 554, 3) := by decide +kernel
theorem dX12_chance_36 : decode cX12_chance 36 = .ok (.aload_n 0, 1) := by decide +kernel
theorem dX12_chance_37 : decode cX12_chance 37 = .ok (.getfield 63, 3) := by decide +kernel
theorem dX12_chance_40 : decode cX12_chance 40 = .ok (.aload_n 0, 1) := by decide +kernel
theorem dX12_chance_41 : decode cX12_chance 41 = .ok (.getfield 51, 3) := by decide +kernel
theorem dX12_chance_44 : decode cX12_chance 44 = .ok (.iaload, 1) := by decide +kernel
theorem dX12_chance_45 : decode cX12_chance 45 = .ok (.if_icmp .ge 19, 3) := by decide +kernel
theorem dX12_chance_48 : decode cX12_chance 48 = .ok (.aload_n 0, 1) := by decide +kernel
theorem dX12_chance_49 : decode cX12_chance 49 = .ok (.getfield 69, 3) := by decide +kernel
theorem dX12_chance_52 : decode cX12_chance 52 = .ok (.aload_n 0, 1) := by decide +kernel
theorem dX12_chance_53 : decode cX12_chance 53 = .ok (.getfield 51, 3) := by decide +kernel
theorem dX12_chance_56 : decode cX12_chance 56 = .ok (.iaload, 1) := by decide +kernel
theorem dX12_chance_57 : decode cX12_chance 57 = .ok (.ifCond .le 7, 3) := by decide +kernel
theorem dX12_chance_60 : decode cX12_chance 60 = .ok (.iconst 1, 1) := by decide +kernel
theorem dX12_chance_61 : decode cX12_chance 61 = .ok (.goto 4, 3) := by decide +kernel
theorem dX12_chance_64 : decode cX12_chance 64 = .ok (.iconst 0, 1) := by decide +kernel
theorem dX12_chance_65 : decode cX12_chance 65 = .ok (.istore 4, 2) := by decide +kernel
theorem dX12_chance_67 : decode cX12_chance 67 = .ok (.iload_n 2, 1) := by decide +kernel
theorem dX12_chance_68 : decode cX12_chance 68 = .ok (.iload 4, 2) := by decide +kernel
theorem dX12_chance_70 : decode cX12_chance 70 = .ok (.ifCond .eq 7, 3) := by decide +kernel
theorem dX12_chance_73 : decode cX12_chance 73 = .ok (.iconst 1, 1) := by decide +kernel
theorem dX12_chance_74 : decode cX12_chance 74 = .ok (.goto 4, 3) := by decide +kernel
theorem dX12_chance_77 : decode cX12_chance 77 = .ok (.iconst 0, 1) := by decide +kernel
theorem dX12_chance_78 : decode cX12_chance 78 = .ok (.iadd, 1) := by decide +kernel
theorem dX12_chance_79 : decode cX12_chance 79 = .ok (.istore_n 2, 1) := by decide +kernel
theorem dX12_chance_80 : decode cX12_chance 80 = .ok (.aload_n 0, 1) := by decide +kernel
theorem dX12_chance_81 : decode cX12_chance 81 = .ok (.iconst 0, 1) := by decide +kernel
theorem dX12_chance_82 : decode cX12_chance 82 = .ok (.iload 4, 2) := by decide +kernel
theorem dX12_chance_84 : decode cX12_chance 84 = .ok (.ifCond .eq 19, 3) := by decide +kernel
theorem dX12_chance_87 : decode cX12_chance 87 = .ok (.aload_n 0, 1) := by decide +kernel
theorem dX12_chance_88 : decode cX12_chance 88 = .ok (.aload_n 0, 1) := by decide +kernel
theorem dX12_chance_89 : decode cX12_chance 89 = .ok (.getfield 69, 3) := by decide +kernel
theorem dX12_chance_92 : decode cX12_chance 92 = .ok (.aload_n 0, 1) := by decide +kernel
theorem dX12_chance_93 : decode cX12_chance 93 = .ok (.getfield 51, 3) := by decide +kernel
theorem dX12_chance_96 : decode cX12_chance 96 = .ok (.iaload, 1) := by decide +kernel
theorem dX12_chance_97 : decode cX12_chance 97 = .ok (.invokevirtual 554, 3) := by decide +kernel
theorem dX12_chance_100 : decode cX12_chance 100 = .ok (.goto 4, 3) := by decide +kernel
theorem dX12_chance_103 : decode cX12_chance 103 = .ok (.iconst (-1), 1) := by decide +kernel
theorem dX12_chance_104 : decode cX12_chance 104 = .ok (.invokevirtual 515, 3) := by decide +kernel
theorem dX12_chance_107 : decode cX12_chance 107 = .ok (.pop, 1) := by decide +kernel
theorem dX12_chance_108 : decode cX12_chance 108 = .ok (.iinc 3 1, 3) := by decide +kernel
theorem dX12_chance_111 : decode cX12_chance 111 = .ok (.goto (-86), 3) := by decide +kernel
theorem dX12_chance_114 : decode cX12_chance 114 = .ok (.iload_n 2, 1) := by decide +kernel
theorem dX12_chance_115 : decode cX12_chance 115 = .ok (.ireturn, 1) := by decide +kernel
noncomputable def tX12_chance_0 : List (Nat × zF) := [(0, (zla4 0 1)), (1, (zli4 1 1)), (2, (zst 1 (zp (.int (1))))), (3, (zst 2 (zp (.int (40))))), (5, (zcv 245 3 12)), (8, (z_if_ne 17)), (11, (zla4 0 1)), (12, (zst 1 (zp (.int (2))))), (13, (zcv 208 1 12)), (16, (zri false)), (17, (zla4 0 1)), (18, (zcv 213 0 12))]
theorem kX12_chance_0 : ∀ q ∈ tX12_chance_0, zOk zg iX12_chance q.1 q.2 := (z_c (ok_aload_n dX12_chance_0 rfl) (z_c (ok_iload_n dX12_chance_1 rfl) (z_c (ok_iconst (v := (1)) dX12_chance_2 (by decide)) (z_c (ok_bipush (v := (40)) dX12_chance_3 (by decide)) (z_c (ok_callV zcal_245 (q := (RX12, TX12, 73)) rfl zw_984 zw_985 zw_986 dX12_chance_5) (z_c (ok_if_ne dX12_chance_8 (by decide)) (z_c (ok_aload_n dX12_chance_11 rfl) (z_c (ok_iconst (v := (2)) dX12_chance_12 (by decide)) (z_c (ok_callV zcal_208 (q := (RX12, TX12, 73)) rfl zw_761 zw_762 zw_763 dX12_chance_13) (z_c (ok_ireturn rfl dX12_chance_16) (z_c (ok_aload_n dX12_chance_17 rfl) (z_c (ok_callV zcal_213 (q := (RX12, TX12, 73)) rfl zw_1007 zw_1008 zw_1009 dX12_chance_18) z_n))))))))))))
noncomputable def tX12_chance_1 : List (Nat × zF) := [(21, (zst 1 (zp (.int (0))))), (22, (zsi4 5 2 1)), (23, (zst 1 (zp (.int (0))))), (24, (zsi4 5 3 1)), (25, (zli4 3 1)), (26, (zli4 1 1)), (27, (z_ic_ge 114)), (30, (zla4 0 1)), (31, (zst 2 (zp (.int (100))))), (33, (zcv 265 1 12)), (36, (zla4 0 1)), (37, (zgf 12 17))]
theorem kX12_chance_1 : ∀ q ∈ tX12_chance_1, zOk zg iX12_chance q.1 q.2 := (z_c (ok_iconst (v := (0)) dX12_chance_21 (by decide)) (z_c (ok_istore_n dX12_chance_22 rfl) (z_c (ok_iconst (v := (0)) dX12_chance_23 (by decide)) (z_c (ok_istore_n dX12_chance_24 rfl) (z_c (ok_iload_n dX12_chance_25 rfl) (z_c (ok_iload_n dX12_chance_26 rfl) (z_c (ok_icmp_ge dX12_chance_27 (by decide)) (z_c (ok_aload_n dX12_chance_30 rfl) (z_c (ok_bipush (v := (100)) dX12_chance_31 (by decide)) (z_c (ok_callV zcal_265 (q := (RX12, TX12, 73)) rfl zw_1014 zw_1015 zw_1016 dX12_chance_33) (z_c (ok_aload_n dX12_chance_36 rfl) (z_c (ok_getf (C := RX12) (T := TX12) (N := 73) rfl (by decide) zinX12 rfl zw_704 dX12_chance_37) z_n))))))))))))
noncomputable def tX12_chance_2 : List (Nat × zF) := [(40, (zla4 0 1)), (41, (zgf 12 13)), (44, (zal 0)), (45, (z_ic_ge 64)), (48, (zla4 0 1)), (49, (zgf 12 19)), (52, (zla4 0 1)), (53, (zgf 12 13)), (56, (zal 0)), (57, (z_if_le 64)), (60, (zst 1 (zp (.int (1))))), (61, (zgt 65))]
theorem kX12_chance_2 : ∀ q ∈ tX12_chance_2, zOk zg iX12_chance q.1 q.2 := (z_c (ok_aload_n dX12_chance_40 rfl) (z_c (ok_getf (C := RX12) (T := TX12) (N := 73) rfl (by decide) zinX12 rfl zw_700 dX12_chance_41) (z_c (ok_iaload rfl dX12_chance_44) (z_c (ok_icmp_ge dX12_chance_45 (by decide)) (z_c (ok_aload_n dX12_chance_48 rfl) (z_c (ok_getf (C := RX12) (T := TX12) (N := 73) rfl (by decide) zinX12 rfl zw_706 dX12_chance_49) (z_c (ok_aload_n dX12_chance_52 rfl) (z_c (ok_getf (C := RX12) (T := TX12) (N := 73) rfl (by decide) zinX12 rfl zw_700 dX12_chance_53) (z_c (ok_iaload rfl dX12_chance_56) (z_c (ok_if_le dX12_chance_57 (by decide)) (z_c (ok_iconst (v := (1)) dX12_chance_60 (by decide)) (z_c (ok_goto dX12_chance_61 (by decide)) z_n))))))))))))
noncomputable def tX12_chance_3 : List (Nat × zF) := [(64, (zst 1 (zp (.int (0))))), (65, (zsi4 5 4 2)), (67, (zli4 2 1)), (68, (zli4 4 2)), (70, (z_if_eq 77)), (73, (zst 1 (zp (.int (1))))), (74, (zgt 78)), (77, (zst 1 (zp (.int (0))))), (78, (zst 1 z_iadd)), (79, (zsi4 5 2 1)), (80, (zla4 0 1)), (81, (zst 1 (zp (.int (0)))))]
theorem kX12_chance_3 : ∀ q ∈ tX12_chance_3, zOk zg iX12_chance q.1 q.2 := (z_c (ok_iconst (v := (0)) dX12_chance_64 (by decide)) (z_c (ok_istore dX12_chance_65) (z_c (ok_iload_n dX12_chance_67 rfl) (z_c (ok_iload dX12_chance_68) (z_c (ok_if_eq dX12_chance_70 (by decide)) (z_c (ok_iconst (v := (1)) dX12_chance_73 (by decide)) (z_c (ok_goto dX12_chance_74 (by decide)) (z_c (ok_iconst (v := (0)) dX12_chance_77 (by decide)) (z_c (ok_iadd dX12_chance_78) (z_c (ok_istore_n dX12_chance_79 rfl) (z_c (ok_aload_n dX12_chance_80 rfl) (z_c (ok_iconst (v := (0)) dX12_chance_81 (by decide)) z_n))))))))))))
noncomputable def tX12_chance_4 : List (Nat × zF) := [(82, (zli4 4 2)), (84, (z_if_eq 103)), (87, (zla4 0 1)), (88, (zla4 0 1)), (89, (zgf 12 19)), (92, (zla4 0 1)), (93, (zgf 12 13)), (96, (zal 0)), (97, (zcv 265 1 12)), (100, (zgt 104)), (103, (zst 1 (zp (.int ((-1)))))), (104, (zcv 235 2 12))]
theorem kX12_chance_4 : ∀ q ∈ tX12_chance_4, zOk zg iX12_chance q.1 q.2 := (z_c (ok_iload dX12_chance_82) (z_c (ok_if_eq dX12_chance_84 (by decide)) (z_c (ok_aload_n dX12_chance_87 rfl) (z_c (ok_aload_n dX12_chance_88 rfl) (z_c (ok_getf (C := RX12) (T := TX12) (N := 73) rfl (by decide) zinX12 rfl zw_706 dX12_chance_89) (z_c (ok_aload_n dX12_chance_92 rfl) (z_c (ok_getf (C := RX12) (T := TX12) (N := 73) rfl (by decide) zinX12 rfl zw_700 dX12_chance_93) (z_c (ok_iaload rfl dX12_chance_96) (z_c (ok_callV zcal_265 (q := (RX12, TX12, 73)) rfl zw_1014 zw_1015 zw_1016 dX12_chance_97) (z_c (ok_goto dX12_chance_100 (by decide)) (z_c (ok_iconst (v := (-1)) dX12_chance_103 (by decide)) (z_c (ok_callV zcal_235 (q := (RX12, TX12, 73)) rfl zw_981 zw_982 zw_983 dX12_chance_104) z_n))))))))))))
noncomputable def tX12_chance_5 : List (Nat × zF) := [(107, (zst 1 zpo)), (108, (zin4 5 3 (1))), (111, (zgt 25)), (114, (zli4 2 1)), (115, (zri false))]
theorem kX12_chance_5 : ∀ q ∈ tX12_chance_5, zOk zg iX12_chance q.1 q.2 := (z_c (ok_pop dX12_chance_107) (z_c (ok_iinc (v := (1)) dX12_chance_108 (by decide)) (z_c (ok_goto dX12_chance_111 (by decide)) (z_c (ok_iload_n dX12_chance_114 rfl) (z_c (ok_ireturn rfl dX12_chance_115) z_n)))))
noncomputable def tX12_chance : zT := [(21, tX12_chance_0), (40, tX12_chance_1), (64, tX12_chance_2), (82, tX12_chance_3), (107, tX12_chance_4), (100000, tX12_chance_5)]
theorem kX12_chance : zTok zg iX12_chance tX12_chance := (z_t kX12_chance_0 (z_t kX12_chance_1 (z_t kX12_chance_2 (z_t kX12_chance_3 (z_t kX12_chance_4 (z_t kX12_chance_5 z_tn))))))
theorem dX12_turnsNow_0 : decode cX12_turnsNow 0 = .ok (.aload_n 0, 1) := by decide +kernel
theorem dX12_turnsNow_1 : decode cX12_turnsNow 1 = .ok (.iload_n 1, 1) := by decide +kernel
theorem dX12_turnsNow_2 : decode cX12_turnsNow 2 = .ok (.invokevirtual 504, 3) := by decide +kernel
theorem dX12_turnsNow_5 : decode cX12_turnsNow 5 = .ok (.ifCond .eq 17, 3) := by decide +kernel
theorem dX12_turnsNow_8 : decode cX12_turnsNow 8 = .ok (.aload_n 0, 1) := by decide +kernel
theorem dX12_turnsNow_9 : decode cX12_turnsNow 9 = .ok (.getfield 162, 3) := by decide +kernel
theorem dX12_turnsNow_12 : decode cX12_turnsNow 12 = .ok (.iconst 0, 1) := by decide +kernel
theorem dX12_turnsNow_13 : decode cX12_turnsNow 13 = .ok (.iaload, 1) := by decide +kernel
theorem dX12_turnsNow_14 : decode cX12_turnsNow 14 = .ok (.iload_n 1, 1) := by decide +kernel
theorem dX12_turnsNow_15 : decode cX12_turnsNow 15 = .ok (.invokestatic 382, 3) := by decide +kernel
theorem dX12_turnsNow_18 : decode cX12_turnsNow 18 = .ok (.iload_n 2, 1) := by decide +kernel
theorem dX12_turnsNow_19 : decode cX12_turnsNow 19 = .ok (.if_icmp .ne 17, 3) := by decide +kernel
theorem dX12_turnsNow_22 : decode cX12_turnsNow 22 = .ok (.aload_n 0, 1) := by decide +kernel
theorem dX12_turnsNow_23 : decode cX12_turnsNow 23 = .ok (.iconst 3, 1) := by decide +kernel
theorem dX12_turnsNow_24 : decode cX12_turnsNow 24 = .ok (.invokevirtual 234, 3) := by decide +kernel
theorem dX12_turnsNow_27 : decode cX12_turnsNow 27 = .ok (.ifCond .lt 7, 3) := by decide +kernel
theorem dX12_turnsNow_30 : decode cX12_turnsNow 30 = .ok (.iconst 1, 1) := by decide +kernel
theorem dX12_turnsNow_31 : decode cX12_turnsNow 31 = .ok (.goto 4, 3) := by decide +kernel
theorem dX12_turnsNow_34 : decode cX12_turnsNow 34 = .ok (.iconst 0, 1) := by decide +kernel
theorem dX12_turnsNow_35 : decode cX12_turnsNow 35 = .ok (.ireturn, 1) := by decide +kernel
theorem dX12_turnsNow_36 : decode cX12_turnsNow 36 = .ok (.aload_n 0, 1) := by decide +kernel
theorem dX12_turnsNow_37 : decode cX12_turnsNow 37 = .ok (.invokevirtual 543, 3) := by decide +kernel
theorem dX12_turnsNow_40 : decode cX12_turnsNow 40 = .ok (.aload_n 0, 1) := by decide +kernel
theorem dX12_turnsNow_41 : decode cX12_turnsNow 41 = .ok (.iconst 0, 1) := by decide +kernel
theorem dX12_turnsNow_42 : decode cX12_turnsNow 42 = .ok (.iload_n 1, 1) := by decide +kernel
theorem dX12_turnsNow_43 : decode cX12_turnsNow 43 = .ok (.invokevirtual 495, 3) := by decide +kernel
theorem dX12_turnsNow_46 : decode cX12_turnsNow 46 = .ok (.iconst 1, 1) := by decide +kernel
theorem dX12_turnsNow_47 : decode cX12_turnsNow 47 = .ok (.ireturn, 1) := by decide +kernel
noncomputable def tX12_turnsNow_0 : List (Nat × zF) := [(0, (zla4 0 1)), (1, (zli4 1 1)), (2, (zcv 236 1 12)), (5, (z_if_eq 22)), (8, (zla4 0 1)), (9, (zgf 12 49)), (12, (zst 1 (zp (.int (0))))), (13, (zal 0)), (14, (zli4 1 1)), (15, (zcs 193 2)), (18, (zli4 2 1)), (19, (z_ic_ne 36))]
theorem kX12_turnsNow_0 : ∀ q ∈ tX12_turnsNow_0, zOk zg iX12_turnsNow q.1 q.2 := (z_c (ok_aload_n dX12_turnsNow_0 rfl) (z_c (ok_iload_n dX12_turnsNow_1 rfl) (z_c (ok_callV zcal_236 (q := (RX12, TX12, 73)) rfl zw_972 zw_973 zw_974 dX12_turnsNow_2) (z_c (ok_if_eq dX12_turnsNow_5 (by decide)) (z_c (ok_aload_n dX12_turnsNow_8 rfl) (z_c (ok_getf (C := RX12) (T := TX12) (N := 73) rfl (by decide) zinX12 rfl zw_737 dX12_turnsNow_9) (z_c (ok_iconst (v := (0)) dX12_turnsNow_12 (by decide)) (z_c (ok_iaload rfl dX12_turnsNow_13) (z_c (ok_iload_n dX12_turnsNow_14 rfl) (z_c (ok_callS zcal_193 zw_866 zw_867 dX12_turnsNow_15) (z_c (ok_iload_n dX12_turnsNow_18 rfl) (z_c (ok_icmp_ne dX12_turnsNow_19 (by decide)) z_n))))))))))))
noncomputable def tX12_turnsNow_1 : List (Nat × zF) := [(22, (zla4 0 1)), (23, (zst 1 (zp (.int (3))))), (24, (zcv 208 1 12)), (27, (z_if_lt 34)), (30, (zst 1 (zp (.int (1))))), (31, (zgt 35)), (34, (zst 1 (zp (.int (0))))), (35, (zri true)), (36, (zla4 0 1)), (37, (zcv 213 0 12)), (40, (zla4 0 1)), (41, (zst 1 (zp (.int (0)))))]
theorem kX12_turnsNow_1 : ∀ q ∈ tX12_turnsNow_1, zOk zg iX12_turnsNow q.1 q.2 := (z_c (ok_aload_n dX12_turnsNow_22 rfl) (z_c (ok_iconst (v := (3)) dX12_turnsNow_23 (by decide)) (z_c (ok_callV zcal_208 (q := (RX12, TX12, 73)) rfl zw_761 zw_762 zw_763 dX12_turnsNow_24) (z_c (ok_if_lt dX12_turnsNow_27 (by decide)) (z_c (ok_iconst (v := (1)) dX12_turnsNow_30 (by decide)) (z_c (ok_goto dX12_turnsNow_31 (by decide)) (z_c (ok_iconst (v := (0)) dX12_turnsNow_34 (by decide)) (z_c (ok_zreturn rfl dX12_turnsNow_35) (z_c (ok_aload_n dX12_turnsNow_36 rfl) (z_c (ok_callV zcal_213 (q := (RX12, TX12, 73)) rfl zw_1007 zw_1008 zw_1009 dX12_turnsNow_37) (z_c (ok_aload_n dX12_turnsNow_40 rfl) (z_c (ok_iconst (v := (0)) dX12_turnsNow_41 (by decide)) z_n))))))))))))
noncomputable def tX12_turnsNow_2 : List (Nat × zF) := [(42, (zli4 1 1)), (43, (zcv 233 2 12)), (46, (zst 1 (zp (.int (1))))), (47, (zri true))]
theorem kX12_turnsNow_2 : ∀ q ∈ tX12_turnsNow_2, zOk zg iX12_turnsNow q.1 q.2 := (z_c (ok_iload_n dX12_turnsNow_42 rfl) (z_c (ok_callV zcal_233 (q := (RX12, TX12, 73)) rfl zw_963 zw_964 zw_965 dX12_turnsNow_43) (z_c (ok_iconst (v := (1)) dX12_turnsNow_46 (by decide)) (z_c (ok_zreturn rfl dX12_turnsNow_47) z_n))))
noncomputable def tX12_turnsNow : zT := [(22, tX12_turnsNow_0), (42, tX12_turnsNow_1), (100000, tX12_turnsNow_2)]
theorem kX12_turnsNow : zTok zg iX12_turnsNow tX12_turnsNow := (z_t kX12_turnsNow_0 (z_t kX12_turnsNow_1 (z_t kX12_turnsNow_2 z_tn)))
theorem dX12_lose_0 : decode cX12_lose 0 = .ok (.aload_n 0, 1) := by decide +kernel
theorem dX12_lose_1 : decode cX12_lose 1 = .ok (.iload_n 1, 1) := by decide +kernel
theorem dX12_lose_2 : decode cX12_lose 2 = .ok (.iconst 1, 1) := by decide +kernel
theorem dX12_lose_3 : decode cX12_lose 3 = .ok (.invokevirtual 557, 3) := by decide +kernel
theorem dX12_lose_6 : decode cX12_lose 6 = .ok (.ireturn, 1) := by decide +kernel
noncomputable def tX12_lose_0 : List (Nat × zF) := [(0, (zla4 0 1)), (1, (zli4 1 1)), (2, (zst 1 (zp (.int (1))))), (3, (zcv 267 2 12)), (6, (zri true))]
theorem kX12_lose_0 : ∀ q ∈ tX12_lose_0, zOk zg iX12_lose q.1 q.2 := (z_c (ok_aload_n dX12_lose_0 rfl) (z_c (ok_iload_n dX12_lose_1 rfl) (z_c (ok_iconst (v := (1)) dX12_lose_2 (by decide)) (z_c (ok_callV zcal_267 (q := (RX12, TX12, 73)) rfl zw_1017 zw_1018 zw_1019 dX12_lose_3) (z_c (ok_zreturn rfl dX12_lose_6) z_n)))))
noncomputable def tX12_lose : zT := [(100000, tX12_lose_0)]
theorem kX12_lose : zTok zg iX12_lose tX12_lose := (z_t kX12_lose_0 z_tn)
theorem dX12_find_0 : decode cX12_find 0 = .ok (.aload_n 0, 1) := by decide +kernel
theorem dX12_find_1 : decode cX12_find 1 = .ok (.iload_n 1, 1) := by decide +kernel
theorem dX12_find_2 : decode cX12_find 2 = .ok (.iconst 0, 1) := by decide +kernel
theorem dX12_find_3 : decode cX12_find 3 = .ok (.invokevirtual 557, 3) := by decide +kernel
theorem dX12_find_6 : decode cX12_find 6 = .ok (.ireturn, 1) := by decide +kernel
noncomputable def tX12_find_0 : List (Nat × zF) := [(0, (zla4 0 1)), (1, (zli4 1 1)), (2, (zst 1 (zp (.int (0))))), (3, (zcv 267 2 12)), (6, (zri true))]
theorem kX12_find_0 : ∀ q ∈ tX12_find_0, zOk zg iX12_find q.1 q.2 := (z_c (ok_aload_n dX12_find_0 rfl) (z_c (ok_iload_n dX12_find_1 rfl) (z_c (ok_iconst (v := (0)) dX12_find_2 (by decide)) (z_c (ok_callV zcal_267 (q := (RX12, TX12, 73)) rfl zw_1017 zw_1018 zw_1019 dX12_find_3) (z_c (ok_zreturn rfl dX12_find_6) z_n)))))
noncomputable def tX12_find : zT := [(100000, tX12_find_0)]
theorem kX12_find : zTok zg iX12_find tX12_find := (z_t kX12_find_0 z_tn)
theorem dX12_lead_0 : decode cX12_lead 0 = .ok (.aload_n 0, 1) := by decide +kernel
theorem dX12_lead_1 : decode cX12_lead 1 = .ok (.iload_n 2, 1) := by decide +kernel
theorem dX12_lead_2 : decode cX12_lead 2 = .ok (.iload_n 3, 1) := by decide +kernel
theorem dX12_lead_3 : decode cX12_lead 3 = .ok (.invokevirtual 444, 3) := by decide +kernel
theorem dX12_lead_6 : decode cX12_lead 6 = .ok (.ifCond .eq 12, 3) := by decide +kernel
theorem dX12_lead_9 : decode cX12_lead 9 = .ok (.bipush 8, 2) := by decide +kernel
theorem dX12_lead_11 : decode cX12_lead 11 = .ok (.iload_n 3, 1) := by decide +kernel
theorem dX12_lead_12 : decode cX12_lead 12 = .ok (.imul, 1) := by decide +kernel
theorem dX12_lead_13 : decode cX12_lead 13 = .ok (.iload_n 2, 1) := by decide +kernel
theorem dX12_lead_14 : decode cX12_lead 14 = .ok (.iadd, 1) := by decide +kernel
theorem dX12_lead_15 : decode cX12_lead 15 = .ok (.goto 4, 3) := by decide +kernel
theorem dX12_lead_18 : decode cX12_lead 18 = .ok (.iconst (-1), 1) := by decide +kernel
theorem dX12_lead_19 : decode cX12_lead 19 = .ok (.istore 4, 2) := by decide +kernel
theorem dX12_lead_21 : decode cX12_lead 21 = .ok (.aload_n 0, 1) := by decide +kernel
theorem dX12_lead_22 : decode cX12_lead 22 = .ok (.iload_n 1, 1) := by decide +kernel
theorem dX12_lead_23 : decode cX12_lead 23 = .ok (.invokevirtual 507, 3) := by decide +kernel
theorem dX12_lead_26 : decode cX12_lead 26 = .ok (.ifCond .eq 29, 3) := by decide +kernel
theorem dX12_lead_29 : decode cX12_lead 29 = .ok (.iload 4, 2) := by decide +kernel
theorem dX12_lead_31 : decode cX12_lead 31 = .ok (.iconst (-1), 1) := by decide +kernel
theorem dX12_lead_32 : decode cX12_lead 32 = .ok (.if_icmp .eq 23, 3) := by decide +kernel
theorem dX12_lead_35 : decode cX12_lead 35 = .ok (.aload_n 0, 1) := by decide +kernel
theorem dX12_lead_36 : decode cX12_lead 36 = .ok (.iload 4, 2) := by decide +kernel
theorem dX12_lead_38 : decode cX12_lead 38 = .ok (.invokevirtual 447, 3) := by decide +kernel
theorem dX12_lead_41 : decode cX12_lead 41 = .ok (.ifCond .ne 14, 3) := by decide +kernel
theorem dX12_lead_44 : decode cX12_lead 44 = .ok (.aload_n 0, 1) := by decide +kernel
theorem dX12_lead_45 : decode cX12_lead 45 = .ok (.getfield 168, 3) := by decide +kernel
theorem dX12_lead_48 : decode cX12_lead 48 = .ok (.iload_n 1, 1) := by decide +kernel
theorem dX12_lead_49 : decode cX12_lead 49 = .ok (.iaload, 1) := by decide +kernel
theorem dX12_lead_50 : decode cX12_lead 50 = .ok (.iload 4, 2) := by decide +kernel
theorem dX12_lead_52 : decode cX12_lead 52 = .ok (.if_icmp .ne 17, 3) := by decide +kernel
theorem dX12_lead_55 : decode cX12_lead 55 = .ok (.aload_n 0, 1) := by decide +kernel
theorem dX12_lead_56 : decode cX12_lead 56 = .ok (.iconst 3, 1) := by decide +kernel
theorem dX12_lead_57 : decode cX12_lead 57 = .ok (.invokevirtual 234, 3) := by decide +kernel
theorem dX12_lead_60 : decode cX12_lead 60 = .ok (.ifCond .lt 7, 3) := by decide +kernel
theorem dX12_lead_63 : decode cX12_lead 63 = .ok (.iconst 1, 1) := by decide +kernel
theorem dX12_lead_64 : decode cX12_lead 64 = .ok (.goto 4, 3) := by decide +kernel
theorem dX12_lead_67 : decode cX12_lead 67 = .ok (.iconst 0, 1) := by decide +kernel
theorem dX12_lead_68 : decode cX12_lead 68 = .ok (.ireturn, 1) := by decide +kernel
theorem dX12_lead_69 : decode cX12_lead 69 = .ok (.aload_n 0, 1) := by decide +kernel
theorem dX12_lead_70 : decode cX12_lead 70 = .ok (.invokevirtual 543, 3) := by decide +kernel
theorem dX12_lead_73 : decode cX12_lead 73 = .ok (.aload_n 0, 1) := by decide +kernel
theorem dX12_lead_74 : decode cX12_lead 74 = .ok (.getfield 168, 3) := by decide +kernel
theorem dX12_lead_77 : decode cX12_lead 77 = .ok (.iload_n 1, 1) := by decide +kernel
theorem dX12_lead_78 : decode cX12_lead 78 = .ok (.iload 4, 2) := by decide +kernel
theorem dX12_lead_80 : decode cX12_lead 80 = .ok (.iastore, 1) := by decide +kernel
theorem dX12_lead_81 : decode cX12_lead 81 = .ok (.iconst 1, 1) := by decide +kernel
theorem dX12_lead_82 : decode cX12_lead 82 = .ok (.ireturn, 1) := by decide +kernel
noncomputable def tX12_lead_0 : List (Nat × zF) := [(0, (zla4 0 1)), (1, (zli4 2 1)), (2, (zli4 3 1)), (3, (zcv 221 2 12)), (6, (z_if_eq 18)), (9, (zst 2 (zp (.int (8))))), (11, (zli4 3 1)), (12, (zst 1 z_imul)), (13, (zli4 2 1)), (14, (zst 1 z_iadd)), (15, (zgt 19)), (18, (zst 1 (zp (.int ((-1))))))]
theorem kX12_lead_0 : ∀ q ∈ tX12_lead_0, zOk zg iX12_lead q.1 q.2 := (z_c (ok_aload_n dX12_lead_0 rfl) (z_c (ok_iload_n dX12_lead_1 rfl) (z_c (ok_iload_n dX12_lead_2 rfl) (z_c (ok_callV zcal_221 (q := (RX12, TX12, 73)) rfl zw_918 zw_919 zw_920 dX12_lead_3) (z_c (ok_if_eq dX12_lead_6 (by decide)) (z_c (ok_bipush (v := (8)) dX12_lead_9 (by decide)) (z_c (ok_iload_n dX12_lead_11 rfl) (z_c (ok_imul dX12_lead_12) (z_c (ok_iload_n dX12_lead_13 rfl) (z_c (ok_iadd dX12_lead_14) (z_c (ok_goto dX12_lead_15 (by decide)) (z_c (ok_iconst (v := (-1)) dX12_lead_18 (by decide)) z_n))))))))))))
noncomputable def tX12_lead_1 : List (Nat × zF) := [(19, (zsi4 5 4 2)), (21, (zla4 0 1)), (22, (zli4 1 1)), (23, (zcv 237 1 12)), (26, (z_if_eq 55)), (29, (zli4 4 2)), (31, (zst 1 (zp (.int ((-1)))))), (32, (z_ic_eq 55)), (35, (zla4 0 1)), (36, (zli4 4 2)), (38, (zcv 223 1 12)), (41, (z_if_ne 55))]
theorem kX12_lead_1 : ∀ q ∈ tX12_lead_1, zOk zg iX12_lead q.1 q.2 := (z_c (ok_istore dX12_lead_19) (z_c (ok_aload_n dX12_lead_21 rfl) (z_c (ok_iload_n dX12_lead_22 rfl) (z_c (ok_callV zcal_237 (q := (RX12, TX12, 73)) rfl zw_975 zw_976 zw_977 dX12_lead_23) (z_c (ok_if_eq dX12_lead_26 (by decide)) (z_c (ok_iload dX12_lead_29) (z_c (ok_iconst (v := (-1)) dX12_lead_31 (by decide)) (z_c (ok_icmp_eq dX12_lead_32 (by decide)) (z_c (ok_aload_n dX12_lead_35 rfl) (z_c (ok_iload dX12_lead_36) (z_c (ok_callV zcal_223 (q := (RX12, TX12, 73)) rfl zw_921 zw_922 zw_923 dX12_lead_38) (z_c (ok_if_ne dX12_lead_41 (by decide)) z_n))))))))))))
noncomputable def tX12_lead_2 : List (Nat × zF) := [(44, (zla4 0 1)), (45, (zgf 12 51)), (48, (zli4 1 1)), (49, (zal 0)), (50, (zli4 4 2)), (52, (z_ic_ne 69)), (55, (zla4 0 1)), (56, (zst 1 (zp (.int (3))))), (57, (zcv 208 1 12)), (60, (z_if_lt 67)), (63, (zst 1 (zp (.int (1))))), (64, (zgt 68))]
theorem kX12_lead_2 : ∀ q ∈ tX12_lead_2, zOk zg iX12_lead q.1 q.2 := (z_c (ok_aload_n dX12_lead_44 rfl) (z_c (ok_getf (C := RX12) (T := TX12) (N := 73) rfl (by decide) zinX12 rfl zw_739 dX12_lead_45) (z_c (ok_iload_n dX12_lead_48 rfl) (z_c (ok_iaload rfl dX12_lead_49) (z_c (ok_iload dX12_lead_50) (z_c (ok_icmp_ne dX12_lead_52 (by decide)) (z_c (ok_aload_n dX12_lead_55 rfl) (z_c (ok_iconst (v := (3)) dX12_lead_56 (by decide)) (z_c (ok_callV zcal_208 (q := (RX12, TX12, 73)) rfl zw_761 zw_762 zw_763 dX12_lead_57) (z_c (ok_if_lt dX12_lead_60 (by decide)) (z_c (ok_iconst (v := (1)) dX12_lead_63 (by decide)) (z_c (ok_goto dX12_lead_64 (by decide)) z_n))))))))))))
noncomputable def tX12_lead_3 : List (Nat × zF) := [(67, (zst 1 (zp (.int (0))))), (68, (zri true)), (69, (zla4 0 1)), (70, (zcv 213 0 12)), (73, (zla4 0 1)), (74, (zgf 12 51)), (77, (zli4 1 1)), (78, (zli4 4 2)), (80, (zas 0)), (81, (zst 1 (zp (.int (1))))), (82, (zri true))]
theorem kX12_lead_3 : ∀ q ∈ tX12_lead_3, zOk zg iX12_lead q.1 q.2 := (z_c (ok_iconst (v := (0)) dX12_lead_67 (by decide)) (z_c (ok_zreturn rfl dX12_lead_68) (z_c (ok_aload_n dX12_lead_69 rfl) (z_c (ok_callV zcal_213 (q := (RX12, TX12, 73)) rfl zw_1007 zw_1008 zw_1009 dX12_lead_70) (z_c (ok_aload_n dX12_lead_73 rfl) (z_c (ok_getf (C := RX12) (T := TX12) (N := 73) rfl (by decide) zinX12 rfl zw_739 dX12_lead_74) (z_c (ok_iload_n dX12_lead_77 rfl) (z_c (ok_iload dX12_lead_78) (z_c (ok_iastore rfl dX12_lead_80) (z_c (ok_iconst (v := (1)) dX12_lead_81 (by decide)) (z_c (ok_zreturn rfl dX12_lead_82) z_n)))))))))))
noncomputable def tX12_lead : zT := [(19, tX12_lead_0), (44, tX12_lead_1), (67, tX12_lead_2), (100000, tX12_lead_3)]
theorem kX12_lead : zTok zg iX12_lead tX12_lead := (z_t kX12_lead_0 (z_t kX12_lead_1 (z_t kX12_lead_2 (z_t kX12_lead_3 z_tn))))
theorem dX12_seed_0 : decode cX12_seed 0 = .ok (.iload_n 1, 1) := by decide +kernel
theorem dX12_seed_1 : decode cX12_seed 1 = .ok (.ifCond .ge 17, 3) := by decide +kernel
theorem dX12_seed_4 : decode cX12_seed 4 = .ok (.aload_n 0, 1) := by decide +kernel
theorem dX12_seed_5 : decode cX12_seed 5 = .ok (.iconst 5, 1) := by decide +kernel
theorem dX12_seed_6 : decode cX12_seed 6 = .ok (.invokevirtual 234, 3) := by decide +kernel
theorem dX12_seed_9 : decode cX12_seed 9 = .ok (.ifCond .lt 7, 3) := by decide +kernel
theorem dX12_seed_12 : decode cX12_seed 12 = .ok (.iconst 1, 1) := by decide +kernel
theorem dX12_seed_13 : decode cX12_seed 13 = .ok (.goto 4, 3) := by decide +kernel
theorem dX12_seed_16 : decode cX12_seed 16 = .ok (.iconst 0, 1) := by decide +kernel
theorem dX12_seed_17 : decode cX12_seed 17 = .ok (.ireturn, 1) := by decide +kernel
theorem dX12_seed_18 : decode cX12_seed 18 = .ok (.aload_n 0, 1) := by decide +kernel
theorem dX12_seed_19 : decode cX12_seed 19 = .ok (.iload_n 1, 1) := by decide +kernel
theorem dX12_seed_20 : decode cX12_seed 20 = .ok (.i2l, 1) := by decide +kernel
theorem dX12_seed_21 : decode cX12_seed 21 = .ok (.putfield 183, 3) := by decide +kernel
theorem dX12_seed_24 : decode cX12_seed 24 = .ok (.iconst 1, 1) := by decide +kernel
theorem dX12_seed_25 : decode cX12_seed 25 = .ok (.ireturn, 1) := by decide +kernel
noncomputable def tX12_seed_0 : List (Nat × zF) := [(0, (zli4 1 1)), (1, (z_if_ge 18)), (4, (zla4 0 1)), (5, (zst 1 (zp (.int (5))))), (6, (zcv 208 1 12)), (9, (z_if_lt 16)), (12, (zst 1 (zp (.int (1))))), (13, (zgt 17)), (16, (zst 1 (zp (.int (0))))), (17, (zri true)), (18, (zla4 0 1)), (19, (zli4 1 1))]
theorem kX12_seed_0 : ∀ q ∈ tX12_seed_0, zOk zg iX12_seed q.1 q.2 := (z_c (ok_iload_n dX12_seed_0 rfl) (z_c (ok_if_ge dX12_seed_1 (by decide)) (z_c (ok_aload_n dX12_seed_4 rfl) (z_c (ok_iconst (v := (5)) dX12_seed_5 (by decide)) (z_c (ok_callV zcal_208 (q := (RX12, TX12, 73)) rfl zw_761 zw_762 zw_763 dX12_seed_6) (z_c (ok_if_lt dX12_seed_9 (by decide)) (z_c (ok_iconst (v := (1)) dX12_seed_12 (by decide)) (z_c (ok_goto dX12_seed_13 (by decide)) (z_c (ok_iconst (v := (0)) dX12_seed_16 (by decide)) (z_c (ok_zreturn rfl dX12_seed_17) (z_c (ok_aload_n dX12_seed_18 rfl) (z_c (ok_iload_n dX12_seed_19 rfl) z_n))))))))))))
noncomputable def tX12_seed_1 : List (Nat × zF) := [(20, (zst 1 zil)), (21, (zpf 12 56 (.long))), (24, (zst 1 (zp (.int (1))))), (25, (zri true))]
theorem kX12_seed_1 : ∀ q ∈ tX12_seed_1, zOk zg iX12_seed q.1 q.2 := (z_c (ok_i2l dX12_seed_20) (z_c (ok_putf (C := RX12) (T := TX12) (N := 73) false tyX12 tyX12_ok nmX12 rfl (by decide) zinX12 rfl zw_744 rfl (fun h => absurd h (by decide)) rfl dX12_seed_21) (z_c (ok_iconst (v := (1)) dX12_seed_24 (by decide)) (z_c (ok_zreturn rfl dX12_seed_25) z_n))))
noncomputable def tX12_seed : zT := [(20, tX12_seed_0), (100000, tX12_seed_1)]
theorem kX12_seed : zTok zg iX12_seed tX12_seed := (z_t kX12_seed_0 (z_t kX12_seed_1 z_tn))
theorem dX12_kept_0 : decode cX12_kept 0 = .ok (.iload_n 1, 1) := by decide +kernel
theorem dX12_kept_1 : decode cX12_kept 1 = .ok (.iconst 0, 1) := by decide +kernel
theorem dX12_kept_2 : decode cX12_kept 2 = .ok (.aload_n 0, 1) := by decide +kernel
theorem dX12_kept_3 : decode cX12_kept 3 = .ok (.getfield 171, 3) := by decide +kernel
theorem dX12_kept_6 : decode cX12_kept 6 = .ok (.iconst 0, 1) := by decide +kernel
theorem dX12_kept_7 : decode cX12_kept 7 = .ok (.iaload, 1) := by decide +kernel
theorem dX12_kept_8 : decode cX12_kept 8 = .ok (.iconst 1, 1) := by decide +kernel
theorem dX12_kept_9 : decode cX12_kept 9 = .ok (.isub, 1) := by decide +kernel
theorem dX12_kept_10 : decode cX12_kept 10 = .ok (.invokestatic 318, 3) := by decide +kernel
theorem dX12_kept_13 : decode cX12_kept 13 = .ok (.ifCond .eq 25, 3) := by decide +kernel
theorem dX12_kept_16 : decode cX12_kept 16 = .ok (.iload_n 2, 1) := by decide +kernel
theorem dX12_kept_17 : decode cX12_kept 17 = .ok (.iconst 0, 1) := by decide +kernel
theorem dX12_kept_18 : decode cX12_kept 18 = .ok (.iconst 2, 1) := by decide +kernel
theorem dX12_kept_19 : decode cX12_kept 19 = .ok (.invokestatic 318, 3) := by decide +kernel
theorem dX12_kept_22 : decode cX12_kept 22 = .ok (.ifCond .eq 16, 3) := by decide +kernel
theorem dX12_kept_25 : decode cX12_kept 25 = .ok (.aload_n 0, 1) := by decide +kernel
theorem dX12_kept_26 : decode cX12_kept 26 = .ok (.getfield 174, 3) := by decide +kernel
theorem dX12_kept_29 : decode cX12_kept 29 = .ok (.iconst 3, 1) := by decide +kernel
theorem dX12_kept_30 : decode cX12_kept 30 = .ok (.iload_n 1, 1) := by decide +kernel
theorem dX12_kept_31 : decode cX12_kept 31 = .ok (.imul, 1) := by decide +kernel
theorem dX12_kept_32 : decode cX12_kept 32 = .ok (.iload_n 2, 1) := by decide +kernel
theorem dX12_kept_33 : decode cX12_kept 33 = .ok (.iadd, 1) := by decide +kernel
theorem dX12_kept_34 : decode cX12_kept 34 = .ok (.iaload, 1) := by decide +kernel
theorem dX12_kept_35 : decode cX12_kept 35 = .ok (.goto 4, 3) := by decide +kernel
theorem dX12_kept_38 : decode cX12_kept 38 = .ok (.iconst (-1), 1) := by decide +kernel
theorem dX12_kept_39 : decode cX12_kept 39 = .ok (.ireturn, 1) := by decide +kernel
noncomputable def tX12_kept_0 : List (Nat × zF) := [(0, (zli4 1 1)), (1, (zst 1 (zp (.int (0))))), (2, (zla4 0 1)), (3, (zgf 12 52)), (6, (zst 1 (zp (.int (0))))), (7, (zal 0)), (8, (zst 1 (zp (.int (1))))), (9, (zst 1 z_isub)), (10, (zcs 165 3)), (13, (z_if_eq 38)), (16, (zli4 2 1)), (17, (zst 1 (zp (.int (0)))))]
theorem kX12_kept_0 : ∀ q ∈ tX12_kept_0, zOk zg iX12_kept q.1 q.2 := (z_c (ok_iload_n dX12_kept_0 rfl) (z_c (ok_iconst (v := (0)) dX12_kept_1 (by decide)) (z_c (ok_aload_n dX12_kept_2 rfl) (z_c (ok_getf (C := RX12) (T := TX12) (N := 73) rfl (by decide) zinX12 rfl zw_740 dX12_kept_3) (z_c (ok_iconst (v := (0)) dX12_kept_6 (by decide)) (z_c (ok_iaload rfl dX12_kept_7) (z_c (ok_iconst (v := (1)) dX12_kept_8 (by decide)) (z_c (ok_isub dX12_kept_9) (z_c (ok_callS zcal_165 zw_812 zw_813 dX12_kept_10) (z_c (ok_if_eq dX12_kept_13 (by decide)) (z_c (ok_iload_n dX12_kept_16 rfl) (z_c (ok_iconst (v := (0)) dX12_kept_17 (by decide)) z_n))))))))))))
noncomputable def tX12_kept_1 : List (Nat × zF) := [(18, (zst 1 (zp (.int (2))))), (19, (zcs 165 3)), (22, (z_if_eq 38)), (25, (zla4 0 1)), (26, (zgf 12 53)), (29, (zst 1 (zp (.int (3))))), (30, (zli4 1 1)), (31, (zst 1 z_imul)), (32, (zli4 2 1)), (33, (zst 1 z_iadd)), (34, (zal 0)), (35, (zgt 39))]
theorem kX12_kept_1 : ∀ q ∈ tX12_kept_1, zOk zg iX12_kept q.1 q.2 := (z_c (ok_iconst (v := (2)) dX12_kept_18 (by decide)) (z_c (ok_callS zcal_165 zw_812 zw_813 dX12_kept_19) (z_c (ok_if_eq dX12_kept_22 (by decide)) (z_c (ok_aload_n dX12_kept_25 rfl) (z_c (ok_getf (C := RX12) (T := TX12) (N := 73) rfl (by decide) zinX12 rfl zw_741 dX12_kept_26) (z_c (ok_iconst (v := (3)) dX12_kept_29 (by decide)) (z_c (ok_iload_n dX12_kept_30 rfl) (z_c (ok_imul dX12_kept_31) (z_c (ok_iload_n dX12_kept_32 rfl) (z_c (ok_iadd dX12_kept_33) (z_c (ok_iaload rfl dX12_kept_34) (z_c (ok_goto dX12_kept_35 (by decide)) z_n))))))))))))
noncomputable def tX12_kept_2 : List (Nat × zF) := [(38, (zst 1 (zp (.int ((-1)))))), (39, (zri false))]
theorem kX12_kept_2 : ∀ q ∈ tX12_kept_2, zOk zg iX12_kept q.1 q.2 := (z_c (ok_iconst (v := (-1)) dX12_kept_38 (by decide)) (z_c (ok_ireturn rfl dX12_kept_39) z_n))
noncomputable def tX12_kept : zT := [(18, tX12_kept_0), (38, tX12_kept_1), (100000, tX12_kept_2)]
theorem kX12_kept : zTok zg iX12_kept tX12_kept := (z_t kX12_kept_0 (z_t kX12_kept_1 (z_t kX12_kept_2 z_tn)))
theorem dX12_writes_0 : decode cX12_writes 0 = .ok (.aload_n 0, 1) := by decide +kernel
theorem dX12_writes_1 : decode cX12_writes 1 = .ok (.getfield 228, 3) := by decide +kernel
theorem dX12_writes_4 : decode cX12_writes 4 = .ok (.aload_n 0, 1) := by decide +kernel
theorem dX12_writes_5 : decode cX12_writes 5 = .ok (.getfield 231, 3) := by decide +kernel
theorem dX12_writes_8 : decode cX12_writes 8 = .ok (.iload_n 1, 1) := by decide +kernel
theorem dX12_writes_9 : decode cX12_writes 9 = .ok (.sipush 255, 3) := by decide +kernel
theorem dX12_writes_12 : decode cX12_writes 12 = .ok (.iand, 1) := by decide +kernel
theorem dX12_writes_13 : decode cX12_writes 13 = .ok (.iastore, 1) := by decide +kernel
theorem dX12_writes_14 : decode cX12_writes 14 = .ok (.aload_n 0, 1) := by decide +kernel
theorem dX12_writes_15 : decode cX12_writes 15 = .ok (.dup, 1) := by decide +kernel
theorem dX12_writes_16 : decode cX12_writes 16 = .ok (.getfield 231, 3) := by decide +kernel
theorem dX12_writes_19 : decode cX12_writes 19 = .ok (.iconst 1, 1) := by decide +kernel
theorem dX12_writes_20 : decode cX12_writes 20 = .ok (.iadd, 1) := by decide +kernel
theorem dX12_writes_21 : decode cX12_writes 21 = .ok (.putfield 231, 3) := by decide +kernel
theorem dX12_writes_24 : decode cX12_writes 24 = .ok (.return_, 1) := by decide +kernel
noncomputable def tX12_writes_0 : List (Nat × zF) := [(0, (zla4 0 1)), (1, (zgf 12 71)), (4, (zla4 0 1)), (5, (zgf 12 72)), (8, (zli4 1 1)), (9, (zst 3 (zp (.int (255))))), (12, (zst 1 z_iand)), (13, (zas 0)), (14, (zla4 0 1)), (15, (zst 1 zdu)), (16, (zgf 12 72)), (19, (zst 1 (zp (.int (1)))))]
theorem kX12_writes_0 : ∀ q ∈ tX12_writes_0, zOk zg iX12_writes q.1 q.2 := (z_c (ok_aload_n dX12_writes_0 rfl) (z_c (ok_getf (C := RX12) (T := TX12) (N := 73) rfl (by decide) zinX12 rfl zw_759 dX12_writes_1) (z_c (ok_aload_n dX12_writes_4 rfl) (z_c (ok_getf (C := RX12) (T := TX12) (N := 73) rfl (by decide) zinX12 rfl zw_760 dX12_writes_5) (z_c (ok_iload_n dX12_writes_8 rfl) (z_c (ok_sipush (v := (255)) dX12_writes_9 (by decide)) (z_c (ok_iand dX12_writes_12) (z_c (ok_iastore rfl dX12_writes_13) (z_c (ok_aload_n dX12_writes_14 rfl) (z_c (ok_dup dX12_writes_15) (z_c (ok_getf (C := RX12) (T := TX12) (N := 73) rfl (by decide) zinX12 rfl zw_760 dX12_writes_16) (z_c (ok_iconst (v := (1)) dX12_writes_19 (by decide)) z_n))))))))))))
noncomputable def tX12_writes_1 : List (Nat × zF) := [(20, (zst 1 z_iadd)), (21, (zpf 12 72 (.int))), (24, zrv)]
theorem kX12_writes_1 : ∀ q ∈ tX12_writes_1, zOk zg iX12_writes q.1 q.2 := (z_c (ok_iadd dX12_writes_20) (z_c (ok_putf (C := RX12) (T := TX12) (N := 73) false tyX12 tyX12_ok nmX12 rfl (by decide) zinX12 rfl zw_760 rfl (fun h => absurd h (by decide)) rfl dX12_writes_21) (z_c (ok_return rfl dX12_writes_24) z_n)))
noncomputable def tX12_writes : zT := [(20, tX12_writes_0), (100000, tX12_writes_1)]
theorem kX12_writes : zTok zg iX12_writes tX12_writes := (z_t kX12_writes_0 (z_t kX12_writes_1 z_tn))
theorem dX12_image_0 : decode cX12_image 0 = .ok (.aload_n 0, 1) := by decide +kernel
theorem dX12_image_1 : decode cX12_image 1 = .ok (.iconst 0, 1) := by decide +kernel
theorem dX12_image_2 : decode cX12_image 2 = .ok (.putfield 231, 3) := by decide +kernel
theorem dX12_image_5 : decode cX12_image 5 = .ok (.aload_n 0, 1) := by decide +kernel
theorem dX12_image_6 : decode cX12_image 6 = .ok (.aload_n 0, 1) := by decide +kernel
theorem dX12_image_7 : decode cX12_image 7 = .ok (.getfield 159, 3) := by decide +kernel
theorem dX12_image_10 : decode cX12_image 10 = .ok (.iconst 0, 1) := by decide +kernel
theorem dX12_image_11 : decode cX12_image 11 = .ok (.iaload, 1) := by decide +kernel
theorem dX12_image_12 : decode cX12_image 12 = .ok (.bipush 8, 2) := by decide +kernel
theorem dX12_image_14 : decode cX12_image 14 = .ok (.ishr, 1) := by decide +kernel
theorem dX12_image_15 : decode cX12_image 15 = .ok (.invokevirtual 561, 3) := by decide +kernel
theorem dX12_image_18 : decode cX12_image 18 = .ok (.aload_n 0, 1) := by decide +kernel
theorem dX12_image_19 : decode cX12_image 19 = .ok (.aload_n 0, 1) := by decide +kernel
theorem dX12_image_20 : decode cX12_image 20 = .ok (.getfield 159, 3) := by decide +kernel
theorem dX12_image_23 : decode cX12_image 23 = .ok (.iconst 0, 1) := by decide +kernel
theorem dX12_image_24 : decode cX12_image 24 = .ok (.iaload, 1) := by decide +kernel
theorem dX12_image_25 : decode cX12_image 25 = .ok (.invokevirtual 561, 3) := by decide +kernel
theorem dX12_image_28 : decode cX12_image 28 = .ok (.iconst 0, 1) := by decide +kernel
theorem dX12_image_29 : decode cX12_image 29 = .ok (.istore_n 1, 1) := by decide +kernel
theorem dX12_image_30 : decode cX12_image 30 = .ok (.iload_n 1, 1) := by decide +kernel
theorem dX12_image_31 : decode cX12_image 31 = .ok (.aload_n 0, 1) := by decide +kernel
theorem dX12_image_32 : decode cX12_image 32 = .ok (.getfield 69, 3) := by decide +kernel
theorem dX12_image_35 : decode cX12_image 35 = .ok (.aload_n 0, 1) := by decide +kernel
theorem dX12_image_36 : decode cX12_image 36 = .ok (.getfield 51, 3) := by decide +kernel
theorem dX12_image_39 : decode cX12_image 39 = .ok (.iaload, 1) := by decide +kernel
theorem dX12_image_40 : decode cX12_image 40 = .ok (.if_icmp .ge 41, 3) := by decide +kernel
theorem dX12_image_43 : decode cX12_image 43 = .ok (.aload_n 0, 1) := by decide +kernel
theorem dX12_image_44 : decode cX12_image 44 = .ok (.aload_n 0, 1) := by decide +kernel
theorem dX12_image_45 : decode cX12_image 45 = .ok (.getfield 162, 3) := by decide +kernel
theorem dX12_image_48 : decode cX12_image 48 = .ok (.iconst 0, 1) := by decide +kernel
theorem dX12_image_49 : decode cX12_image 49 = .ok (.iaload, 1) := by decide +kernel
theorem dX12_image_50 : decode cX12_image 50 = .ok (.iload_n 1, 1) := by decide +kernel
theorem dX12_image_51 : decode cX12_image 51 = .ok (.invokestatic 382, 3) := by decide +kernel
theorem dX12_image_54 : decode cX12_image 54 = .ok (.ifCond .eq 7, 3) := by decide +kernel
theorem dX12_image_57 : decode cX12_image 57 = .ok (.iconst 1, 1) := by decide +kernel
theorem dX12_image_58 : decode cX12_image 58 = .ok (.goto 4, 3) := by decide +kernel
theorem dX12_image_61 : decode cX12_image 61 = .ok (.iconst 0, 1) := by decide +kernel
theorem dX12_image_62 : decode cX12_image 62 = .ok (.invokevirtual 561, 3) := by decide +kernel
theorem dX12_image_65 : decode cX12_image 65 = .ok (.aload_n 0, 1) := by decide +kernel
theorem dX12_image_66 : decode cX12_image 66 = .ok (.aload_n 0, 1) := by decide +kernel
theorem dX12_image_67 : decode cX12_image 67 = .ok (.getfield 165, 3) := by decide +kernel
theorem dX12_image_70 : decode cX12_image 70 = .ok (.iload_n 1, 1) := by decide +kernel
theorem dX12_image_71 : decode cX12_image 71 = .ok (.iaload, 1) := by decide +kernel
theorem dX12_image_72 : decode cX12_image 72 = .ok (.invokevirtual 561, 3) := by decide +kernel
theorem dX12_image_75 : decode cX12_image 75 = .ok (.iinc 1 1, 3) := by decide +kernel
theorem dX12_image_78 : decode cX12_image 78 = .ok (.goto (-48), 3) := by decide +kernel
theorem dX12_image_81 : decode cX12_image 81 = .ok (.iconst 0, 1) := by decide +kernel
theorem dX12_image_82 : decode cX12_image 82 = .ok (.istore_n 1, 1) := by decide +kernel
theorem dX12_image_83 : decode cX12_image 83 = .ok (.iload_n 1, 1) := by decide +kernel
theorem dX12_image_84 : decode cX12_image 84 = .ok (.aload_n 0, 1) := by decide +kernel
theorem dX12_image_85 : decode cX12_image 85 = .ok (.getfield 84, 3) := by decide +kernel
theorem dX12_image_88 : decode cX12_image 88 = .ok (.aload_n 0, 1) := by decide +kernel
theorem dX12_image_89 : decode cX12_image 89 = .ok (.getfield 51, 3) := by decide +kernel
theorem dX12_image_92 : decode cX12_image 92 = .ok (.iaload, 1) := by decide +kernel
theorem dX12_image_93 : decode cX12_image 93 = .ok (.if_icmp .ge 37, 3) := by decide +kernel
theorem dX12_image_96 : decode cX12_image 96 = .ok (.aload_n 0, 1) := by decide +kernel
theorem dX12_image_97 : decode cX12_image 97 = .ok (.aload_n 0, 1) := by decide +kernel
theorem dX12_image_98 : decode cX12_image 98 = .ok (.getfield 168, 3) := by decide +kernel
theorem dX12_image_101 : decode cX12_image 101 = .ok (.iload_n 1, 1) := by decide +kernel
theorem dX12_image_102 : decode cX12_image 102 = .ok (.iaload, 1) := by decide +kernel
theorem dX12_image_103 : decode cX12_image 103 = .ok (.iconst 0, 1) := by decide +kernel
theorem dX12_image_104 : decode cX12_image 104 = .ok (.invokestatic 512, 3) := by decide +kernel
theorem dX12_image_107 : decode cX12_image 107 = .ok (.invokevirtual 561, 3) := by decide +kernel
theorem dX12_image_110 : decode cX12_image 110 = .ok (.aload_n 0, 1) := by decide +kernel
theorem dX12_image_111 : decode cX12_image 111 = .ok (.aload_n 0, 1) := by decide +kernel
theorem dX12_image_112 : decode cX12_image 112 = .ok (.getfield 168, 3) := by decide +kernel
theorem dX12_image_115 : decode cX12_image 115 = .ok (.iload_n 1, 1) := by decide +kernel
theorem dX12_image_116 : decode cX12_image 116 = .ok (.iaload, 1) := by decide +kernel
theorem dX12_image_117 : decode cX12_image 117 = .ok (.iconst 1, 1) := by decide +kernel
theorem dX12_image_118 : decode cX12_image 118 = .ok (.invokestatic 512, 3) := by decide +kernel
theorem dX12_image_121 : decode cX12_image 121 = .ok (.invokevirtual 561, 3) := by decide +kernel
theorem dX12_image_124 : decode cX12_image 124 = .ok (.iinc 1 1, 3) := by decide +kernel
theorem dX12_image_127 : decode cX12_image 127 = .ok (.goto (-44), 3) := by decide +kernel
theorem dX12_image_130 : decode cX12_image 130 = .ok (.sipush 241, 3) := by decide +kernel
theorem dX12_image_133 : decode cX12_image 133 = .ok (.istore_n 1, 1) := by decide +kernel
theorem dX12_image_134 : decode cX12_image 134 = .ok (.iconst 0, 1) := by decide +kernel
theorem dX12_image_135 : decode cX12_image 135 = .ok (.istore_n 2, 1) := by decide +kernel
theorem dX12_image_136 : decode cX12_image 136 = .ok (.iload_n 2, 1) := by decide +kernel
theorem dX12_image_137 : decode cX12_image 137 = .ok (.aload_n 0, 1) := by decide +kernel
theorem dX12_image_138 : decode cX12_image 138 = .ok (.getfield 231, 3) := by decide +kernel
theorem dX12_image_141 : decode cX12_image 141 = .ok (.if_icmp .ge 24, 3) := by decide +kernel
theorem dX12_image_144 : decode cX12_image 144 = .ok (.iconst 5, 1) := by decide +kernel
theorem dX12_image_145 : decode cX12_image 145 = .ok (.iload_n 1, 1) := by decide +kernel
theorem dX12_image_146 : decode cX12_image 146 = .ok (.imul, 1) := by decide +kernel
theorem dX12_image_147 : decode cX12_image 147 = .ok (.aload_n 0, 1) := by decide +kernel
theorem dX12_image_148 : decode cX12_image 148 = .ok (.getfield 228, 3) := by decide +kernel
theorem dX12_image_151 : decode cX12_image 151 = .ok (.iload_n 2, 1) := by decide +kernel
theorem dX12_image_152 : decode cX12_image 152 = .ok (.iaload, 1) := by decide +kernel
theorem dX12_image_153 : decode cX12_image 153 = .ok (.iadd, 1) := by decide +kernel
theorem dX12_image_154 : decode cX12_image 154 = .ok (.sipush 251, 3) := by decide +kernel
theorem dX12_image_157 : decode cX12_image 157 = .ok (.irem, 1) := by decide +kernel
theorem dX12_image_158 : decode cX12_image 158 = .ok (.istore_n 1, 1) := by decide +kernel
theorem dX12_image_159 : decode cX12_image 159 = .ok (.iinc 2 1, 3) := by decide +kernel
theorem dX12_image_162 : decode cX12_image 162 = .ok (.goto (-26), 3) := by decide +kernel
theorem dX12_image_165 : decode cX12_image 165 = .ok (.aload_n 0, 1) := by decide +kernel
theorem dX12_image_166 : decode cX12_image 166 = .ok (.iload_n 1, 1) := by decide +kernel
theorem dX12_image_167 : decode cX12_image 167 = .ok (.invokevirtual 561, 3) := by decide +kernel
theorem dX12_image_170 : decode cX12_image 170 = .ok (.aload_n 0, 1) := by decide +kernel
theorem dX12_image_171 : decode cX12_image 171 = .ok (.getfield 231, 3) := by decide +kernel
theorem dX12_image_174 : decode cX12_image 174 = .ok (.ireturn, 1) := by decide +kernel
noncomputable def tX12_image_0 : List (Nat × zF) := [(0, (zla4 0 1)), (1, (zst 1 (zp (.int (0))))), (2, (zpf 12 72 (.int))), (5, (zla4 0 1)), (6, (zla4 0 1)), (7, (zgf 12 48)), (10, (zst 1 (zp (.int (0))))), (11, (zal 0)), (12, (zst 2 (zp (.int (8))))), (14, (zst 1 z_ishr)), (15, (zcv 273 1 12)), (18, (zla4 0 1))]
theorem kX12_image_0 : ∀ q ∈ tX12_image_0, zOk zg iX12_image q.1 q.2 := (z_c (ok_aload_n dX12_image_0 rfl) (z_c (ok_iconst (v := (0)) dX12_image_1 (by decide)) (z_c (ok_putf (C := RX12) (T := TX12) (N := 73) false tyX12 tyX12_ok nmX12 rfl (by decide) zinX12 rfl zw_760 rfl (fun h => absurd h (by decide)) rfl dX12_image_2) (z_c (ok_aload_n dX12_image_5 rfl) (z_c (ok_aload_n dX12_image_6 rfl) (z_c (ok_getf (C := RX12) (T := TX12) (N := 73) rfl (by decide) zinX12 rfl zw_736 dX12_image_7) (z_c (ok_iconst (v := (0)) dX12_image_10 (by decide)) (z_c (ok_iaload rfl dX12_image_11) (z_c (ok_bipush (v := (8)) dX12_image_12 (by decide)) (z_c (ok_ishr dX12_image_14) (z_c (ok_callV zcal_273 (q := (RX12, TX12, 73)) rfl zw_1020 zw_1021 zw_1022 dX12_image_15) (z_c (ok_aload_n dX12_image_18 rfl) z_n))))))))))))
noncomputable def tX12_image_1 : List (Nat × zF) := [(19, (zla4 0 1)), (20, (zgf 12 48)), (23, (zst 1 (zp (.int (0))))), (24, (zal 0)), (25, (zcv 273 1 12)), (28, (zst 1 (zp (.int (0))))), (29, (zsi4 3 1 1)), (30, (zli4 1 1)), (31, (zla4 0 1)), (32, (zgf 12 19)), (35, (zla4 0 1)), (36, (zgf 12 13))]
theorem kX12_image_1 : ∀ q ∈ tX12_image_1, zOk zg iX12_image q.1 q.2 := (z_c (ok_aload_n dX12_image_19 rfl) (z_c (ok_getf (C := RX12) (T := TX12) (N := 73) rfl (by decide) zinX12 rfl zw_736 dX12_image_20) (z_c (ok_iconst (v := (0)) dX12_image_23 (by decide)) (z_c (ok_iaload rfl dX12_image_24) (z_c (ok_callV zcal_273 (q := (RX12, TX12, 73)) rfl zw_1020 zw_1021 zw_1022 dX12_image_25) (z_c (ok_iconst (v := (0)) dX12_image_28 (by decide)) (z_c (ok_istore_n dX12_image_29 rfl) (z_c (ok_iload_n dX12_image_30 rfl) (z_c (ok_aload_n dX12_image_31 rfl) (z_c (ok_getf (C := RX12) (T := TX12) (N := 73) rfl (by decide) zinX12 rfl zw_706 dX12_image_32) (z_c (ok_aload_n dX12_image_35 rfl) (z_c (ok_getf (C := RX12) (T := TX12) (N := 73) rfl (by decide) zinX12 rfl zw_700 dX12_image_36) z_n))))))))))))
noncomputable def tX12_image_2 : List (Nat × zF) := [(39, (zal 0)), (40, (z_ic_ge 81)), (43, (zla4 0 1)), (44, (zla4 0 1)), (45, (zgf 12 49)), (48, (zst 1 (zp (.int (0))))), (49, (zal 0)), (50, (zli4 1 1)), (51, (zcs 193 2)), (54, (z_if_eq 61)), (57, (zst 1 (zp (.int (1))))), (58, (zgt 62))]
theorem kX12_image_2 : ∀ q ∈ tX12_image_2, zOk zg iX12_image q.1 q.2 := (z_c (ok_iaload rfl dX12_image_39) (z_c (ok_icmp_ge dX12_image_40 (by decide)) (z_c (ok_aload_n dX12_image_43 rfl) (z_c (ok_aload_n dX12_image_44 rfl) (z_c (ok_getf (C := RX12) (T := TX12) (N := 73) rfl (by decide) zinX12 rfl zw_737 dX12_image_45) (z_c (ok_iconst (v := (0)) dX12_image_48 (by decide)) (z_c (ok_iaload rfl dX12_image_49) (z_c (ok_iload_n dX12_image_50 rfl) (z_c (ok_callS zcal_193 zw_866 zw_867 dX12_image_51) (z_c (ok_if_eq dX12_image_54 (by decide)) (z_c (ok_iconst (v := (1)) dX12_image_57 (by decide)) (z_c (ok_goto dX12_image_58 (by decide)) z_n))))))))))))
noncomputable def tX12_image_3 : List (Nat × zF) := [(61, (zst 1 (zp (.int (0))))), (62, (zcv 273 1 12)), (65, (zla4 0 1)), (66, (zla4 0 1)), (67, (zgf 12 50)), (70, (zli4 1 1)), (71, (zal 0)), (72, (zcv 273 1 12)), (75, (zin4 3 1 (1))), (78, (zgt 30)), (81, (zst 1 (zp (.int (0))))), (82, (zsi4 3 1 1))]
theorem kX12_image_3 : ∀ q ∈ tX12_image_3, zOk zg iX12_image q.1 q.2 := (z_c (ok_iconst (v := (0)) dX12_image_61 (by decide)) (z_c (ok_callV zcal_273 (q := (RX12, TX12, 73)) rfl zw_1020 zw_1021 zw_1022 dX12_image_62) (z_c (ok_aload_n dX12_image_65 rfl) (z_c (ok_aload_n dX12_image_66 rfl) (z_c (ok_getf (C := RX12) (T := TX12) (N := 73) rfl (by decide) zinX12 rfl zw_738 dX12_image_67) (z_c (ok_iload_n dX12_image_70 rfl) (z_c (ok_iaload rfl dX12_image_71) (z_c (ok_callV zcal_273 (q := (RX12, TX12, 73)) rfl zw_1020 zw_1021 zw_1022 dX12_image_72) (z_c (ok_iinc (v := (1)) dX12_image_75 (by decide)) (z_c (ok_goto dX12_image_78 (by decide)) (z_c (ok_iconst (v := (0)) dX12_image_81 (by decide)) (z_c (ok_istore_n dX12_image_82 rfl) z_n))))))))))))
noncomputable def tX12_image_4 : List (Nat × zF) := [(83, (zli4 1 1)), (84, (zla4 0 1)), (85, (zgf 12 24)), (88, (zla4 0 1)), (89, (zgf 12 13)), (92, (zal 0)), (93, (z_ic_ge 130)), (96, (zla4 0 1)), (97, (zla4 0 1)), (98, (zgf 12 51)), (101, (zli4 1 1)), (102, (zal 0))]
theorem kX12_image_4 : ∀ q ∈ tX12_image_4, zOk zg iX12_image q.1 q.2 := (z_c (ok_iload_n dX12_image_83 rfl) (z_c (ok_aload_n dX12_image_84 rfl) (z_c (ok_getf (C := RX12) (T := TX12) (N := 73) rfl (by decide) zinX12 rfl zw_711 dX12_image_85) (z_c (ok_aload_n dX12_image_88 rfl) (z_c (ok_getf (C := RX12) (T := TX12) (N := 73) rfl (by decide) zinX12 rfl zw_700 dX12_image_89) (z_c (ok_iaload rfl dX12_image_92) (z_c (ok_icmp_ge dX12_image_93 (by decide)) (z_c (ok_aload_n dX12_image_96 rfl) (z_c (ok_aload_n dX12_image_97 rfl) (z_c (ok_getf (C := RX12) (T := TX12) (N := 73) rfl (by decide) zinX12 rfl zw_739 dX12_image_98) (z_c (ok_iload_n dX12_image_101 rfl) (z_c (ok_iaload rfl dX12_image_102) z_n))))))))))))
noncomputable def tX12_image_5 : List (Nat × zF) := [(103, (zst 1 (zp (.int (0))))), (104, (zcs 242 2)), (107, (zcv 273 1 12)), (110, (zla4 0 1)), (111, (zla4 0 1)), (112, (zgf 12 51)), (115, (zli4 1 1)), (116, (zal 0)), (117, (zst 1 (zp (.int (1))))), (118, (zcs 242 2)), (121, (zcv 273 1 12)), (124, (zin4 3 1 (1)))]
theorem kX12_image_5 : ∀ q ∈ tX12_image_5, zOk zg iX12_image q.1 q.2 := (z_c (ok_iconst (v := (0)) dX12_image_103 (by decide)) (z_c (ok_callS zcal_242 zw_979 zw_980 dX12_image_104) (z_c (ok_callV zcal_273 (q := (RX12, TX12, 73)) rfl zw_1020 zw_1021 zw_1022 dX12_image_107) (z_c (ok_aload_n dX12_image_110 rfl) (z_c (ok_aload_n dX12_image_111 rfl) (z_c (ok_getf (C := RX12) (T := TX12) (N := 73) rfl (by decide) zinX12 rfl zw_739 dX12_image_112) (z_c (ok_iload_n dX12_image_115 rfl) (z_c (ok_iaload rfl dX12_image_116) (z_c (ok_iconst (v := (1)) dX12_image_117 (by decide)) (z_c (ok_callS zcal_242 zw_979 zw_980 dX12_image_118) (z_c (ok_callV zcal_273 (q := (RX12, TX12, 73)) rfl zw_1020 zw_1021 zw_1022 dX12_image_121) (z_c (ok_iinc (v := (1)) dX12_image_124 (by decide)) z_n))))))))))))
noncomputable def tX12_image_6 : List (Nat × zF) := [(127, (zgt 83)), (130, (zst 3 (zp (.int (241))))), (133, (zsi4 3 1 1)), (134, (zst 1 (zp (.int (0))))), (135, (zsi4 3 2 1)), (136, (zli4 2 1)), (137, (zla4 0 1)), (138, (zgf 12 72)), (141, (z_ic_ge 165)), (144, (zst 1 (zp (.int (5))))), (145, (zli4 1 1)), (146, (zst 1 z_imul))]
theorem kX12_image_6 : ∀ q ∈ tX12_image_6, zOk zg iX12_image q.1 q.2 := (z_c (ok_goto dX12_image_127 (by decide)) (z_c (ok_sipush (v := (241)) dX12_image_130 (by decide)) (z_c (ok_istore_n dX12_image_133 rfl) (z_c (ok_iconst (v := (0)) dX12_image_134 (by decide)) (z_c (ok_istore_n dX12_image_135 rfl) (z_c (ok_iload_n dX12_image_136 rfl) (z_c (ok_aload_n dX12_image_137 rfl) (z_c (ok_getf (C := RX12) (T := TX12) (N := 73) rfl (by decide) zinX12 rfl zw_760 dX12_image_138) (z_c (ok_icmp_ge dX12_image_141 (by decide)) (z_c (ok_iconst (v := (5)) dX12_image_144 (by decide)) (z_c (ok_iload_n dX12_image_145 rfl) (z_c (ok_imul dX12_image_146) z_n))))))))))))
noncomputable def tX12_image_7 : List (Nat × zF) := [(147, (zla4 0 1)), (148, (zgf 12 71)), (151, (zli4 2 1)), (152, (zal 0)), (153, (zst 1 z_iadd)), (154, (zst 3 (zp (.int (251))))), (157, (zst 1 z_irem)), (158, (zsi4 3 1 1)), (159, (zin4 3 2 (1))), (162, (zgt 136)), (165, (zla4 0 1)), (166, (zli4 1 1))]
theorem kX12_image_7 : ∀ q ∈ tX12_image_7, zOk zg iX12_image q.1 q.2 := (z_c (ok_aload_n dX12_image_147 rfl) (z_c (ok_getf (C := RX12) (T := TX12) (N := 73) rfl (by decide) zinX12 rfl zw_759 dX12_image_148) (z_c (ok_iload_n dX12_image_151 rfl) (z_c (ok_iaload rfl dX12_image_152) (z_c (ok_iadd dX12_image_153) (z_c (ok_sipush (v := (251)) dX12_image_154 (by decide)) (z_c (ok_irem dX12_image_157) (z_c (ok_istore_n dX12_image_158 rfl) (z_c (ok_iinc (v := (1)) dX12_image_159 (by decide)) (z_c (ok_goto dX12_image_162 (by decide)) (z_c (ok_aload_n dX12_image_165 rfl) (z_c (ok_iload_n dX12_image_166 rfl) z_n))))))))))))
noncomputable def tX12_image_8 : List (Nat × zF) := [(167, (zcv 273 1 12)), (170, (zla4 0 1)), (171, (zgf 12 72)), (174, (zri false))]
theorem kX12_image_8 : ∀ q ∈ tX12_image_8, zOk zg iX12_image q.1 q.2 := (z_c (ok_callV zcal_273 (q := (RX12, TX12, 73)) rfl zw_1020 zw_1021 zw_1022 dX12_image_167) (z_c (ok_aload_n dX12_image_170 rfl) (z_c (ok_getf (C := RX12) (T := TX12) (N := 73) rfl (by decide) zinX12 rfl zw_760 dX12_image_171) (z_c (ok_ireturn rfl dX12_image_174) z_n))))
noncomputable def tX12_image : zT := [(19, tX12_image_0), (39, tX12_image_1), (61, tX12_image_2), (83, tX12_image_3), (103, tX12_image_4), (127, tX12_image_5), (147, tX12_image_6), (167, tX12_image_7), (100000, tX12_image_8)]
theorem kX12_image : zTok zg iX12_image tX12_image := (z_t kX12_image_0 (z_t kX12_image_1 (z_t kX12_image_2 (z_t kX12_image_3 (z_t kX12_image_4 (z_t kX12_image_5 (z_t kX12_image_6 (z_t kX12_image_7 (z_t kX12_image_8 z_tn)))))))))
theorem dX12_octet_0 : decode cX12_octet 0 = .ok (.iload_n 1, 1) := by decide +kernel
theorem dX12_octet_1 : decode cX12_octet 1 = .ok (.iconst 0, 1) := by decide +kernel
theorem dX12_octet_2 : decode cX12_octet 2 = .ok (.aload_n 0, 1) := by decide +kernel
theorem dX12_octet_3 : decode cX12_octet 3 = .ok (.getfield 231, 3) := by decide +kernel
theorem dX12_octet_6 : decode cX12_octet 6 = .ok (.iconst 1, 1) := by decide +kernel
theorem dX12_octet_7 : decode cX12_octet 7 = .ok (.isub, 1) := by decide +kernel
theorem dX12_octet_8 : decode cX12_octet 8 = .ok (.invokestatic 318, 3) := by decide +kernel
theorem dX12_octet_11 : decode cX12_octet 11 = .ok (.ifCond .eq 12, 3) := by decide +kernel
theorem dX12_octet_14 : decode cX12_octet 14 = .ok (.aload_n 0, 1) := by decide +kernel
theorem dX12_octet_15 : decode cX12_octet 15 = .ok (.getfield 228, 3) := by decide +kernel
theorem dX12_octet_18 : decode cX12_octet 18 = .ok (.iload_n 1, 1) := by decide +kernel
theorem dX12_octet_19 : decode cX12_octet 19 = .ok (.iaload, 1) := by decide +kernel
theorem dX12_octet_20 : decode cX12_octet 20 = .ok (.goto 4, 3) := by decide +kernel
theorem dX12_octet_23 : decode cX12_octet 23 = .ok (.iconst (-1), 1) := by decide +kernel
theorem dX12_octet_24 : decode cX12_octet 24 = .ok (.ireturn, 1) := by decide +kernel
noncomputable def tX12_octet_0 : List (Nat × zF) := [(0, (zli4 1 1)), (1, (zst 1 (zp (.int (0))))), (2, (zla4 0 1)), (3, (zgf 12 72)), (6, (zst 1 (zp (.int (1))))), (7, (zst 1 z_isub)), (8, (zcs 165 3)), (11, (z_if_eq 23)), (14, (zla4 0 1)), (15, (zgf 12 71)), (18, (zli4 1 1)), (19, (zal 0))]
theorem kX12_octet_0 : ∀ q ∈ tX12_octet_0, zOk zg iX12_octet q.1 q.2 := (z_c (ok_iload_n dX12_octet_0 rfl) (z_c (ok_iconst (v := (0)) dX12_octet_1 (by decide)) (z_c (ok_aload_n dX12_octet_2 rfl) (z_c (ok_getf (C := RX12) (T := TX12) (N := 73) rfl (by decide) zinX12 rfl zw_760 dX12_octet_3) (z_c (ok_iconst (v := (1)) dX12_octet_6 (by decide)) (z_c (ok_isub dX12_octet_7) (z_c (ok_callS zcal_165 zw_812 zw_813 dX12_octet_8) (z_c (ok_if_eq dX12_octet_11 (by decide)) (z_c (ok_aload_n dX12_octet_14 rfl) (z_c (ok_getf (C := RX12) (T := TX12) (N := 73) rfl (by decide) zinX12 rfl zw_759 dX12_octet_15) (z_c (ok_iload_n dX12_octet_18 rfl) (z_c (ok_iaload rfl dX12_octet_19) z_n))))))))))))
noncomputable def tX12_octet_1 : List (Nat × zF) := [(20, (zgt 24)), (23, (zst 1 (zp (.int ((-1)))))), (24, (zri false))]
theorem kX12_octet_1 : ∀ q ∈ tX12_octet_1, zOk zg iX12_octet q.1 q.2 := (z_c (ok_goto dX12_octet_20 (by decide)) (z_c (ok_iconst (v := (-1)) dX12_octet_23 (by decide)) (z_c (ok_ireturn rfl dX12_octet_24) z_n)))
noncomputable def tX12_octet : zT := [(20, tX12_octet_0), (100000, tX12_octet_1)]
theorem kX12_octet : zTok zg iX12_octet tX12_octet := (z_t kX12_octet_0 (z_t kX12_octet_1 z_tn))
theorem dX12_folkOn_0 : decode cX12_folkOn 0 = .ok (.aload_n 0, 1) := by decide +kernel
theorem dX12_folkOn_1 : decode cX12_folkOn 1 = .ok (.aload_n 0, 1) := by decide +kernel
theorem dX12_folkOn_2 : decode cX12_folkOn 2 = .ok (.getfield 7, 3) := by decide +kernel
theorem dX12_folkOn_5 : decode cX12_folkOn 5 = .ok (.iload_n 2, 1) := by decide +kernel
theorem dX12_folkOn_6 : decode cX12_folkOn 6 = .ok (.iaload, 1) := by decide +kernel
theorem dX12_folkOn_7 : decode cX12_folkOn 7 = .ok (.aload_n 0, 1) := by decide +kernel
theorem dX12_folkOn_8 : decode cX12_folkOn 8 = .ok (.getfield 7, 3) := by decide +kernel
theorem dX12_folkOn_11 : decode cX12_folkOn 11 = .ok (.iload_n 2, 1) := by decide +kernel
theorem dX12_folkOn_12 : decode cX12_folkOn 12 = .ok (.iconst 1, 1) := by decide +kernel
theorem dX12_folkOn_13 : decode cX12_folkOn 13 = .ok (.iadd, 1) := by decide +kernel
theorem dX12_folkOn_14 : decode cX12_folkOn 14 = .ok (.iaload, 1) := by decide +kernel
theorem dX12_folkOn_15 : decode cX12_folkOn 15 = .ok (.invokevirtual 444, 3) := by decide +kernel
theorem dX12_folkOn_18 : decode cX12_folkOn 18 = .ok (.ifCond .ne 5, 3) := by decide +kernel
theorem dX12_folkOn_21 : decode cX12_folkOn 21 = .ok (.iconst 0, 1) := by decide +kernel
theorem dX12_folkOn_22 : decode cX12_folkOn 22 = .ok (.ireturn, 1) := by decide +kernel
theorem dX12_folkOn_23 : decode cX12_folkOn 23 = .ok (.bipush 8, 2) := by decide +kernel
theorem dX12_folkOn_25 : decode cX12_folkOn 25 = .ok (.aload_n 0, 1) := by decide +kernel
theorem dX12_folkOn_26 : decode cX12_folkOn 26 = .ok (.getfield 7, 3) := by decide +kernel
theorem dX12_folkOn_29 : decode cX12_folkOn 29 = .ok (.iload_n 2, 1) := by decide +kernel
theorem dX12_folkOn_30 : decode cX12_folkOn 30 = .ok (.iconst 1, 1) := by decide +kernel
theorem dX12_folkOn_31 : decode cX12_folkOn 31 = .ok (.iadd, 1) := by decide +kernel
theorem dX12_folkOn_32 : decode cX12_folkOn 32 = .ok (.iaload, 1) := by decide +kernel
theorem dX12_folkOn_33 : decode cX12_folkOn 33 = .ok (.imul, 1) := by decide +kernel
theorem dX12_folkOn_34 : decode cX12_folkOn 34 = .ok (.aload_n 0, 1) := by decide +kernel
theorem dX12_folkOn_35 : decode cX12_folkOn 35 = .ok (.getfield 7, 3) := by decide +kernel
theorem dX12_folkOn_38 : decode cX12_folkOn 38 = .ok (.iload_n 2, 1) := by decide +kernel
theorem dX12_folkOn_39 : decode cX12_folkOn 39 = .ok (.iaload, 1) := by decide +kernel
theorem dX12_folkOn_40 : decode cX12_folkOn 40 = .ok (.iadd, 1) := by decide +kernel
theorem dX12_folkOn_41 : decode cX12_folkOn 41 = .ok (.istore_n 3, 1) := by decide +kernel
theorem dX12_folkOn_42 : decode cX12_folkOn 42 = .ok (.aload_n 0, 1) := by decide +kernel
theorem dX12_folkOn_43 : decode cX12_folkOn 43 = .ok (.getfield 168, 3) := by decide +kernel
theorem dX12_folkOn_46 : decode cX12_folkOn 46 = .ok (.bipush 6, 2) := by decide +kernel
theorem dX12_folkOn_48 : decode cX12_folkOn 48 = .ok (.iload_n 1, 1) := by decide +kernel
theorem dX12_folkOn_49 : decode cX12_folkOn 49 = .ok (.iadd, 1) := by decide +kernel
theorem dX12_folkOn_50 : decode cX12_folkOn 50 = .ok (.iload_n 3, 1) := by decide +kernel
theorem dX12_folkOn_51 : decode cX12_folkOn 51 = .ok (.iastore, 1) := by decide +kernel
theorem dX12_folkOn_52 : decode cX12_folkOn 52 = .ok (.aload_n 0, 1) := by decide +kernel
theorem dX12_folkOn_53 : decode cX12_folkOn 53 = .ok (.iload_n 3, 1) := by decide +kernel
theorem dX12_folkOn_54 : decode cX12_folkOn 54 = .ok (.invokevirtual 447, 3) := by decide +kernel
theorem dX12_folkOn_57 : decode cX12_folkOn 57 = .ok (.ifCond .ne 7, 3) := by decide +kernel
theorem dX12_folkOn_60 : decode cX12_folkOn 60 = .ok (.iconst 1, 1) := by decide +kernel
theorem dX12_folkOn_61 : decode cX12_folkOn 61 = .ok (.goto 4, 3) := by decide +kernel
theorem dX12_folkOn_64 : decode cX12_folkOn 64 = .ok (.iconst 0, 1) := by decide +kernel
theorem dX12_folkOn_65 : decode cX12_folkOn 65 = .ok (.ireturn, 1) := by decide +kernel
noncomputable def tX12_folkOn_0 : List (Nat × zF) := [(0, (zla4 0 1)), (1, (zla4 0 1)), (2, (zgf 12 0)), (5, (zli4 2 1)), (6, (zal 0)), (7, (zla4 0 1)), (8, (zgf 12 0)), (11, (zli4 2 1)), (12, (zst 1 (zp (.int (1))))), (13, (zst 1 z_iadd)), (14, (zal 0)), (15, (zcv 221 2 12))]
theorem kX12_folkOn_0 : ∀ q ∈ tX12_folkOn_0, zOk zg iX12_folkOn q.1 q.2 := (z_c (ok_aload_n dX12_folkOn_0 rfl) (z_c (ok_aload_n dX12_folkOn_1 rfl) (z_c (ok_getf (C := RX12) (T := TX12) (N := 73) rfl (by decide) zinX12 rfl zw_687 dX12_folkOn_2) (z_c (ok_iload_n dX12_folkOn_5 rfl) (z_c (ok_iaload rfl dX12_folkOn_6) (z_c (ok_aload_n dX12_folkOn_7 rfl) (z_c (ok_getf (C := RX12) (T := TX12) (N := 73) rfl (by decide) zinX12 rfl zw_687 dX12_folkOn_8) (z_c (ok_iload_n dX12_folkOn_11 rfl) (z_c (ok_iconst (v := (1)) dX12_folkOn_12 (by decide)) (z_c (ok_iadd dX12_folkOn_13) (z_c (ok_iaload rfl dX12_folkOn_14) (z_c (ok_callV zcal_221 (q := (RX12, TX12, 73)) rfl zw_918 zw_919 zw_920 dX12_folkOn_15) z_n))))))))))))
noncomputable def tX12_folkOn_1 : List (Nat × zF) := [(18, (z_if_ne 23)), (21, (zst 1 (zp (.int (0))))), (22, (zri true)), (23, (zst 2 (zp (.int (8))))), (25, (zla4 0 1)), (26, (zgf 12 0)), (29, (zli4 2 1)), (30, (zst 1 (zp (.int (1))))), (31, (zst 1 z_iadd)), (32, (zal 0)), (33, (zst 1 z_imul)), (34, (zla4 0 1))]
theorem kX12_folkOn_1 : ∀ q ∈ tX12_folkOn_1, zOk zg iX12_folkOn q.1 q.2 := (z_c (ok_if_ne dX12_folkOn_18 (by decide)) (z_c (ok_iconst (v := (0)) dX12_folkOn_21 (by decide)) (z_c (ok_zreturn rfl dX12_folkOn_22) (z_c (ok_bipush (v := (8)) dX12_folkOn_23 (by decide)) (z_c (ok_aload_n dX12_folkOn_25 rfl) (z_c (ok_getf (C := RX12) (T := TX12) (N := 73) rfl (by decide) zinX12 rfl zw_687 dX12_folkOn_26) (z_c (ok_iload_n dX12_folkOn_29 rfl) (z_c (ok_iconst (v := (1)) dX12_folkOn_30 (by decide)) (z_c (ok_iadd dX12_folkOn_31) (z_c (ok_iaload rfl dX12_folkOn_32) (z_c (ok_imul dX12_folkOn_33) (z_c (ok_aload_n dX12_folkOn_34 rfl) z_n))))))))))))
noncomputable def tX12_folkOn_2 : List (Nat × zF) := [(35, (zgf 12 0)), (38, (zli4 2 1)), (39, (zal 0)), (40, (zst 1 z_iadd)), (41, (zsi4 4 3 1)), (42, (zla4 0 1)), (43, (zgf 12 51)), (46, (zst 2 (zp (.int (6))))), (48, (zli4 1 1)), (49, (zst 1 z_iadd)), (50, (zli4 3 1)), (51, (zas 0))]
theorem kX12_folkOn_2 : ∀ q ∈ tX12_folkOn_2, zOk zg iX12_folkOn q.1 q.2 := (z_c (ok_getf (C := RX12) (T := TX12) (N := 73) rfl (by decide) zinX12 rfl zw_687 dX12_folkOn_35) (z_c (ok_iload_n dX12_folkOn_38 rfl) (z_c (ok_iaload rfl dX12_folkOn_39) (z_c (ok_iadd dX12_folkOn_40) (z_c (ok_istore_n dX12_folkOn_41 rfl) (z_c (ok_aload_n dX12_folkOn_42 rfl) (z_c (ok_getf (C := RX12) (T := TX12) (N := 73) rfl (by decide) zinX12 rfl zw_739 dX12_folkOn_43) (z_c (ok_bipush (v := (6)) dX12_folkOn_46 (by decide)) (z_c (ok_iload_n dX12_folkOn_48 rfl) (z_c (ok_iadd dX12_folkOn_49) (z_c (ok_iload_n dX12_folkOn_50 rfl) (z_c (ok_iastore rfl dX12_folkOn_51) z_n))))))))))))
noncomputable def tX12_folkOn_3 : List (Nat × zF) := [(52, (zla4 0 1)), (53, (zli4 3 1)), (54, (zcv 223 1 12)), (57, (z_if_ne 64)), (60, (zst 1 (zp (.int (1))))), (61, (zgt 65)), (64, (zst 1 (zp (.int (0))))), (65, (zri true))]
theorem kX12_folkOn_3 : ∀ q ∈ tX12_folkOn_3, zOk zg iX12_folkOn q.1 q.2 := (z_c (ok_aload_n dX12_folkOn_52 rfl) (z_c (ok_iload_n dX12_folkOn_53 rfl) (z_c (ok_callV zcal_223 (q := (RX12, TX12, 73)) rfl zw_921 zw_922 zw_923 dX12_folkOn_54) (z_c (ok_if_ne dX12_folkOn_57 (by decide)) (z_c (ok_iconst (v := (1)) dX12_folkOn_60 (by decide)) (z_c (ok_goto dX12_folkOn_61 (by decide)) (z_c (ok_iconst (v := (0)) dX12_folkOn_64 (by decide)) (z_c (ok_zreturn rfl dX12_folkOn_65) z_n))))))))
noncomputable def tX12_folkOn : zT := [(18, tX12_folkOn_0), (35, tX12_folkOn_1), (52, tX12_folkOn_2), (100000, tX12_folkOn_3)]
theorem kX12_folkOn : zTok zg iX12_folkOn tX12_folkOn := (z_t kX12_folkOn_0 (z_t kX12_folkOn_1 (z_t kX12_folkOn_2 (z_t kX12_folkOn_3 z_tn))))
theorem dX12_comesOn_0 : decode cX12_comesOn 0 = .ok (.iconst 2, 1) := by decide +kernel
theorem dX12_comesOn_1 : decode cX12_comesOn 1 = .ok (.iconst 2, 1) := by decide +kernel
theorem dX12_comesOn_2 : decode cX12_comesOn 2 = .ok (.aload_n 0, 1) := by decide +kernel
theorem dX12_comesOn_3 : decode cX12_comesOn 3 = .ok (.getfield 69, 3) := by decide +kernel
theorem dX12_comesOn_6 : decode cX12_comesOn 6 = .ok (.aload_n 0, 1) := by decide +kernel
theorem dX12_comesOn_7 : decode cX12_comesOn 7 = .ok (.getfield 51, 3) := by decide +kernel
theorem dX12_comesOn_10 : decode cX12_comesOn 10 = .ok (.iaload, 1) := by decide +kernel
theorem dX12_comesOn_11 : decode cX12_comesOn 11 = .ok (.imul, 1) := by decide +kernel
theorem dX12_comesOn_12 : decode cX12_comesOn 12 = .ok (.iadd, 1) := by decide +kernel
theorem dX12_comesOn_13 : decode cX12_comesOn 13 = .ok (.istore_n 2, 1) := by decide +kernel
theorem dX12_comesOn_14 : decode cX12_comesOn 14 = .ok (.aload_n 0, 1) := by decide +kernel
theorem dX12_comesOn_15 : decode cX12_comesOn 15 = .ok (.getfield 153, 3) := by decide +kernel
theorem dX12_comesOn_18 : decode cX12_comesOn 18 = .ok (.ifCond .eq 44, 3) := by decide +kernel
theorem dX12_comesOn_21 : decode cX12_comesOn 21 = .ok (.iload_n 1, 1) := by decide +kernel
theorem dX12_comesOn_22 : decode cX12_comesOn 22 = .ok (.iload_n 2, 1) := by decide +kernel
theorem dX12_comesOn_23 : decode cX12_comesOn 23 = .ok (.iconst 2, 1) := by decide +kernel
theorem dX12_comesOn_24 : decode cX12_comesOn 24 = .ok (.aload_n 0, 1) := by decide +kernel
theorem dX12_comesOn_25 : decode cX12_comesOn 25 = .ok (.getfield 84, 3) := by decide +kernel
theorem dX12_comesOn_28 : decode cX12_comesOn 28 = .ok (.aload_n 0, 1) := by decide +kernel
theorem dX12_comesOn_29 : decode cX12_comesOn 29 = .ok (.getfield 51, 3) := by decide +kernel
theorem dX12_comesOn_32 : decode cX12_comesOn 32 = .ok (.iaload, 1) := by decide +kernel
theorem dX12_comesOn_33 : decode cX12_comesOn 33 = .ok (.imul, 1) := by decide +kernel
theorem dX12_comesOn_34 : decode cX12_comesOn 34 = .ok (.iadd, 1) := by decide +kernel
theorem dX12_comesOn_35 : decode cX12_comesOn 35 = .ok (.iconst 1, 1) := by decide +kernel
theorem dX12_comesOn_36 : decode cX12_comesOn 36 = .ok (.iadd, 1) := by decide +kernel
theorem dX12_comesOn_37 : decode cX12_comesOn 37 = .ok (.if_icmp .ne 25, 3) := by decide +kernel
theorem dX12_comesOn_40 : decode cX12_comesOn 40 = .ok (.aload_n 0, 1) := by decide +kernel
theorem dX12_comesOn_41 : decode cX12_comesOn 41 = .ok (.getfield 7, 3) := by decide +kernel
theorem dX12_comesOn_44 : decode cX12_comesOn 44 = .ok (.iconst 0, 1) := by decide +kernel
theorem dX12_comesOn_45 : decode cX12_comesOn 45 = .ok (.iaload, 1) := by decide +kernel
theorem dX12_comesOn_46 : decode cX12_comesOn 46 = .ok (.bipush 8, 2) := by decide +kernel
theorem dX12_comesOn_48 : decode cX12_comesOn 48 = .ok (.ishl, 1) := by decide +kernel
theorem dX12_comesOn_49 : decode cX12_comesOn 49 = .ok (.aload_n 0, 1) := by decide +kernel
theorem dX12_comesOn_50 : decode cX12_comesOn 50 = .ok (.getfield 7, 3) := by decide +kernel
theorem dX12_comesOn_53 : decode cX12_comesOn 53 = .ok (.iconst 1, 1) := by decide +kernel
theorem dX12_comesOn_54 : decode cX12_comesOn 54 = .ok (.iaload, 1) := by decide +kernel
theorem dX12_comesOn_55 : decode cX12_comesOn 55 = .ok (.ior, 1) := by decide +kernel
theorem dX12_comesOn_56 : decode cX12_comesOn 56 = .ok (.sipush 999, 3) := by decide +kernel
theorem dX12_comesOn_59 : decode cX12_comesOn 59 = .ok (.if_icmp .le 5, 3) := by decide +kernel
theorem dX12_comesOn_62 : decode cX12_comesOn 62 = .ok (.iconst 0, 1) := by decide +kernel
theorem dX12_comesOn_63 : decode cX12_comesOn 63 = .ok (.ireturn, 1) := by decide +kernel
theorem dX12_comesOn_64 : decode cX12_comesOn 64 = .ok (.sipush 241, 3) := by decide +kernel
theorem dX12_comesOn_67 : decode cX12_comesOn 67 = .ok (.istore_n 3, 1) := by decide +kernel
theorem dX12_comesOn_68 : decode cX12_comesOn 68 = .ok (.iconst 0, 1) := by decide +kernel
theorem dX12_comesOn_69 : decode cX12_comesOn 69 = .ok (.istore 4, 2) := by decide +kernel
theorem dX12_comesOn_71 : decode cX12_comesOn 71 = .ok (.iload 4, 2) := by decide +kernel
theorem dX12_comesOn_73 : decode cX12_comesOn 73 = .ok (.iload_n 1, 1) := by decide +kernel
theorem dX12_comesOn_74 : decode cX12_comesOn 74 = .ok (.iconst 1, 1) := by decide +kernel
theorem dX12_comesOn_75 : decode cX12_comesOn 75 = .ok (.isub, 1) := by decide +kernel
theorem dX12_comesOn_76 : decode cX12_comesOn 76 = .ok (.if_icmp .ge 25, 3) := by decide +kernel
theorem dX12_comesOn_79 : decode cX12_comesOn 79 = .ok (.iconst 5, 1) := by decide +kernel
theorem dX12_comesOn_80 : decode cX12_comesOn 80 = .ok (.iload_n 3, 1) := by decide +kernel
theorem dX12_comesOn_81 : decode cX12_comesOn 81 = .ok (.imul, 1) := by decide +kernel
theorem dX12_comesOn_82 : decode cX12_comesOn 82 = .ok (.aload_n 0, 1) := by decide +kernel
theorem dX12_comesOn_83 : decode cX12_comesOn 83 = .ok (.getfield 7, 3) := by decide +kernel
theorem dX12_comesOn_86 : decode cX12_comesOn 86 = .ok (.iload 4, 2) := by decide +kernel
theorem dX12_comesOn_88 : decode cX12_comesOn 88 = .ok (.iaload, 1) := by decide +kernel
theorem dX12_comesOn_89 : decode cX12_comesOn 89 = .ok (.iadd, 1) := by decide +kernel
theorem dX12_comesOn_90 : decode cX12_comesOn 90 = .ok (.sipush 251, 3) := by decide +kernel
theorem dX12_comesOn_93 : decode cX12_comesOn 93 = .ok (.irem, 1) := by decide +kernel
theorem dX12_comesOn_94 : decode cX12_comesOn 94 = .ok (.istore_n 3, 1) := by decide +kernel
theorem dX12_comesOn_95 : decode cX12_comesOn 95 = .ok (.iinc 4 1, 3) := by decide +kernel
theorem dX12_comesOn_98 : decode cX12_comesOn 98 = .ok (.goto (-27), 3) := by decide +kernel
theorem dX12_comesOn_101 : decode cX12_comesOn 101 = .ok (.aload_n 0, 1) := by decide +kernel
theorem dX12_comesOn_102 : decode cX12_comesOn 102 = .ok (.getfield 7, 3) := by decide +kernel
theorem dX12_comesOn_105 : decode cX12_comesOn 105 = .ok (.iload_n 1, 1) := by decide +kernel
theorem dX12_comesOn_106 : decode cX12_comesOn 106 = .ok (.iconst 1, 1) := by decide +kernel
theorem dX12_comesOn_107 : decode cX12_comesOn 107 = .ok (.isub, 1) := by decide +kernel
theorem dX12_comesOn_108 : decode cX12_comesOn 108 = .ok (.iaload, 1) := by decide +kernel
theorem dX12_comesOn_109 : decode cX12_comesOn 109 = .ok (.iload_n 3, 1) := by decide +kernel
theorem dX12_comesOn_110 : decode cX12_comesOn 110 = .ok (.if_icmp .eq 5, 3) := by decide +kernel
theorem dX12_comesOn_113 : decode cX12_comesOn 113 = .ok (.iconst 0, 1) := by decide +kernel
theorem dX12_comesOn_114 : decode cX12_comesOn 114 = .ok (.ireturn, 1) := by decide +kernel
theorem dX12_comesOn_115 : decode cX12_comesOn 115 = .ok (.aload_n 0, 1) := by decide +kernel
theorem dX12_comesOn_116 : decode cX12_comesOn 116 = .ok (.iconst 1, 1) := by decide +kernel
theorem dX12_comesOn_117 : decode cX12_comesOn 117 = .ok (.iconst 0, 1) := by decide +kernel
theorem dX12_comesOn_118 : decode cX12_comesOn 118 = .ok (.invokevirtual 425, 3) := by decide +kernel
theorem dX12_comesOn_121 : decode cX12_comesOn 121 = .ok (.aload_n 0, 1) := by decide +kernel
theorem dX12_comesOn_122 : decode cX12_comesOn 122 = .ok (.getfield 159, 3) := by decide +kernel
theorem dX12_comesOn_125 : decode cX12_comesOn 125 = .ok (.iconst 1, 1) := by decide +kernel
theorem dX12_comesOn_126 : decode cX12_comesOn 126 = .ok (.aload_n 0, 1) := by decide +kernel
theorem dX12_comesOn_127 : decode cX12_comesOn 127 = .ok (.getfield 7, 3) := by decide +kernel
theorem dX12_comesOn_130 : decode cX12_comesOn 130 = .ok (.iconst 0, 1) := by decide +kernel
theorem dX12_comesOn_131 : decode cX12_comesOn 131 = .ok (.iaload, 1) := by decide +kernel
theorem dX12_comesOn_132 : decode cX12_comesOn 132 = .ok (.bipush 8, 2) := by decide +kernel
theorem dX12_comesOn_134 : decode cX12_comesOn 134 = .ok (.ishl, 1) := by decide +kernel
theorem dX12_comesOn_135 : decode cX12_comesOn 135 = .ok (.aload_n 0, 1) := by decide +kernel
theorem dX12_comesOn_136 : decode cX12_comesOn 136 = .ok (.getfield 7, 3) := by decide +kernel
theorem dX12_comesOn_139 : decode cX12_comesOn 139 = .ok (.iconst 1, 1) := by decide +kernel
theorem dX12_comesOn_140 : decode cX12_comesOn 140 = .ok (.iaload, 1) := by decide +kernel
theorem dX12_comesOn_141 : decode cX12_comesOn 141 = .ok (.ior, 1) := by decide +kernel
theorem dX12_comesOn_142 : decode cX12_comesOn 142 = .ok (.iastore, 1) := by decide +kernel
theorem dX12_comesOn_143 : decode cX12_comesOn 143 = .ok (.aload_n 0, 1) := by decide +kernel
theorem dX12_comesOn_144 : decode cX12_comesOn 144 = .ok (.getfield 162, 3) := by decide +kernel
theorem dX12_comesOn_147 : decode cX12_comesOn 147 = .ok (.iconst 1, 1) := by decide +kernel
theorem dX12_comesOn_148 : decode cX12_comesOn 148 = .ok (.iconst 0, 1) := by decide +kernel
theorem dX12_comesOn_149 : decode cX12_comesOn 149 = .ok (.iastore, 1) := by decide +kernel
theorem dX12_comesOn_150 : decode cX12_comesOn 150 = .ok (.aload_n 0, 1) := by decide +kernel
theorem dX12_comesOn_151 : decode cX12_comesOn 151 = .ok (.getfield 171, 3) := by decide +kernel
theorem dX12_comesOn_154 : decode cX12_comesOn 154 = .ok (.iconst 1, 1) := by decide +kernel
theorem dX12_comesOn_155 : decode cX12_comesOn 155 = .ok (.iconst 0, 1) := by decide +kernel
theorem dX12_comesOn_156 : decode cX12_comesOn 156 = .ok (.iastore, 1) := by decide +kernel
theorem dX12_comesOn_157 : decode cX12_comesOn 157 = .ok (.iconst 0, 1) := by decide +kernel
theorem dX12_comesOn_158 : decode cX12_comesOn 158 = .ok (.istore 4, 2) := by decide +kernel
theorem dX12_comesOn_160 : decode cX12_comesOn 160 = .ok (.iload 4, 2) := by decide +kernel
theorem dX12_comesOn_162 : decode cX12_comesOn 162 = .ok (.aload_n 0, 1) := by decide +kernel
theorem dX12_comesOn_163 : decode cX12_comesOn 163 = .ok (.getfield 69, 3) := by decide +kernel
theorem dX12_comesOn_166 : decode cX12_comesOn 166 = .ok (.aload_n 0, 1) := by decide +kernel
theorem dX12_comesOn_167 : decode cX12_comesOn 167 = .ok (.getfield 51, 3) := by decide +kernel
theorem dX12_comesOn_170 : decode cX12_comesOn 170 = .ok (.iaload, 1) := by decide +kernel
theorem dX12_comesOn_171 : decode cX12_comesOn 171 = .ok (.if_icmp .ge 82, 3) := by decide +kernel
theorem dX12_comesOn_174 : decode cX12_comesOn 174 = .ok (.iconst 2, 1) := by decide +kernel
theorem dX12_comesOn_175 : decode cX12_comesOn 175 = .ok (.iconst 2, 1) := by decide +kernel
theorem dX12_comesOn_176 : decode cX12_comesOn 176 = .ok (.iload 4, 2) := by decide +kernel
theorem dX12_comesOn_178 : decode cX12_comesOn 178 = .ok (.imul, 1) := by decide +kernel
theorem dX12_comesOn_179 : decode cX12_comesOn 179 = .ok (.iadd, 1) := by decide +kernel
theorem dX12_comesOn_180 : decode cX12_comesOn 180 = .ok (.istore 5, 2) := by decide +kernel
theorem dX12_comesOn_182 : decode cX12_comesOn 182 = .ok (.aload_n 0, 1) := by decide +kernel
theorem dX12_comesOn_183 : decode cX12_comesOn 183 = .ok (.getfield 7, 3) := by decide +kernel
theorem dX12_comesOn_186 : decode cX12_comesOn 186 = .ok (.iload 5, 2) := by decide +kernel
theorem dX12_comesOn_188 : decode cX12_comesOn 188 = .ok (.iaload, 1) := by decide +kernel
theorem dX12_comesOn_189 : decode cX12_comesOn 189 = .ok (.iconst 1, 1) := by decide +kernel
theorem dX12_comesOn_190 : decode cX12_comesOn 190 = .ok (.if_icmp .gt 17, 3) := by decide +kernel
theorem dX12_comesOn_193 : decode cX12_comesOn 193 = .ok (.aload_n 0, 1) := by decide +kernel
theorem dX12_comesOn_194 : decode cX12_comesOn 194 = .ok (.getfield 7, 3) := by decide +kernel
theorem dX12_comesOn_197 : decode cX12_comesOn 197 = .ok (.iload 5, 2) := by decide +kernel
theorem dX12_comesOn_199 : decode cX12_comesOn 199 = .ok (.iconst 1, 1) := by decide +kernel
theorem dX12_comesOn_200 : decode cX12_comesOn 200 = .ok (.iadd, 1) := by decide +kernel
theorem dX12_comesOn_201 : decode cX12_comesOn 201 = .ok (.iaload, 1) := by decide +kernel
theorem dX12_comesOn_202 : decode cX12_comesOn 202 = .ok (.bipush 99, 2) := by decide +kernel
theorem dX12_comesOn_204 : decode cX12_comesOn 204 = .ok (.if_icmp .le 5, 3) := by decide +kernel
theorem dX12_comesOn_207 : decode cX12_comesOn 207 = .ok (.iconst 0, 1) := by decide +kernel
theorem dX12_comesOn_208 : decode cX12_comesOn 208 = .ok (.ireturn, 1) := by decide +kernel
theorem dX12_comesOn_209 : decode cX12_comesOn 209 = .ok (.aload_n 0, 1) := by decide +kernel
theorem dX12_comesOn_210 : decode cX12_comesOn 210 = .ok (.getfield 162, 3) := by decide +kernel
theorem dX12_comesOn_213 : decode cX12_comesOn 213 = .ok (.iconst 1, 1) := by decide +kernel
theorem dX12_comesOn_214 : decode cX12_comesOn 214 = .ok (.dup2, 1) := by decide +kernel
theorem dX12_comesOn_215 : decode cX12_comesOn 215 = .ok (.iaload, 1) := by decide +kernel
theorem dX12_comesOn_216 : decode cX12_comesOn 216 = .ok (.aload_n 0, 1) := by decide +kernel
theorem dX12_comesOn_217 : decode cX12_comesOn 217 = .ok (.getfield 7, 3) := by decide +kernel
theorem dX12_comesOn_220 : decode cX12_comesOn 220 = .ok (.iload 5, 2) := by decide +kernel
theorem dX12_comesOn_222 : decode cX12_comesOn 222 = .ok (.iaload, 1) := by decide +kernel
theorem dX12_comesOn_223 : decode cX12_comesOn 223 = .ok (.iload 4, 2) := by decide +kernel
theorem dX12_comesOn_225 : decode cX12_comesOn 225 = .ok (.ishl, 1) := by decide +kernel
theorem dX12_comesOn_226 : decode cX12_comesOn 226 = .ok (.ior, 1) := by decide +kernel
theorem dX12_comesOn_227 : decode cX12_comesOn 227 = .ok (.iastore, 1) := by decide +kernel
theorem dX12_comesOn_228 : decode cX12_comesOn 228 = .ok (.aload_n 0, 1) := by decide +kernel
theorem dX12_comesOn_229 : decode cX12_comesOn 229 = .ok (.getfield 165, 3) := by decide +kernel
theorem dX12_comesOn_232 : decode cX12_comesOn 232 = .ok (.bipush 9, 2) := by decide +kernel
theorem dX12_comesOn_234 : decode cX12_comesOn 234 = .ok (.iload 4, 2) := by decide +kernel
theorem dX12_comesOn_236 : decode cX12_comesOn 236 = .ok (.iadd, 1) := by decide +kernel
theorem dX12_comesOn_237 : decode cX12_comesOn 237 = .ok (.aload_n 0, 1) := by decide +kernel
theorem dX12_comesOn_238 : decode cX12_comesOn 238 = .ok (.getfield 7, 3) := by decide +kernel
theorem dX12_comesOn_241 : decode cX12_comesOn 241 = .ok (.iload 5, 2) := by decide +kernel
theorem dX12_comesOn_243 : decode cX12_comesOn 243 = .ok (.iconst 1, 1) := by decide +kernel
theorem dX12_comesOn_244 : decode cX12_comesOn 244 = .ok (.iadd, 1) := by decide +kernel
theorem dX12_comesOn_245 : decode cX12_comesOn 245 = .ok (.iaload, 1) := by decide +kernel
theorem dX12_comesOn_246 : decode cX12_comesOn 246 = .ok (.iastore, 1) := by decide +kernel
theorem dX12_comesOn_247 : decode cX12_comesOn 247 = .ok (.iinc 4 1, 3) := by decide +kernel
theorem dX12_comesOn_250 : decode cX12_comesOn 250 = .ok (.goto (-90), 3) := by decide +kernel
theorem dX12_comesOn_253 : decode cX12_comesOn 253 = .ok (.iconst 0, 1) := by decide +kernel
theorem dX12_comesOn_254 : decode cX12_comesOn 254 = .ok (.istore 4, 2) := by decide +kernel
theorem dX12_comesOn_256 : decode cX12_comesOn 256 = .ok (.iload 4, 2) := by decide +kernel
theorem dX12_comesOn_258 : decode cX12_comesOn 258 = .ok (.aload_n 0, 1) := by decide +kernel
theorem dX12_comesOn_259 : decode cX12_comesOn 259 = .ok (.getfield 84, 3) := by decide +kernel
theorem dX12_comesOn_262 : decode cX12_comesOn 262 = .ok (.aload_n 0, 1) := by decide +kernel
theorem dX12_comesOn_263 : decode cX12_comesOn 263 = .ok (.getfield 51, 3) := by decide +kernel
theorem dX12_comesOn_266 : decode cX12_comesOn 266 = .ok (.iaload, 1) := by decide +kernel
theorem dX12_comesOn_267 : decode cX12_comesOn 267 = .ok (.if_icmp .ge 26, 3) := by decide +kernel
theorem dX12_comesOn_270 : decode cX12_comesOn 270 = .ok (.aload_n 0, 1) := by decide +kernel
theorem dX12_comesOn_271 : decode cX12_comesOn 271 = .ok (.iload 4, 2) := by decide +kernel
theorem dX12_comesOn_273 : decode cX12_comesOn 273 = .ok (.iload_n 2, 1) := by decide +kernel
theorem dX12_comesOn_274 : decode cX12_comesOn 274 = .ok (.iconst 2, 1) := by decide +kernel
theorem dX12_comesOn_275 : decode cX12_comesOn 275 = .ok (.iload 4, 2) := by decide +kernel
theorem dX12_comesOn_277 : decode cX12_comesOn 277 = .ok (.imul, 1) := by decide +kernel
theorem dX12_comesOn_278 : decode cX12_comesOn 278 = .ok (.iadd, 1) := by decide +kernel
theorem dX12_comesOn_279 : decode cX12_comesOn 279 = .ok (.invokevirtual 564, 3) := by decide +kernel
theorem dX12_comesOn_282 : decode cX12_comesOn 282 = .ok (.ifCond .ne 5, 3) := by decide +kernel
theorem dX12_comesOn_285 : decode cX12_comesOn 285 = .ok (.iconst 0, 1) := by decide +kernel
theorem dX12_comesOn_286 : decode cX12_comesOn 286 = .ok (.ireturn, 1) := by decide +kernel
theorem dX12_comesOn_287 : decode cX12_comesOn 287 = .ok (.iinc 4 1, 3) := by decide +kernel
theorem dX12_comesOn_290 : decode cX12_comesOn 290 = .ok (.goto (-34), 3) := by decide +kernel
theorem dX12_comesOn_293 : decode cX12_comesOn 293 = .ok (.iconst 1, 1) := by decide +kernel
theorem dX12_comesOn_294 : decode cX12_comesOn 294 = .ok (.ireturn, 1) := by decide +kernel
noncomputable def tX12_comesOn_0 : List (Nat × zF) := [(0, (zst 1 (zp (.int (2))))), (1, (zst 1 (zp (.int (2))))), (2, (zla4 0 1)), (3, (zgf 12 19)), (6, (zla4 0 1)), (7, (zgf 12 13)), (10, (zal 0)), (11, (zst 1 z_imul)), (12, (zst 1 z_iadd)), (13, (zsi4 6 2 1)), (14, (zla4 0 1)), (15, (zgf 12 46))]
theorem kX12_comesOn_0 : ∀ q ∈ tX12_comesOn_0, zOk zg iX12_comesOn q.1 q.2 := (z_c (ok_iconst (v := (2)) dX12_comesOn_0 (by decide)) (z_c (ok_iconst (v := (2)) dX12_comesOn_1 (by decide)) (z_c (ok_aload_n dX12_comesOn_2 rfl) (z_c (ok_getf (C := RX12) (T := TX12) (N := 73) rfl (by decide) zinX12 rfl zw_706 dX12_comesOn_3) (z_c (ok_aload_n dX12_comesOn_6 rfl) (z_c (ok_getf (C := RX12) (T := TX12) (N := 73) rfl (by decide) zinX12 rfl zw_700 dX12_comesOn_7) (z_c (ok_iaload rfl dX12_comesOn_10) (z_c (ok_imul dX12_comesOn_11) (z_c (ok_iadd dX12_comesOn_12) (z_c (ok_istore_n dX12_comesOn_13 rfl) (z_c (ok_aload_n dX12_comesOn_14 rfl) (z_c (ok_getf (C := RX12) (T := TX12) (N := 73) rfl (by decide) zinX12 rfl zw_734 dX12_comesOn_15) z_n))))))))))))
noncomputable def tX12_comesOn_1 : List (Nat × zF) := [(18, (z_if_eq 62)), (21, (zli4 1 1)), (22, (zli4 2 1)), (23, (zst 1 (zp (.int (2))))), (24, (zla4 0 1)), (25, (zgf 12 24)), (28, (zla4 0 1)), (29, (zgf 12 13)), (32, (zal 0)), (33, (zst 1 z_imul)), (34, (zst 1 z_iadd)), (35, (zst 1 (zp (.int (1)))))]
theorem kX12_comesOn_1 : ∀ q ∈ tX12_comesOn_1, zOk zg iX12_comesOn q.1 q.2 := (z_c (ok_if_eq dX12_comesOn_18 (by decide)) (z_c (ok_iload_n dX12_comesOn_21 rfl) (z_c (ok_iload_n dX12_comesOn_22 rfl) (z_c (ok_iconst (v := (2)) dX12_comesOn_23 (by decide)) (z_c (ok_aload_n dX12_comesOn_24 rfl) (z_c (ok_getf (C := RX12) (T := TX12) (N := 73) rfl (by decide) zinX12 rfl zw_711 dX12_comesOn_25) (z_c (ok_aload_n dX12_comesOn_28 rfl) (z_c (ok_getf (C := RX12) (T := TX12) (N := 73) rfl (by decide) zinX12 rfl zw_700 dX12_comesOn_29) (z_c (ok_iaload rfl dX12_comesOn_32) (z_c (ok_imul dX12_comesOn_33) (z_c (ok_iadd dX12_comesOn_34) (z_c (ok_iconst (v := (1)) dX12_comesOn_35 (by decide)) z_n))))))))))))
noncomputable def tX12_comesOn_2 : List (Nat × zF) := [(36, (zst 1 z_iadd)), (37, (z_ic_ne 62)), (40, (zla4 0 1)), (41, (zgf 12 0)), (44, (zst 1 (zp (.int (0))))), (45, (zal 0)), (46, (zst 2 (zp (.int (8))))), (48, (zst 1 z_ishl)), (49, (zla4 0 1)), (50, (zgf 12 0)), (53, (zst 1 (zp (.int (1))))), (54, (zal 0))]
theorem kX12_comesOn_2 : ∀ q ∈ tX12_comesOn_2, zOk zg iX12_comesOn q.1 q.2 := (z_c (ok_iadd dX12_comesOn_36) (z_c (ok_icmp_ne dX12_comesOn_37 (by decide)) (z_c (ok_aload_n dX12_comesOn_40 rfl) (z_c (ok_getf (C := RX12) (T := TX12) (N := 73) rfl (by decide) zinX12 rfl zw_687 dX12_comesOn_41) (z_c (ok_iconst (v := (0)) dX12_comesOn_44 (by decide)) (z_c (ok_iaload rfl dX12_comesOn_45) (z_c (ok_bipush (v := (8)) dX12_comesOn_46 (by decide)) (z_c (ok_ishl dX12_comesOn_48) (z_c (ok_aload_n dX12_comesOn_49 rfl) (z_c (ok_getf (C := RX12) (T := TX12) (N := 73) rfl (by decide) zinX12 rfl zw_687 dX12_comesOn_50) (z_c (ok_iconst (v := (1)) dX12_comesOn_53 (by decide)) (z_c (ok_iaload rfl dX12_comesOn_54) z_n))))))))))))
noncomputable def tX12_comesOn_3 : List (Nat × zF) := [(55, (zst 1 z_ior)), (56, (zst 3 (zp (.int (999))))), (59, (z_ic_le 64)), (62, (zst 1 (zp (.int (0))))), (63, (zri true)), (64, (zst 3 (zp (.int (241))))), (67, (zsi4 6 3 1)), (68, (zst 1 (zp (.int (0))))), (69, (zsi4 6 4 2)), (71, (zli4 4 2)), (73, (zli4 1 1)), (74, (zst 1 (zp (.int (1)))))]
theorem kX12_comesOn_3 : ∀ q ∈ tX12_comesOn_3, zOk zg iX12_comesOn q.1 q.2 := (z_c (ok_ior dX12_comesOn_55) (z_c (ok_sipush (v := (999)) dX12_comesOn_56 (by decide)) (z_c (ok_icmp_le dX12_comesOn_59 (by decide)) (z_c (ok_iconst (v := (0)) dX12_comesOn_62 (by decide)) (z_c (ok_zreturn rfl dX12_comesOn_63) (z_c (ok_sipush (v := (241)) dX12_comesOn_64 (by decide)) (z_c (ok_istore_n dX12_comesOn_67 rfl) (z_c (ok_iconst (v := (0)) dX12_comesOn_68 (by decide)) (z_c (ok_istore dX12_comesOn_69) (z_c (ok_iload dX12_comesOn_71) (z_c (ok_iload_n dX12_comesOn_73 rfl) (z_c (ok_iconst (v := (1)) dX12_comesOn_74 (by decide)) z_n))))))))))))
noncomputable def tX12_comesOn_4 : List (Nat × zF) := [(75, (zst 1 z_isub)), (76, (z_ic_ge 101)), (79, (zst 1 (zp (.int (5))))), (80, (zli4 3 1)), (81, (zst 1 z_imul)), (82, (zla4 0 1)), (83, (zgf 12 0)), (86, (zli4 4 2)), (88, (zal 0)), (89, (zst 1 z_iadd)), (90, (zst 3 (zp (.int (251))))), (93, (zst 1 z_irem))]
theorem kX12_comesOn_4 : ∀ q ∈ tX12_comesOn_4, zOk zg iX12_comesOn q.1 q.2 := (z_c (ok_isub dX12_comesOn_75) (z_c (ok_icmp_ge dX12_comesOn_76 (by decide)) (z_c (ok_iconst (v := (5)) dX12_comesOn_79 (by decide)) (z_c (ok_iload_n dX12_comesOn_80 rfl) (z_c (ok_imul dX12_comesOn_81) (z_c (ok_aload_n dX12_comesOn_82 rfl) (z_c (ok_getf (C := RX12) (T := TX12) (N := 73) rfl (by decide) zinX12 rfl zw_687 dX12_comesOn_83) (z_c (ok_iload dX12_comesOn_86) (z_c (ok_iaload rfl dX12_comesOn_88) (z_c (ok_iadd dX12_comesOn_89) (z_c (ok_sipush (v := (251)) dX12_comesOn_90 (by decide)) (z_c (ok_irem dX12_comesOn_93) z_n))))))))))))
noncomputable def tX12_comesOn_5 : List (Nat × zF) := [(94, (zsi4 6 3 1)), (95, (zin4 6 4 (1))), (98, (zgt 71)), (101, (zla4 0 1)), (102, (zgf 12 0)), (105, (zli4 1 1)), (106, (zst 1 (zp (.int (1))))), (107, (zst 1 z_isub)), (108, (zal 0)), (109, (zli4 3 1)), (110, (z_ic_eq 115)), (113, (zst 1 (zp (.int (0)))))]
theorem kX12_comesOn_5 : ∀ q ∈ tX12_comesOn_5, zOk zg iX12_comesOn q.1 q.2 := (z_c (ok_istore_n dX12_comesOn_94 rfl) (z_c (ok_iinc (v := (1)) dX12_comesOn_95 (by decide)) (z_c (ok_goto dX12_comesOn_98 (by decide)) (z_c (ok_aload_n dX12_comesOn_101 rfl) (z_c (ok_getf (C := RX12) (T := TX12) (N := 73) rfl (by decide) zinX12 rfl zw_687 dX12_comesOn_102) (z_c (ok_iload_n dX12_comesOn_105 rfl) (z_c (ok_iconst (v := (1)) dX12_comesOn_106 (by decide)) (z_c (ok_isub dX12_comesOn_107) (z_c (ok_iaload rfl dX12_comesOn_108) (z_c (ok_iload_n dX12_comesOn_109 rfl) (z_c (ok_icmp_eq dX12_comesOn_110 (by decide)) (z_c (ok_iconst (v := (0)) dX12_comesOn_113 (by decide)) z_n))))))))))))
noncomputable def tX12_comesOn_6 : List (Nat × zF) := [(114, (zri true)), (115, (zla4 0 1)), (116, (zst 1 (zp (.int (1))))), (117, (zst 1 (zp (.int (0))))), (118, (zcv 210 2 12)), (121, (zla4 0 1)), (122, (zgf 12 48)), (125, (zst 1 (zp (.int (1))))), (126, (zla4 0 1)), (127, (zgf 12 0)), (130, (zst 1 (zp (.int (0))))), (131, (zal 0))]
theorem kX12_comesOn_6 : ∀ q ∈ tX12_comesOn_6, zOk zg iX12_comesOn q.1 q.2 := (z_c (ok_zreturn rfl dX12_comesOn_114) (z_c (ok_aload_n dX12_comesOn_115 rfl) (z_c (ok_iconst (v := (1)) dX12_comesOn_116 (by decide)) (z_c (ok_iconst (v := (0)) dX12_comesOn_117 (by decide)) (z_c (ok_callV zcal_210 (q := (RX12, TX12, 73)) rfl zw_907 zw_908 zw_909 dX12_comesOn_118) (z_c (ok_aload_n dX12_comesOn_121 rfl) (z_c (ok_getf (C := RX12) (T := TX12) (N := 73) rfl (by decide) zinX12 rfl zw_736 dX12_comesOn_122) (z_c (ok_iconst (v := (1)) dX12_comesOn_125 (by decide)) (z_c (ok_aload_n dX12_comesOn_126 rfl) (z_c (ok_getf (C := RX12) (T := TX12) (N := 73) rfl (by decide) zinX12 rfl zw_687 dX12_comesOn_127) (z_c (ok_iconst (v := (0)) dX12_comesOn_130 (by decide)) (z_c (ok_iaload rfl dX12_comesOn_131) z_n))))))))))))
noncomputable def tX12_comesOn_7 : List (Nat × zF) := [(132, (zst 2 (zp (.int (8))))), (134, (zst 1 z_ishl)), (135, (zla4 0 1)), (136, (zgf 12 0)), (139, (zst 1 (zp (.int (1))))), (140, (zal 0)), (141, (zst 1 z_ior)), (142, (zas 0)), (143, (zla4 0 1)), (144, (zgf 12 49)), (147, (zst 1 (zp (.int (1))))), (148, (zst 1 (zp (.int (0)))))]
theorem kX12_comesOn_7 : ∀ q ∈ tX12_comesOn_7, zOk zg iX12_comesOn q.1 q.2 := (z_c (ok_bipush (v := (8)) dX12_comesOn_132 (by decide)) (z_c (ok_ishl dX12_comesOn_134) (z_c (ok_aload_n dX12_comesOn_135 rfl) (z_c (ok_getf (C := RX12) (T := TX12) (N := 73) rfl (by decide) zinX12 rfl zw_687 dX12_comesOn_136) (z_c (ok_iconst (v := (1)) dX12_comesOn_139 (by decide)) (z_c (ok_iaload rfl dX12_comesOn_140) (z_c (ok_ior dX12_comesOn_141) (z_c (ok_iastore rfl dX12_comesOn_142) (z_c (ok_aload_n dX12_comesOn_143 rfl) (z_c (ok_getf (C := RX12) (T := TX12) (N := 73) rfl (by decide) zinX12 rfl zw_737 dX12_comesOn_144) (z_c (ok_iconst (v := (1)) dX12_comesOn_147 (by decide)) (z_c (ok_iconst (v := (0)) dX12_comesOn_148 (by decide)) z_n))))))))))))
noncomputable def tX12_comesOn_8 : List (Nat × zF) := [(149, (zas 0)), (150, (zla4 0 1)), (151, (zgf 12 52)), (154, (zst 1 (zp (.int (1))))), (155, (zst 1 (zp (.int (0))))), (156, (zas 0)), (157, (zst 1 (zp (.int (0))))), (158, (zsi4 6 4 2)), (160, (zli4 4 2)), (162, (zla4 0 1)), (163, (zgf 12 19)), (166, (zla4 0 1))]
theorem kX12_comesOn_8 : ∀ q ∈ tX12_comesOn_8, zOk zg iX12_comesOn q.1 q.2 := (z_c (ok_iastore rfl dX12_comesOn_149) (z_c (ok_aload_n dX12_comesOn_150 rfl) (z_c (ok_getf (C := RX12) (T := TX12) (N := 73) rfl (by decide) zinX12 rfl zw_740 dX12_comesOn_151) (z_c (ok_iconst (v := (1)) dX12_comesOn_154 (by decide)) (z_c (ok_iconst (v := (0)) dX12_comesOn_155 (by decide)) (z_c (ok_iastore rfl dX12_comesOn_156) (z_c (ok_iconst (v := (0)) dX12_comesOn_157 (by decide)) (z_c (ok_istore dX12_comesOn_158) (z_c (ok_iload dX12_comesOn_160) (z_c (ok_aload_n dX12_comesOn_162 rfl) (z_c (ok_getf (C := RX12) (T := TX12) (N := 73) rfl (by decide) zinX12 rfl zw_706 dX12_comesOn_163) (z_c (ok_aload_n dX12_comesOn_166 rfl) z_n))))))))))))
noncomputable def tX12_comesOn_9 : List (Nat × zF) := [(167, (zgf 12 13)), (170, (zal 0)), (171, (z_ic_ge 253)), (174, (zst 1 (zp (.int (2))))), (175, (zst 1 (zp (.int (2))))), (176, (zli4 4 2)), (178, (zst 1 z_imul)), (179, (zst 1 z_iadd)), (180, (zsi4 6 5 2)), (182, (zla4 0 1)), (183, (zgf 12 0)), (186, (zli4 5 2))]
theorem kX12_comesOn_9 : ∀ q ∈ tX12_comesOn_9, zOk zg iX12_comesOn q.1 q.2 := (z_c (ok_getf (C := RX12) (T := TX12) (N := 73) rfl (by decide) zinX12 rfl zw_700 dX12_comesOn_167) (z_c (ok_iaload rfl dX12_comesOn_170) (z_c (ok_icmp_ge dX12_comesOn_171 (by decide)) (z_c (ok_iconst (v := (2)) dX12_comesOn_174 (by decide)) (z_c (ok_iconst (v := (2)) dX12_comesOn_175 (by decide)) (z_c (ok_iload dX12_comesOn_176) (z_c (ok_imul dX12_comesOn_178) (z_c (ok_iadd dX12_comesOn_179) (z_c (ok_istore dX12_comesOn_180) (z_c (ok_aload_n dX12_comesOn_182 rfl) (z_c (ok_getf (C := RX12) (T := TX12) (N := 73) rfl (by decide) zinX12 rfl zw_687 dX12_comesOn_183) (z_c (ok_iload dX12_comesOn_186) z_n))))))))))))
noncomputable def tX12_comesOn_10 : List (Nat × zF) := [(188, (zal 0)), (189, (zst 1 (zp (.int (1))))), (190, (z_ic_gt 207)), (193, (zla4 0 1)), (194, (zgf 12 0)), (197, (zli4 5 2)), (199, (zst 1 (zp (.int (1))))), (200, (zst 1 z_iadd)), (201, (zal 0)), (202, (zst 2 (zp (.int (99))))), (204, (z_ic_le 209)), (207, (zst 1 (zp (.int (0)))))]
theorem kX12_comesOn_10 : ∀ q ∈ tX12_comesOn_10, zOk zg iX12_comesOn q.1 q.2 := (z_c (ok_iaload rfl dX12_comesOn_188) (z_c (ok_iconst (v := (1)) dX12_comesOn_189 (by decide)) (z_c (ok_icmp_gt dX12_comesOn_190 (by decide)) (z_c (ok_aload_n dX12_comesOn_193 rfl) (z_c (ok_getf (C := RX12) (T := TX12) (N := 73) rfl (by decide) zinX12 rfl zw_687 dX12_comesOn_194) (z_c (ok_iload dX12_comesOn_197) (z_c (ok_iconst (v := (1)) dX12_comesOn_199 (by decide)) (z_c (ok_iadd dX12_comesOn_200) (z_c (ok_iaload rfl dX12_comesOn_201) (z_c (ok_bipush (v := (99)) dX12_comesOn_202 (by decide)) (z_c (ok_icmp_le dX12_comesOn_204 (by decide)) (z_c (ok_iconst (v := (0)) dX12_comesOn_207 (by decide)) z_n))))))))))))
noncomputable def tX12_comesOn_11 : List (Nat × zF) := [(208, (zri true)), (209, (zla4 0 1)), (210, (zgf 12 49)), (213, (zst 1 (zp (.int (1))))), (214, (zst 1 zd2)), (215, (zal 0)), (216, (zla4 0 1)), (217, (zgf 12 0)), (220, (zli4 5 2)), (222, (zal 0)), (223, (zli4 4 2)), (225, (zst 1 z_ishl))]
theorem kX12_comesOn_11 : ∀ q ∈ tX12_comesOn_11, zOk zg iX12_comesOn q.1 q.2 := (z_c (ok_zreturn rfl dX12_comesOn_208) (z_c (ok_aload_n dX12_comesOn_209 rfl) (z_c (ok_getf (C := RX12) (T := TX12) (N := 73) rfl (by decide) zinX12 rfl zw_737 dX12_comesOn_210) (z_c (ok_iconst (v := (1)) dX12_comesOn_213 (by decide)) (z_c (ok_dup2 dX12_comesOn_214) (z_c (ok_iaload rfl dX12_comesOn_215) (z_c (ok_aload_n dX12_comesOn_216 rfl) (z_c (ok_getf (C := RX12) (T := TX12) (N := 73) rfl (by decide) zinX12 rfl zw_687 dX12_comesOn_217) (z_c (ok_iload dX12_comesOn_220) (z_c (ok_iaload rfl dX12_comesOn_222) (z_c (ok_iload dX12_comesOn_223) (z_c (ok_ishl dX12_comesOn_225) z_n))))))))))))
noncomputable def tX12_comesOn_12 : List (Nat × zF) := [(226, (zst 1 z_ior)), (227, (zas 0)), (228, (zla4 0 1)), (229, (zgf 12 50)), (232, (zst 2 (zp (.int (9))))), (234, (zli4 4 2)), (236, (zst 1 z_iadd)), (237, (zla4 0 1)), (238, (zgf 12 0)), (241, (zli4 5 2)), (243, (zst 1 (zp (.int (1))))), (244, (zst 1 z_iadd))]
theorem kX12_comesOn_12 : ∀ q ∈ tX12_comesOn_12, zOk zg iX12_comesOn q.1 q.2 := (z_c (ok_ior dX12_comesOn_226) (z_c (ok_iastore rfl dX12_comesOn_227) (z_c (ok_aload_n dX12_comesOn_228 rfl) (z_c (ok_getf (C := RX12) (T := TX12) (N := 73) rfl (by decide) zinX12 rfl zw_738 dX12_comesOn_229) (z_c (ok_bipush (v := (9)) dX12_comesOn_232 (by decide)) (z_c (ok_iload dX12_comesOn_234) (z_c (ok_iadd dX12_comesOn_236) (z_c (ok_aload_n dX12_comesOn_237 rfl) (z_c (ok_getf (C := RX12) (T := TX12) (N := 73) rfl (by decide) zinX12 rfl zw_687 dX12_comesOn_238) (z_c (ok_iload dX12_comesOn_241) (z_c (ok_iconst (v := (1)) dX12_comesOn_243 (by decide)) (z_c (ok_iadd dX12_comesOn_244) z_n))))))))))))
noncomputable def tX12_comesOn_13 : List (Nat × zF) := [(245, (zal 0)), (246, (zas 0)), (247, (zin4 6 4 (1))), (250, (zgt 160)), (253, (zst 1 (zp (.int (0))))), (254, (zsi4 6 4 2)), (256, (zli4 4 2)), (258, (zla4 0 1)), (259, (zgf 12 24)), (262, (zla4 0 1)), (263, (zgf 12 13)), (266, (zal 0))]
theorem kX12_comesOn_13 : ∀ q ∈ tX12_comesOn_13, zOk zg iX12_comesOn q.1 q.2 := (z_c (ok_iaload rfl dX12_comesOn_245) (z_c (ok_iastore rfl dX12_comesOn_246) (z_c (ok_iinc (v := (1)) dX12_comesOn_247 (by decide)) (z_c (ok_goto dX12_comesOn_250 (by decide)) (z_c (ok_iconst (v := (0)) dX12_comesOn_253 (by decide)) (z_c (ok_istore dX12_comesOn_254) (z_c (ok_iload dX12_comesOn_256) (z_c (ok_aload_n dX12_comesOn_258 rfl) (z_c (ok_getf (C := RX12) (T := TX12) (N := 73) rfl (by decide) zinX12 rfl zw_711 dX12_comesOn_259) (z_c (ok_aload_n dX12_comesOn_262 rfl) (z_c (ok_getf (C := RX12) (T := TX12) (N := 73) rfl (by decide) zinX12 rfl zw_700 dX12_comesOn_263) (z_c (ok_iaload rfl dX12_comesOn_266) z_n))))))))))))
noncomputable def tX12_comesOn_14 : List (Nat × zF) := [(267, (z_ic_ge 293)), (270, (zla4 0 1)), (271, (zli4 4 2)), (273, (zli4 2 1)), (274, (zst 1 (zp (.int (2))))), (275, (zli4 4 2)), (277, (zst 1 z_imul)), (278, (zst 1 z_iadd)), (279, (zcv 276 2 12)), (282, (z_if_ne 287)), (285, (zst 1 (zp (.int (0))))), (286, (zri true))]
theorem kX12_comesOn_14 : ∀ q ∈ tX12_comesOn_14, zOk zg iX12_comesOn q.1 q.2 := (z_c (ok_icmp_ge dX12_comesOn_267 (by decide)) (z_c (ok_aload_n dX12_comesOn_270 rfl) (z_c (ok_iload dX12_comesOn_271) (z_c (ok_iload_n dX12_comesOn_273 rfl) (z_c (ok_iconst (v := (2)) dX12_comesOn_274 (by decide)) (z_c (ok_iload dX12_comesOn_275) (z_c (ok_imul dX12_comesOn_277) (z_c (ok_iadd dX12_comesOn_278) (z_c (ok_callV zcal_276 (q := (RX12, TX12, 73)) rfl zw_1023 zw_1024 zw_1025 dX12_comesOn_279) (z_c (ok_if_ne dX12_comesOn_282 (by decide)) (z_c (ok_iconst (v := (0)) dX12_comesOn_285 (by decide)) (z_c (ok_zreturn rfl dX12_comesOn_286) z_n))))))))))))
noncomputable def tX12_comesOn_15 : List (Nat × zF) := [(287, (zin4 6 4 (1))), (290, (zgt 256)), (293, (zst 1 (zp (.int (1))))), (294, (zri true))]
theorem kX12_comesOn_15 : ∀ q ∈ tX12_comesOn_15, zOk zg iX12_comesOn q.1 q.2 := (z_c (ok_iinc (v := (1)) dX12_comesOn_287 (by decide)) (z_c (ok_goto dX12_comesOn_290 (by decide)) (z_c (ok_iconst (v := (1)) dX12_comesOn_293 (by decide)) (z_c (ok_zreturn rfl dX12_comesOn_294) z_n))))
noncomputable def tX12_comesOn : zT := [(18, tX12_comesOn_0), (36, tX12_comesOn_1), (55, tX12_comesOn_2), (75, tX12_comesOn_3), (94, tX12_comesOn_4), (114, tX12_comesOn_5), (132, tX12_comesOn_6), (149, tX12_comesOn_7), (167, tX12_comesOn_8), (188, tX12_comesOn_9), (208, tX12_comesOn_10), (226, tX12_comesOn_11), (245, tX12_comesOn_12), (267, tX12_comesOn_13), (287, tX12_comesOn_14), (100000, tX12_comesOn_15)]
theorem kX12_comesOn : zTok zg iX12_comesOn tX12_comesOn := (z_t kX12_comesOn_0 (z_t kX12_comesOn_1 (z_t kX12_comesOn_2 (z_t kX12_comesOn_3 (z_t kX12_comesOn_4 (z_t kX12_comesOn_5 (z_t kX12_comesOn_6 (z_t kX12_comesOn_7 (z_t kX12_comesOn_8 (z_t kX12_comesOn_9 (z_t kX12_comesOn_10 (z_t kX12_comesOn_11 (z_t kX12_comesOn_12 (z_t kX12_comesOn_13 (z_t kX12_comesOn_14 (z_t kX12_comesOn_15 z_tn))))))))))))))))
theorem dX12_on_0 : decode cX12_on 0 = .ok (.aload_n 0, 1) := by decide +kernel
theorem dX12_on_1 : decode cX12_on 1 = .ok (.getfield 13, 3) := by decide +kernel
theorem dX12_on_4 : decode cX12_on 4 = .ok (.istore_n 1, 1) := by decide +kernel
theorem dX12_on_5 : decode cX12_on 5 = .ok (.aload_n 0, 1) := by decide +kernel
theorem dX12_on_6 : decode cX12_on 6 = .ok (.iconst 0, 1) := by decide +kernel
theorem dX12_on_7 : decode cX12_on 7 = .ok (.putfield 13, 3) := by decide +kernel
theorem dX12_on_10 : decode cX12_on 10 = .ok (.aload_n 0, 1) := by decide +kernel
theorem dX12_on_11 : decode cX12_on 11 = .ok (.iload_n 1, 1) := by decide +kernel
theorem dX12_on_12 : decode cX12_on 12 = .ok (.invokevirtual 567, 3) := by decide +kernel
theorem dX12_on_15 : decode cX12_on 15 = .ok (.ifCond .ne 17, 3) := by decide +kernel
theorem dX12_on_18 : decode cX12_on 18 = .ok (.aload_n 0, 1) := by decide +kernel
theorem dX12_on_19 : decode cX12_on 19 = .ok (.iconst 5, 1) := by decide +kernel
theorem dX12_on_20 : decode cX12_on 20 = .ok (.invokevirtual 234, 3) := by decide +kernel
theorem dX12_on_23 : decode cX12_on 23 = .ok (.ifCond .lt 7, 3) := by decide +kernel
theorem dX12_on_26 : decode cX12_on 26 = .ok (.iconst 1, 1) := by decide +kernel
theorem dX12_on_27 : decode cX12_on 27 = .ok (.goto 4, 3) := by decide +kernel
theorem dX12_on_30 : decode cX12_on 30 = .ok (.iconst 0, 1) := by decide +kernel
theorem dX12_on_31 : decode cX12_on 31 = .ok (.ireturn, 1) := by decide +kernel
theorem dX12_on_32 : decode cX12_on 32 = .ok (.aload_n 0, 1) := by decide +kernel
theorem dX12_on_33 : decode cX12_on 33 = .ok (.iconst 0, 1) := by decide +kernel
theorem dX12_on_34 : decode cX12_on 34 = .ok (.iconst 1, 1) := by decide +kernel
theorem dX12_on_35 : decode cX12_on 35 = .ok (.invokevirtual 425, 3) := by decide +kernel
theorem dX12_on_38 : decode cX12_on 38 = .ok (.aload_n 0, 1) := by decide +kernel
theorem dX12_on_39 : decode cX12_on 39 = .ok (.iconst 0, 1) := by decide +kernel
theorem dX12_on_40 : decode cX12_on 40 = .ok (.putfield 180, 3) := by decide +kernel
theorem dX12_on_43 : decode cX12_on 43 = .ok (.iconst 1, 1) := by decide +kernel
theorem dX12_on_44 : decode cX12_on 44 = .ok (.ireturn, 1) := by decide +kernel
noncomputable def tX12_on_0 : List (Nat × zF) := [(0, (zla4 0 1)), (1, (zgf 12 1)), (4, (zsi4 2 1 1)), (5, (zla4 0 1)), (6, (zst 1 (zp (.int (0))))), (7, (zpf 12 1 (.int))), (10, (zla4 0 1)), (11, (zli4 1 1)), (12, (zcv 277 1 12)), (15, (z_if_ne 32)), (18, (zla4 0 1)), (19, (zst 1 (zp (.int (5)))))]
theorem kX12_on_0 : ∀ q ∈ tX12_on_0, zOk zg iX12_on q.1 q.2 := (z_c (ok_aload_n dX12_on_0 rfl) (z_c (ok_getf (C := RX12) (T := TX12) (N := 73) rfl (by decide) zinX12 rfl zw_688 dX12_on_1) (z_c (ok_istore_n dX12_on_4 rfl) (z_c (ok_aload_n dX12_on_5 rfl) (z_c (ok_iconst (v := (0)) dX12_on_6 (by decide)) (z_c (ok_putf (C := RX12) (T := TX12) (N := 73) false tyX12 tyX12_ok nmX12 rfl (by decide) zinX12 rfl zw_688 rfl (fun h => absurd h (by decide)) rfl dX12_on_7) (z_c (ok_aload_n dX12_on_10 rfl) (z_c (ok_iload_n dX12_on_11 rfl) (z_c (ok_callV zcal_277 (q := (RX12, TX12, 73)) rfl zw_1026 zw_1027 zw_1028 dX12_on_12) (z_c (ok_if_ne dX12_on_15 (by decide)) (z_c (ok_aload_n dX12_on_18 rfl) (z_c (ok_iconst (v := (5)) dX12_on_19 (by decide)) z_n))))))))))))
noncomputable def tX12_on_1 : List (Nat × zF) := [(20, (zcv 208 1 12)), (23, (z_if_lt 30)), (26, (zst 1 (zp (.int (1))))), (27, (zgt 31)), (30, (zst 1 (zp (.int (0))))), (31, (zri true)), (32, (zla4 0 1)), (33, (zst 1 (zp (.int (0))))), (34, (zst 1 (zp (.int (1))))), (35, (zcv 210 2 12)), (38, (zla4 0 1)), (39, (zst 1 (zp (.int (0)))))]
theorem kX12_on_1 : ∀ q ∈ tX12_on_1, zOk zg iX12_on q.1 q.2 := (z_c (ok_callV zcal_208 (q := (RX12, TX12, 73)) rfl zw_761 zw_762 zw_763 dX12_on_20) (z_c (ok_if_lt dX12_on_23 (by decide)) (z_c (ok_iconst (v := (1)) dX12_on_26 (by decide)) (z_c (ok_goto dX12_on_27 (by decide)) (z_c (ok_iconst (v := (0)) dX12_on_30 (by decide)) (z_c (ok_zreturn rfl dX12_on_31) (z_c (ok_aload_n dX12_on_32 rfl) (z_c (ok_iconst (v := (0)) dX12_on_33 (by decide)) (z_c (ok_iconst (v := (1)) dX12_on_34 (by decide)) (z_c (ok_callV zcal_210 (q := (RX12, TX12, 73)) rfl zw_907 zw_908 zw_909 dX12_on_35) (z_c (ok_aload_n dX12_on_38 rfl) (z_c (ok_iconst (v := (0)) dX12_on_39 (by decide)) z_n))))))))))))
noncomputable def tX12_on_2 : List (Nat × zF) := [(40, (zpf 12 55 (.int))), (43, (zst 1 (zp (.int (1))))), (44, (zri true))]
theorem kX12_on_2 : ∀ q ∈ tX12_on_2, zOk zg iX12_on q.1 q.2 := (z_c (ok_putf (C := RX12) (T := TX12) (N := 73) false tyX12 tyX12_ok nmX12 rfl (by decide) zinX12 rfl zw_743 rfl (fun h => absurd h (by decide)) rfl dX12_on_40) (z_c (ok_iconst (v := (1)) dX12_on_43 (by decide)) (z_c (ok_zreturn rfl dX12_on_44) z_n)))
noncomputable def tX12_on : zT := [(20, tX12_on_0), (40, tX12_on_1), (100000, tX12_on_2)]
theorem kX12_on : zTok zg iX12_on tX12_on := (z_t kX12_on_0 (z_t kX12_on_1 (z_t kX12_on_2 z_tn)))
theorem dJ6_bitCount_0f7a4_0 : decode cJ6_bitCount_0f7a4 0 = .ok (.iload_n 0, 1) := by decide +kernel
theorem dJ6_bitCount_0f7a4_1 : decode cJ6_bitCount_0f7a4 1 = .ok (.iload_n 0, 1) := by decide +kernel
theorem dJ6_bitCount_0f7a4_2 : decode cJ6_bitCount_0f7a4 2 = .ok (.iconst 1, 1) := by decide +kernel
theorem dJ6_bitCount_0f7a4_3 : decode cJ6_bitCount_0f7a4 3 = .ok (.iushr, 1) := by decide +kernel
theorem dJ6_bitCount_0f7a4_4 : decode cJ6_bitCount_0f7a4 4 = .ok (.ldc_w 265, 3) := by decide +kernel
theorem dJ6_bitCount_0f7a4_7 : decode cJ6_bitCount_0f7a4 7 = .ok (.iand, 1) := by decide +kernel
theorem dJ6_bitCount_0f7a4_8 : decode cJ6_bitCount_0f7a4 8 = .ok (.isub, 1) := by decide +kernel
theorem dJ6_bitCount_0f7a4_9 : decode cJ6_bitCount_0f7a4 9 = .ok (.istore_n 0, 1) := by decide +kernel
theorem dJ6_bitCount_0f7a4_10 : decode cJ6_bitCount_0f7a4 10 = .ok (.iload_n 0, 1) := by decide +kernel
theorem dJ6_bitCount_0f7a4_11 : decode cJ6_bitCount_0f7a4 11 = .ok (.ldc_w 266, 3) := by decide +kernel
theorem dJ6_bitCount_0f7a4_14 : decode cJ6_bitCount_0f7a4 14 = .ok (.iand, 1) := by decide +kernel
theorem dJ6_bitCount_0f7a4_15 : decode cJ6_bitCount_0f7a4 15 = .ok (.iload_n 0, 1) := by decide +kernel
theorem dJ6_bitCount_0f7a4_16 : decode cJ6_bitCount_0f7a4 16 = .ok (.iconst 2, 1) := by decide +kernel
theorem dJ6_bitCount_0f7a4_17 : decode cJ6_bitCount_0f7a4 17 = .ok (.iushr, 1) := by decide +kernel
theorem dJ6_bitCount_0f7a4_18 : decode cJ6_bitCount_0f7a4 18 = .ok (.ldc_w 266, 3) := by decide +kernel
theorem dJ6_bitCount_0f7a4_21 : decode cJ6_bitCount_0f7a4 21 = .ok (.iand, 1) := by decide +kernel
theorem dJ6_bitCount_0f7a4_22 : decode cJ6_bitCount_0f7a4 22 = .ok (.iadd, 1) := by decide +kernel
theorem dJ6_bitCount_0f7a4_23 : decode cJ6_bitCount_0f7a4 23 = .ok (.istore_n 0, 1) := by decide +kernel
theorem dJ6_bitCount_0f7a4_24 : decode cJ6_bitCount_0f7a4 24 = .ok (.iload_n 0, 1) := by decide +kernel
theorem dJ6_bitCount_0f7a4_25 : decode cJ6_bitCount_0f7a4 25 = .ok (.iload_n 0, 1) := by decide +kernel
theorem dJ6_bitCount_0f7a4_26 : decode cJ6_bitCount_0f7a4 26 = .ok (.iconst 4, 1) := by decide +kernel
theorem dJ6_bitCount_0f7a4_27 : decode cJ6_bitCount_0f7a4 27 = .ok (.iushr, 1) := by decide +kernel
theorem dJ6_bitCount_0f7a4_28 : decode cJ6_bitCount_0f7a4 28 = .ok (.iadd, 1) := by decide +kernel
theorem dJ6_bitCount_0f7a4_29 : decode cJ6_bitCount_0f7a4 29 = .ok (.ldc_w 267, 3) := by decide +kernel
theorem dJ6_bitCount_0f7a4_32 : decode cJ6_bitCount_0f7a4 32 = .ok (.iand, 1) := by decide +kernel
theorem dJ6_bitCount_0f7a4_33 : decode cJ6_bitCount_0f7a4 33 = .ok (.istore_n 0, 1) := by decide +kernel
theorem dJ6_bitCount_0f7a4_34 : decode cJ6_bitCount_0f7a4 34 = .ok (.iload_n 0, 1) := by decide +kernel
theorem dJ6_bitCount_0f7a4_35 : decode cJ6_bitCount_0f7a4 35 = .ok (.iload_n 0, 1) := by decide +kernel
theorem dJ6_bitCount_0f7a4_36 : decode cJ6_bitCount_0f7a4 36 = .ok (.bipush 8, 2) := by decide +kernel
theorem dJ6_bitCount_0f7a4_38 : decode cJ6_bitCount_0f7a4 38 = .ok (.iushr, 1) := by decide +kernel
theorem dJ6_bitCount_0f7a4_39 : decode cJ6_bitCount_0f7a4 39 = .ok (.iadd, 1) := by decide +kernel
theorem dJ6_bitCount_0f7a4_40 : decode cJ6_bitCount_0f7a4 40 = .ok (.istore_n 0, 1) := by decide +kernel
theorem dJ6_bitCount_0f7a4_41 : decode cJ6_bitCount_0f7a4 41 = .ok (.iload_n 0, 1) := by decide +kernel
theorem dJ6_bitCount_0f7a4_42 : decode cJ6_bitCount_0f7a4 42 = .ok (.iload_n 0, 1) := by decide +kernel
theorem dJ6_bitCount_0f7a4_43 : decode cJ6_bitCount_0f7a4 43 = .ok (.bipush 16, 2) := by decide +kernel
theorem dJ6_bitCount_0f7a4_45 : decode cJ6_bitCount_0f7a4 45 = .ok (.iushr, 1) := by decide +kernel
theorem dJ6_bitCount_0f7a4_46 : decode cJ6_bitCount_0f7a4 46 = .ok (.iadd, 1) := by decide +kernel
theorem dJ6_bitCount_0f7a4_47 : decode cJ6_bitCount_0f7a4 47 = .ok (.istore_n 0, 1) := by decide +kernel
theorem dJ6_bitCount_0f7a4_48 : decode cJ6_bitCount_0f7a4 48 = .ok (.iload_n 0, 1) := by decide +kernel
theorem dJ6_bitCount_0f7a4_49 : decode cJ6_bitCount_0f7a4 49 = .ok (.bipush 63, 2) := by decide +kernel
theorem dJ6_bitCount_0f7a4_51 : decode cJ6_bitCount_0f7a4 51 = .ok (.iand, 1) := by decide +kernel
theorem dJ6_bitCount_0f7a4_52 : decode cJ6_bitCount_0f7a4 52 = .ok (.ireturn, 1) := by decide +kernel
noncomputable def tJ6_bitCount_0f7a4_0 : List (Nat × zF) := [(0, (zli4 0 1)), (1, (zli4 0 1)), (2, (zst 1 (zp (.int (1))))), (3, (zst 1 z_iushr)), (4, (zst 3 (zp (.int (1431655765))))), (7, (zst 1 z_iand)), (8, (zst 1 z_isub)), (9, (zsi4 1 0 1)), (10, (zli4 0 1)), (11, (zst 3 (zp (.int (858993459))))), (14, (zst 1 z_iand)), (15, (zli4 0 1))]
theorem kJ6_bitCount_0f7a4_0 : ∀ q ∈ tJ6_bitCount_0f7a4_0, zOk zg iJ6_bitCount_0f7a4 q.1 q.2 := (z_c (ok_iload_n dJ6_bitCount_0f7a4_0 rfl) (z_c (ok_iload_n dJ6_bitCount_0f7a4_1 rfl) (z_c (ok_iconst (v := (1)) dJ6_bitCount_0f7a4_2 (by decide)) (z_c (ok_iushr dJ6_bitCount_0f7a4_3) (z_c (ok_ldcw (v := (1431655765)) zw_1029 dJ6_bitCount_0f7a4_4) (z_c (ok_iand dJ6_bitCount_0f7a4_7) (z_c (ok_isub dJ6_bitCount_0f7a4_8) (z_c (ok_istore_n dJ6_bitCount_0f7a4_9 rfl) (z_c (ok_iload_n dJ6_bitCount_0f7a4_10 rfl) (z_c (ok_ldcw (v := (858993459)) zw_1030 dJ6_bitCount_0f7a4_11) (z_c (ok_iand dJ6_bitCount_0f7a4_14) (z_c (ok_iload_n dJ6_bitCount_0f7a4_15 rfl) z_n))))))))))))
noncomputable def tJ6_bitCount_0f7a4_1 : List (Nat × zF) := [(16, (zst 1 (zp (.int (2))))), (17, (zst 1 z_iushr)), (18, (zst 3 (zp (.int (858993459))))), (21, (zst 1 z_iand)), (22, (zst 1 z_iadd)), (23, (zsi4 1 0 1)), (24, (zli4 0 1)), (25, (zli4 0 1)), (26, (zst 1 (zp (.int (4))))), (27, (zst 1 z_iushr)), (28, (zst 1 z_iadd)), (29, (zst 3 (zp (.int (252645135)))))]
theorem kJ6_bitCount_0f7a4_1 : ∀ q ∈ tJ6_bitCount_0f7a4_1, zOk zg iJ6_bitCount_0f7a4 q.1 q.2 := (z_c (ok_iconst (v := (2)) dJ6_bitCount_0f7a4_16 (by decide)) (z_c (ok_iushr dJ6_bitCount_0f7a4_17) (z_c (ok_ldcw (v := (858993459)) zw_1030 dJ6_bitCount_0f7a4_18) (z_c (ok_iand dJ6_bitCount_0f7a4_21) (z_c (ok_iadd dJ6_bitCount_0f7a4_22) (z_c (ok_istore_n dJ6_bitCount_0f7a4_23 rfl) (z_c (ok_iload_n dJ6_bitCount_0f7a4_24 rfl) (z_c (ok_iload_n dJ6_bitCount_0f7a4_25 rfl) (z_c (ok_iconst (v := (4)) dJ6_bitCount_0f7a4_26 (by decide)) (z_c (ok_iushr dJ6_bitCount_0f7a4_27) (z_c (ok_iadd dJ6_bitCount_0f7a4_28) (z_c (ok_ldcw (v := (252645135)) zw_1031 dJ6_bitCount_0f7a4_29) z_n))))))))))))
noncomputable def tJ6_bitCount_0f7a4_2 : List (Nat × zF) := [(32, (zst 1 z_iand)), (33, (zsi4 1 0 1)), (34, (zli4 0 1)), (35, (zli4 0 1)), (36, (zst 2 (zp (.int (8))))), (38, (zst 1 z_iushr)), (39, (zst 1 z_iadd)), (40, (zsi4 1 0 1)), (41, (zli4 0 1)), (42, (zli4 0 1)), (43, (zst 2 (zp (.int (16))))), (45, (zst 1 z_iushr))]
theorem kJ6_bitCount_0f7a4_2 : ∀ q ∈ tJ6_bitCount_0f7a4_2, zOk zg iJ6_bitCount_0f7a4 q.1 q.2 := (z_c (ok_iand dJ6_bitCount_0f7a4_32) (z_c (ok_istore_n dJ6_bitCount_0f7a4_33 rfl) (z_c (ok_iload_n dJ6_bitCount_0f7a4_34 rfl) (z_c (ok_iload_n dJ6_bitCount_0f7a4_35 rfl) (z_c (ok_bipush (v := (8)) dJ6_bitCount_0f7a4_36 (by decide)) (z_c (ok_iushr dJ6_bitCount_0f7a4_38) (z_c (ok_iadd dJ6_bitCount_0f7a4_39) (z_c (ok_istore_n dJ6_bitCount_0f7a4_40 rfl) (z_c (ok_iload_n dJ6_bitCount_0f7a4_41 rfl) (z_c (ok_iload_n dJ6_bitCount_0f7a4_42 rfl) (z_c (ok_bipush (v := (16)) dJ6_bitCount_0f7a4_43 (by decide)) (z_c (ok_iushr dJ6_bitCount_0f7a4_45) z_n))))))))))))
noncomputable def tJ6_bitCount_0f7a4_3 : List (Nat × zF) := [(46, (zst 1 z_iadd)), (47, (zsi4 1 0 1)), (48, (zli4 0 1)), (49, (zst 2 (zp (.int (63))))), (51, (zst 1 z_iand)), (52, (zri false))]
theorem kJ6_bitCount_0f7a4_3 : ∀ q ∈ tJ6_bitCount_0f7a4_3, zOk zg iJ6_bitCount_0f7a4 q.1 q.2 := (z_c (ok_iadd dJ6_bitCount_0f7a4_46) (z_c (ok_istore_n dJ6_bitCount_0f7a4_47 rfl) (z_c (ok_iload_n dJ6_bitCount_0f7a4_48 rfl) (z_c (ok_bipush (v := (63)) dJ6_bitCount_0f7a4_49 (by decide)) (z_c (ok_iand dJ6_bitCount_0f7a4_51) (z_c (ok_ireturn rfl dJ6_bitCount_0f7a4_52) z_n))))))
noncomputable def tJ6_bitCount_0f7a4 : zT := [(16, tJ6_bitCount_0f7a4_0), (32, tJ6_bitCount_0f7a4_1), (46, tJ6_bitCount_0f7a4_2), (100000, tJ6_bitCount_0f7a4_3)]
theorem kJ6_bitCount_0f7a4 : zTok zg iJ6_bitCount_0f7a4 tJ6_bitCount_0f7a4 := (z_t kJ6_bitCount_0f7a4_0 (z_t kJ6_bitCount_0f7a4_1 (z_t kJ6_bitCount_0f7a4_2 (z_t kJ6_bitCount_0f7a4_3 z_tn))))
theorem dJ13_bitCount_95d88_0 : decode cJ13_bitCount_95d88 0 = .ok (.lload_n 0, 1) := by decide +kernel
theorem dJ13_bitCount_95d88_1 : decode cJ13_bitCount_95d88 1 = .ok (.lload_n 0, 1) := by decide +kernel
theorem dJ13_bitCount_95d88_2 : decode cJ13_bitCount_95d88 2 = .ok (.iconst 1, 1) := by decide +kernel
theorem dJ13_bitCount_95d88_3 : decode cJ13_bitCount_95d88 3 = .ok (.lushr, 1) := by decide +kernel
theorem dJ13_bitCount_95d88_4 : decode cJ13_bitCount_95d88 4 = .ok (.ldc2_w 314, 3) := by decide +kernel
theorem dJ13_bitCount_95d88_7 : decode cJ13_bitCount_95d88 7 = .ok (.land, 1) := by decide +kernel
theorem dJ13_bitCount_95d88_8 : decode cJ13_bitCount_95d88 8 = .ok (.lsub, 1) := by decide +kernel
theorem dJ13_bitCount_95d88_9 : decode cJ13_bitCount_95d88 9 = .ok (.lstore_n 0, 1) := by decide +kernel
theorem dJ13_bitCount_95d88_10 : decode cJ13_bitCount_95d88 10 = .ok (.lload_n 0, 1) := by decide +kernel
theorem dJ13_bitCount_95d88_11 : decode cJ13_bitCount_95d88 11 = .ok (.ldc2_w 316, 3) := by decide +kernel
theorem dJ13_bitCount_95d88_14 : decode cJ13_bitCount_95d88 14 = .ok (.land, 1) := by decide +kernel
theorem dJ13_bitCount_95d88_15 : decode cJ13_bitCount_95d88 15 = .ok (.lload_n 0, 1) := by decide +kernel
theorem dJ13_bitCount_95d88_16 : decode cJ13_bitCount_95d88 16 = .ok (.iconst 2, 1) := by decide +kernel
theorem dJ13_bitCount_95d88_17 : decode cJ13_bitCount_95d88 17 = .ok (.lushr, 1) := by decide +kernel
theorem dJ13_bitCount_95d88_18 : decode cJ13_bitCount_95d88 18 = .ok (.ldc2_w 316, 3) := by decide +kernel
theorem dJ13_bitCount_95d88_21 : decode cJ13_bitCount_95d88 21 = .ok (.land, 1) := by decide +kernel
theorem dJ13_bitCount_95d88_22 : decode cJ13_bitCount_95d88 22 = .ok (.ladd, 1) := by decide +kernel
theorem dJ13_bitCount_95d88_23 : decode cJ13_bitCount_95d88 23 = .ok (.lstore_n 0, 1) := by decide +kernel
theorem dJ13_bitCount_95d88_24 : decode cJ13_bitCount_95d88 24 = .ok (.lload_n 0, 1) := by decide +kernel
theorem dJ13_bitCount_95d88_25 : decode cJ13_bitCount_95d88 25 = .ok (.lload_n 0, 1) := by decide +kernel
theorem dJ13_bitCount_95d88_26 : decode cJ13_bitCount_95d88 26 = .ok (.iconst 4, 1) := by decide +kernel
theorem dJ13_bitCount_95d88_27 : decode cJ13_bitCount_95d88 27 = .ok (.lushr, 1) := by decide +kernel
theorem dJ13_bitCount_95d88_28 : decode cJ13_bitCount_95d88 28 = .ok (.ladd, 1) := by decide +kernel
theorem dJ13_bitCount_95d88_29 : decode cJ13_bitCount_95d88 29 = .ok (.ldc2_w 318, 3) := by decide +kernel
theorem dJ13_bitCount_95d88_32 : decode cJ13_bitCount_95d88 32 = .ok (.land, 1) := by decide +kernel
theorem dJ13_bitCount_95d88_33 : decode cJ13_bitCount_95d88 33 = .ok (.lstore_n 0, 1) := by decide +kernel
theorem dJ13_bitCount_95d88_34 : decode cJ13_bitCount_95d88 34 = .ok (.lload_n 0, 1) := by decide +kernel
theorem dJ13_bitCount_95d88_35 : decode cJ13_bitCount_95d88 35 = .ok (.lload_n 0, 1) := by decide +kernel
theorem dJ13_bitCount_95d88_36 : decode cJ13_bitCount_95d88 36 = .ok (.bipush 8, 2) := by decide +kernel
theorem dJ13_bitCount_95d88_38 : decode cJ13_bitCount_95d88 38 = .ok (.lushr, 1) := by decide +kernel
theorem dJ13_bitCount_95d88_39 : decode cJ13_bitCount_95d88 39 = .ok (.ladd, 1) := by decide +kernel
theorem dJ13_bitCount_95d88_40 : decode cJ13_bitCount_95d88 40 = .ok (.lstore_n 0, 1) := by decide +kernel
theorem dJ13_bitCount_95d88_41 : decode cJ13_bitCount_95d88 41 = .ok (.lload_n 0, 1) := by decide +kernel
theorem dJ13_bitCount_95d88_42 : decode cJ13_bitCount_95d88 42 = .ok (.lload_n 0, 1) := by decide +kernel
theorem dJ13_bitCount_95d88_43 : decode cJ13_bitCount_95d88 43 = .ok (.bipush 16, 2) := by decide +kernel
theorem dJ13_bitCount_95d88_45 : decode cJ13_bitCount_95d88 45 = .ok (.lushr, 1) := by decide +kernel
theorem dJ13_bitCount_95d88_46 : decode cJ13_bitCount_95d88 46 = .ok (.ladd, 1) := by decide +kernel
theorem dJ13_bitCount_95d88_47 : decode cJ13_bitCount_95d88 47 = .ok (.lstore_n 0, 1) := by decide +kernel
theorem dJ13_bitCount_95d88_48 : decode cJ13_bitCount_95d88 48 = .ok (.lload_n 0, 1) := by decide +kernel
theorem dJ13_bitCount_95d88_49 : decode cJ13_bitCount_95d88 49 = .ok (.lload_n 0, 1) := by decide +kernel
theorem dJ13_bitCount_95d88_50 : decode cJ13_bitCount_95d88 50 = .ok (.bipush 32, 2) := by decide +kernel
theorem dJ13_bitCount_95d88_52 : decode cJ13_bitCount_95d88 52 = .ok (.lushr, 1) := by decide +kernel
theorem dJ13_bitCount_95d88_53 : decode cJ13_bitCount_95d88 53 = .ok (.ladd, 1) := by decide +kernel
theorem dJ13_bitCount_95d88_54 : decode cJ13_bitCount_95d88 54 = .ok (.lstore_n 0, 1) := by decide +kernel
theorem dJ13_bitCount_95d88_55 : decode cJ13_bitCount_95d88 55 = .ok (.lload_n 0, 1) := by decide +kernel
theorem dJ13_bitCount_95d88_56 : decode cJ13_bitCount_95d88 56 = .ok (.l2i, 1) := by decide +kernel
theorem dJ13_bitCount_95d88_57 : decode cJ13_bitCount_95d88 57 = .ok (.bipush 127, 2) := by decide +kernel
theorem dJ13_bitCount_95d88_59 : decode cJ13_bitCount_95d88 59 = .ok (.iand, 1) := by decide +kernel
theorem dJ13_bitCount_95d88_60 : decode cJ13_bitCount_95d88 60 = .ok (.ireturn, 1) := by decide +kernel
noncomputable def tJ13_bitCount_95d88_0 : List (Nat × zF) := [(0, (zll4 0 1)), (1, (zll4 0 1)), (2, (zst 1 (zp (.int (1))))), (3, (zst 1 z_lushr)), (4, (zst 3 (zp (.long (6148914691236517205))))), (7, (zst 1 z_land)), (8, (zst 1 z_lsub)), (9, (zsl4 2 0 1)), (10, (zll4 0 1)), (11, (zst 3 (zp (.long (3689348814741910323))))), (14, (zst 1 z_land)), (15, (zll4 0 1))]
theorem kJ13_bitCount_95d88_0 : ∀ q ∈ tJ13_bitCount_95d88_0, zOk zg iJ13_bitCount_95d88 q.1 q.2 := (z_c (ok_lload_n dJ13_bitCount_95d88_0 rfl) (z_c (ok_lload_n dJ13_bitCount_95d88_1 rfl) (z_c (ok_iconst (v := (1)) dJ13_bitCount_95d88_2 (by decide)) (z_c (ok_lushr dJ13_bitCount_95d88_3) (z_c (ok_ldc2 (v := (6148914691236517205)) zw_1032 dJ13_bitCount_95d88_4) (z_c (ok_land dJ13_bitCount_95d88_7) (z_c (ok_lsub dJ13_bitCount_95d88_8) (z_c (ok_lstore_n dJ13_bitCount_95d88_9 rfl) (z_c (ok_lload_n dJ13_bitCount_95d88_10 rfl) (z_c (ok_ldc2 (v := (3689348814741910323)) zw_1033 dJ13_bitCount_95d88_11) (z_c (ok_land dJ13_bitCount_95d88_14) (z_c (ok_lload_n dJ13_bitCount_95d88_15 rfl) z_n))))))))))))
noncomputable def tJ13_bitCount_95d88_1 : List (Nat × zF) := [(16, (zst 1 (zp (.int (2))))), (17, (zst 1 z_lushr)), (18, (zst 3 (zp (.long (3689348814741910323))))), (21, (zst 1 z_land)), (22, (zst 1 z_ladd)), (23, (zsl4 2 0 1)), (24, (zll4 0 1)), (25, (zll4 0 1)), (26, (zst 1 (zp (.int (4))))), (27, (zst 1 z_lushr)), (28, (zst 1 z_ladd)), (29, (zst 3 (zp (.long (1085102592571150095)))))]
theorem kJ13_bitCount_95d88_1 : ∀ q ∈ tJ13_bitCount_95d88_1, zOk zg iJ13_bitCount_95d88 q.1 q.2 := (z_c (ok_iconst (v := (2)) dJ13_bitCount_95d88_16 (by decide)) (z_c (ok_lushr dJ13_bitCount_95d88_17) (z_c (ok_ldc2 (v := (3689348814741910323)) zw_1033 dJ13_bitCount_95d88_18) (z_c (ok_land dJ13_bitCount_95d88_21) (z_c (ok_ladd dJ13_bitCount_95d88_22) (z_c (ok_lstore_n dJ13_bitCount_95d88_23 rfl) (z_c (ok_lload_n dJ13_bitCount_95d88_24 rfl) (z_c (ok_lload_n dJ13_bitCount_95d88_25 rfl) (z_c (ok_iconst (v := (4)) dJ13_bitCount_95d88_26 (by decide)) (z_c (ok_lushr dJ13_bitCount_95d88_27) (z_c (ok_ladd dJ13_bitCount_95d88_28) (z_c (ok_ldc2 (v := (1085102592571150095)) zw_1034 dJ13_bitCount_95d88_29) z_n))))))))))))
noncomputable def tJ13_bitCount_95d88_2 : List (Nat × zF) := [(32, (zst 1 z_land)), (33, (zsl4 2 0 1)), (34, (zll4 0 1)), (35, (zll4 0 1)), (36, (zst 2 (zp (.int (8))))), (38, (zst 1 z_lushr)), (39, (zst 1 z_ladd)), (40, (zsl4 2 0 1)), (41, (zll4 0 1)), (42, (zll4 0 1)), (43, (zst 2 (zp (.int (16))))), (45, (zst 1 z_lushr))]
theorem kJ13_bitCount_95d88_2 : ∀ q ∈ tJ13_bitCount_95d88_2, zOk zg iJ13_bitCount_95d88 q.1 q.2 := (z_c (ok_land dJ13_bitCount_95d88_32) (z_c (ok_lstore_n dJ13_bitCount_95d88_33 rfl) (z_c (ok_lload_n dJ13_bitCount_95d88_34 rfl) (z_c (ok_lload_n dJ13_bitCount_95d88_35 rfl) (z_c (ok_bipush (v := (8)) dJ13_bitCount_95d88_36 (by decide)) (z_c (ok_lushr dJ13_bitCount_95d88_38) (z_c (ok_ladd dJ13_bitCount_95d88_39) (z_c (ok_lstore_n dJ13_bitCount_95d88_40 rfl) (z_c (ok_lload_n dJ13_bitCount_95d88_41 rfl) (z_c (ok_lload_n dJ13_bitCount_95d88_42 rfl) (z_c (ok_bipush (v := (16)) dJ13_bitCount_95d88_43 (by decide)) (z_c (ok_lushr dJ13_bitCount_95d88_45) z_n))))))))))))
noncomputable def tJ13_bitCount_95d88_3 : List (Nat × zF) := [(46, (zst 1 z_ladd)), (47, (zsl4 2 0 1)), (48, (zll4 0 1)), (49, (zll4 0 1)), (50, (zst 2 (zp (.int (32))))), (52, (zst 1 z_lushr)), (53, (zst 1 z_ladd)), (54, (zsl4 2 0 1)), (55, (zll4 0 1)), (56, (zst 1 zli)), (57, (zst 2 (zp (.int (127))))), (59, (zst 1 z_iand))]
theorem kJ13_bitCount_95d88_3 : ∀ q ∈ tJ13_bitCount_95d88_3, zOk zg iJ13_bitCount_95d88 q.1 q.2 := (z_c (ok_ladd dJ13_bitCount_95d88_46) (z_c (ok_lstore_n dJ13_bitCount_95d88_47 rfl) (z_c (ok_lload_n dJ13_bitCount_95d88_48 rfl) (z_c (ok_lload_n dJ13_bitCount_95d88_49 rfl) (z_c (ok_bipush (v := (32)) dJ13_bitCount_95d88_50 (by decide)) (z_c (ok_lushr dJ13_bitCount_95d88_52) (z_c (ok_ladd dJ13_bitCount_95d88_53) (z_c (ok_lstore_n dJ13_bitCount_95d88_54 rfl) (z_c (ok_lload_n dJ13_bitCount_95d88_55 rfl) (z_c (ok_l2i dJ13_bitCount_95d88_56) (z_c (ok_bipush (v := (127)) dJ13_bitCount_95d88_57 (by decide)) (z_c (ok_iand dJ13_bitCount_95d88_59) z_n))))))))))))
noncomputable def tJ13_bitCount_95d88_4 : List (Nat × zF) := [(60, (zri false))]
theorem kJ13_bitCount_95d88_4 : ∀ q ∈ tJ13_bitCount_95d88_4, zOk zg iJ13_bitCount_95d88 q.1 q.2 := (z_c (ok_ireturn rfl dJ13_bitCount_95d88_60) z_n)
noncomputable def tJ13_bitCount_95d88 : zT := [(16, tJ13_bitCount_95d88_0), (32, tJ13_bitCount_95d88_1), (46, tJ13_bitCount_95d88_2), (60, tJ13_bitCount_95d88_3), (100000, tJ13_bitCount_95d88_4)]
theorem kJ13_bitCount_95d88 : zTok zg iJ13_bitCount_95d88 tJ13_bitCount_95d88 := (z_t kJ13_bitCount_95d88_0 (z_t kJ13_bitCount_95d88_1 (z_t kJ13_bitCount_95d88_2 (z_t kJ13_bitCount_95d88_3 (z_t kJ13_bitCount_95d88_4 z_tn)))))
theorem dJ9_floorDiv_7cf53_0 : decode cJ9_floorDiv_7cf53 0 = .ok (.iload_n 0, 1) := by decide +kernel
theorem dJ9_floorDiv_7cf53_1 : decode cJ9_floorDiv_7cf53 1 = .ok (.iload_n 1, 1) := by decide +kernel
theorem dJ9_floorDiv_7cf53_2 : decode cJ9_floorDiv_7cf53 2 = .ok (.idiv, 1) := by decide +kernel
theorem dJ9_floorDiv_7cf53_3 : decode cJ9_floorDiv_7cf53 3 = .ok (.istore_n 2, 1) := by decide +kernel
theorem dJ9_floorDiv_7cf53_4 : decode cJ9_floorDiv_7cf53 4 = .ok (.iload_n 0, 1) := by decide +kernel
theorem dJ9_floorDiv_7cf53_5 : decode cJ9_floorDiv_7cf53 5 = .ok (.iload_n 1, 1) := by decide +kernel
theorem dJ9_floorDiv_7cf53_6 : decode cJ9_floorDiv_7cf53 6 = .ok (.ixor, 1) := by decide +kernel
theorem dJ9_floorDiv_7cf53_7 : decode cJ9_floorDiv_7cf53 7 = .ok (.ifCond .ge 14, 3) := by decide +kernel
theorem dJ9_floorDiv_7cf53_10 : decode cJ9_floorDiv_7cf53 10 = .ok (.iload_n 2, 1) := by decide +kernel
theorem dJ9_floorDiv_7cf53_11 : decode cJ9_floorDiv_7cf53 11 = .ok (.iload_n 1, 1) := by decide +kernel
theorem dJ9_floorDiv_7cf53_12 : decode cJ9_floorDiv_7cf53 12 = .ok (.imul, 1) := by decide +kernel
theorem dJ9_floorDiv_7cf53_13 : decode cJ9_floorDiv_7cf53 13 = .ok (.iload_n 0, 1) := by decide +kernel
theorem dJ9_floorDiv_7cf53_14 : decode cJ9_floorDiv_7cf53 14 = .ok (.if_icmp .eq 7, 3) := by decide +kernel
theorem dJ9_floorDiv_7cf53_17 : decode cJ9_floorDiv_7cf53 17 = .ok (.iload_n 2, 1) := by decide +kernel
theorem dJ9_floorDiv_7cf53_18 : decode cJ9_floorDiv_7cf53 18 = .ok (.iconst 1, 1) := by decide +kernel
theorem dJ9_floorDiv_7cf53_19 : decode cJ9_floorDiv_7cf53 19 = .ok (.isub, 1) := by decide +kernel
theorem dJ9_floorDiv_7cf53_20 : decode cJ9_floorDiv_7cf53 20 = .ok (.ireturn, 1) := by decide +kernel
theorem dJ9_floorDiv_7cf53_21 : decode cJ9_floorDiv_7cf53 21 = .ok (.iload_n 2, 1) := by decide +kernel
theorem dJ9_floorDiv_7cf53_22 : decode cJ9_floorDiv_7cf53 22 = .ok (.ireturn, 1) := by decide +kernel
noncomputable def tJ9_floorDiv_7cf53_0 : List (Nat × zF) := [(0, (zli4 0 1)), (1, (zli4 1 1)), (2, (zst 1 z_idiv)), (3, (zsi4 3 2 1)), (4, (zli4 0 1)), (5, (zli4 1 1)), (6, (zst 1 z_ixor)), (7, (z_if_ge 21)), (10, (zli4 2 1)), (11, (zli4 1 1)), (12, (zst 1 z_imul)), (13, (zli4 0 1))]
theorem kJ9_floorDiv_7cf53_0 : ∀ q ∈ tJ9_floorDiv_7cf53_0, zOk zg iJ9_floorDiv_7cf53 q.1 q.2 := (z_c (ok_iload_n dJ9_floorDiv_7cf53_0 rfl) (z_c (ok_iload_n dJ9_floorDiv_7cf53_1 rfl) (z_c (ok_idiv dJ9_floorDiv_7cf53_2) (z_c (ok_istore_n dJ9_floorDiv_7cf53_3 rfl) (z_c (ok_iload_n dJ9_floorDiv_7cf53_4 rfl) (z_c (ok_iload_n dJ9_floorDiv_7cf53_5 rfl) (z_c (ok_ixor dJ9_floorDiv_7cf53_6) (z_c (ok_if_ge dJ9_floorDiv_7cf53_7 (by decide)) (z_c (ok_iload_n dJ9_floorDiv_7cf53_10 rfl) (z_c (ok_iload_n dJ9_floorDiv_7cf53_11 rfl) (z_c (ok_imul dJ9_floorDiv_7cf53_12) (z_c (ok_iload_n dJ9_floorDiv_7cf53_13 rfl) z_n))))))))))))
noncomputable def tJ9_floorDiv_7cf53_1 : List (Nat × zF) := [(14, (z_ic_eq 21)), (17, (zli4 2 1)), (18, (zst 1 (zp (.int (1))))), (19, (zst 1 z_isub)), (20, (zri false)), (21, (zli4 2 1)), (22, (zri false))]
theorem kJ9_floorDiv_7cf53_1 : ∀ q ∈ tJ9_floorDiv_7cf53_1, zOk zg iJ9_floorDiv_7cf53 q.1 q.2 := (z_c (ok_icmp_eq dJ9_floorDiv_7cf53_14 (by decide)) (z_c (ok_iload_n dJ9_floorDiv_7cf53_17 rfl) (z_c (ok_iconst (v := (1)) dJ9_floorDiv_7cf53_18 (by decide)) (z_c (ok_isub dJ9_floorDiv_7cf53_19) (z_c (ok_ireturn rfl dJ9_floorDiv_7cf53_20) (z_c (ok_iload_n dJ9_floorDiv_7cf53_21 rfl) (z_c (ok_ireturn rfl dJ9_floorDiv_7cf53_22) z_n)))))))
noncomputable def tJ9_floorDiv_7cf53 : zT := [(14, tJ9_floorDiv_7cf53_0), (100000, tJ9_floorDiv_7cf53_1)]
theorem kJ9_floorDiv_7cf53 : zTok zg iJ9_floorDiv_7cf53 tJ9_floorDiv_7cf53 := (z_t kJ9_floorDiv_7cf53_0 (z_t kJ9_floorDiv_7cf53_1 z_tn))
theorem dJ9_floorMod_7cf53_0 : decode cJ9_floorMod_7cf53 0 = .ok (.iload_n 0, 1) := by decide +kernel
theorem dJ9_floorMod_7cf53_1 : decode cJ9_floorMod_7cf53 1 = .ok (.iload_n 1, 1) := by decide +kernel
theorem dJ9_floorMod_7cf53_2 : decode cJ9_floorMod_7cf53 2 = .ok (.irem, 1) := by decide +kernel
theorem dJ9_floorMod_7cf53_3 : decode cJ9_floorMod_7cf53 3 = .ok (.istore_n 2, 1) := by decide +kernel
theorem dJ9_floorMod_7cf53_4 : decode cJ9_floorMod_7cf53 4 = .ok (.iload_n 0, 1) := by decide +kernel
theorem dJ9_floorMod_7cf53_5 : decode cJ9_floorMod_7cf53 5 = .ok (.iload_n 1, 1) := by decide +kernel
theorem dJ9_floorMod_7cf53_6 : decode cJ9_floorMod_7cf53 6 = .ok (.ixor, 1) := by decide +kernel
theorem dJ9_floorMod_7cf53_7 : decode cJ9_floorMod_7cf53 7 = .ok (.ifCond .ge 11, 3) := by decide +kernel
theorem dJ9_floorMod_7cf53_10 : decode cJ9_floorMod_7cf53 10 = .ok (.iload_n 2, 1) := by decide +kernel
theorem dJ9_floorMod_7cf53_11 : decode cJ9_floorMod_7cf53 11 = .ok (.ifCond .eq 7, 3) := by decide +kernel
theorem dJ9_floorMod_7cf53_14 : decode cJ9_floorMod_7cf53 14 = .ok (.iload_n 2, 1) := by decide +kernel
theorem dJ9_floorMod_7cf53_15 : decode cJ9_floorMod_7cf53 15 = .ok (.iload_n 1, 1) := by decide +kernel
theorem dJ9_floorMod_7cf53_16 : decode cJ9_floorMod_7cf53 16 = .ok (.iadd, 1) := by decide +kernel
theorem dJ9_floorMod_7cf53_17 : decode cJ9_floorMod_7cf53 17 = .ok (.ireturn, 1) := by decide +kernel
theorem dJ9_floorMod_7cf53_18 : decode cJ9_floorMod_7cf53 18 = .ok (.iload_n 2, 1) := by decide +kernel
theorem dJ9_floorMod_7cf53_19 : decode cJ9_floorMod_7cf53 19 = .ok (.ireturn, 1) := by decide +kernel
noncomputable def tJ9_floorMod_7cf53_0 : List (Nat × zF) := [(0, (zli4 0 1)), (1, (zli4 1 1)), (2, (zst 1 z_irem)), (3, (zsi4 3 2 1)), (4, (zli4 0 1)), (5, (zli4 1 1)), (6, (zst 1 z_ixor)), (7, (z_if_ge 18)), (10, (zli4 2 1)), (11, (z_if_eq 18)), (14, (zli4 2 1)), (15, (zli4 1 1))]
theorem kJ9_floorMod_7cf53_0 : ∀ q ∈ tJ9_floorMod_7cf53_0, zOk zg iJ9_floorMod_7cf53 q.1 q.2 := (z_c (ok_iload_n dJ9_floorMod_7cf53_0 rfl) (z_c (ok_iload_n dJ9_floorMod_7cf53_1 rfl) (z_c (ok_irem dJ9_floorMod_7cf53_2) (z_c (ok_istore_n dJ9_floorMod_7cf53_3 rfl) (z_c (ok_iload_n dJ9_floorMod_7cf53_4 rfl) (z_c (ok_iload_n dJ9_floorMod_7cf53_5 rfl) (z_c (ok_ixor dJ9_floorMod_7cf53_6) (z_c (ok_if_ge dJ9_floorMod_7cf53_7 (by decide)) (z_c (ok_iload_n dJ9_floorMod_7cf53_10 rfl) (z_c (ok_if_eq dJ9_floorMod_7cf53_11 (by decide)) (z_c (ok_iload_n dJ9_floorMod_7cf53_14 rfl) (z_c (ok_iload_n dJ9_floorMod_7cf53_15 rfl) z_n))))))))))))
noncomputable def tJ9_floorMod_7cf53_1 : List (Nat × zF) := [(16, (zst 1 z_iadd)), (17, (zri false)), (18, (zli4 2 1)), (19, (zri false))]
theorem kJ9_floorMod_7cf53_1 : ∀ q ∈ tJ9_floorMod_7cf53_1, zOk zg iJ9_floorMod_7cf53 q.1 q.2 := (z_c (ok_iadd dJ9_floorMod_7cf53_16) (z_c (ok_ireturn rfl dJ9_floorMod_7cf53_17) (z_c (ok_iload_n dJ9_floorMod_7cf53_18 rfl) (z_c (ok_ireturn rfl dJ9_floorMod_7cf53_19) z_n))))
noncomputable def tJ9_floorMod_7cf53 : zT := [(16, tJ9_floorMod_7cf53_0), (100000, tJ9_floorMod_7cf53_1)]
theorem kJ9_floorMod_7cf53 : zTok zg iJ9_floorMod_7cf53 tJ9_floorMod_7cf53 := (z_t kJ9_floorMod_7cf53_0 (z_t kJ9_floorMod_7cf53_1 z_tn))
theorem dJ9_max_7cf53_0 : decode cJ9_max_7cf53 0 = .ok (.iload_n 0, 1) := by decide +kernel
theorem dJ9_max_7cf53_1 : decode cJ9_max_7cf53 1 = .ok (.iload_n 1, 1) := by decide +kernel
theorem dJ9_max_7cf53_2 : decode cJ9_max_7cf53 2 = .ok (.if_icmp .lt 7, 3) := by decide +kernel
theorem dJ9_max_7cf53_5 : decode cJ9_max_7cf53 5 = .ok (.iload_n 0, 1) := by decide +kernel
theorem dJ9_max_7cf53_6 : decode cJ9_max_7cf53 6 = .ok (.goto 4, 3) := by decide +kernel
theorem dJ9_max_7cf53_9 : decode cJ9_max_7cf53 9 = .ok (.iload_n 1, 1) := by decide +kernel
theorem dJ9_max_7cf53_10 : decode cJ9_max_7cf53 10 = .ok (.ireturn, 1) := by decide +kernel
noncomputable def tJ9_max_7cf53_0 : List (Nat × zF) := [(0, (zli4 0 1)), (1, (zli4 1 1)), (2, (z_ic_lt 9)), (5, (zli4 0 1)), (6, (zgt 10)), (9, (zli4 1 1)), (10, (zri false))]
theorem kJ9_max_7cf53_0 : ∀ q ∈ tJ9_max_7cf53_0, zOk zg iJ9_max_7cf53 q.1 q.2 := (z_c (ok_iload_n dJ9_max_7cf53_0 rfl) (z_c (ok_iload_n dJ9_max_7cf53_1 rfl) (z_c (ok_icmp_lt dJ9_max_7cf53_2 (by decide)) (z_c (ok_iload_n dJ9_max_7cf53_5 rfl) (z_c (ok_goto dJ9_max_7cf53_6 (by decide)) (z_c (ok_iload_n dJ9_max_7cf53_9 rfl) (z_c (ok_ireturn rfl dJ9_max_7cf53_10) z_n)))))))
noncomputable def tJ9_max_7cf53 : zT := [(100000, tJ9_max_7cf53_0)]
theorem kJ9_max_7cf53 : zTok zg iJ9_max_7cf53 tJ9_max_7cf53 := (z_t kJ9_max_7cf53_0 z_tn)
theorem dJ9_min_7cf53_0 : decode cJ9_min_7cf53 0 = .ok (.iload_n 0, 1) := by decide +kernel
theorem dJ9_min_7cf53_1 : decode cJ9_min_7cf53 1 = .ok (.iload_n 1, 1) := by decide +kernel
theorem dJ9_min_7cf53_2 : decode cJ9_min_7cf53 2 = .ok (.if_icmp .gt 7, 3) := by decide +kernel
theorem dJ9_min_7cf53_5 : decode cJ9_min_7cf53 5 = .ok (.iload_n 0, 1) := by decide +kernel
theorem dJ9_min_7cf53_6 : decode cJ9_min_7cf53 6 = .ok (.goto 4, 3) := by decide +kernel
theorem dJ9_min_7cf53_9 : decode cJ9_min_7cf53 9 = .ok (.iload_n 1, 1) := by decide +kernel
theorem dJ9_min_7cf53_10 : decode cJ9_min_7cf53 10 = .ok (.ireturn, 1) := by decide +kernel
noncomputable def tJ9_min_7cf53_0 : List (Nat × zF) := [(0, (zli4 0 1)), (1, (zli4 1 1)), (2, (z_ic_gt 9)), (5, (zli4 0 1)), (6, (zgt 10)), (9, (zli4 1 1)), (10, (zri false))]
theorem kJ9_min_7cf53_0 : ∀ q ∈ tJ9_min_7cf53_0, zOk zg iJ9_min_7cf53 q.1 q.2 := (z_c (ok_iload_n dJ9_min_7cf53_0 rfl) (z_c (ok_iload_n dJ9_min_7cf53_1 rfl) (z_c (ok_icmp_gt dJ9_min_7cf53_2 (by decide)) (z_c (ok_iload_n dJ9_min_7cf53_5 rfl) (z_c (ok_goto dJ9_min_7cf53_6 (by decide)) (z_c (ok_iload_n dJ9_min_7cf53_9 rfl) (z_c (ok_ireturn rfl dJ9_min_7cf53_10) z_n)))))))
noncomputable def tJ9_min_7cf53 : zT := [(100000, tJ9_min_7cf53_0)]
theorem kJ9_min_7cf53 : zTok zg iJ9_min_7cf53 tJ9_min_7cf53 := (z_t kJ9_min_7cf53_0 z_tn)
theorem dJ0_length_8abf5_0 : decode cJ0_length_8abf5 0 = .ok (.aload_n 0, 1) := by decide +kernel
theorem dJ0_length_8abf5_1 : decode cJ0_length_8abf5 1 = .ok (.getfield 9, 3) := by decide +kernel
theorem dJ0_length_8abf5_4 : decode cJ0_length_8abf5 4 = .ok (.arraylength, 1) := by decide +kernel
theorem dJ0_length_8abf5_5 : decode cJ0_length_8abf5 5 = .ok (.aload_n 0, 1) := by decide +kernel
theorem dJ0_length_8abf5_6 : decode cJ0_length_8abf5 6 = .ok (.invokevirtual 335, 3) := by decide +kernel
theorem dJ0_length_8abf5_9 : decode cJ0_length_8abf5 9 = .ok (.ishr, 1) := by decide +kernel
theorem dJ0_length_8abf5_10 : decode cJ0_length_8abf5 10 = .ok (.ireturn, 1) := by decide +kernel
noncomputable def tJ0_length_8abf5_0 : List (Nat × zF) := [(0, (zlx 0 1)), (1, (zst 3 (zgx 0 (.retAddr 1)))), (4, (zst 1 (zgx 1 (.int zxL)))), (5, (zlx 0 1)), (6, (zcx 287 0 0)), (9, (zst 1 z_ishr)), (10, (zri false))]
theorem kJ0_length_8abf5_0 : ∀ q ∈ tJ0_length_8abf5_0, zOk zg iJ0_length_8abf5 q.1 q.2 := (z_c (ok_aloadx dJ0_length_8abf5_0 rfl) (z_c (ok_getx zx_value rfl zw_1035 dJ0_length_8abf5_1) (z_c (ok_lenx zx_bytes (by decide) dJ0_length_8abf5_4) (z_c (ok_aloadx dJ0_length_8abf5_5 rfl) (z_c (ok_callX (C := RJ0) zcal_287 zx_obj zw_1036 zw_1037 zw_1038 dJ0_length_8abf5_6) (z_c (ok_ishr dJ0_length_8abf5_9) (z_c (ok_ireturn rfl dJ0_length_8abf5_10) z_n)))))))
noncomputable def tJ0_length_8abf5 : zT := [(100000, tJ0_length_8abf5_0)]
theorem kJ0_length_8abf5 : zTok zg iJ0_length_8abf5 tJ0_length_8abf5 := (z_t kJ0_length_8abf5_0 z_tn)
theorem dJ0_charAt_5068e_0 : decode cJ0_charAt_5068e 0 = .ok (.aload_n 0, 1) := by decide +kernel
theorem dJ0_charAt_5068e_1 : decode cJ0_charAt_5068e 1 = .ok (.invokevirtual 492, 3) := by decide +kernel
theorem dJ0_charAt_5068e_4 : decode cJ0_charAt_5068e 4 = .ok (.ifCond .eq 12, 3) := by decide +kernel
theorem dJ0_charAt_5068e_7 : decode cJ0_charAt_5068e 7 = .ok (.aload_n 0, 1) := by decide +kernel
theorem dJ0_charAt_5068e_8 : decode cJ0_charAt_5068e 8 = .ok (.getfield 9, 3) := by decide +kernel
theorem dJ0_charAt_5068e_11 : decode cJ0_charAt_5068e 11 = .ok (.iload_n 1, 1) := by decide +kernel
theorem dJ0_charAt_5068e_12 : decode cJ0_charAt_5068e 12 = .ok (.invokestatic 495, 3) := by decide +kernel
theorem dJ0_charAt_5068e_15 : decode cJ0_charAt_5068e 15 = .ok (.ireturn, 1) := by decide +kernel
theorem dJ0_charAt_5068e_16 : decode cJ0_charAt_5068e 16 = .ok (.aload_n 0, 1) := by decide +kernel
theorem dJ0_charAt_5068e_17 : decode cJ0_charAt_5068e 17 = .ok (.getfield 9, 3) := by decide +kernel
theorem dJ0_charAt_5068e_20 : decode cJ0_charAt_5068e 20 = .ok (.iload_n 1, 1) := by decide +kernel
theorem dJ0_charAt_5068e_21 : decode cJ0_charAt_5068e 21 = .ok (.invokestatic 498, 3) := by decide +kernel
theorem dJ0_charAt_5068e_24 : decode cJ0_charAt_5068e 24 = .ok (.ireturn, 1) := by decide +kernel
noncomputable def tJ0_charAt_5068e_0 : List (Nat × zF) := [(0, (zlx 0 1)), (1, (zcx 288 0 0)), (4, (z_if_eq 16)), (7, (zlx 0 1)), (8, (zst 3 (zgx 0 (.retAddr 1)))), (11, (zli4 1 1)), (12, (zcs 290 2)), (15, (zrn .char)), (16, (zlx 0 1)), (17, (zst 3 (zgx 0 (.retAddr 1)))), (20, (zli4 1 1)), (24, (zrn .char))]
theorem kJ0_charAt_5068e_0 : ∀ q ∈ tJ0_charAt_5068e_0, zOk zg iJ0_charAt_5068e q.1 q.2 := (z_c (ok_aloadx dJ0_charAt_5068e_0 rfl) (z_c (ok_callX (C := RJ0) zcal_288 zx_obj zw_1039 zw_1040 zw_1041 dJ0_charAt_5068e_1) (z_c (ok_if_eq dJ0_charAt_5068e_4 (by decide)) (z_c (ok_aloadx dJ0_charAt_5068e_7 rfl) (z_c (ok_getx zx_value rfl zw_1035 dJ0_charAt_5068e_8) (z_c (ok_iload_n dJ0_charAt_5068e_11 rfl) (z_c (ok_callS zcal_290 zw_1042 zw_1043 dJ0_charAt_5068e_12) (z_c (ok_nreturn rfl dJ0_charAt_5068e_15) (z_c (ok_aloadx dJ0_charAt_5068e_16 rfl) (z_c (ok_getx zx_value rfl zw_1035 dJ0_charAt_5068e_17) (z_c (ok_iload_n dJ0_charAt_5068e_20 rfl) (z_c (ok_nreturn rfl dJ0_charAt_5068e_24) z_n))))))))))))
noncomputable def tJ0_charAt_5068e : zT := [(100000, tJ0_charAt_5068e_0)]
theorem kJ0_charAt_5068e : zTok zg iJ0_charAt_5068e tJ0_charAt_5068e := (z_t kJ0_charAt_5068e_0 z_tn)
theorem dJ0_coder_7d493_0 : decode cJ0_coder_7d493 0 = .ok (.getstatic 38, 3) := by decide +kernel
theorem dJ0_coder_7d493_3 : decode cJ0_coder_7d493 3 = .ok (.ifCond .eq 10, 3) := by decide +kernel
theorem dJ0_coder_7d493_6 : decode cJ0_coder_7d493 6 = .ok (.aload_n 0, 1) := by decide +kernel
theorem dJ0_coder_7d493_7 : decode cJ0_coder_7d493 7 = .ok (.getfield 15, 3) := by decide +kernel
theorem dJ0_coder_7d493_10 : decode cJ0_coder_7d493 10 = .ok (.goto 4, 3) := by decide +kernel
theorem dJ0_coder_7d493_13 : decode cJ0_coder_7d493 13 = .ok (.iconst 1, 1) := by decide +kernel
theorem dJ0_coder_7d493_14 : decode cJ0_coder_7d493 14 = .ok (.ireturn, 1) := by decide +kernel
noncomputable def tJ0_coder_7d493_0 : List (Nat × zF) := [(0, (zst 3 (zp (.int 1)))), (3, (z_if_eq 13)), (6, (zlx 0 1)), (7, (zst 3 (zgx 0 (.int 0)))), (10, (zgt 14)), (13, (zst 1 (zp (.int (1))))), (14, (zrn .byte))]
theorem kJ0_coder_7d493_0 : ∀ q ∈ tJ0_coder_7d493_0, zOk zg iJ0_coder_7d493 q.1 q.2 := (z_c (ok_getst zx_compact rfl zw_1044 dJ0_coder_7d493_0) (z_c (ok_if_eq dJ0_coder_7d493_3 (by decide)) (z_c (ok_aloadx dJ0_coder_7d493_6 rfl) (z_c (ok_getx zx_coder rfl zw_1045 dJ0_coder_7d493_7) (z_c (ok_goto dJ0_coder_7d493_10 (by decide)) (z_c (ok_iconst (v := (1)) dJ0_coder_7d493_13 (by decide)) (z_c (ok_nreturn rfl dJ0_coder_7d493_14) z_n)))))))
noncomputable def tJ0_coder_7d493 : zT := [(100000, tJ0_coder_7d493_0)]
theorem kJ0_coder_7d493 : zTok zg iJ0_coder_7d493 tJ0_coder_7d493 := (z_t kJ0_coder_7d493_0 z_tn)
theorem dJ0_isLatin1_aae02_0 : decode cJ0_isLatin1_aae02 0 = .ok (.getstatic 38, 3) := by decide +kernel
theorem dJ0_isLatin1_aae02_3 : decode cJ0_isLatin1_aae02 3 = .ok (.ifCond .eq 14, 3) := by decide +kernel
theorem dJ0_isLatin1_aae02_6 : decode cJ0_isLatin1_aae02 6 = .ok (.aload_n 0, 1) := by decide +kernel
theorem dJ0_isLatin1_aae02_7 : decode cJ0_isLatin1_aae02 7 = .ok (.getfield 15, 3) := by decide +kernel
theorem dJ0_isLatin1_aae02_10 : decode cJ0_isLatin1_aae02 10 = .ok (.ifCond .ne 7, 3) := by decide +kernel
theorem dJ0_isLatin1_aae02_13 : decode cJ0_isLatin1_aae02 13 = .ok (.iconst 1, 1) := by decide +kernel
theorem dJ0_isLatin1_aae02_14 : decode cJ0_isLatin1_aae02 14 = .ok (.goto 4, 3) := by decide +kernel
theorem dJ0_isLatin1_aae02_17 : decode cJ0_isLatin1_aae02 17 = .ok (.iconst 0, 1) := by decide +kernel
theorem dJ0_isLatin1_aae02_18 : decode cJ0_isLatin1_aae02 18 = .ok (.ireturn, 1) := by decide +kernel
noncomputable def tJ0_isLatin1_aae02_0 : List (Nat × zF) := [(0, (zst 3 (zp (.int 1)))), (3, (z_if_eq 17)), (6, (zlx 0 1)), (7, (zst 3 (zgx 0 (.int 0)))), (10, (z_if_ne 17)), (13, (zst 1 (zp (.int (1))))), (14, (zgt 18)), (17, (zst 1 (zp (.int (0))))), (18, (zri true))]
theorem kJ0_isLatin1_aae02_0 : ∀ q ∈ tJ0_isLatin1_aae02_0, zOk zg iJ0_isLatin1_aae02 q.1 q.2 := (z_c (ok_getst zx_compact rfl zw_1044 dJ0_isLatin1_aae02_0) (z_c (ok_if_eq dJ0_isLatin1_aae02_3 (by decide)) (z_c (ok_aloadx dJ0_isLatin1_aae02_6 rfl) (z_c (ok_getx zx_coder rfl zw_1045 dJ0_isLatin1_aae02_7) (z_c (ok_if_ne dJ0_isLatin1_aae02_10 (by decide)) (z_c (ok_iconst (v := (1)) dJ0_isLatin1_aae02_13 (by decide)) (z_c (ok_goto dJ0_isLatin1_aae02_14 (by decide)) (z_c (ok_iconst (v := (0)) dJ0_isLatin1_aae02_17 (by decide)) (z_c (ok_zreturn rfl dJ0_isLatin1_aae02_18) z_n)))))))))
noncomputable def tJ0_isLatin1_aae02 : zT := [(100000, tJ0_isLatin1_aae02_0)]
theorem kJ0_isLatin1_aae02 : zTok zg iJ0_isLatin1_aae02 tJ0_isLatin1_aae02 := (z_t kJ0_isLatin1_aae02_0 z_tn)
theorem dJ0_checkIndex_df160_0 : decode cJ0_checkIndex_df160 0 = .ok (.iload_n 0, 1) := by decide +kernel
theorem dJ0_checkIndex_df160_1 : decode cJ0_checkIndex_df160 1 = .ok (.iload_n 1, 1) := by decide +kernel
theorem dJ0_checkIndex_df160_2 : decode cJ0_checkIndex_df160 2 = .ok (.getstatic 1053, 3) := by decide +kernel
theorem dJ0_checkIndex_df160_5 : decode cJ0_checkIndex_df160 5 = .ok (.invokestatic 1059, 3) := by decide +kernel
theorem dJ0_checkIndex_df160_8 : decode cJ0_checkIndex_df160 8 = .ok (.pop, 1) := by decide +kernel
theorem dJ0_checkIndex_df160_9 : decode cJ0_checkIndex_df160 9 = .ok (.return_, 1) := by decide +kernel
noncomputable def tJ0_checkIndex_df160_0 : List (Nat × zF) := [(0, (zli4 0 1)), (1, (zli4 1 1)), (2, (zst 3 (zp (.retAddr 2)))), (5, (zcs 291 3)), (8, (zst 1 zpo)), (9, zrv)]
theorem kJ0_checkIndex_df160_0 : ∀ q ∈ tJ0_checkIndex_df160_0, zOk zg iJ0_checkIndex_df160 q.1 q.2 := (z_c (ok_iload_n dJ0_checkIndex_df160_0 rfl) (z_c (ok_iload_n dJ0_checkIndex_df160_1 rfl) (z_c (ok_getst zx_form rfl zw_1046 dJ0_checkIndex_df160_2) (z_c (ok_callS zcal_291 zw_1047 zw_1048 dJ0_checkIndex_df160_5) (z_c (ok_pop dJ0_checkIndex_df160_8) (z_c (ok_return rfl dJ0_checkIndex_df160_9) z_n))))))
noncomputable def tJ0_checkIndex_df160 : zT := [(100000, tJ0_checkIndex_df160_0)]
theorem kJ0_checkIndex_df160 : zTok zg iJ0_checkIndex_df160 tJ0_checkIndex_df160 := (z_t kJ0_checkIndex_df160_0 z_tn)
theorem dJ1_charAt_3b067_0 : decode cJ1_charAt_3b067 0 = .ok (.iload_n 1, 1) := by decide +kernel
theorem dJ1_charAt_3b067_1 : decode cJ1_charAt_3b067 1 = .ok (.aload_n 0, 1) := by decide +kernel
theorem dJ1_charAt_3b067_2 : decode cJ1_charAt_3b067 2 = .ok (.arraylength, 1) := by decide +kernel
theorem dJ1_charAt_3b067_3 : decode cJ1_charAt_3b067 3 = .ok (.invokestatic 9, 3) := by decide +kernel
theorem dJ1_charAt_3b067_6 : decode cJ1_charAt_3b067 6 = .ok (.aload_n 0, 1) := by decide +kernel
theorem dJ1_charAt_3b067_7 : decode cJ1_charAt_3b067 7 = .ok (.iload_n 1, 1) := by decide +kernel
theorem dJ1_charAt_3b067_8 : decode cJ1_charAt_3b067 8 = .ok (.baload, 1) := by decide +kernel
theorem dJ1_charAt_3b067_9 : decode cJ1_charAt_3b067 9 = .ok (.sipush 255, 3) := by decide +kernel
theorem dJ1_charAt_3b067_12 : decode cJ1_charAt_3b067 12 = .ok (.iand, 1) := by decide +kernel
theorem dJ1_charAt_3b067_13 : decode cJ1_charAt_3b067 13 = .ok (.i2c, 1) := by decide +kernel
theorem dJ1_charAt_3b067_14 : decode cJ1_charAt_3b067 14 = .ok (.ireturn, 1) := by decide +kernel
noncomputable def tJ1_charAt_3b067_0 : List (Nat × zF) := [(0, (zli4 1 1)), (1, (zlx 0 1)), (2, (zst 1 (zgx 1 (.int zxL)))), (3, (zcs 289 2)), (6, (zlx 0 1)), (7, (zli4 1 1)), (8, (zst 1 (zbx 1 zxN zxb))), (9, (zst 3 (zp (.int (255))))), (12, (zst 1 z_iand)), (13, (zst 1 zi2c)), (14, (zrn .char))]
theorem kJ1_charAt_3b067_0 : ∀ q ∈ tJ1_charAt_3b067_0, zOk zg iJ1_charAt_3b067 q.1 q.2 := (z_c (ok_iload_n dJ1_charAt_3b067_0 rfl) (z_c (ok_aloadx dJ1_charAt_3b067_1 rfl) (z_c (ok_lenx zx_bytes (by decide) dJ1_charAt_3b067_2) (z_c (ok_callS zcal_289 zw_1049 zw_1050 dJ1_charAt_3b067_3) (z_c (ok_aloadx dJ1_charAt_3b067_6 rfl) (z_c (ok_iload_n dJ1_charAt_3b067_7 rfl) (z_c (ok_baloadx zx_bytes dJ1_charAt_3b067_8) (z_c (ok_sipush (v := (255)) dJ1_charAt_3b067_9 (by decide)) (z_c (ok_iand dJ1_charAt_3b067_12) (z_c (ok_i2c dJ1_charAt_3b067_13) (z_c (ok_nreturn rfl dJ1_charAt_3b067_14) z_n)))))))))))
noncomputable def tJ1_charAt_3b067 : zT := [(100000, tJ1_charAt_3b067_0)]
theorem kJ1_charAt_3b067 : zTok zg iJ1_charAt_3b067 tJ1_charAt_3b067 := (z_t kJ1_charAt_3b067_0 z_tn)
theorem dJ3_checkIndex_8e157_0 : decode cJ3_checkIndex_8e157 0 = .ok (.iload_n 0, 1) := by decide +kernel
theorem dJ3_checkIndex_8e157_1 : decode cJ3_checkIndex_8e157 1 = .ok (.ifCond .lt 8, 3) := by decide +kernel
theorem dJ3_checkIndex_8e157_4 : decode cJ3_checkIndex_8e157 4 = .ok (.iload_n 0, 1) := by decide +kernel
theorem dJ3_checkIndex_8e157_5 : decode cJ3_checkIndex_8e157 5 = .ok (.iload_n 1, 1) := by decide +kernel
theorem dJ3_checkIndex_8e157_6 : decode cJ3_checkIndex_8e157 6 = .ok (.if_icmp .lt 10, 3) := by decide +kernel
theorem dJ3_checkIndex_8e157_9 : decode cJ3_checkIndex_8e157 9 = .ok (.aload_n 2, 1) := by decide +kernel
theorem dJ3_checkIndex_8e157_10 : decode cJ3_checkIndex_8e157 10 = .ok (.iload_n 0, 1) := by decide +kernel
theorem dJ3_checkIndex_8e157_11 : decode cJ3_checkIndex_8e157 11 = .ok (.iload_n 1, 1) := by decide +kernel
theorem dJ3_checkIndex_8e157_12 : decode cJ3_checkIndex_8e157 12 = .ok (.invokestatic 95, 3) := by decide +kernel
theorem dJ3_checkIndex_8e157_15 : decode cJ3_checkIndex_8e157 15 = .ok (.athrow, 1) := by decide +kernel
theorem dJ3_checkIndex_8e157_16 : decode cJ3_checkIndex_8e157 16 = .ok (.iload_n 0, 1) := by decide +kernel
theorem dJ3_checkIndex_8e157_17 : decode cJ3_checkIndex_8e157 17 = .ok (.ireturn, 1) := by decide +kernel
noncomputable def tJ3_checkIndex_8e157_0 : List (Nat × zF) := [(0, (zli4 0 1)), (1, (z_if_lt 9)), (4, (zli4 0 1)), (5, (zli4 1 1)), (6, (z_ic_lt 16)), (9, (zlx 2 1)), (10, (zli4 0 1)), (11, (zli4 1 1)), (16, (zli4 0 1)), (17, (zri false))]
theorem kJ3_checkIndex_8e157_0 : ∀ q ∈ tJ3_checkIndex_8e157_0, zOk zg iJ3_checkIndex_8e157 q.1 q.2 := (z_c (ok_iload_n dJ3_checkIndex_8e157_0 rfl) (z_c (ok_if_lt dJ3_checkIndex_8e157_1 (by decide)) (z_c (ok_iload_n dJ3_checkIndex_8e157_4 rfl) (z_c (ok_iload_n dJ3_checkIndex_8e157_5 rfl) (z_c (ok_icmp_lt dJ3_checkIndex_8e157_6 (by decide)) (z_c (ok_aloadx dJ3_checkIndex_8e157_9 rfl) (z_c (ok_iload_n dJ3_checkIndex_8e157_10 rfl) (z_c (ok_iload_n dJ3_checkIndex_8e157_11 rfl) (z_c (ok_iload_n dJ3_checkIndex_8e157_16 rfl) (z_c (ok_ireturn rfl dJ3_checkIndex_8e157_17) z_n))))))))))
noncomputable def tJ3_checkIndex_8e157 : zT := [(100000, tJ3_checkIndex_8e157_0)]
theorem kJ3_checkIndex_8e157 : zTok zg iJ3_checkIndex_8e157 tJ3_checkIndex_8e157 := (z_t kJ3_checkIndex_8e157_0 z_tn)
