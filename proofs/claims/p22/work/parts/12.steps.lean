theorem dX12_walks_0 : decode cX12_walks 0 = .ok (.aload_n 0, 1) := by decide +kernel
theorem dX12_walks_1 : decode cX12_walks 1 = .ok (.aload_n 0, 1) := by decide +kernel
theorem dX12_walks_2 : decode cX12_walks 2 = .ok (.getfield 90, 3) := by decide +kernel
theorem dX12_walks_5 : decode cX12_walks 5 = .ok (.bipush 6, 2) := by decide +kernel
theorem dX12_walks_7 : decode cX12_walks 7 = .ok (.aload_n 0, 1) := by decide +kernel
theorem dX12_walks_8 : decode cX12_walks 8 = .ok (.getfield 51, 3) := by decide +kernel
theorem dX12_walks_11 : decode cX12_walks 11 = .ok (.imul, 1) := by decide +kernel
theorem dX12_walks_12 : decode cX12_walks 12 = .ok (.iload_n 2, 1) := by decide +kernel
theorem dX12_walks_13 : decode cX12_walks 13 = .ok (.iadd, 1) := by decide +kernel
theorem dX12_walks_14 : decode cX12_walks 14 = .ok (.iaload, 1) := by decide +kernel
theorem dX12_walks_15 : decode cX12_walks 15 = .ok (.iconst 1, 1) := by decide +kernel
theorem dX12_walks_16 : decode cX12_walks 16 = .ok (.invokevirtual 478, 3) := by decide +kernel
theorem dX12_walks_19 : decode cX12_walks 19 = .ok (.aload_n 0, 1) := by decide +kernel
theorem dX12_walks_20 : decode cX12_walks 20 = .ok (.getfield 168, 3) := by decide +kernel
theorem dX12_walks_23 : decode cX12_walks 23 = .ok (.bipush 6, 2) := by decide +kernel
theorem dX12_walks_25 : decode cX12_walks 25 = .ok (.iload_n 1, 1) := by decide +kernel
theorem dX12_walks_26 : decode cX12_walks 26 = .ok (.imul, 1) := by decide +kernel
theorem dX12_walks_27 : decode cX12_walks 27 = .ok (.iload_n 2, 1) := by decide +kernel
theorem dX12_walks_28 : decode cX12_walks 28 = .ok (.iadd, 1) := by decide +kernel
theorem dX12_walks_29 : decode cX12_walks 29 = .ok (.iaload, 1) := by decide +kernel
theorem dX12_walks_30 : decode cX12_walks 30 = .ok (.istore_n 3, 1) := by decide +kernel
theorem dX12_walks_31 : decode cX12_walks 31 = .ok (.iconst 0, 1) := by decide +kernel
theorem dX12_walks_32 : decode cX12_walks 32 = .ok (.istore 4, 2) := by decide +kernel
theorem dX12_walks_34 : decode cX12_walks 34 = .ok (.iload 4, 2) := by decide +kernel
theorem dX12_walks_36 : decode cX12_walks 36 = .ok (.aload_n 0, 1) := by decide +kernel
theorem dX12_walks_37 : decode cX12_walks 37 = .ok (.getfield 60, 3) := by decide +kernel
theorem dX12_walks_40 : decode cX12_walks 40 = .ok (.aload_n 0, 1) := by decide +kernel
theorem dX12_walks_41 : decode cX12_walks 41 = .ok (.getfield 51, 3) := by decide +kernel
theorem dX12_walks_44 : decode cX12_walks 44 = .ok (.iaload, 1) := by decide +kernel
theorem dX12_walks_45 : decode cX12_walks 45 = .ok (.if_icmp .ge 104, 3) := by decide +kernel
theorem dX12_walks_48 : decode cX12_walks 48 = .ok (.aload_n 0, 1) := by decide +kernel
theorem dX12_walks_49 : decode cX12_walks 49 = .ok (.getfield 198, 3) := by decide +kernel
theorem dX12_walks_52 : decode cX12_walks 52 = .ok (.iload_n 3, 1) := by decide +kernel
theorem dX12_walks_53 : decode cX12_walks 53 = .ok (.iaload, 1) := by decide +kernel
theorem dX12_walks_54 : decode cX12_walks 54 = .ok (.ifCond .le 95, 3) := by decide +kernel
theorem dX12_walks_57 : decode cX12_walks 57 = .ok (.aload_n 0, 1) := by decide +kernel
theorem dX12_walks_58 : decode cX12_walks 58 = .ok (.getfield 198, 3) := by decide +kernel
theorem dX12_walks_61 : decode cX12_walks 61 = .ok (.iload_n 3, 1) := by decide +kernel
theorem dX12_walks_62 : decode cX12_walks 62 = .ok (.iaload, 1) := by decide +kernel
theorem dX12_walks_63 : decode cX12_walks 63 = .ok (.ldc_w 474, 3) := by decide +kernel
theorem dX12_walks_66 : decode cX12_walks 66 = .ok (.if_icmp .ge 83, 3) := by decide +kernel
theorem dX12_walks_69 : decode cX12_walks 69 = .ok (.iconst (-1), 1) := by decide +kernel
theorem dX12_walks_70 : decode cX12_walks 70 = .ok (.istore 5, 2) := by decide +kernel
theorem dX12_walks_72 : decode cX12_walks 72 = .ok (.iconst 0, 1) := by decide +kernel
theorem dX12_walks_73 : decode cX12_walks 73 = .ok (.istore 6, 2) := by decide +kernel
theorem dX12_walks_75 : decode cX12_walks 75 = .ok (.iload 6, 2) := by decide +kernel
theorem dX12_walks_77 : decode cX12_walks 77 = .ok (.iconst 4, 1) := by decide +kernel
theorem dX12_walks_78 : decode cX12_walks 78 = .ok (.if_icmp .ge 62, 3) := by decide +kernel
theorem dX12_walks_81 : decode cX12_walks 81 = .ok (.iload 5, 2) := by decide +kernel
theorem dX12_walks_83 : decode cX12_walks 83 = .ok (.iconst (-1), 1) := by decide +kernel
theorem dX12_walks_84 : decode cX12_walks 84 = .ok (.if_icmp .ne 56, 3) := by decide +kernel
theorem dX12_walks_87 : decode cX12_walks 87 = .ok (.aload_n 0, 1) := by decide +kernel
theorem dX12_walks_88 : decode cX12_walks 88 = .ok (.iload_n 3, 1) := by decide +kernel
theorem dX12_walks_89 : decode cX12_walks 89 = .ok (.iload 6, 2) := by decide +kernel
theorem dX12_walks_91 : decode cX12_walks 91 = .ok (.invokevirtual 475, 3) := by decide +kernel
theorem dX12_walks_94 : decode cX12_walks 94 = .ok (.istore 7, 2) := by decide +kernel
theorem dX12_walks_96 : decode cX12_walks 96 = .ok (.iload 7, 2) := by decide +kernel
theorem dX12_walks_98 : decode cX12_walks 98 = .ok (.iconst (-1), 1) := by decide +kernel
theorem dX12_walks_99 : decode cX12_walks 99 = .ok (.if_icmp .eq 35, 3) := by decide +kernel
theorem dX12_walks_102 : decode cX12_walks 102 = .ok (.aload_n 0, 1) := by decide +kernel
theorem dX12_walks_103 : decode cX12_walks 103 = .ok (.getfield 195, 3) := by decide +kernel
theorem dX12_walks_106 : decode cX12_walks 106 = .ok (.iload 7, 2) := by decide +kernel
theorem dX12_walks_108 : decode cX12_walks 108 = .ok (.iaload, 1) := by decide +kernel
theorem dX12_walks_109 : decode cX12_walks 109 = .ok (.ifCond .le 25, 3) := by decide +kernel
theorem dX12_walks_112 : decode cX12_walks 112 = .ok (.aload_n 0, 1) := by decide +kernel
theorem dX12_walks_113 : decode cX12_walks 113 = .ok (.getfield 198, 3) := by decide +kernel
theorem dX12_walks_116 : decode cX12_walks 116 = .ok (.iload 7, 2) := by decide +kernel
theorem dX12_walks_118 : decode cX12_walks 118 = .ok (.iaload, 1) := by decide +kernel
theorem dX12_walks_119 : decode cX12_walks 119 = .ok (.aload_n 0, 1) := by decide +kernel
theorem dX12_walks_120 : decode cX12_walks 120 = .ok (.getfield 198, 3) := by decide +kernel
theorem dX12_walks_123 : decode cX12_walks 123 = .ok (.iload_n 3, 1) := by decide +kernel
theorem dX12_walks_124 : decode cX12_walks 124 = .ok (.iaload, 1) := by decide +kernel
theorem dX12_walks_125 : decode cX12_walks 125 = .ok (.iconst 1, 1) := by decide +kernel
theorem dX12_walks_126 : decode cX12_walks 126 = .ok (.isub, 1) := by decide +kernel
theorem dX12_walks_127 : decode cX12_walks 127 = .ok (.if_icmp .ne 7, 3) := by decide +kernel
theorem dX12_walks_130 : decode cX12_walks 130 = .ok (.iload 7, 2) := by decide +kernel
theorem dX12_walks_132 : decode cX12_walks 132 = .ok (.istore 5, 2) := by decide +kernel
theorem dX12_walks_134 : decode cX12_walks 134 = .ok (.iinc 6 1, 3) := by decide +kernel
theorem dX12_walks_137 : decode cX12_walks 137 = .ok (.goto (-62), 3) := by decide +kernel
theorem dX12_walks_140 : decode cX12_walks 140 = .ok (.iload 5, 2) := by decide +kernel
theorem dX12_walks_142 : decode cX12_walks 142 = .ok (.istore_n 3, 1) := by decide +kernel
theorem dX12_walks_143 : decode cX12_walks 143 = .ok (.iinc 4 1, 3) := by decide +kernel
theorem dX12_walks_146 : decode cX12_walks 146 = .ok (.goto (-112), 3) := by decide +kernel
theorem dX12_walks_149 : decode cX12_walks 149 = .ok (.aload_n 0, 1) := by decide +kernel
theorem dX12_walks_150 : decode cX12_walks 150 = .ok (.getfield 168, 3) := by decide +kernel
theorem dX12_walks_153 : decode cX12_walks 153 = .ok (.bipush 6, 2) := by decide +kernel
theorem dX12_walks_155 : decode cX12_walks 155 = .ok (.iload_n 1, 1) := by decide +kernel
theorem dX12_walks_156 : decode cX12_walks 156 = .ok (.imul, 1) := by decide +kernel
theorem dX12_walks_157 : decode cX12_walks 157 = .ok (.iload_n 2, 1) := by decide +kernel
theorem dX12_walks_158 : decode cX12_walks 158 = .ok (.iadd, 1) := by decide +kernel
theorem dX12_walks_159 : decode cX12_walks 159 = .ok (.iload_n 3, 1) := by decide +kernel
theorem dX12_walks_160 : decode cX12_walks 160 = .ok (.iastore, 1) := by decide +kernel
theorem dX12_walks_161 : decode cX12_walks 161 = .ok (.return_, 1) := by decide +kernel
noncomputable def tX12_walks_0 : List (Nat × zF) := [(0, (zla4 0 1)), (1, (zla4 0 1)), (2, (zgf 12 26)), (5, (zst 2 (zp (.int (6))))), (7, (zla4 0 1)), (8, (zgf 12 13)), (11, (zst 1 z_imul)), (12, (zli4 2 1)), (13, (zst 1 z_iadd)), (14, (zal 0)), (15, (zst 1 (zp (.int (1))))), (16, (zcv 229 2 12))]
theorem kX12_walks_0 : ∀ q ∈ tX12_walks_0, zOk zg iX12_walks q.1 q.2 := (z_c (ok_aload_n dX12_walks_0 rfl) (z_c (ok_aload_n dX12_walks_1 rfl) (z_c (ok_getf (C := RX12) (T := TX12) (N := 73) rfl (by decide) zinX12 rfl zw_713 dX12_walks_2) (z_c (ok_bipush (v := (6)) dX12_walks_5 (by decide)) (z_c (ok_aload_n dX12_walks_7 rfl) (z_c (ok_getf (C := RX12) (T := TX12) (N := 73) rfl (by decide) zinX12 rfl zw_700 dX12_walks_8) (z_c (ok_imul dX12_walks_11) (z_c (ok_iload_n dX12_walks_12 rfl) (z_c (ok_iadd dX12_walks_13) (z_c (ok_iaload rfl dX12_walks_14) (z_c (ok_iconst (v := (1)) dX12_walks_15 (by decide)) (z_c (ok_callV zcal_229 (q := (RX12, TX12, 73)) rfl zw_948 zw_949 zw_950 dX12_walks_16) z_n))))))))))))
noncomputable def tX12_walks_1 : List (Nat × zF) := [(19, (zla4 0 1)), (20, (zgf 12 51)), (23, (zst 2 (zp (.int (6))))), (25, (zli4 1 1)), (26, (zst 1 z_imul)), (27, (zli4 2 1)), (28, (zst 1 z_iadd)), (29, (zal 0)), (30, (zsi4 8 3 1)), (31, (zst 1 (zp (.int (0))))), (32, (zsi4 8 4 2)), (34, (zli4 4 2))]
theorem kX12_walks_1 : ∀ q ∈ tX12_walks_1, zOk zg iX12_walks q.1 q.2 := (z_c (ok_aload_n dX12_walks_19 rfl) (z_c (ok_getf (C := RX12) (T := TX12) (N := 73) rfl (by decide) zinX12 rfl zw_739 dX12_walks_20) (z_c (ok_bipush (v := (6)) dX12_walks_23 (by decide)) (z_c (ok_iload_n dX12_walks_25 rfl) (z_c (ok_imul dX12_walks_26) (z_c (ok_iload_n dX12_walks_27 rfl) (z_c (ok_iadd dX12_walks_28) (z_c (ok_iaload rfl dX12_walks_29) (z_c (ok_istore_n dX12_walks_30 rfl) (z_c (ok_iconst (v := (0)) dX12_walks_31 (by decide)) (z_c (ok_istore dX12_walks_32) (z_c (ok_iload dX12_walks_34) z_n))))))))))))
noncomputable def tX12_walks_2 : List (Nat × zF) := [(36, (zla4 0 1)), (37, (zgf 12 16)), (40, (zla4 0 1)), (41, (zgf 12 13)), (44, (zal 0)), (45, (z_ic_ge 149)), (48, (zla4 0 1)), (49, (zgf 12 61)), (52, (zli4 3 1)), (53, (zal 0)), (54, (z_if_le 149)), (57, (zla4 0 1))]
theorem kX12_walks_2 : ∀ q ∈ tX12_walks_2, zOk zg iX12_walks q.1 q.2 := (z_c (ok_aload_n dX12_walks_36 rfl) (z_c (ok_getf (C := RX12) (T := TX12) (N := 73) rfl (by decide) zinX12 rfl zw_703 dX12_walks_37) (z_c (ok_aload_n dX12_walks_40 rfl) (z_c (ok_getf (C := RX12) (T := TX12) (N := 73) rfl (by decide) zinX12 rfl zw_700 dX12_walks_41) (z_c (ok_iaload rfl dX12_walks_44) (z_c (ok_icmp_ge dX12_walks_45 (by decide)) (z_c (ok_aload_n dX12_walks_48 rfl) (z_c (ok_getf (C := RX12) (T := TX12) (N := 73) rfl (by decide) zinX12 rfl zw_749 dX12_walks_49) (z_c (ok_iload_n dX12_walks_52 rfl) (z_c (ok_iaload rfl dX12_walks_53) (z_c (ok_if_le dX12_walks_54 (by decide)) (z_c (ok_aload_n dX12_walks_57 rfl) z_n))))))))))))
noncomputable def tX12_walks_3 : List (Nat × zF) := [(58, (zgf 12 61)), (61, (zli4 3 1)), (62, (zal 0)), (63, (zst 3 (zp (.int (100000000))))), (66, (z_ic_ge 149)), (69, (zst 1 (zp (.int ((-1)))))), (70, (zsi4 8 5 2)), (72, (zst 1 (zp (.int (0))))), (73, (zsi4 8 6 2)), (75, (zli4 6 2)), (77, (zst 1 (zp (.int (4))))), (78, (z_ic_ge 140))]
theorem kX12_walks_3 : ∀ q ∈ tX12_walks_3, zOk zg iX12_walks q.1 q.2 := (z_c (ok_getf (C := RX12) (T := TX12) (N := 73) rfl (by decide) zinX12 rfl zw_749 dX12_walks_58) (z_c (ok_iload_n dX12_walks_61 rfl) (z_c (ok_iaload rfl dX12_walks_62) (z_c (ok_ldcw (v := (100000000)) zw_944 dX12_walks_63) (z_c (ok_icmp_ge dX12_walks_66 (by decide)) (z_c (ok_iconst (v := (-1)) dX12_walks_69 (by decide)) (z_c (ok_istore dX12_walks_70) (z_c (ok_iconst (v := (0)) dX12_walks_72 (by decide)) (z_c (ok_istore dX12_walks_73) (z_c (ok_iload dX12_walks_75) (z_c (ok_iconst (v := (4)) dX12_walks_77 (by decide)) (z_c (ok_icmp_ge dX12_walks_78 (by decide)) z_n))))))))))))
noncomputable def tX12_walks_4 : List (Nat × zF) := [(81, (zli4 5 2)), (83, (zst 1 (zp (.int ((-1)))))), (84, (z_ic_ne 140)), (87, (zla4 0 1)), (88, (zli4 3 1)), (89, (zli4 6 2)), (91, (zcv 224 2 12)), (94, (zsi4 8 7 2)), (96, (zli4 7 2)), (98, (zst 1 (zp (.int ((-1)))))), (99, (z_ic_eq 134)), (102, (zla4 0 1))]
theorem kX12_walks_4 : ∀ q ∈ tX12_walks_4, zOk zg iX12_walks q.1 q.2 := (z_c (ok_iload dX12_walks_81) (z_c (ok_iconst (v := (-1)) dX12_walks_83 (by decide)) (z_c (ok_icmp_ne dX12_walks_84 (by decide)) (z_c (ok_aload_n dX12_walks_87 rfl) (z_c (ok_iload_n dX12_walks_88 rfl) (z_c (ok_iload dX12_walks_89) (z_c (ok_callV zcal_224 (q := (RX12, TX12, 73)) rfl zw_945 zw_946 zw_947 dX12_walks_91) (z_c (ok_istore dX12_walks_94) (z_c (ok_iload dX12_walks_96) (z_c (ok_iconst (v := (-1)) dX12_walks_98 (by decide)) (z_c (ok_icmp_eq dX12_walks_99 (by decide)) (z_c (ok_aload_n dX12_walks_102 rfl) z_n))))))))))))
noncomputable def tX12_walks_5 : List (Nat × zF) := [(103, (zgf 12 60)), (106, (zli4 7 2)), (108, (zal 0)), (109, (z_if_le 134)), (112, (zla4 0 1)), (113, (zgf 12 61)), (116, (zli4 7 2)), (118, (zal 0)), (119, (zla4 0 1)), (120, (zgf 12 61)), (123, (zli4 3 1)), (124, (zal 0))]
theorem kX12_walks_5 : ∀ q ∈ tX12_walks_5, zOk zg iX12_walks q.1 q.2 := (z_c (ok_getf (C := RX12) (T := TX12) (N := 73) rfl (by decide) zinX12 rfl zw_748 dX12_walks_103) (z_c (ok_iload dX12_walks_106) (z_c (ok_iaload rfl dX12_walks_108) (z_c (ok_if_le dX12_walks_109 (by decide)) (z_c (ok_aload_n dX12_walks_112 rfl) (z_c (ok_getf (C := RX12) (T := TX12) (N := 73) rfl (by decide) zinX12 rfl zw_749 dX12_walks_113) (z_c (ok_iload dX12_walks_116) (z_c (ok_iaload rfl dX12_walks_118) (z_c (ok_aload_n dX12_walks_119 rfl) (z_c (ok_getf (C := RX12) (T := TX12) (N := 73) rfl (by decide) zinX12 rfl zw_749 dX12_walks_120) (z_c (ok_iload_n dX12_walks_123 rfl) (z_c (ok_iaload rfl dX12_walks_124) z_n))))))))))))
noncomputable def tX12_walks_6 : List (Nat × zF) := [(125, (zst 1 (zp (.int (1))))), (126, (zst 1 z_isub)), (127, (z_ic_ne 134)), (130, (zli4 7 2)), (132, (zsi4 8 5 2)), (134, (zin4 8 6 (1))), (137, (zgt 75)), (140, (zli4 5 2)), (142, (zsi4 8 3 1)), (143, (zin4 8 4 (1))), (146, (zgt 34)), (149, (zla4 0 1))]
theorem kX12_walks_6 : ∀ q ∈ tX12_walks_6, zOk zg iX12_walks q.1 q.2 := (z_c (ok_iconst (v := (1)) dX12_walks_125 (by decide)) (z_c (ok_isub dX12_walks_126) (z_c (ok_icmp_ne dX12_walks_127 (by decide)) (z_c (ok_iload dX12_walks_130) (z_c (ok_istore dX12_walks_132) (z_c (ok_iinc (v := (1)) dX12_walks_134 (by decide)) (z_c (ok_goto dX12_walks_137 (by decide)) (z_c (ok_iload dX12_walks_140) (z_c (ok_istore_n dX12_walks_142 rfl) (z_c (ok_iinc (v := (1)) dX12_walks_143 (by decide)) (z_c (ok_goto dX12_walks_146 (by decide)) (z_c (ok_aload_n dX12_walks_149 rfl) z_n))))))))))))
noncomputable def tX12_walks_7 : List (Nat × zF) := [(150, (zgf 12 51)), (153, (zst 2 (zp (.int (6))))), (155, (zli4 1 1)), (156, (zst 1 z_imul)), (157, (zli4 2 1)), (158, (zst 1 z_iadd)), (159, (zli4 3 1)), (160, (zas 0)), (161, zrv)]
theorem kX12_walks_7 : ∀ q ∈ tX12_walks_7, zOk zg iX12_walks q.1 q.2 := (z_c (ok_getf (C := RX12) (T := TX12) (N := 73) rfl (by decide) zinX12 rfl zw_739 dX12_walks_150) (z_c (ok_bipush (v := (6)) dX12_walks_153 (by decide)) (z_c (ok_iload_n dX12_walks_155 rfl) (z_c (ok_imul dX12_walks_156) (z_c (ok_iload_n dX12_walks_157 rfl) (z_c (ok_iadd dX12_walks_158) (z_c (ok_iload_n dX12_walks_159 rfl) (z_c (ok_iastore rfl dX12_walks_160) (z_c (ok_return rfl dX12_walks_161) z_n)))))))))
noncomputable def tX12_walks : zT := [(19, tX12_walks_0), (36, tX12_walks_1), (58, tX12_walks_2), (81, tX12_walks_3), (103, tX12_walks_4), (125, tX12_walks_5), (150, tX12_walks_6), (100000, tX12_walks_7)]
theorem kX12_walks : zTok zg iX12_walks tX12_walks := (z_t kX12_walks_0 (z_t kX12_walks_1 (z_t kX12_walks_2 (z_t kX12_walks_3 (z_t kX12_walks_4 (z_t kX12_walks_5 (z_t kX12_walks_6 (z_t kX12_walks_7 z_tn))))))))
theorem dX12_isHome_0 : decode cX12_isHome 0 = .ok (.aload_n 0, 1) := by decide +kernel
theorem dX12_isHome_1 : decode cX12_isHome 1 = .ok (.getfield 168, 3) := by decide +kernel
theorem dX12_isHome_4 : decode cX12_isHome 4 = .ok (.bipush 6, 2) := by decide +kernel
theorem dX12_isHome_6 : decode cX12_isHome 6 = .ok (.iload_n 1, 1) := by decide +kernel
theorem dX12_isHome_7 : decode cX12_isHome 7 = .ok (.imul, 1) := by decide +kernel
theorem dX12_isHome_8 : decode cX12_isHome 8 = .ok (.iload_n 2, 1) := by decide +kernel
theorem dX12_isHome_9 : decode cX12_isHome 9 = .ok (.iadd, 1) := by decide +kernel
theorem dX12_isHome_10 : decode cX12_isHome 10 = .ok (.iaload, 1) := by decide +kernel
theorem dX12_isHome_11 : decode cX12_isHome 11 = .ok (.aload_n 0, 1) := by decide +kernel
theorem dX12_isHome_12 : decode cX12_isHome 12 = .ok (.getfield 90, 3) := by decide +kernel
theorem dX12_isHome_15 : decode cX12_isHome 15 = .ok (.bipush 6, 2) := by decide +kernel
theorem dX12_isHome_17 : decode cX12_isHome 17 = .ok (.aload_n 0, 1) := by decide +kernel
theorem dX12_isHome_18 : decode cX12_isHome 18 = .ok (.getfield 51, 3) := by decide +kernel
theorem dX12_isHome_21 : decode cX12_isHome 21 = .ok (.imul, 1) := by decide +kernel
theorem dX12_isHome_22 : decode cX12_isHome 22 = .ok (.iload_n 2, 1) := by decide +kernel
theorem dX12_isHome_23 : decode cX12_isHome 23 = .ok (.iadd, 1) := by decide +kernel
theorem dX12_isHome_24 : decode cX12_isHome 24 = .ok (.iaload, 1) := by decide +kernel
theorem dX12_isHome_25 : decode cX12_isHome 25 = .ok (.if_icmp .ne 7, 3) := by decide +kernel
theorem dX12_isHome_28 : decode cX12_isHome 28 = .ok (.iconst 1, 1) := by decide +kernel
theorem dX12_isHome_29 : decode cX12_isHome 29 = .ok (.goto 4, 3) := by decide +kernel
theorem dX12_isHome_32 : decode cX12_isHome 32 = .ok (.iconst 0, 1) := by decide +kernel
theorem dX12_isHome_33 : decode cX12_isHome 33 = .ok (.ireturn, 1) := by decide +kernel
noncomputable def tX12_isHome_0 : List (Nat × zF) := [(0, (zla4 0 1)), (1, (zgf 12 51)), (4, (zst 2 (zp (.int (6))))), (6, (zli4 1 1)), (7, (zst 1 z_imul)), (8, (zli4 2 1)), (9, (zst 1 z_iadd)), (10, (zal 0)), (11, (zla4 0 1)), (12, (zgf 12 26)), (15, (zst 2 (zp (.int (6))))), (17, (zla4 0 1))]
theorem kX12_isHome_0 : ∀ q ∈ tX12_isHome_0, zOk zg iX12_isHome q.1 q.2 := (z_c (ok_aload_n dX12_isHome_0 rfl) (z_c (ok_getf (C := RX12) (T := TX12) (N := 73) rfl (by decide) zinX12 rfl zw_739 dX12_isHome_1) (z_c (ok_bipush (v := (6)) dX12_isHome_4 (by decide)) (z_c (ok_iload_n dX12_isHome_6 rfl) (z_c (ok_imul dX12_isHome_7) (z_c (ok_iload_n dX12_isHome_8 rfl) (z_c (ok_iadd dX12_isHome_9) (z_c (ok_iaload rfl dX12_isHome_10) (z_c (ok_aload_n dX12_isHome_11 rfl) (z_c (ok_getf (C := RX12) (T := TX12) (N := 73) rfl (by decide) zinX12 rfl zw_713 dX12_isHome_12) (z_c (ok_bipush (v := (6)) dX12_isHome_15 (by decide)) (z_c (ok_aload_n dX12_isHome_17 rfl) z_n))))))))))))
noncomputable def tX12_isHome_1 : List (Nat × zF) := [(18, (zgf 12 13)), (21, (zst 1 z_imul)), (22, (zli4 2 1)), (23, (zst 1 z_iadd)), (24, (zal 0)), (25, (z_ic_ne 32)), (28, (zst 1 (zp (.int (1))))), (29, (zgt 33)), (32, (zst 1 (zp (.int (0))))), (33, (zri true))]
theorem kX12_isHome_1 : ∀ q ∈ tX12_isHome_1, zOk zg iX12_isHome q.1 q.2 := (z_c (ok_getf (C := RX12) (T := TX12) (N := 73) rfl (by decide) zinX12 rfl zw_700 dX12_isHome_18) (z_c (ok_imul dX12_isHome_21) (z_c (ok_iload_n dX12_isHome_22 rfl) (z_c (ok_iadd dX12_isHome_23) (z_c (ok_iaload rfl dX12_isHome_24) (z_c (ok_icmp_ne dX12_isHome_25 (by decide)) (z_c (ok_iconst (v := (1)) dX12_isHome_28 (by decide)) (z_c (ok_goto dX12_isHome_29 (by decide)) (z_c (ok_iconst (v := (0)) dX12_isHome_32 (by decide)) (z_c (ok_zreturn rfl dX12_isHome_33) z_n))))))))))
noncomputable def tX12_isHome : zT := [(18, tX12_isHome_0), (100000, tX12_isHome_1)]
theorem kX12_isHome : zTok zg iX12_isHome tX12_isHome := (z_t kX12_isHome_0 (z_t kX12_isHome_1 z_tn))
theorem dX12_writesDown_0 : decode cX12_writesDown 0 = .ok (.aload_n 0, 1) := by decide +kernel
theorem dX12_writesDown_1 : decode cX12_writesDown 1 = .ok (.getfield 171, 3) := by decide +kernel
theorem dX12_writesDown_4 : decode cX12_writesDown 4 = .ok (.iload_n 1, 1) := by decide +kernel
theorem dX12_writesDown_5 : decode cX12_writesDown 5 = .ok (.iaload, 1) := by decide +kernel
theorem dX12_writesDown_6 : decode cX12_writesDown 6 = .ok (.bipush 40, 2) := by decide +kernel
theorem dX12_writesDown_8 : decode cX12_writesDown 8 = .ok (.if_icmp .ne 55, 3) := by decide +kernel
theorem dX12_writesDown_11 : decode cX12_writesDown 11 = .ok (.bipush 120, 2) := by decide +kernel
theorem dX12_writesDown_13 : decode cX12_writesDown 13 = .ok (.iload_n 1, 1) := by decide +kernel
theorem dX12_writesDown_14 : decode cX12_writesDown 14 = .ok (.imul, 1) := by decide +kernel
theorem dX12_writesDown_15 : decode cX12_writesDown 15 = .ok (.istore 4, 2) := by decide +kernel
theorem dX12_writesDown_17 : decode cX12_writesDown 17 = .ok (.iload 4, 2) := by decide +kernel
theorem dX12_writesDown_19 : decode cX12_writesDown 19 = .ok (.bipush 120, 2) := by decide +kernel
theorem dX12_writesDown_21 : decode cX12_writesDown 21 = .ok (.iload_n 1, 1) := by decide +kernel
theorem dX12_writesDown_22 : decode cX12_writesDown 22 = .ok (.imul, 1) := by decide +kernel
theorem dX12_writesDown_23 : decode cX12_writesDown 23 = .ok (.bipush 120, 2) := by decide +kernel
theorem dX12_writesDown_25 : decode cX12_writesDown 25 = .ok (.iadd, 1) := by decide +kernel
theorem dX12_writesDown_26 : decode cX12_writesDown 26 = .ok (.iconst 3, 1) := by decide +kernel
theorem dX12_writesDown_27 : decode cX12_writesDown 27 = .ok (.isub, 1) := by decide +kernel
theorem dX12_writesDown_28 : decode cX12_writesDown 28 = .ok (.if_icmp .ge 25, 3) := by decide +kernel
theorem dX12_writesDown_31 : decode cX12_writesDown 31 = .ok (.aload_n 0, 1) := by decide +kernel
theorem dX12_writesDown_32 : decode cX12_writesDown 32 = .ok (.getfield 174, 3) := by decide +kernel
theorem dX12_writesDown_35 : decode cX12_writesDown 35 = .ok (.iload 4, 2) := by decide +kernel
theorem dX12_writesDown_37 : decode cX12_writesDown 37 = .ok (.aload_n 0, 1) := by decide +kernel
theorem dX12_writesDown_38 : decode cX12_writesDown 38 = .ok (.getfield 174, 3) := by decide +kernel
theorem dX12_writesDown_41 : decode cX12_writesDown 41 = .ok (.iload 4, 2) := by decide +kernel
theorem dX12_writesDown_43 : decode cX12_writesDown 43 = .ok (.iconst 3, 1) := by decide +kernel
theorem dX12_writesDown_44 : decode cX12_writesDown 44 = .ok (.iadd, 1) := by decide +kernel
theorem dX12_writesDown_45 : decode cX12_writesDown 45 = .ok (.iaload, 1) := by decide +kernel
theorem dX12_writesDown_46 : decode cX12_writesDown 46 = .ok (.iastore, 1) := by decide +kernel
theorem dX12_writesDown_47 : decode cX12_writesDown 47 = .ok (.iinc 4 1, 3) := by decide +kernel
theorem dX12_writesDown_50 : decode cX12_writesDown 50 = .ok (.goto (-33), 3) := by decide +kernel
theorem dX12_writesDown_53 : decode cX12_writesDown 53 = .ok (.aload_n 0, 1) := by decide +kernel
theorem dX12_writesDown_54 : decode cX12_writesDown 54 = .ok (.getfield 171, 3) := by decide +kernel
theorem dX12_writesDown_57 : decode cX12_writesDown 57 = .ok (.iload_n 1, 1) := by decide +kernel
theorem dX12_writesDown_58 : decode cX12_writesDown 58 = .ok (.dup2, 1) := by decide +kernel
theorem dX12_writesDown_59 : decode cX12_writesDown 59 = .ok (.iaload, 1) := by decide +kernel
theorem dX12_writesDown_60 : decode cX12_writesDown 60 = .ok (.iconst 1, 1) := by decide +kernel
theorem dX12_writesDown_61 : decode cX12_writesDown 61 = .ok (.isub, 1) := by decide +kernel
theorem dX12_writesDown_62 : decode cX12_writesDown 62 = .ok (.iastore, 1) := by decide +kernel
theorem dX12_writesDown_63 : decode cX12_writesDown 63 = .ok (.iconst 3, 1) := by decide +kernel
theorem dX12_writesDown_64 : decode cX12_writesDown 64 = .ok (.bipush 40, 2) := by decide +kernel
theorem dX12_writesDown_66 : decode cX12_writesDown 66 = .ok (.iload_n 1, 1) := by decide +kernel
theorem dX12_writesDown_67 : decode cX12_writesDown 67 = .ok (.imul, 1) := by decide +kernel
theorem dX12_writesDown_68 : decode cX12_writesDown 68 = .ok (.aload_n 0, 1) := by decide +kernel
theorem dX12_writesDown_69 : decode cX12_writesDown 69 = .ok (.getfield 171, 3) := by decide +kernel
theorem dX12_writesDown_72 : decode cX12_writesDown 72 = .ok (.iload_n 1, 1) := by decide +kernel
theorem dX12_writesDown_73 : decode cX12_writesDown 73 = .ok (.iaload, 1) := by decide +kernel
theorem dX12_writesDown_74 : decode cX12_writesDown 74 = .ok (.iadd, 1) := by decide +kernel
theorem dX12_writesDown_75 : decode cX12_writesDown 75 = .ok (.imul, 1) := by decide +kernel
theorem dX12_writesDown_76 : decode cX12_writesDown 76 = .ok (.istore 4, 2) := by decide +kernel
theorem dX12_writesDown_78 : decode cX12_writesDown 78 = .ok (.aload_n 0, 1) := by decide +kernel
theorem dX12_writesDown_79 : decode cX12_writesDown 79 = .ok (.getfield 174, 3) := by decide +kernel
theorem dX12_writesDown_82 : decode cX12_writesDown 82 = .ok (.iload 4, 2) := by decide +kernel
theorem dX12_writesDown_84 : decode cX12_writesDown 84 = .ok (.aload_n 0, 1) := by decide +kernel
theorem dX12_writesDown_85 : decode cX12_writesDown 85 = .ok (.getfield 159, 3) := by decide +kernel
theorem dX12_writesDown_88 : decode cX12_writesDown 88 = .ok (.iload_n 1, 1) := by decide +kernel
theorem dX12_writesDown_89 : decode cX12_writesDown 89 = .ok (.iaload, 1) := by decide +kernel
theorem dX12_writesDown_90 : decode cX12_writesDown 90 = .ok (.iastore, 1) := by decide +kernel
theorem dX12_writesDown_91 : decode cX12_writesDown 91 = .ok (.aload_n 0, 1) := by decide +kernel
theorem dX12_writesDown_92 : decode cX12_writesDown 92 = .ok (.getfield 174, 3) := by decide +kernel
theorem dX12_writesDown_95 : decode cX12_writesDown 95 = .ok (.iload 4, 2) := by decide +kernel
theorem dX12_writesDown_97 : decode cX12_writesDown 97 = .ok (.iconst 1, 1) := by decide +kernel
theorem dX12_writesDown_98 : decode cX12_writesDown 98 = .ok (.iadd, 1) := by decide +kernel
theorem dX12_writesDown_99 : decode cX12_writesDown 99 = .ok (.iload_n 2, 1) := by decide +kernel
theorem dX12_writesDown_100 : decode cX12_writesDown 100 = .ok (.iastore, 1) := by decide +kernel
theorem dX12_writesDown_101 : decode cX12_writesDown 101 = .ok (.aload_n 0, 1) := by decide +kernel
theorem dX12_writesDown_102 : decode cX12_writesDown 102 = .ok (.getfield 174, 3) := by decide +kernel
theorem dX12_writesDown_105 : decode cX12_writesDown 105 = .ok (.iload 4, 2) := by decide +kernel
theorem dX12_writesDown_107 : decode cX12_writesDown 107 = .ok (.iconst 2, 1) := by decide +kernel
theorem dX12_writesDown_108 : decode cX12_writesDown 108 = .ok (.iadd, 1) := by decide +kernel
theorem dX12_writesDown_109 : decode cX12_writesDown 109 = .ok (.iload_n 3, 1) := by decide +kernel
theorem dX12_writesDown_110 : decode cX12_writesDown 110 = .ok (.iastore, 1) := by decide +kernel
theorem dX12_writesDown_111 : decode cX12_writesDown 111 = .ok (.aload_n 0, 1) := by decide +kernel
theorem dX12_writesDown_112 : decode cX12_writesDown 112 = .ok (.getfield 171, 3) := by decide +kernel
theorem dX12_writesDown_115 : decode cX12_writesDown 115 = .ok (.iload_n 1, 1) := by decide +kernel
theorem dX12_writesDown_116 : decode cX12_writesDown 116 = .ok (.dup2, 1) := by decide +kernel
theorem dX12_writesDown_117 : decode cX12_writesDown 117 = .ok (.iaload, 1) := by decide +kernel
theorem dX12_writesDown_118 : decode cX12_writesDown 118 = .ok (.iconst 1, 1) := by decide +kernel
theorem dX12_writesDown_119 : decode cX12_writesDown 119 = .ok (.iadd, 1) := by decide +kernel
theorem dX12_writesDown_120 : decode cX12_writesDown 120 = .ok (.iastore, 1) := by decide +kernel
theorem dX12_writesDown_121 : decode cX12_writesDown 121 = .ok (.return_, 1) := by decide +kernel
noncomputable def tX12_writesDown_0 : List (Nat × zF) := [(0, (zla4 0 1)), (1, (zgf 12 52)), (4, (zli4 1 1)), (5, (zal 0)), (6, (zst 2 (zp (.int (40))))), (8, (z_ic_ne 63)), (11, (zst 2 (zp (.int (120))))), (13, (zli4 1 1)), (14, (zst 1 z_imul)), (15, (zsi4 5 4 2)), (17, (zli4 4 2)), (19, (zst 2 (zp (.int (120)))))]
theorem kX12_writesDown_0 : ∀ q ∈ tX12_writesDown_0, zOk zg iX12_writesDown q.1 q.2 := (z_c (ok_aload_n dX12_writesDown_0 rfl) (z_c (ok_getf (C := RX12) (T := TX12) (N := 73) rfl (by decide) zinX12 rfl zw_740 dX12_writesDown_1) (z_c (ok_iload_n dX12_writesDown_4 rfl) (z_c (ok_iaload rfl dX12_writesDown_5) (z_c (ok_bipush (v := (40)) dX12_writesDown_6 (by decide)) (z_c (ok_icmp_ne dX12_writesDown_8 (by decide)) (z_c (ok_bipush (v := (120)) dX12_writesDown_11 (by decide)) (z_c (ok_iload_n dX12_writesDown_13 rfl) (z_c (ok_imul dX12_writesDown_14) (z_c (ok_istore dX12_writesDown_15) (z_c (ok_iload dX12_writesDown_17) (z_c (ok_bipush (v := (120)) dX12_writesDown_19 (by decide)) z_n))))))))))))
noncomputable def tX12_writesDown_1 : List (Nat × zF) := [(21, (zli4 1 1)), (22, (zst 1 z_imul)), (23, (zst 2 (zp (.int (120))))), (25, (zst 1 z_iadd)), (26, (zst 1 (zp (.int (3))))), (27, (zst 1 z_isub)), (28, (z_ic_ge 53)), (31, (zla4 0 1)), (32, (zgf 12 53)), (35, (zli4 4 2)), (37, (zla4 0 1)), (38, (zgf 12 53))]
theorem kX12_writesDown_1 : ∀ q ∈ tX12_writesDown_1, zOk zg iX12_writesDown q.1 q.2 := (z_c (ok_iload_n dX12_writesDown_21 rfl) (z_c (ok_imul dX12_writesDown_22) (z_c (ok_bipush (v := (120)) dX12_writesDown_23 (by decide)) (z_c (ok_iadd dX12_writesDown_25) (z_c (ok_iconst (v := (3)) dX12_writesDown_26 (by decide)) (z_c (ok_isub dX12_writesDown_27) (z_c (ok_icmp_ge dX12_writesDown_28 (by decide)) (z_c (ok_aload_n dX12_writesDown_31 rfl) (z_c (ok_getf (C := RX12) (T := TX12) (N := 73) rfl (by decide) zinX12 rfl zw_741 dX12_writesDown_32) (z_c (ok_iload dX12_writesDown_35) (z_c (ok_aload_n dX12_writesDown_37 rfl) (z_c (ok_getf (C := RX12) (T := TX12) (N := 73) rfl (by decide) zinX12 rfl zw_741 dX12_writesDown_38) z_n))))))))))))
noncomputable def tX12_writesDown_2 : List (Nat × zF) := [(41, (zli4 4 2)), (43, (zst 1 (zp (.int (3))))), (44, (zst 1 z_iadd)), (45, (zal 0)), (46, (zas 0)), (47, (zin4 5 4 (1))), (50, (zgt 17)), (53, (zla4 0 1)), (54, (zgf 12 52)), (57, (zli4 1 1)), (58, (zst 1 zd2)), (59, (zal 0))]
theorem kX12_writesDown_2 : ∀ q ∈ tX12_writesDown_2, zOk zg iX12_writesDown q.1 q.2 := (z_c (ok_iload dX12_writesDown_41) (z_c (ok_iconst (v := (3)) dX12_writesDown_43 (by decide)) (z_c (ok_iadd dX12_writesDown_44) (z_c (ok_iaload rfl dX12_writesDown_45) (z_c (ok_iastore rfl dX12_writesDown_46) (z_c (ok_iinc (v := (1)) dX12_writesDown_47 (by decide)) (z_c (ok_goto dX12_writesDown_50 (by decide)) (z_c (ok_aload_n dX12_writesDown_53 rfl) (z_c (ok_getf (C := RX12) (T := TX12) (N := 73) rfl (by decide) zinX12 rfl zw_740 dX12_writesDown_54) (z_c (ok_iload_n dX12_writesDown_57 rfl) (z_c (ok_dup2 dX12_writesDown_58) (z_c (ok_iaload rfl dX12_writesDown_59) z_n))))))))))))
noncomputable def tX12_writesDown_3 : List (Nat × zF) := [(60, (zst 1 (zp (.int (1))))), (61, (zst 1 z_isub)), (62, (zas 0)), (63, (zst 1 (zp (.int (3))))), (64, (zst 2 (zp (.int (40))))), (66, (zli4 1 1)), (67, (zst 1 z_imul)), (68, (zla4 0 1)), (69, (zgf 12 52)), (72, (zli4 1 1)), (73, (zal 0)), (74, (zst 1 z_iadd))]
theorem kX12_writesDown_3 : ∀ q ∈ tX12_writesDown_3, zOk zg iX12_writesDown q.1 q.2 := (z_c (ok_iconst (v := (1)) dX12_writesDown_60 (by decide)) (z_c (ok_isub dX12_writesDown_61) (z_c (ok_iastore rfl dX12_writesDown_62) (z_c (ok_iconst (v := (3)) dX12_writesDown_63 (by decide)) (z_c (ok_bipush (v := (40)) dX12_writesDown_64 (by decide)) (z_c (ok_iload_n dX12_writesDown_66 rfl) (z_c (ok_imul dX12_writesDown_67) (z_c (ok_aload_n dX12_writesDown_68 rfl) (z_c (ok_getf (C := RX12) (T := TX12) (N := 73) rfl (by decide) zinX12 rfl zw_740 dX12_writesDown_69) (z_c (ok_iload_n dX12_writesDown_72 rfl) (z_c (ok_iaload rfl dX12_writesDown_73) (z_c (ok_iadd dX12_writesDown_74) z_n))))))))))))
noncomputable def tX12_writesDown_4 : List (Nat × zF) := [(75, (zst 1 z_imul)), (76, (zsi4 5 4 2)), (78, (zla4 0 1)), (79, (zgf 12 53)), (82, (zli4 4 2)), (84, (zla4 0 1)), (85, (zgf 12 48)), (88, (zli4 1 1)), (89, (zal 0)), (90, (zas 0)), (91, (zla4 0 1)), (92, (zgf 12 53))]
theorem kX12_writesDown_4 : ∀ q ∈ tX12_writesDown_4, zOk zg iX12_writesDown q.1 q.2 := (z_c (ok_imul dX12_writesDown_75) (z_c (ok_istore dX12_writesDown_76) (z_c (ok_aload_n dX12_writesDown_78 rfl) (z_c (ok_getf (C := RX12) (T := TX12) (N := 73) rfl (by decide) zinX12 rfl zw_741 dX12_writesDown_79) (z_c (ok_iload dX12_writesDown_82) (z_c (ok_aload_n dX12_writesDown_84 rfl) (z_c (ok_getf (C := RX12) (T := TX12) (N := 73) rfl (by decide) zinX12 rfl zw_736 dX12_writesDown_85) (z_c (ok_iload_n dX12_writesDown_88 rfl) (z_c (ok_iaload rfl dX12_writesDown_89) (z_c (ok_iastore rfl dX12_writesDown_90) (z_c (ok_aload_n dX12_writesDown_91 rfl) (z_c (ok_getf (C := RX12) (T := TX12) (N := 73) rfl (by decide) zinX12 rfl zw_741 dX12_writesDown_92) z_n))))))))))))
noncomputable def tX12_writesDown_5 : List (Nat × zF) := [(95, (zli4 4 2)), (97, (zst 1 (zp (.int (1))))), (98, (zst 1 z_iadd)), (99, (zli4 2 1)), (100, (zas 0)), (101, (zla4 0 1)), (102, (zgf 12 53)), (105, (zli4 4 2)), (107, (zst 1 (zp (.int (2))))), (108, (zst 1 z_iadd)), (109, (zli4 3 1)), (110, (zas 0))]
theorem kX12_writesDown_5 : ∀ q ∈ tX12_writesDown_5, zOk zg iX12_writesDown q.1 q.2 := (z_c (ok_iload dX12_writesDown_95) (z_c (ok_iconst (v := (1)) dX12_writesDown_97 (by decide)) (z_c (ok_iadd dX12_writesDown_98) (z_c (ok_iload_n dX12_writesDown_99 rfl) (z_c (ok_iastore rfl dX12_writesDown_100) (z_c (ok_aload_n dX12_writesDown_101 rfl) (z_c (ok_getf (C := RX12) (T := TX12) (N := 73) rfl (by decide) zinX12 rfl zw_741 dX12_writesDown_102) (z_c (ok_iload dX12_writesDown_105) (z_c (ok_iconst (v := (2)) dX12_writesDown_107 (by decide)) (z_c (ok_iadd dX12_writesDown_108) (z_c (ok_iload_n dX12_writesDown_109 rfl) (z_c (ok_iastore rfl dX12_writesDown_110) z_n))))))))))))
noncomputable def tX12_writesDown_6 : List (Nat × zF) := [(111, (zla4 0 1)), (112, (zgf 12 52)), (115, (zli4 1 1)), (116, (zst 1 zd2)), (117, (zal 0)), (118, (zst 1 (zp (.int (1))))), (119, (zst 1 z_iadd)), (120, (zas 0)), (121, zrv)]
theorem kX12_writesDown_6 : ∀ q ∈ tX12_writesDown_6, zOk zg iX12_writesDown q.1 q.2 := (z_c (ok_aload_n dX12_writesDown_111 rfl) (z_c (ok_getf (C := RX12) (T := TX12) (N := 73) rfl (by decide) zinX12 rfl zw_740 dX12_writesDown_112) (z_c (ok_iload_n dX12_writesDown_115 rfl) (z_c (ok_dup2 dX12_writesDown_116) (z_c (ok_iaload rfl dX12_writesDown_117) (z_c (ok_iconst (v := (1)) dX12_writesDown_118 (by decide)) (z_c (ok_iadd dX12_writesDown_119) (z_c (ok_iastore rfl dX12_writesDown_120) (z_c (ok_return rfl dX12_writesDown_121) z_n)))))))))
noncomputable def tX12_writesDown : zT := [(21, tX12_writesDown_0), (41, tX12_writesDown_1), (60, tX12_writesDown_2), (75, tX12_writesDown_3), (95, tX12_writesDown_4), (111, tX12_writesDown_5), (100000, tX12_writesDown_6)]
theorem kX12_writesDown : zTok zg iX12_writesDown tX12_writesDown := (z_t kX12_writesDown_0 (z_t kX12_writesDown_1 (z_t kX12_writesDown_2 (z_t kX12_writesDown_3 (z_t kX12_writesDown_4 (z_t kX12_writesDown_5 (z_t kX12_writesDown_6 z_tn)))))))
theorem dX12_turnsOver_0 : decode cX12_turnsOver 0 = .ok (.aload_n 0, 1) := by decide +kernel
theorem dX12_turnsOver_1 : decode cX12_turnsOver 1 = .ok (.getfield 162, 3) := by decide +kernel
theorem dX12_turnsOver_4 : decode cX12_turnsOver 4 = .ok (.iload_n 1, 1) := by decide +kernel
theorem dX12_turnsOver_5 : decode cX12_turnsOver 5 = .ok (.dup2, 1) := by decide +kernel
theorem dX12_turnsOver_6 : decode cX12_turnsOver 6 = .ok (.iaload, 1) := by decide +kernel
theorem dX12_turnsOver_7 : decode cX12_turnsOver 7 = .ok (.iconst 1, 1) := by decide +kernel
theorem dX12_turnsOver_8 : decode cX12_turnsOver 8 = .ok (.iload_n 2, 1) := by decide +kernel
theorem dX12_turnsOver_9 : decode cX12_turnsOver 9 = .ok (.ishl, 1) := by decide +kernel
theorem dX12_turnsOver_10 : decode cX12_turnsOver 10 = .ok (.ixor, 1) := by decide +kernel
theorem dX12_turnsOver_11 : decode cX12_turnsOver 11 = .ok (.iastore, 1) := by decide +kernel
theorem dX12_turnsOver_12 : decode cX12_turnsOver 12 = .ok (.aload_n 0, 1) := by decide +kernel
theorem dX12_turnsOver_13 : decode cX12_turnsOver 13 = .ok (.getfield 165, 3) := by decide +kernel
theorem dX12_turnsOver_16 : decode cX12_turnsOver 16 = .ok (.bipush 9, 2) := by decide +kernel
theorem dX12_turnsOver_18 : decode cX12_turnsOver 18 = .ok (.iload_n 1, 1) := by decide +kernel
theorem dX12_turnsOver_19 : decode cX12_turnsOver 19 = .ok (.imul, 1) := by decide +kernel
theorem dX12_turnsOver_20 : decode cX12_turnsOver 20 = .ok (.iload_n 2, 1) := by decide +kernel
theorem dX12_turnsOver_21 : decode cX12_turnsOver 21 = .ok (.iadd, 1) := by decide +kernel
theorem dX12_turnsOver_22 : decode cX12_turnsOver 22 = .ok (.iconst 0, 1) := by decide +kernel
theorem dX12_turnsOver_23 : decode cX12_turnsOver 23 = .ok (.iastore, 1) := by decide +kernel
theorem dX12_turnsOver_24 : decode cX12_turnsOver 24 = .ok (.aload_n 0, 1) := by decide +kernel
theorem dX12_turnsOver_25 : decode cX12_turnsOver 25 = .ok (.iload_n 1, 1) := by decide +kernel
theorem dX12_turnsOver_26 : decode cX12_turnsOver 26 = .ok (.iload_n 2, 1) := by decide +kernel
theorem dX12_turnsOver_27 : decode cX12_turnsOver 27 = .ok (.aload_n 0, 1) := by decide +kernel
theorem dX12_turnsOver_28 : decode cX12_turnsOver 28 = .ok (.getfield 162, 3) := by decide +kernel
theorem dX12_turnsOver_31 : decode cX12_turnsOver 31 = .ok (.iload_n 1, 1) := by decide +kernel
theorem dX12_turnsOver_32 : decode cX12_turnsOver 32 = .ok (.iaload, 1) := by decide +kernel
theorem dX12_turnsOver_33 : decode cX12_turnsOver 33 = .ok (.iload_n 2, 1) := by decide +kernel
theorem dX12_turnsOver_34 : decode cX12_turnsOver 34 = .ok (.invokestatic 382, 3) := by decide +kernel
theorem dX12_turnsOver_37 : decode cX12_turnsOver 37 = .ok (.ifCond .eq 7, 3) := by decide +kernel
theorem dX12_turnsOver_40 : decode cX12_turnsOver 40 = .ok (.iconst 0, 1) := by decide +kernel
theorem dX12_turnsOver_41 : decode cX12_turnsOver 41 = .ok (.goto 4, 3) := by decide +kernel
theorem dX12_turnsOver_44 : decode cX12_turnsOver 44 = .ok (.iconst 1, 1) := by decide +kernel
theorem dX12_turnsOver_45 : decode cX12_turnsOver 45 = .ok (.invokevirtual 482, 3) := by decide +kernel
theorem dX12_turnsOver_48 : decode cX12_turnsOver 48 = .ok (.return_, 1) := by decide +kernel
noncomputable def tX12_turnsOver_0 : List (Nat × zF) := [(0, (zla4 0 1)), (1, (zgf 12 49)), (4, (zli4 1 1)), (5, (zst 1 zd2)), (6, (zal 0)), (7, (zst 1 (zp (.int (1))))), (8, (zli4 2 1)), (9, (zst 1 z_ishl)), (10, (zst 1 z_ixor)), (11, (zas 0)), (12, (zla4 0 1)), (13, (zgf 12 50))]
theorem kX12_turnsOver_0 : ∀ q ∈ tX12_turnsOver_0, zOk zg iX12_turnsOver q.1 q.2 := (z_c (ok_aload_n dX12_turnsOver_0 rfl) (z_c (ok_getf (C := RX12) (T := TX12) (N := 73) rfl (by decide) zinX12 rfl zw_737 dX12_turnsOver_1) (z_c (ok_iload_n dX12_turnsOver_4 rfl) (z_c (ok_dup2 dX12_turnsOver_5) (z_c (ok_iaload rfl dX12_turnsOver_6) (z_c (ok_iconst (v := (1)) dX12_turnsOver_7 (by decide)) (z_c (ok_iload_n dX12_turnsOver_8 rfl) (z_c (ok_ishl dX12_turnsOver_9) (z_c (ok_ixor dX12_turnsOver_10) (z_c (ok_iastore rfl dX12_turnsOver_11) (z_c (ok_aload_n dX12_turnsOver_12 rfl) (z_c (ok_getf (C := RX12) (T := TX12) (N := 73) rfl (by decide) zinX12 rfl zw_738 dX12_turnsOver_13) z_n))))))))))))
noncomputable def tX12_turnsOver_1 : List (Nat × zF) := [(16, (zst 2 (zp (.int (9))))), (18, (zli4 1 1)), (19, (zst 1 z_imul)), (20, (zli4 2 1)), (21, (zst 1 z_iadd)), (22, (zst 1 (zp (.int (0))))), (23, (zas 0)), (24, (zla4 0 1)), (25, (zli4 1 1)), (26, (zli4 2 1)), (27, (zla4 0 1)), (28, (zgf 12 49))]
theorem kX12_turnsOver_1 : ∀ q ∈ tX12_turnsOver_1, zOk zg iX12_turnsOver q.1 q.2 := (z_c (ok_bipush (v := (9)) dX12_turnsOver_16 (by decide)) (z_c (ok_iload_n dX12_turnsOver_18 rfl) (z_c (ok_imul dX12_turnsOver_19) (z_c (ok_iload_n dX12_turnsOver_20 rfl) (z_c (ok_iadd dX12_turnsOver_21) (z_c (ok_iconst (v := (0)) dX12_turnsOver_22 (by decide)) (z_c (ok_iastore rfl dX12_turnsOver_23) (z_c (ok_aload_n dX12_turnsOver_24 rfl) (z_c (ok_iload_n dX12_turnsOver_25 rfl) (z_c (ok_iload_n dX12_turnsOver_26 rfl) (z_c (ok_aload_n dX12_turnsOver_27 rfl) (z_c (ok_getf (C := RX12) (T := TX12) (N := 73) rfl (by decide) zinX12 rfl zw_737 dX12_turnsOver_28) z_n))))))))))))
noncomputable def tX12_turnsOver_2 : List (Nat × zF) := [(31, (zli4 1 1)), (32, (zal 0)), (33, (zli4 2 1)), (34, (zcs 193 2)), (37, (z_if_eq 44)), (40, (zst 1 (zp (.int (0))))), (41, (zgt 45)), (44, (zst 1 (zp (.int (1))))), (45, (zcv 232 3 12)), (48, zrv)]
theorem kX12_turnsOver_2 : ∀ q ∈ tX12_turnsOver_2, zOk zg iX12_turnsOver q.1 q.2 := (z_c (ok_iload_n dX12_turnsOver_31 rfl) (z_c (ok_iaload rfl dX12_turnsOver_32) (z_c (ok_iload_n dX12_turnsOver_33 rfl) (z_c (ok_callS zcal_193 zw_866 zw_867 dX12_turnsOver_34) (z_c (ok_if_eq dX12_turnsOver_37 (by decide)) (z_c (ok_iconst (v := (0)) dX12_turnsOver_40 (by decide)) (z_c (ok_goto dX12_turnsOver_41 (by decide)) (z_c (ok_iconst (v := (1)) dX12_turnsOver_44 (by decide)) (z_c (ok_callV zcal_232 (q := (RX12, TX12, 73)) rfl zw_951 zw_952 zw_953 dX12_turnsOver_45) (z_c (ok_return rfl dX12_turnsOver_48) z_n))))))))))
noncomputable def tX12_turnsOver : zT := [(16, tX12_turnsOver_0), (31, tX12_turnsOver_1), (100000, tX12_turnsOver_2)]
theorem kX12_turnsOver : zTok zg iX12_turnsOver tX12_turnsOver := (z_t kX12_turnsOver_0 (z_t kX12_turnsOver_1 (z_t kX12_turnsOver_2 z_tn)))
theorem dX12_isTurned_0 : decode cX12_isTurned 0 = .ok (.aload_n 0, 1) := by decide +kernel
theorem dX12_isTurned_1 : decode cX12_isTurned 1 = .ok (.getfield 162, 3) := by decide +kernel
theorem dX12_isTurned_4 : decode cX12_isTurned 4 = .ok (.iload_n 1, 1) := by decide +kernel
theorem dX12_isTurned_5 : decode cX12_isTurned 5 = .ok (.iaload, 1) := by decide +kernel
theorem dX12_isTurned_6 : decode cX12_isTurned 6 = .ok (.iload_n 2, 1) := by decide +kernel
theorem dX12_isTurned_7 : decode cX12_isTurned 7 = .ok (.invokestatic 382, 3) := by decide +kernel
theorem dX12_isTurned_10 : decode cX12_isTurned 10 = .ok (.istore_n 3, 1) := by decide +kernel
theorem dX12_isTurned_11 : decode cX12_isTurned 11 = .ok (.iconst 0, 1) := by decide +kernel
theorem dX12_isTurned_12 : decode cX12_isTurned 12 = .ok (.istore 4, 2) := by decide +kernel
theorem dX12_isTurned_14 : decode cX12_isTurned 14 = .ok (.iconst 0, 1) := by decide +kernel
theorem dX12_isTurned_15 : decode cX12_isTurned 15 = .ok (.istore 5, 2) := by decide +kernel
theorem dX12_isTurned_17 : decode cX12_isTurned 17 = .ok (.iload 5, 2) := by decide +kernel
theorem dX12_isTurned_19 : decode cX12_isTurned 19 = .ok (.aload_n 0, 1) := by decide +kernel
theorem dX12_isTurned_20 : decode cX12_isTurned 20 = .ok (.getfield 84, 3) := by decide +kernel
theorem dX12_isTurned_23 : decode cX12_isTurned 23 = .ok (.aload_n 0, 1) := by decide +kernel
theorem dX12_isTurned_24 : decode cX12_isTurned 24 = .ok (.getfield 51, 3) := by decide +kernel
theorem dX12_isTurned_27 : decode cX12_isTurned 27 = .ok (.iaload, 1) := by decide +kernel
theorem dX12_isTurned_28 : decode cX12_isTurned 28 = .ok (.if_icmp .ge 48, 3) := by decide +kernel
theorem dX12_isTurned_31 : decode cX12_isTurned 31 = .ok (.iload 4, 2) := by decide +kernel
theorem dX12_isTurned_33 : decode cX12_isTurned 33 = .ok (.aload_n 0, 1) := by decide +kernel
theorem dX12_isTurned_34 : decode cX12_isTurned 34 = .ok (.getfield 168, 3) := by decide +kernel
theorem dX12_isTurned_37 : decode cX12_isTurned 37 = .ok (.bipush 6, 2) := by decide +kernel
theorem dX12_isTurned_39 : decode cX12_isTurned 39 = .ok (.iload_n 1, 1) := by decide +kernel
theorem dX12_isTurned_40 : decode cX12_isTurned 40 = .ok (.imul, 1) := by decide +kernel
theorem dX12_isTurned_41 : decode cX12_isTurned 41 = .ok (.iload 5, 2) := by decide +kernel
theorem dX12_isTurned_43 : decode cX12_isTurned 43 = .ok (.iadd, 1) := by decide +kernel
theorem dX12_isTurned_44 : decode cX12_isTurned 44 = .ok (.iaload, 1) := by decide +kernel
theorem dX12_isTurned_45 : decode cX12_isTurned 45 = .ok (.aload_n 0, 1) := by decide +kernel
theorem dX12_isTurned_46 : decode cX12_isTurned 46 = .ok (.getfield 72, 3) := by decide +kernel
theorem dX12_isTurned_49 : decode cX12_isTurned 49 = .ok (.bipush 9, 2) := by decide +kernel
theorem dX12_isTurned_51 : decode cX12_isTurned 51 = .ok (.aload_n 0, 1) := by decide +kernel
theorem dX12_isTurned_52 : decode cX12_isTurned 52 = .ok (.getfield 51, 3) := by decide +kernel
theorem dX12_isTurned_55 : decode cX12_isTurned 55 = .ok (.imul, 1) := by decide +kernel
theorem dX12_isTurned_56 : decode cX12_isTurned 56 = .ok (.iload_n 2, 1) := by decide +kernel
theorem dX12_isTurned_57 : decode cX12_isTurned 57 = .ok (.iadd, 1) := by decide +kernel
theorem dX12_isTurned_58 : decode cX12_isTurned 58 = .ok (.iaload, 1) := by decide +kernel
theorem dX12_isTurned_59 : decode cX12_isTurned 59 = .ok (.if_icmp .ne 7, 3) := by decide +kernel
theorem dX12_isTurned_62 : decode cX12_isTurned 62 = .ok (.iconst 1, 1) := by decide +kernel
theorem dX12_isTurned_63 : decode cX12_isTurned 63 = .ok (.goto 4, 3) := by decide +kernel
theorem dX12_isTurned_66 : decode cX12_isTurned 66 = .ok (.iconst 0, 1) := by decide +kernel
theorem dX12_isTurned_67 : decode cX12_isTurned 67 = .ok (.iadd, 1) := by decide +kernel
theorem dX12_isTurned_68 : decode cX12_isTurned 68 = .ok (.istore 4, 2) := by decide +kernel
theorem dX12_isTurned_70 : decode cX12_isTurned 70 = .ok (.iinc 5 1, 3) := by decide +kernel
theorem dX12_isTurned_73 : decode cX12_isTurned 73 = .ok (.goto (-56), 3) := by decide +kernel
theorem dX12_isTurned_76 : decode cX12_isTurned 76 = .ok (.aload_n 0, 1) := by decide +kernel
theorem dX12_isTurned_77 : decode cX12_isTurned 77 = .ok (.iload_n 3, 1) := by decide +kernel
theorem dX12_isTurned_78 : decode cX12_isTurned 78 = .ok (.ifCond .eq 7, 3) := by decide +kernel
theorem dX12_isTurned_81 : decode cX12_isTurned 81 = .ok (.iconst 1, 1) := by decide +kernel
theorem dX12_isTurned_82 : decode cX12_isTurned 82 = .ok (.goto 4, 3) := by decide +kernel
theorem dX12_isTurned_85 : decode cX12_isTurned 85 = .ok (.iconst 2, 1) := by decide +kernel
theorem dX12_isTurned_86 : decode cX12_isTurned 86 = .ok (.invokevirtual 453, 3) := by decide +kernel
theorem dX12_isTurned_89 : decode cX12_isTurned 89 = .ok (.ifCond .ne 18, 3) := by decide +kernel
theorem dX12_isTurned_92 : decode cX12_isTurned 92 = .ok (.iload_n 3, 1) := by decide +kernel
theorem dX12_isTurned_93 : decode cX12_isTurned 93 = .ok (.ifCond .eq 12, 3) := by decide +kernel
theorem dX12_isTurned_96 : decode cX12_isTurned 96 = .ok (.iload 4, 2) := by decide +kernel
theorem dX12_isTurned_98 : decode cX12_isTurned 98 = .ok (.ifCond .le 7, 3) := by decide +kernel
theorem dX12_isTurned_101 : decode cX12_isTurned 101 = .ok (.iconst 1, 1) := by decide +kernel
theorem dX12_isTurned_102 : decode cX12_isTurned 102 = .ok (.goto 4, 3) := by decide +kernel
theorem dX12_isTurned_105 : decode cX12_isTurned 105 = .ok (.iconst 0, 1) := by decide +kernel
theorem dX12_isTurned_106 : decode cX12_isTurned 106 = .ok (.ireturn, 1) := by decide +kernel
theorem dX12_isTurned_107 : decode cX12_isTurned 107 = .ok (.aload_n 0, 1) := by decide +kernel
theorem dX12_isTurned_108 : decode cX12_isTurned 108 = .ok (.iload_n 1, 1) := by decide +kernel
theorem dX12_isTurned_109 : decode cX12_isTurned 109 = .ok (.iload_n 2, 1) := by decide +kernel
theorem dX12_isTurned_110 : decode cX12_isTurned 110 = .ok (.invokevirtual 456, 3) := by decide +kernel
theorem dX12_isTurned_113 : decode cX12_isTurned 113 = .ok (.aload_n 0, 1) := by decide +kernel
theorem dX12_isTurned_114 : decode cX12_isTurned 114 = .ok (.getfield 192, 3) := by decide +kernel
theorem dX12_isTurned_117 : decode cX12_isTurned 117 = .ok (.bipush 6, 2) := by decide +kernel
theorem dX12_isTurned_119 : decode cX12_isTurned 119 = .ok (.iload 4, 2) := by decide +kernel
theorem dX12_isTurned_121 : decode cX12_isTurned 121 = .ok (.iastore, 1) := by decide +kernel
theorem dX12_isTurned_122 : decode cX12_isTurned 122 = .ok (.aload_n 0, 1) := by decide +kernel
theorem dX12_isTurned_123 : decode cX12_isTurned 123 = .ok (.iload_n 3, 1) := by decide +kernel
theorem dX12_isTurned_124 : decode cX12_isTurned 124 = .ok (.ifCond .eq 7, 3) := by decide +kernel
theorem dX12_isTurned_127 : decode cX12_isTurned 127 = .ok (.iconst 1, 1) := by decide +kernel
theorem dX12_isTurned_128 : decode cX12_isTurned 128 = .ok (.goto 4, 3) := by decide +kernel
theorem dX12_isTurned_131 : decode cX12_isTurned 131 = .ok (.iconst 2, 1) := by decide +kernel
theorem dX12_isTurned_132 : decode cX12_isTurned 132 = .ok (.invokevirtual 459, 3) := by decide +kernel
theorem dX12_isTurned_135 : decode cX12_isTurned 135 = .ok (.lconst 1, 1) := by decide +kernel
theorem dX12_isTurned_136 : decode cX12_isTurned 136 = .ok (.lcmp, 1) := by decide +kernel
theorem dX12_isTurned_137 : decode cX12_isTurned 137 = .ok (.ifCond .ne 7, 3) := by decide +kernel
theorem dX12_isTurned_140 : decode cX12_isTurned 140 = .ok (.iconst 1, 1) := by decide +kernel
theorem dX12_isTurned_141 : decode cX12_isTurned 141 = .ok (.goto 4, 3) := by decide +kernel
theorem dX12_isTurned_144 : decode cX12_isTurned 144 = .ok (.iconst 0, 1) := by decide +kernel
theorem dX12_isTurned_145 : decode cX12_isTurned 145 = .ok (.ireturn, 1) := by decide +kernel
noncomputable def tX12_isTurned_0 : List (Nat × zF) := [(0, (zla4 0 1)), (1, (zgf 12 49)), (4, (zli4 1 1)), (5, (zal 0)), (6, (zli4 2 1)), (7, (zcs 193 2)), (10, (zsi4 6 3 1)), (11, (zst 1 (zp (.int (0))))), (12, (zsi4 6 4 2)), (14, (zst 1 (zp (.int (0))))), (15, (zsi4 6 5 2)), (17, (zli4 5 2))]
theorem kX12_isTurned_0 : ∀ q ∈ tX12_isTurned_0, zOk zg iX12_isTurned q.1 q.2 := (z_c (ok_aload_n dX12_isTurned_0 rfl) (z_c (ok_getf (C := RX12) (T := TX12) (N := 73) rfl (by decide) zinX12 rfl zw_737 dX12_isTurned_1) (z_c (ok_iload_n dX12_isTurned_4 rfl) (z_c (ok_iaload rfl dX12_isTurned_5) (z_c (ok_iload_n dX12_isTurned_6 rfl) (z_c (ok_callS zcal_193 zw_866 zw_867 dX12_isTurned_7) (z_c (ok_istore_n dX12_isTurned_10 rfl) (z_c (ok_iconst (v := (0)) dX12_isTurned_11 (by decide)) (z_c (ok_istore dX12_isTurned_12) (z_c (ok_iconst (v := (0)) dX12_isTurned_14 (by decide)) (z_c (ok_istore dX12_isTurned_15) (z_c (ok_iload dX12_isTurned_17) z_n))))))))))))
noncomputable def tX12_isTurned_1 : List (Nat × zF) := [(19, (zla4 0 1)), (20, (zgf 12 24)), (23, (zla4 0 1)), (24, (zgf 12 13)), (27, (zal 0)), (28, (z_ic_ge 76)), (31, (zli4 4 2)), (33, (zla4 0 1)), (34, (zgf 12 51)), (37, (zst 2 (zp (.int (6))))), (39, (zli4 1 1)), (40, (zst 1 z_imul))]
theorem kX12_isTurned_1 : ∀ q ∈ tX12_isTurned_1, zOk zg iX12_isTurned q.1 q.2 := (z_c (ok_aload_n dX12_isTurned_19 rfl) (z_c (ok_getf (C := RX12) (T := TX12) (N := 73) rfl (by decide) zinX12 rfl zw_711 dX12_isTurned_20) (z_c (ok_aload_n dX12_isTurned_23 rfl) (z_c (ok_getf (C := RX12) (T := TX12) (N := 73) rfl (by decide) zinX12 rfl zw_700 dX12_isTurned_24) (z_c (ok_iaload rfl dX12_isTurned_27) (z_c (ok_icmp_ge dX12_isTurned_28 (by decide)) (z_c (ok_iload dX12_isTurned_31) (z_c (ok_aload_n dX12_isTurned_33 rfl) (z_c (ok_getf (C := RX12) (T := TX12) (N := 73) rfl (by decide) zinX12 rfl zw_739 dX12_isTurned_34) (z_c (ok_bipush (v := (6)) dX12_isTurned_37 (by decide)) (z_c (ok_iload_n dX12_isTurned_39 rfl) (z_c (ok_imul dX12_isTurned_40) z_n))))))))))))
noncomputable def tX12_isTurned_2 : List (Nat × zF) := [(41, (zli4 5 2)), (43, (zst 1 z_iadd)), (44, (zal 0)), (45, (zla4 0 1)), (46, (zgf 12 20)), (49, (zst 2 (zp (.int (9))))), (51, (zla4 0 1)), (52, (zgf 12 13)), (55, (zst 1 z_imul)), (56, (zli4 2 1)), (57, (zst 1 z_iadd)), (58, (zal 0))]
theorem kX12_isTurned_2 : ∀ q ∈ tX12_isTurned_2, zOk zg iX12_isTurned q.1 q.2 := (z_c (ok_iload dX12_isTurned_41) (z_c (ok_iadd dX12_isTurned_43) (z_c (ok_iaload rfl dX12_isTurned_44) (z_c (ok_aload_n dX12_isTurned_45 rfl) (z_c (ok_getf (C := RX12) (T := TX12) (N := 73) rfl (by decide) zinX12 rfl zw_707 dX12_isTurned_46) (z_c (ok_bipush (v := (9)) dX12_isTurned_49 (by decide)) (z_c (ok_aload_n dX12_isTurned_51 rfl) (z_c (ok_getf (C := RX12) (T := TX12) (N := 73) rfl (by decide) zinX12 rfl zw_700 dX12_isTurned_52) (z_c (ok_imul dX12_isTurned_55) (z_c (ok_iload_n dX12_isTurned_56 rfl) (z_c (ok_iadd dX12_isTurned_57) (z_c (ok_iaload rfl dX12_isTurned_58) z_n))))))))))))
noncomputable def tX12_isTurned_3 : List (Nat × zF) := [(59, (z_ic_ne 66)), (62, (zst 1 (zp (.int (1))))), (63, (zgt 67)), (66, (zst 1 (zp (.int (0))))), (67, (zst 1 z_iadd)), (68, (zsi4 6 4 2)), (70, (zin4 6 5 (1))), (73, (zgt 17)), (76, (zla4 0 1)), (77, (zli4 3 1)), (78, (z_if_eq 85)), (81, (zst 1 (zp (.int (1)))))]
theorem kX12_isTurned_3 : ∀ q ∈ tX12_isTurned_3, zOk zg iX12_isTurned q.1 q.2 := (z_c (ok_icmp_ne dX12_isTurned_59 (by decide)) (z_c (ok_iconst (v := (1)) dX12_isTurned_62 (by decide)) (z_c (ok_goto dX12_isTurned_63 (by decide)) (z_c (ok_iconst (v := (0)) dX12_isTurned_66 (by decide)) (z_c (ok_iadd dX12_isTurned_67) (z_c (ok_istore dX12_isTurned_68) (z_c (ok_iinc (v := (1)) dX12_isTurned_70 (by decide)) (z_c (ok_goto dX12_isTurned_73 (by decide)) (z_c (ok_aload_n dX12_isTurned_76 rfl) (z_c (ok_iload_n dX12_isTurned_77 rfl) (z_c (ok_if_eq dX12_isTurned_78 (by decide)) (z_c (ok_iconst (v := (1)) dX12_isTurned_81 (by decide)) z_n))))))))))))
noncomputable def tX12_isTurned_4 : List (Nat × zF) := [(82, (zgt 86)), (85, (zst 1 (zp (.int (2))))), (86, (zcv 219 1 12)), (89, (z_if_ne 107)), (92, (zli4 3 1)), (93, (z_if_eq 105)), (96, (zli4 4 2)), (98, (z_if_le 105)), (101, (zst 1 (zp (.int (1))))), (102, (zgt 106)), (105, (zst 1 (zp (.int (0))))), (106, (zri true))]
theorem kX12_isTurned_4 : ∀ q ∈ tX12_isTurned_4, zOk zg iX12_isTurned q.1 q.2 := (z_c (ok_goto dX12_isTurned_82 (by decide)) (z_c (ok_iconst (v := (2)) dX12_isTurned_85 (by decide)) (z_c (ok_callV zcal_219 (q := (RX12, TX12, 73)) rfl zw_926 zw_927 zw_928 dX12_isTurned_86) (z_c (ok_if_ne dX12_isTurned_89 (by decide)) (z_c (ok_iload_n dX12_isTurned_92 rfl) (z_c (ok_if_eq dX12_isTurned_93 (by decide)) (z_c (ok_iload dX12_isTurned_96) (z_c (ok_if_le dX12_isTurned_98 (by decide)) (z_c (ok_iconst (v := (1)) dX12_isTurned_101 (by decide)) (z_c (ok_goto dX12_isTurned_102 (by decide)) (z_c (ok_iconst (v := (0)) dX12_isTurned_105 (by decide)) (z_c (ok_zreturn rfl dX12_isTurned_106) z_n))))))))))))
noncomputable def tX12_isTurned_5 : List (Nat × zF) := [(107, (zla4 0 1)), (108, (zli4 1 1)), (109, (zli4 2 1)), (110, (zcv 225 2 12)), (113, (zla4 0 1)), (114, (zgf 12 59)), (117, (zst 2 (zp (.int (6))))), (119, (zli4 4 2)), (121, (zas 0)), (122, (zla4 0 1)), (123, (zli4 3 1)), (124, (z_if_eq 131))]
theorem kX12_isTurned_5 : ∀ q ∈ tX12_isTurned_5, zOk zg iX12_isTurned q.1 q.2 := (z_c (ok_aload_n dX12_isTurned_107 rfl) (z_c (ok_iload_n dX12_isTurned_108 rfl) (z_c (ok_iload_n dX12_isTurned_109 rfl) (z_c (ok_callV zcal_225 (q := (RX12, TX12, 73)) rfl zw_929 zw_930 zw_931 dX12_isTurned_110) (z_c (ok_aload_n dX12_isTurned_113 rfl) (z_c (ok_getf (C := RX12) (T := TX12) (N := 73) rfl (by decide) zinX12 rfl zw_747 dX12_isTurned_114) (z_c (ok_bipush (v := (6)) dX12_isTurned_117 (by decide)) (z_c (ok_iload dX12_isTurned_119) (z_c (ok_iastore rfl dX12_isTurned_121) (z_c (ok_aload_n dX12_isTurned_122 rfl) (z_c (ok_iload_n dX12_isTurned_123 rfl) (z_c (ok_if_eq dX12_isTurned_124 (by decide)) z_n))))))))))))
noncomputable def tX12_isTurned_6 : List (Nat × zF) := [(127, (zst 1 (zp (.int (1))))), (128, (zgt 132)), (131, (zst 1 (zp (.int (2))))), (132, (zcv 218 1 12)), (135, (zst 1 (zp (.long (1))))), (136, (zst 1 zcm)), (137, (z_if_ne 144)), (140, (zst 1 (zp (.int (1))))), (141, (zgt 145)), (144, (zst 1 (zp (.int (0))))), (145, (zri true))]
theorem kX12_isTurned_6 : ∀ q ∈ tX12_isTurned_6, zOk zg iX12_isTurned q.1 q.2 := (z_c (ok_iconst (v := (1)) dX12_isTurned_127 (by decide)) (z_c (ok_goto dX12_isTurned_128 (by decide)) (z_c (ok_iconst (v := (2)) dX12_isTurned_131 (by decide)) (z_c (ok_callV zcal_218 (q := (RX12, TX12, 73)) rfl zw_932 zw_933 zw_934 dX12_isTurned_132) (z_c (ok_lconst (v := (1)) dX12_isTurned_135 (by decide)) (z_c (ok_lcmp dX12_isTurned_136) (z_c (ok_if_ne dX12_isTurned_137 (by decide)) (z_c (ok_iconst (v := (1)) dX12_isTurned_140 (by decide)) (z_c (ok_goto dX12_isTurned_141 (by decide)) (z_c (ok_iconst (v := (0)) dX12_isTurned_144 (by decide)) (z_c (ok_zreturn rfl dX12_isTurned_145) z_n)))))))))))
noncomputable def tX12_isTurned : zT := [(19, tX12_isTurned_0), (41, tX12_isTurned_1), (59, tX12_isTurned_2), (82, tX12_isTurned_3), (107, tX12_isTurned_4), (127, tX12_isTurned_5), (100000, tX12_isTurned_6)]
theorem kX12_isTurned : zTok zg iX12_isTurned tX12_isTurned := (z_t kX12_isTurned_0 (z_t kX12_isTurned_1 (z_t kX12_isTurned_2 (z_t kX12_isTurned_3 (z_t kX12_isTurned_4 (z_t kX12_isTurned_5 (z_t kX12_isTurned_6 z_tn)))))))
theorem dX12_ticks_0 : decode cX12_ticks 0 = .ok (.aload_n 0, 1) := by decide +kernel
theorem dX12_ticks_1 : decode cX12_ticks 1 = .ok (.iload_n 1, 1) := by decide +kernel
theorem dX12_ticks_2 : decode cX12_ticks 2 = .ok (.iload_n 2, 1) := by decide +kernel
theorem dX12_ticks_3 : decode cX12_ticks 3 = .ok (.invokevirtual 486, 3) := by decide +kernel
theorem dX12_ticks_6 : decode cX12_ticks 6 = .ok (.iconst 0, 1) := by decide +kernel
theorem dX12_ticks_7 : decode cX12_ticks 7 = .ok (.istore_n 3, 1) := by decide +kernel
theorem dX12_ticks_8 : decode cX12_ticks 8 = .ok (.iload_n 3, 1) := by decide +kernel
theorem dX12_ticks_9 : decode cX12_ticks 9 = .ok (.aload_n 0, 1) := by decide +kernel
theorem dX12_ticks_10 : decode cX12_ticks 10 = .ok (.getfield 84, 3) := by decide +kernel
theorem dX12_ticks_13 : decode cX12_ticks 13 = .ok (.aload_n 0, 1) := by decide +kernel
theorem dX12_ticks_14 : decode cX12_ticks 14 = .ok (.getfield 51, 3) := by decide +kernel
theorem dX12_ticks_17 : decode cX12_ticks 17 = .ok (.iaload, 1) := by decide +kernel
theorem dX12_ticks_18 : decode cX12_ticks 18 = .ok (.if_icmp .ge 15, 3) := by decide +kernel
theorem dX12_ticks_21 : decode cX12_ticks 21 = .ok (.aload_n 0, 1) := by decide +kernel
theorem dX12_ticks_22 : decode cX12_ticks 22 = .ok (.iload_n 1, 1) := by decide +kernel
theorem dX12_ticks_23 : decode cX12_ticks 23 = .ok (.iload_n 3, 1) := by decide +kernel
theorem dX12_ticks_24 : decode cX12_ticks 24 = .ok (.invokevirtual 489, 3) := by decide +kernel
theorem dX12_ticks_27 : decode cX12_ticks 27 = .ok (.iinc 3 1, 3) := by decide +kernel
theorem dX12_ticks_30 : decode cX12_ticks 30 = .ok (.goto (-22), 3) := by decide +kernel
theorem dX12_ticks_33 : decode cX12_ticks 33 = .ok (.iconst 0, 1) := by decide +kernel
theorem dX12_ticks_34 : decode cX12_ticks 34 = .ok (.istore_n 3, 1) := by decide +kernel
theorem dX12_ticks_35 : decode cX12_ticks 35 = .ok (.iconst 0, 1) := by decide +kernel
theorem dX12_ticks_36 : decode cX12_ticks 36 = .ok (.istore 4, 2) := by decide +kernel
theorem dX12_ticks_38 : decode cX12_ticks 38 = .ok (.iload 4, 2) := by decide +kernel
theorem dX12_ticks_40 : decode cX12_ticks 40 = .ok (.aload_n 0, 1) := by decide +kernel
theorem dX12_ticks_41 : decode cX12_ticks 41 = .ok (.getfield 69, 3) := by decide +kernel
theorem dX12_ticks_44 : decode cX12_ticks 44 = .ok (.aload_n 0, 1) := by decide +kernel
theorem dX12_ticks_45 : decode cX12_ticks 45 = .ok (.getfield 51, 3) := by decide +kernel
theorem dX12_ticks_48 : decode cX12_ticks 48 = .ok (.iaload, 1) := by decide +kernel
theorem dX12_ticks_49 : decode cX12_ticks 49 = .ok (.if_icmp .ge 30, 3) := by decide +kernel
theorem dX12_ticks_52 : decode cX12_ticks 52 = .ok (.iload_n 3, 1) := by decide +kernel
theorem dX12_ticks_53 : decode cX12_ticks 53 = .ok (.aload_n 0, 1) := by decide +kernel
theorem dX12_ticks_54 : decode cX12_ticks 54 = .ok (.iload_n 1, 1) := by decide +kernel
theorem dX12_ticks_55 : decode cX12_ticks 55 = .ok (.iload 4, 2) := by decide +kernel
theorem dX12_ticks_57 : decode cX12_ticks 57 = .ok (.invokevirtual 492, 3) := by decide +kernel
theorem dX12_ticks_60 : decode cX12_ticks 60 = .ok (.ifCond .eq 10, 3) := by decide +kernel
theorem dX12_ticks_63 : decode cX12_ticks 63 = .ok (.iconst 1, 1) := by decide +kernel
theorem dX12_ticks_64 : decode cX12_ticks 64 = .ok (.iload 4, 2) := by decide +kernel
theorem dX12_ticks_66 : decode cX12_ticks 66 = .ok (.ishl, 1) := by decide +kernel
theorem dX12_ticks_67 : decode cX12_ticks 67 = .ok (.goto 4, 3) := by decide +kernel
theorem dX12_ticks_70 : decode cX12_ticks 70 = .ok (.iconst 0, 1) := by decide +kernel
theorem dX12_ticks_71 : decode cX12_ticks 71 = .ok (.ior, 1) := by decide +kernel
theorem dX12_ticks_72 : decode cX12_ticks 72 = .ok (.istore_n 3, 1) := by decide +kernel
theorem dX12_ticks_73 : decode cX12_ticks 73 = .ok (.iinc 4 1, 3) := by decide +kernel
theorem dX12_ticks_76 : decode cX12_ticks 76 = .ok (.goto (-38), 3) := by decide +kernel
theorem dX12_ticks_79 : decode cX12_ticks 79 = .ok (.iload_n 3, 1) := by decide +kernel
theorem dX12_ticks_80 : decode cX12_ticks 80 = .ok (.aload_n 0, 1) := by decide +kernel
theorem dX12_ticks_81 : decode cX12_ticks 81 = .ok (.getfield 162, 3) := by decide +kernel
theorem dX12_ticks_84 : decode cX12_ticks 84 = .ok (.iload_n 1, 1) := by decide +kernel
theorem dX12_ticks_85 : decode cX12_ticks 85 = .ok (.iaload, 1) := by decide +kernel
theorem dX12_ticks_86 : decode cX12_ticks 86 = .ok (.iand, 1) := by decide +kernel
theorem dX12_ticks_87 : decode cX12_ticks 87 = .ok (.invokestatic 450, 3) := by decide +kernel
theorem dX12_ticks_90 : decode cX12_ticks 90 = .ok (.istore 4, 2) := by decide +kernel
theorem dX12_ticks_92 : decode cX12_ticks 92 = .ok (.iconst 0, 1) := by decide +kernel
theorem dX12_ticks_93 : decode cX12_ticks 93 = .ok (.istore 5, 2) := by decide +kernel
theorem dX12_ticks_95 : decode cX12_ticks 95 = .ok (.iload 5, 2) := by decide +kernel
theorem dX12_ticks_97 : decode cX12_ticks 97 = .ok (.aload_n 0, 1) := by decide +kernel
theorem dX12_ticks_98 : decode cX12_ticks 98 = .ok (.getfield 69, 3) := by decide +kernel
theorem dX12_ticks_101 : decode cX12_ticks 101 = .ok (.aload_n 0, 1) := by decide +kernel
theorem dX12_ticks_102 : decode cX12_ticks 102 = .ok (.getfield 51, 3) := by decide +kernel
theorem dX12_ticks_105 : decode cX12_ticks 105 = .ok (.iaload, 1) := by decide +kernel
theorem dX12_ticks_106 : decode cX12_ticks 106 = .ok (.if_icmp .ge 61, 3) := by decide +kernel
theorem dX12_ticks_109 : decode cX12_ticks 109 = .ok (.iload_n 3, 1) := by decide +kernel
theorem dX12_ticks_110 : decode cX12_ticks 110 = .ok (.iload 5, 2) := by decide +kernel
theorem dX12_ticks_112 : decode cX12_ticks 112 = .ok (.invokestatic 382, 3) := by decide +kernel
theorem dX12_ticks_115 : decode cX12_ticks 115 = .ok (.ifCond .eq 13, 3) := by decide +kernel
theorem dX12_ticks_118 : decode cX12_ticks 118 = .ok (.aload_n 0, 1) := by decide +kernel
theorem dX12_ticks_119 : decode cX12_ticks 119 = .ok (.iload_n 1, 1) := by decide +kernel
theorem dX12_ticks_120 : decode cX12_ticks 120 = .ok (.iload 5, 2) := by decide +kernel
theorem dX12_ticks_122 : decode cX12_ticks 122 = .ok (.invokevirtual 495, 3) := by decide +kernel
theorem dX12_ticks_125 : decode cX12_ticks 125 = .ok (.goto 36, 3) := by decide +kernel
theorem dX12_ticks_128 : decode cX12_ticks 128 = .ok (.aload_n 0, 1) := by decide +kernel
theorem dX12_ticks_129 : decode cX12_ticks 129 = .ok (.getfield 165, 3) := by decide +kernel
theorem dX12_ticks_132 : decode cX12_ticks 132 = .ok (.bipush 9, 2) := by decide +kernel
theorem dX12_ticks_134 : decode cX12_ticks 134 = .ok (.iload_n 1, 1) := by decide +kernel
theorem dX12_ticks_135 : decode cX12_ticks 135 = .ok (.imul, 1) := by decide +kernel
theorem dX12_ticks_136 : decode cX12_ticks 136 = .ok (.iload 5, 2) := by decide +kernel
theorem dX12_ticks_138 : decode cX12_ticks 138 = .ok (.iadd, 1) := by decide +kernel
theorem dX12_ticks_139 : decode cX12_ticks 139 = .ok (.iaload, 1) := by decide +kernel
theorem dX12_ticks_140 : decode cX12_ticks 140 = .ok (.bipush 99, 2) := by decide +kernel
theorem dX12_ticks_142 : decode cX12_ticks 142 = .ok (.if_icmp .ge 19, 3) := by decide +kernel
theorem dX12_ticks_145 : decode cX12_ticks 145 = .ok (.aload_n 0, 1) := by decide +kernel
theorem dX12_ticks_146 : decode cX12_ticks 146 = .ok (.getfield 165, 3) := by decide +kernel
theorem dX12_ticks_149 : decode cX12_ticks 149 = .ok (.bipush 9, 2) := by decide +kernel
theorem dX12_ticks_151 : decode cX12_ticks 151 = .ok (.iload_n 1, 1) := by decide +kernel
theorem dX12_ticks_152 : decode cX12_ticks 152 = .ok (.imul, 1) := by decide +kernel
theorem dX12_ticks_153 : decode cX12_ticks 153 = .ok (.iload 5, 2) := by decide +kernel
theorem dX12_ticks_155 : decode cX12_ticks 155 = .ok (.iadd, 1) := by decide +kernel
theorem dX12_ticks_156 : decode cX12_ticks 156 = .ok (.dup2, 1) := by decide +kernel
theorem dX12_ticks_157 : decode cX12_ticks 157 = .ok (.iaload, 1) := by decide +kernel
theorem dX12_ticks_158 : decode cX12_ticks 158 = .ok (.iconst 1, 1) := by decide +kernel
theorem dX12_ticks_159 : decode cX12_ticks 159 = .ok (.iadd, 1) := by decide +kernel
theorem dX12_ticks_160 : decode cX12_ticks 160 = .ok (.iastore, 1) := by decide +kernel
theorem dX12_ticks_161 : decode cX12_ticks 161 = .ok (.iinc 5 1, 3) := by decide +kernel
theorem dX12_ticks_164 : decode cX12_ticks 164 = .ok (.goto (-69), 3) := by decide +kernel
theorem dX12_ticks_167 : decode cX12_ticks 167 = .ok (.aload_n 0, 1) := by decide +kernel
theorem dX12_ticks_168 : decode cX12_ticks 168 = .ok (.getfield 159, 3) := by decide +kernel
theorem dX12_ticks_171 : decode cX12_ticks 171 = .ok (.iload_n 1, 1) := by decide +kernel
theorem dX12_ticks_172 : decode cX12_ticks 172 = .ok (.dup2, 1) := by decide +kernel
theorem dX12_ticks_173 : decode cX12_ticks 173 = .ok (.iaload, 1) := by decide +kernel
theorem dX12_ticks_174 : decode cX12_ticks 174 = .ok (.iconst 1, 1) := by decide +kernel
theorem dX12_ticks_175 : decode cX12_ticks 175 = .ok (.iadd, 1) := by decide +kernel
theorem dX12_ticks_176 : decode cX12_ticks 176 = .ok (.iastore, 1) := by decide +kernel
theorem dX12_ticks_177 : decode cX12_ticks 177 = .ok (.iload 4, 2) := by decide +kernel
theorem dX12_ticks_179 : decode cX12_ticks 179 = .ok (.ireturn, 1) := by decide +kernel
noncomputable def tX12_ticks_0 : List (Nat × zF) := [(0, (zla4 0 1)), (1, (zli4 1 1)), (2, (zli4 2 1)), (3, (zcv 228 2 12)), (6, (zst 1 (zp (.int (0))))), (7, (zsi4 6 3 1)), (8, (zli4 3 1)), (9, (zla4 0 1)), (10, (zgf 12 24)), (13, (zla4 0 1)), (14, (zgf 12 13)), (17, (zal 0))]
theorem kX12_ticks_0 : ∀ q ∈ tX12_ticks_0, zOk zg iX12_ticks q.1 q.2 := (z_c (ok_aload_n dX12_ticks_0 rfl) (z_c (ok_iload_n dX12_ticks_1 rfl) (z_c (ok_iload_n dX12_ticks_2 rfl) (z_c (ok_callV zcal_228 (q := (RX12, TX12, 73)) rfl zw_954 zw_955 zw_956 dX12_ticks_3) (z_c (ok_iconst (v := (0)) dX12_ticks_6 (by decide)) (z_c (ok_istore_n dX12_ticks_7 rfl) (z_c (ok_iload_n dX12_ticks_8 rfl) (z_c (ok_aload_n dX12_ticks_9 rfl) (z_c (ok_getf (C := RX12) (T := TX12) (N := 73) rfl (by decide) zinX12 rfl zw_711 dX12_ticks_10) (z_c (ok_aload_n dX12_ticks_13 rfl) (z_c (ok_getf (C := RX12) (T := TX12) (N := 73) rfl (by decide) zinX12 rfl zw_700 dX12_ticks_14) (z_c (ok_iaload rfl dX12_ticks_17) z_n))))))))))))
noncomputable def tX12_ticks_1 : List (Nat × zF) := [(18, (z_ic_ge 33)), (21, (zla4 0 1)), (22, (zli4 1 1)), (23, (zli4 3 1)), (24, (zcv 230 2 12)), (27, (zin4 6 3 (1))), (30, (zgt 8)), (33, (zst 1 (zp (.int (0))))), (34, (zsi4 6 3 1)), (35, (zst 1 (zp (.int (0))))), (36, (zsi4 6 4 2)), (38, (zli4 4 2))]
theorem kX12_ticks_1 : ∀ q ∈ tX12_ticks_1, zOk zg iX12_ticks q.1 q.2 := (z_c (ok_icmp_ge dX12_ticks_18 (by decide)) (z_c (ok_aload_n dX12_ticks_21 rfl) (z_c (ok_iload_n dX12_ticks_22 rfl) (z_c (ok_iload_n dX12_ticks_23 rfl) (z_c (ok_callV zcal_230 (q := (RX12, TX12, 73)) rfl zw_957 zw_958 zw_959 dX12_ticks_24) (z_c (ok_iinc (v := (1)) dX12_ticks_27 (by decide)) (z_c (ok_goto dX12_ticks_30 (by decide)) (z_c (ok_iconst (v := (0)) dX12_ticks_33 (by decide)) (z_c (ok_istore_n dX12_ticks_34 rfl) (z_c (ok_iconst (v := (0)) dX12_ticks_35 (by decide)) (z_c (ok_istore dX12_ticks_36) (z_c (ok_iload dX12_ticks_38) z_n))))))))))))
noncomputable def tX12_ticks_2 : List (Nat × zF) := [(40, (zla4 0 1)), (41, (zgf 12 19)), (44, (zla4 0 1)), (45, (zgf 12 13)), (48, (zal 0)), (49, (z_ic_ge 79)), (52, (zli4 3 1)), (53, (zla4 0 1)), (54, (zli4 1 1)), (55, (zli4 4 2)), (57, (zcv 234 2 12)), (60, (z_if_eq 70))]
theorem kX12_ticks_2 : ∀ q ∈ tX12_ticks_2, zOk zg iX12_ticks q.1 q.2 := (z_c (ok_aload_n dX12_ticks_40 rfl) (z_c (ok_getf (C := RX12) (T := TX12) (N := 73) rfl (by decide) zinX12 rfl zw_706 dX12_ticks_41) (z_c (ok_aload_n dX12_ticks_44 rfl) (z_c (ok_getf (C := RX12) (T := TX12) (N := 73) rfl (by decide) zinX12 rfl zw_700 dX12_ticks_45) (z_c (ok_iaload rfl dX12_ticks_48) (z_c (ok_icmp_ge dX12_ticks_49 (by decide)) (z_c (ok_iload_n dX12_ticks_52 rfl) (z_c (ok_aload_n dX12_ticks_53 rfl) (z_c (ok_iload_n dX12_ticks_54 rfl) (z_c (ok_iload dX12_ticks_55) (z_c (ok_callV zcal_234 (q := (RX12, TX12, 73)) rfl zw_960 zw_961 zw_962 dX12_ticks_57) (z_c (ok_if_eq dX12_ticks_60 (by decide)) z_n))))))))))))
noncomputable def tX12_ticks_3 : List (Nat × zF) := [(63, (zst 1 (zp (.int (1))))), (64, (zli4 4 2)), (66, (zst 1 z_ishl)), (67, (zgt 71)), (70, (zst 1 (zp (.int (0))))), (71, (zst 1 z_ior)), (72, (zsi4 6 3 1)), (73, (zin4 6 4 (1))), (76, (zgt 38)), (79, (zli4 3 1)), (80, (zla4 0 1)), (81, (zgf 12 49))]
theorem kX12_ticks_3 : ∀ q ∈ tX12_ticks_3, zOk zg iX12_ticks q.1 q.2 := (z_c (ok_iconst (v := (1)) dX12_ticks_63 (by decide)) (z_c (ok_iload dX12_ticks_64) (z_c (ok_ishl dX12_ticks_66) (z_c (ok_goto dX12_ticks_67 (by decide)) (z_c (ok_iconst (v := (0)) dX12_ticks_70 (by decide)) (z_c (ok_ior dX12_ticks_71) (z_c (ok_istore_n dX12_ticks_72 rfl) (z_c (ok_iinc (v := (1)) dX12_ticks_73 (by decide)) (z_c (ok_goto dX12_ticks_76 (by decide)) (z_c (ok_iload_n dX12_ticks_79 rfl) (z_c (ok_aload_n dX12_ticks_80 rfl) (z_c (ok_getf (C := RX12) (T := TX12) (N := 73) rfl (by decide) zinX12 rfl zw_737 dX12_ticks_81) z_n))))))))))))
noncomputable def tX12_ticks_4 : List (Nat × zF) := [(84, (zli4 1 1)), (85, (zal 0)), (86, (zst 1 z_iand)), (87, (zcs 220 1)), (90, (zsi4 6 4 2)), (92, (zst 1 (zp (.int (0))))), (93, (zsi4 6 5 2)), (95, (zli4 5 2)), (97, (zla4 0 1)), (98, (zgf 12 19)), (101, (zla4 0 1)), (102, (zgf 12 13))]
theorem kX12_ticks_4 : ∀ q ∈ tX12_ticks_4, zOk zg iX12_ticks q.1 q.2 := (z_c (ok_iload_n dX12_ticks_84 rfl) (z_c (ok_iaload rfl dX12_ticks_85) (z_c (ok_iand dX12_ticks_86) (z_c (ok_callS zcal_220 zw_924 zw_925 dX12_ticks_87) (z_c (ok_istore dX12_ticks_90) (z_c (ok_iconst (v := (0)) dX12_ticks_92 (by decide)) (z_c (ok_istore dX12_ticks_93) (z_c (ok_iload dX12_ticks_95) (z_c (ok_aload_n dX12_ticks_97 rfl) (z_c (ok_getf (C := RX12) (T := TX12) (N := 73) rfl (by decide) zinX12 rfl zw_706 dX12_ticks_98) (z_c (ok_aload_n dX12_ticks_101 rfl) (z_c (ok_getf (C := RX12) (T := TX12) (N := 73) rfl (by decide) zinX12 rfl zw_700 dX12_ticks_102) z_n))))))))))))
noncomputable def tX12_ticks_5 : List (Nat × zF) := [(105, (zal 0)), (106, (z_ic_ge 167)), (109, (zli4 3 1)), (110, (zli4 5 2)), (112, (zcs 193 2)), (115, (z_if_eq 128)), (118, (zla4 0 1)), (119, (zli4 1 1)), (120, (zli4 5 2)), (122, (zcv 233 2 12)), (125, (zgt 161)), (128, (zla4 0 1))]
theorem kX12_ticks_5 : ∀ q ∈ tX12_ticks_5, zOk zg iX12_ticks q.1 q.2 := (z_c (ok_iaload rfl dX12_ticks_105) (z_c (ok_icmp_ge dX12_ticks_106 (by decide)) (z_c (ok_iload_n dX12_ticks_109 rfl) (z_c (ok_iload dX12_ticks_110) (z_c (ok_callS zcal_193 zw_866 zw_867 dX12_ticks_112) (z_c (ok_if_eq dX12_ticks_115 (by decide)) (z_c (ok_aload_n dX12_ticks_118 rfl) (z_c (ok_iload_n dX12_ticks_119 rfl) (z_c (ok_iload dX12_ticks_120) (z_c (ok_callV zcal_233 (q := (RX12, TX12, 73)) rfl zw_963 zw_964 zw_965 dX12_ticks_122) (z_c (ok_goto dX12_ticks_125 (by decide)) (z_c (ok_aload_n dX12_ticks_128 rfl) z_n))))))))))))
noncomputable def tX12_ticks_6 : List (Nat × zF) := [(129, (zgf 12 50)), (132, (zst 2 (zp (.int (9))))), (134, (zli4 1 1)), (135, (zst 1 z_imul)), (136, (zli4 5 2)), (138, (zst 1 z_iadd)), (139, (zal 0)), (140, (zst 2 (zp (.int (99))))), (142, (z_ic_ge 161)), (145, (zla4 0 1)), (146, (zgf 12 50)), (149, (zst 2 (zp (.int (9)))))]
theorem kX12_ticks_6 : ∀ q ∈ tX12_ticks_6, zOk zg iX12_ticks q.1 q.2 := (z_c (ok_getf (C := RX12) (T := TX12) (N := 73) rfl (by decide) zinX12 rfl zw_738 dX12_ticks_129) (z_c (ok_bipush (v := (9)) dX12_ticks_132 (by decide)) (z_c (ok_iload_n dX12_ticks_134 rfl) (z_c (ok_imul dX12_ticks_135) (z_c (ok_iload dX12_ticks_136) (z_c (ok_iadd dX12_ticks_138) (z_c (ok_iaload rfl dX12_ticks_139) (z_c (ok_bipush (v := (99)) dX12_ticks_140 (by decide)) (z_c (ok_icmp_ge dX12_ticks_142 (by decide)) (z_c (ok_aload_n dX12_ticks_145 rfl) (z_c (ok_getf (C := RX12) (T := TX12) (N := 73) rfl (by decide) zinX12 rfl zw_738 dX12_ticks_146) (z_c (ok_bipush (v := (9)) dX12_ticks_149 (by decide)) z_n))))))))))))
noncomputable def tX12_ticks_7 : List (Nat × zF) := [(151, (zli4 1 1)), (152, (zst 1 z_imul)), (153, (zli4 5 2)), (155, (zst 1 z_iadd)), (156, (zst 1 zd2)), (157, (zal 0)), (158, (zst 1 (zp (.int (1))))), (159, (zst 1 z_iadd)), (160, (zas 0)), (161, (zin4 6 5 (1))), (164, (zgt 95)), (167, (zla4 0 1))]
theorem kX12_ticks_7 : ∀ q ∈ tX12_ticks_7, zOk zg iX12_ticks q.1 q.2 := (z_c (ok_iload_n dX12_ticks_151 rfl) (z_c (ok_imul dX12_ticks_152) (z_c (ok_iload dX12_ticks_153) (z_c (ok_iadd dX12_ticks_155) (z_c (ok_dup2 dX12_ticks_156) (z_c (ok_iaload rfl dX12_ticks_157) (z_c (ok_iconst (v := (1)) dX12_ticks_158 (by decide)) (z_c (ok_iadd dX12_ticks_159) (z_c (ok_iastore rfl dX12_ticks_160) (z_c (ok_iinc (v := (1)) dX12_ticks_161 (by decide)) (z_c (ok_goto dX12_ticks_164 (by decide)) (z_c (ok_aload_n dX12_ticks_167 rfl) z_n))))))))))))
noncomputable def tX12_ticks_8 : List (Nat × zF) := [(168, (zgf 12 48)), (171, (zli4 1 1)), (172, (zst 1 zd2)), (173, (zal 0)), (174, (zst 1 (zp (.int (1))))), (175, (zst 1 z_iadd)), (176, (zas 0)), (177, (zli4 4 2)), (179, (zri false))]
theorem kX12_ticks_8 : ∀ q ∈ tX12_ticks_8, zOk zg iX12_ticks q.1 q.2 := (z_c (ok_getf (C := RX12) (T := TX12) (N := 73) rfl (by decide) zinX12 rfl zw_736 dX12_ticks_168) (z_c (ok_iload_n dX12_ticks_171 rfl) (z_c (ok_dup2 dX12_ticks_172) (z_c (ok_iaload rfl dX12_ticks_173) (z_c (ok_iconst (v := (1)) dX12_ticks_174 (by decide)) (z_c (ok_iadd dX12_ticks_175) (z_c (ok_iastore rfl dX12_ticks_176) (z_c (ok_iload dX12_ticks_177) (z_c (ok_ireturn rfl dX12_ticks_179) z_n)))))))))
noncomputable def tX12_ticks : zT := [(18, tX12_ticks_0), (40, tX12_ticks_1), (63, tX12_ticks_2), (84, tX12_ticks_3), (105, tX12_ticks_4), (129, tX12_ticks_5), (151, tX12_ticks_6), (168, tX12_ticks_7), (100000, tX12_ticks_8)]
theorem kX12_ticks : zTok zg iX12_ticks tX12_ticks := (z_t kX12_ticks_0 (z_t kX12_ticks_1 (z_t kX12_ticks_2 (z_t kX12_ticks_3 (z_t kX12_ticks_4 (z_t kX12_ticks_5 (z_t kX12_ticks_6 (z_t kX12_ticks_7 (z_t kX12_ticks_8 z_tn)))))))))
theorem dX12_isThing_0 : decode cX12_isThing 0 = .ok (.iload_n 1, 1) := by decide +kernel
theorem dX12_isThing_1 : decode cX12_isThing 1 = .ok (.ifCond .lt 20, 3) := by decide +kernel
theorem dX12_isThing_4 : decode cX12_isThing 4 = .ok (.iload_n 1, 1) := by decide +kernel
theorem dX12_isThing_5 : decode cX12_isThing 5 = .ok (.aload_n 0, 1) := by decide +kernel
theorem dX12_isThing_6 : decode cX12_isThing 6 = .ok (.getfield 69, 3) := by decide +kernel
theorem dX12_isThing_9 : decode cX12_isThing 9 = .ok (.aload_n 0, 1) := by decide +kernel
theorem dX12_isThing_10 : decode cX12_isThing 10 = .ok (.getfield 51, 3) := by decide +kernel
theorem dX12_isThing_13 : decode cX12_isThing 13 = .ok (.iaload, 1) := by decide +kernel
theorem dX12_isThing_14 : decode cX12_isThing 14 = .ok (.if_icmp .ge 7, 3) := by decide +kernel
theorem dX12_isThing_17 : decode cX12_isThing 17 = .ok (.iconst 1, 1) := by decide +kernel
theorem dX12_isThing_18 : decode cX12_isThing 18 = .ok (.goto 4, 3) := by decide +kernel
theorem dX12_isThing_21 : decode cX12_isThing 21 = .ok (.iconst 0, 1) := by decide +kernel
theorem dX12_isThing_22 : decode cX12_isThing 22 = .ok (.ireturn, 1) := by decide +kernel
noncomputable def tX12_isThing_0 : List (Nat × zF) := [(0, (zli4 1 1)), (1, (z_if_lt 21)), (4, (zli4 1 1)), (5, (zla4 0 1)), (6, (zgf 12 19)), (9, (zla4 0 1)), (10, (zgf 12 13)), (13, (zal 0)), (14, (z_ic_ge 21)), (17, (zst 1 (zp (.int (1))))), (18, (zgt 22)), (21, (zst 1 (zp (.int (0)))))]
theorem kX12_isThing_0 : ∀ q ∈ tX12_isThing_0, zOk zg iX12_isThing q.1 q.2 := (z_c (ok_iload_n dX12_isThing_0 rfl) (z_c (ok_if_lt dX12_isThing_1 (by decide)) (z_c (ok_iload_n dX12_isThing_4 rfl) (z_c (ok_aload_n dX12_isThing_5 rfl) (z_c (ok_getf (C := RX12) (T := TX12) (N := 73) rfl (by decide) zinX12 rfl zw_706 dX12_isThing_6) (z_c (ok_aload_n dX12_isThing_9 rfl) (z_c (ok_getf (C := RX12) (T := TX12) (N := 73) rfl (by decide) zinX12 rfl zw_700 dX12_isThing_10) (z_c (ok_iaload rfl dX12_isThing_13) (z_c (ok_icmp_ge dX12_isThing_14 (by decide)) (z_c (ok_iconst (v := (1)) dX12_isThing_17 (by decide)) (z_c (ok_goto dX12_isThing_18 (by decide)) (z_c (ok_iconst (v := (0)) dX12_isThing_21 (by decide)) z_n))))))))))))
noncomputable def tX12_isThing_1 : List (Nat × zF) := [(22, (zri true))]
theorem kX12_isThing_1 : ∀ q ∈ tX12_isThing_1, zOk zg iX12_isThing q.1 q.2 := (z_c (ok_zreturn rfl dX12_isThing_22) z_n)
noncomputable def tX12_isThing : zT := [(22, tX12_isThing_0), (100000, tX12_isThing_1)]
theorem kX12_isThing : zTok zg iX12_isThing tX12_isThing := (z_t kX12_isThing_0 (z_t kX12_isThing_1 z_tn))
theorem dX12_isFolk_0 : decode cX12_isFolk 0 = .ok (.iload_n 1, 1) := by decide +kernel
theorem dX12_isFolk_1 : decode cX12_isFolk 1 = .ok (.ifCond .lt 20, 3) := by decide +kernel
theorem dX12_isFolk_4 : decode cX12_isFolk 4 = .ok (.iload_n 1, 1) := by decide +kernel
theorem dX12_isFolk_5 : decode cX12_isFolk 5 = .ok (.aload_n 0, 1) := by decide +kernel
theorem dX12_isFolk_6 : decode cX12_isFolk 6 = .ok (.getfield 84, 3) := by decide +kernel
theorem dX12_isFolk_9 : decode cX12_isFolk 9 = .ok (.aload_n 0, 1) := by decide +kernel
theorem dX12_isFolk_10 : decode cX12_isFolk 10 = .ok (.getfield 51, 3) := by decide +kernel
theorem dX12_isFolk_13 : decode cX12_isFolk 13 = .ok (.iaload, 1) := by decide +kernel
theorem dX12_isFolk_14 : decode cX12_isFolk 14 = .ok (.if_icmp .ge 7, 3) := by decide +kernel
theorem dX12_isFolk_17 : decode cX12_isFolk 17 = .ok (.iconst 1, 1) := by decide +kernel
theorem dX12_isFolk_18 : decode cX12_isFolk 18 = .ok (.goto 4, 3) := by decide +kernel
theorem dX12_isFolk_21 : decode cX12_isFolk 21 = .ok (.iconst 0, 1) := by decide +kernel
theorem dX12_isFolk_22 : decode cX12_isFolk 22 = .ok (.ireturn, 1) := by decide +kernel
noncomputable def tX12_isFolk_0 : List (Nat × zF) := [(0, (zli4 1 1)), (1, (z_if_lt 21)), (4, (zli4 1 1)), (5, (zla4 0 1)), (6, (zgf 12 24)), (9, (zla4 0 1)), (10, (zgf 12 13)), (13, (zal 0)), (14, (z_ic_ge 21)), (17, (zst 1 (zp (.int (1))))), (18, (zgt 22)), (21, (zst 1 (zp (.int (0)))))]
theorem kX12_isFolk_0 : ∀ q ∈ tX12_isFolk_0, zOk zg iX12_isFolk q.1 q.2 := (z_c (ok_iload_n dX12_isFolk_0 rfl) (z_c (ok_if_lt dX12_isFolk_1 (by decide)) (z_c (ok_iload_n dX12_isFolk_4 rfl) (z_c (ok_aload_n dX12_isFolk_5 rfl) (z_c (ok_getf (C := RX12) (T := TX12) (N := 73) rfl (by decide) zinX12 rfl zw_711 dX12_isFolk_6) (z_c (ok_aload_n dX12_isFolk_9 rfl) (z_c (ok_getf (C := RX12) (T := TX12) (N := 73) rfl (by decide) zinX12 rfl zw_700 dX12_isFolk_10) (z_c (ok_iaload rfl dX12_isFolk_13) (z_c (ok_icmp_ge dX12_isFolk_14 (by decide)) (z_c (ok_iconst (v := (1)) dX12_isFolk_17 (by decide)) (z_c (ok_goto dX12_isFolk_18 (by decide)) (z_c (ok_iconst (v := (0)) dX12_isFolk_21 (by decide)) z_n))))))))))))
noncomputable def tX12_isFolk_1 : List (Nat × zF) := [(22, (zri true))]
theorem kX12_isFolk_1 : ∀ q ∈ tX12_isFolk_1, zOk zg iX12_isFolk q.1 q.2 := (z_c (ok_zreturn rfl dX12_isFolk_22) z_n)
noncomputable def tX12_isFolk : zT := [(22, tX12_isFolk_0), (100000, tX12_isFolk_1)]
theorem kX12_isFolk : zTok zg iX12_isFolk tX12_isFolk := (z_t kX12_isFolk_0 (z_t kX12_isFolk_1 z_tn))
theorem dX12_homes_0 : decode cX12_homes 0 = .ok (.iconst 0, 1) := by decide +kernel
theorem dX12_homes_1 : decode cX12_homes 1 = .ok (.istore_n 2, 1) := by decide +kernel
theorem dX12_homes_2 : decode cX12_homes 2 = .ok (.iconst 0, 1) := by decide +kernel
theorem dX12_homes_3 : decode cX12_homes 3 = .ok (.istore_n 3, 1) := by decide +kernel
theorem dX12_homes_4 : decode cX12_homes 4 = .ok (.iload_n 3, 1) := by decide +kernel
theorem dX12_homes_5 : decode cX12_homes 5 = .ok (.aload_n 0, 1) := by decide +kernel
theorem dX12_homes_6 : decode cX12_homes 6 = .ok (.getfield 84, 3) := by decide +kernel
theorem dX12_homes_9 : decode cX12_homes 9 = .ok (.aload_n 0, 1) := by decide +kernel
theorem dX12_homes_10 : decode cX12_homes 10 = .ok (.getfield 51, 3) := by decide +kernel
theorem dX12_homes_13 : decode cX12_homes 13 = .ok (.iaload, 1) := by decide +kernel
theorem dX12_homes_14 : decode cX12_homes 14 = .ok (.if_icmp .ge 26, 3) := by decide +kernel
theorem dX12_homes_17 : decode cX12_homes 17 = .ok (.iload_n 2, 1) := by decide +kernel
theorem dX12_homes_18 : decode cX12_homes 18 = .ok (.aload_n 0, 1) := by decide +kernel
theorem dX12_homes_19 : decode cX12_homes 19 = .ok (.iload_n 1, 1) := by decide +kernel
theorem dX12_homes_20 : decode cX12_homes 20 = .ok (.iload_n 3, 1) := by decide +kernel
theorem dX12_homes_21 : decode cX12_homes 21 = .ok (.invokevirtual 498, 3) := by decide +kernel
theorem dX12_homes_24 : decode cX12_homes 24 = .ok (.ifCond .eq 7, 3) := by decide +kernel
theorem dX12_homes_27 : decode cX12_homes 27 = .ok (.iconst 1, 1) := by decide +kernel
theorem dX12_homes_28 : decode cX12_homes 28 = .ok (.goto 4, 3) := by decide +kernel
theorem dX12_homes_31 : decode cX12_homes 31 = .ok (.iconst 0, 1) := by decide +kernel
theorem dX12_homes_32 : decode cX12_homes 32 = .ok (.iadd, 1) := by decide +kernel
theorem dX12_homes_33 : decode cX12_homes 33 = .ok (.istore_n 2, 1) := by decide +kernel
theorem dX12_homes_34 : decode cX12_homes 34 = .ok (.iinc 3 1, 3) := by decide +kernel
theorem dX12_homes_37 : decode cX12_homes 37 = .ok (.goto (-33), 3) := by decide +kernel
theorem dX12_homes_40 : decode cX12_homes 40 = .ok (.iload_n 2, 1) := by decide +kernel
theorem dX12_homes_41 : decode cX12_homes 41 = .ok (.ireturn, 1) := by decide +kernel
noncomputable def tX12_homes_0 : List (Nat × zF) := [(0, (zst 1 (zp (.int (0))))), (1, (zsi4 4 2 1)), (2, (zst 1 (zp (.int (0))))), (3, (zsi4 4 3 1)), (4, (zli4 3 1)), (5, (zla4 0 1)), (6, (zgf 12 24)), (9, (zla4 0 1)), (10, (zgf 12 13)), (13, (zal 0)), (14, (z_ic_ge 40)), (17, (zli4 2 1))]
theorem kX12_homes_0 : ∀ q ∈ tX12_homes_0, zOk zg iX12_homes q.1 q.2 := (z_c (ok_iconst (v := (0)) dX12_homes_0 (by decide)) (z_c (ok_istore_n dX12_homes_1 rfl) (z_c (ok_iconst (v := (0)) dX12_homes_2 (by decide)) (z_c (ok_istore_n dX12_homes_3 rfl) (z_c (ok_iload_n dX12_homes_4 rfl) (z_c (ok_aload_n dX12_homes_5 rfl) (z_c (ok_getf (C := RX12) (T := TX12) (N := 73) rfl (by decide) zinX12 rfl zw_711 dX12_homes_6) (z_c (ok_aload_n dX12_homes_9 rfl) (z_c (ok_getf (C := RX12) (T := TX12) (N := 73) rfl (by decide) zinX12 rfl zw_700 dX12_homes_10) (z_c (ok_iaload rfl dX12_homes_13) (z_c (ok_icmp_ge dX12_homes_14 (by decide)) (z_c (ok_iload_n dX12_homes_17 rfl) z_n))))))))))))
noncomputable def tX12_homes_1 : List (Nat × zF) := [(18, (zla4 0 1)), (19, (zli4 1 1)), (20, (zli4 3 1)), (21, (zcv 231 2 12)), (24, (z_if_eq 31)), (27, (zst 1 (zp (.int (1))))), (28, (zgt 32)), (31, (zst 1 (zp (.int (0))))), (32, (zst 1 z_iadd)), (33, (zsi4 4 2 1)), (34, (zin4 4 3 (1))), (37, (zgt 4))]
theorem kX12_homes_1 : ∀ q ∈ tX12_homes_1, zOk zg iX12_homes q.1 q.2 := (z_c (ok_aload_n dX12_homes_18 rfl) (z_c (ok_iload_n dX12_homes_19 rfl) (z_c (ok_iload_n dX12_homes_20 rfl) (z_c (ok_callV zcal_231 (q := (RX12, TX12, 73)) rfl zw_966 zw_967 zw_968 dX12_homes_21) (z_c (ok_if_eq dX12_homes_24 (by decide)) (z_c (ok_iconst (v := (1)) dX12_homes_27 (by decide)) (z_c (ok_goto dX12_homes_28 (by decide)) (z_c (ok_iconst (v := (0)) dX12_homes_31 (by decide)) (z_c (ok_iadd dX12_homes_32) (z_c (ok_istore_n dX12_homes_33 rfl) (z_c (ok_iinc (v := (1)) dX12_homes_34 (by decide)) (z_c (ok_goto dX12_homes_37 (by decide)) z_n))))))))))))
noncomputable def tX12_homes_2 : List (Nat × zF) := [(40, (zli4 2 1)), (41, (zri false))]
theorem kX12_homes_2 : ∀ q ∈ tX12_homes_2, zOk zg iX12_homes q.1 q.2 := (z_c (ok_iload_n dX12_homes_40 rfl) (z_c (ok_ireturn rfl dX12_homes_41) z_n))
noncomputable def tX12_homes : zT := [(18, tX12_homes_0), (40, tX12_homes_1), (100000, tX12_homes_2)]
theorem kX12_homes : zTok zg iX12_homes tX12_homes := (z_t kX12_homes_0 (z_t kX12_homes_1 (z_t kX12_homes_2 z_tn)))
theorem dX12_has_0 : decode cX12_has 0 = .ok (.iconst 0, 1) := by decide +kernel
theorem dX12_has_1 : decode cX12_has 1 = .ok (.istore_n 2, 1) := by decide +kernel
theorem dX12_has_2 : decode cX12_has 2 = .ok (.iload_n 1, 1) := by decide +kernel
theorem dX12_has_3 : decode cX12_has 3 = .ok (.tableswitch 230 0 12 #[65, 75, 85, 125, 135, 145, 152, 162, 201, 207, 214, 219, 224], 65) := by decide +kernel
theorem dX12_has_68 : decode cX12_has 68 = .ok (.aload_n 0, 1) := by decide +kernel
theorem dX12_has_69 : decode cX12_has 69 = .ok (.getfield 54, 3) := by decide +kernel
theorem dX12_has_72 : decode cX12_has 72 = .ok (.aload_n 0, 1) := by decide +kernel
theorem dX12_has_73 : decode cX12_has 73 = .ok (.getfield 51, 3) := by decide +kernel
theorem dX12_has_76 : decode cX12_has 76 = .ok (.iaload, 1) := by decide +kernel
theorem dX12_has_77 : decode cX12_has 77 = .ok (.ireturn, 1) := by decide +kernel
theorem dX12_has_78 : decode cX12_has 78 = .ok (.aload_n 0, 1) := by decide +kernel
theorem dX12_has_79 : decode cX12_has 79 = .ok (.getfield 57, 3) := by decide +kernel
theorem dX12_has_82 : decode cX12_has 82 = .ok (.aload_n 0, 1) := by decide +kernel
theorem dX12_has_83 : decode cX12_has 83 = .ok (.getfield 51, 3) := by decide +kernel
theorem dX12_has_86 : decode cX12_has 86 = .ok (.iaload, 1) := by decide +kernel
theorem dX12_has_87 : decode cX12_has 87 = .ok (.ireturn, 1) := by decide +kernel
theorem dX12_has_88 : decode cX12_has 88 = .ok (.iconst 0, 1) := by decide +kernel
theorem dX12_has_89 : decode cX12_has 89 = .ok (.istore_n 3, 1) := by decide +kernel
theorem dX12_has_90 : decode cX12_has 90 = .ok (.iload_n 3, 1) := by decide +kernel
theorem dX12_has_91 : decode cX12_has 91 = .ok (.bipush 64, 2) := by decide +kernel
theorem dX12_has_93 : decode cX12_has 93 = .ok (.if_icmp .ge 33, 3) := by decide +kernel
theorem dX12_has_96 : decode cX12_has 96 = .ok (.iload_n 2, 1) := by decide +kernel
theorem dX12_has_97 : decode cX12_has 97 = .ok (.aload_n 0, 1) := by decide +kernel
theorem dX12_has_98 : decode cX12_has 98 = .ok (.iload_n 3, 1) := by decide +kernel
theorem dX12_has_99 : decode cX12_has 99 = .ok (.invokevirtual 468, 3) := by decide +kernel
theorem dX12_has_102 : decode cX12_has 102 = .ok (.ifCond .eq 15, 3) := by decide +kernel
theorem dX12_has_105 : decode cX12_has 105 = .ok (.aload_n 0, 1) := by decide +kernel
theorem dX12_has_106 : decode cX12_has 106 = .ok (.iload_n 3, 1) := by decide +kernel
theorem dX12_has_107 : decode cX12_has 107 = .ok (.invokevirtual 447, 3) := by decide +kernel
theorem dX12_has_110 : decode cX12_has 110 = .ok (.ifCond .eq 7, 3) := by decide +kernel
theorem dX12_has_113 : decode cX12_has 113 = .ok (.iconst 1, 1) := by decide +kernel
theorem dX12_has_114 : decode cX12_has 114 = .ok (.goto 4, 3) := by decide +kernel
theorem dX12_has_117 : decode cX12_has 117 = .ok (.iconst 0, 1) := by decide +kernel
theorem dX12_has_118 : decode cX12_has 118 = .ok (.iadd, 1) := by decide +kernel
theorem dX12_has_119 : decode cX12_has 119 = .ok (.istore_n 2, 1) := by decide +kernel
theorem dX12_has_120 : decode cX12_has 120 = .ok (.iinc 3 1, 3) := by decide +kernel
theorem dX12_has_123 : decode cX12_has 123 = .ok (.goto (-33), 3) := by decide +kernel
theorem dX12_has_126 : decode cX12_has 126 = .ok (.iload_n 2, 1) := by decide +kernel
theorem dX12_has_127 : decode cX12_has 127 = .ok (.ireturn, 1) := by decide +kernel
theorem dX12_has_128 : decode cX12_has 128 = .ok (.aload_n 0, 1) := by decide +kernel
theorem dX12_has_129 : decode cX12_has 129 = .ok (.getfield 69, 3) := by decide +kernel
theorem dX12_has_132 : decode cX12_has 132 = .ok (.aload_n 0, 1) := by decide +kernel
theorem dX12_has_133 : decode cX12_has 133 = .ok (.getfield 51, 3) := by decide +kernel
theorem dX12_has_136 : decode cX12_has 136 = .ok (.iaload, 1) := by decide +kernel
theorem dX12_has_137 : decode cX12_has 137 = .ok (.ireturn, 1) := by decide +kernel
theorem dX12_has_138 : decode cX12_has 138 = .ok (.aload_n 0, 1) := by decide +kernel
theorem dX12_has_139 : decode cX12_has 139 = .ok (.getfield 84, 3) := by decide +kernel
theorem dX12_has_142 : decode cX12_has 142 = .ok (.aload_n 0, 1) := by decide +kernel
theorem dX12_has_143 : decode cX12_has 143 = .ok (.getfield 51, 3) := by decide +kernel
theorem dX12_has_146 : decode cX12_has 146 = .ok (.iaload, 1) := by decide +kernel
theorem dX12_has_147 : decode cX12_has 147 = .ok (.ireturn, 1) := by decide +kernel
theorem dX12_has_148 : decode cX12_has 148 = .ok (.aload_n 0, 1) := by decide +kernel
theorem dX12_has_149 : decode cX12_has 149 = .ok (.getfield 159, 3) := by decide +kernel
theorem dX12_has_152 : decode cX12_has 152 = .ok (.iconst 0, 1) := by decide +kernel
theorem dX12_has_153 : decode cX12_has 153 = .ok (.iaload, 1) := by decide +kernel
theorem dX12_has_154 : decode cX12_has 154 = .ok (.ireturn, 1) := by decide +kernel
theorem dX12_has_155 : decode cX12_has 155 = .ok (.aload_n 0, 1) := by decide +kernel
theorem dX12_has_156 : decode cX12_has 156 = .ok (.getfield 162, 3) := by decide +kernel
theorem dX12_has_159 : decode cX12_has 159 = .ok (.iconst 0, 1) := by decide +kernel
theorem dX12_has_160 : decode cX12_has 160 = .ok (.iaload, 1) := by decide +kernel
theorem dX12_has_161 : decode cX12_has 161 = .ok (.invokestatic 450, 3) := by decide +kernel
theorem dX12_has_164 : decode cX12_has 164 = .ok (.ireturn, 1) := by decide +kernel
theorem dX12_has_165 : decode cX12_has 165 = .ok (.aload_n 0, 1) := by decide +kernel
theorem dX12_has_166 : decode cX12_has 166 = .ok (.iconst 0, 1) := by decide +kernel
theorem dX12_has_167 : decode cX12_has 167 = .ok (.iconst (-1), 1) := by decide +kernel
theorem dX12_has_168 : decode cX12_has 168 = .ok (.invokevirtual 486, 3) := by decide +kernel
theorem dX12_has_171 : decode cX12_has 171 = .ok (.iconst 0, 1) := by decide +kernel
theorem dX12_has_172 : decode cX12_has 172 = .ok (.istore_n 3, 1) := by decide +kernel
theorem dX12_has_173 : decode cX12_has 173 = .ok (.iload_n 3, 1) := by decide +kernel
theorem dX12_has_174 : decode cX12_has 174 = .ok (.bipush 64, 2) := by decide +kernel
theorem dX12_has_176 : decode cX12_has 176 = .ok (.if_icmp .ge 26, 3) := by decide +kernel
theorem dX12_has_179 : decode cX12_has 179 = .ok (.iload_n 2, 1) := by decide +kernel
theorem dX12_has_180 : decode cX12_has 180 = .ok (.aload_n 0, 1) := by decide +kernel
theorem dX12_has_181 : decode cX12_has 181 = .ok (.getfield 195, 3) := by decide +kernel
theorem dX12_has_184 : decode cX12_has 184 = .ok (.iload_n 3, 1) := by decide +kernel
theorem dX12_has_185 : decode cX12_has 185 = .ok (.iaload, 1) := by decide +kernel
theorem dX12_has_186 : decode cX12_has 186 = .ok (.ifCond .le 7, 3) := by decide +kernel
theorem dX12_has_189 : decode cX12_has 189 = .ok (.iconst 1, 1) := by decide +kernel
theorem dX12_has_190 : decode cX12_has 190 = .ok (.goto 4, 3) := by decide +kernel
theorem dX12_has_193 : decode cX12_has 193 = .ok (.iconst 0, 1) := by decide +kernel
theorem dX12_has_194 : decode cX12_has 194 = .ok (.iadd, 1) := by decide +kernel
theorem dX12_has_195 : decode cX12_has 195 = .ok (.istore_n 2, 1) := by decide +kernel
theorem dX12_has_196 : decode cX12_has 196 = .ok (.iinc 3 1, 3) := by decide +kernel
theorem dX12_has_199 : decode cX12_has 199 = .ok (.goto (-26), 3) := by decide +kernel
theorem dX12_has_202 : decode cX12_has 202 = .ok (.iload_n 2, 1) := by decide +kernel
theorem dX12_has_203 : decode cX12_has 203 = .ok (.ireturn, 1) := by decide +kernel
theorem dX12_has_204 : decode cX12_has 204 = .ok (.aload_n 0, 1) := by decide +kernel
theorem dX12_has_205 : decode cX12_has 205 = .ok (.iconst 0, 1) := by decide +kernel
theorem dX12_has_206 : decode cX12_has 206 = .ok (.invokevirtual 501, 3) := by decide +kernel
theorem dX12_has_209 : decode cX12_has 209 = .ok (.ireturn, 1) := by decide +kernel
theorem dX12_has_210 : decode cX12_has 210 = .ok (.aload_n 0, 1) := by decide +kernel
theorem dX12_has_211 : decode cX12_has 211 = .ok (.getfield 171, 3) := by decide +kernel
theorem dX12_has_214 : decode cX12_has 214 = .ok (.iconst 0, 1) := by decide +kernel
theorem dX12_has_215 : decode cX12_has 215 = .ok (.iaload, 1) := by decide +kernel
theorem dX12_has_216 : decode cX12_has 216 = .ok (.ireturn, 1) := by decide +kernel
theorem dX12_has_217 : decode cX12_has 217 = .ok (.aload_n 0, 1) := by decide +kernel
theorem dX12_has_218 : decode cX12_has 218 = .ok (.getfield 213, 3) := by decide +kernel
theorem dX12_has_221 : decode cX12_has 221 = .ok (.ireturn, 1) := by decide +kernel
theorem dX12_has_222 : decode cX12_has 222 = .ok (.aload_n 0, 1) := by decide +kernel
theorem dX12_has_223 : decode cX12_has 223 = .ok (.getfield 180, 3) := by decide +kernel
theorem dX12_has_226 : decode cX12_has 226 = .ok (.ireturn, 1) := by decide +kernel
theorem dX12_has_227 : decode cX12_has 227 = .ok (.aload_n 0, 1) := by decide +kernel
theorem dX12_has_228 : decode cX12_has 228 = .ok (.getfield 183, 3) := by decide +kernel
theorem dX12_has_231 : decode cX12_has 231 = .ok (.l2i, 1) := by decide +kernel
theorem dX12_has_232 : decode cX12_has 232 = .ok (.ireturn, 1) := by decide +kernel
theorem dX12_has_233 : decode cX12_has 233 = .ok (.iconst (-1), 1) := by decide +kernel
theorem dX12_has_234 : decode cX12_has 234 = .ok (.ireturn, 1) := by decide +kernel
noncomputable def tX12_has_0 : List (Nat × zF) := [(0, (zst 1 (zp (.int (0))))), (1, (zsi4 4 2 1)), (2, (zli4 1 1)), (3, (zts [(0, 68), (1, 78), (2, 88), (3, 128), (4, 138), (5, 148), (6, 155), (7, 165), (8, 204), (9, 210), (10, 217), (11, 222), (12, 227)] 233)), (68, (zla4 0 1)), (69, (zgf 12 14)), (72, (zla4 0 1)), (73, (zgf 12 13)), (76, (zal 0)), (77, (zri false)), (78, (zla4 0 1)), (79, (zgf 12 15))]
theorem kX12_has_0 : ∀ q ∈ tX12_has_0, zOk zg iX12_has q.1 q.2 := (z_c (ok_iconst (v := (0)) dX12_has_0 (by decide)) (z_c (ok_istore_n dX12_has_1 rfl) (z_c (ok_iload_n dX12_has_2 rfl) (z_c (ok_tsw dX12_has_3 (by decide) (by decide +kernel) (by decide +kernel) (by decide)) (z_c (ok_aload_n dX12_has_68 rfl) (z_c (ok_getf (C := RX12) (T := TX12) (N := 73) rfl (by decide) zinX12 rfl zw_701 dX12_has_69) (z_c (ok_aload_n dX12_has_72 rfl) (z_c (ok_getf (C := RX12) (T := TX12) (N := 73) rfl (by decide) zinX12 rfl zw_700 dX12_has_73) (z_c (ok_iaload rfl dX12_has_76) (z_c (ok_ireturn rfl dX12_has_77) (z_c (ok_aload_n dX12_has_78 rfl) (z_c (ok_getf (C := RX12) (T := TX12) (N := 73) rfl (by decide) zinX12 rfl zw_702 dX12_has_79) z_n))))))))))))
noncomputable def tX12_has_1 : List (Nat × zF) := [(82, (zla4 0 1)), (83, (zgf 12 13)), (86, (zal 0)), (87, (zri false)), (88, (zst 1 (zp (.int (0))))), (89, (zsi4 4 3 1)), (90, (zli4 3 1)), (91, (zst 2 (zp (.int (64))))), (93, (z_ic_ge 126)), (96, (zli4 2 1)), (97, (zla4 0 1)), (98, (zli4 3 1))]
theorem kX12_has_1 : ∀ q ∈ tX12_has_1, zOk zg iX12_has q.1 q.2 := (z_c (ok_aload_n dX12_has_82 rfl) (z_c (ok_getf (C := RX12) (T := TX12) (N := 73) rfl (by decide) zinX12 rfl zw_700 dX12_has_83) (z_c (ok_iaload rfl dX12_has_86) (z_c (ok_ireturn rfl dX12_has_87) (z_c (ok_iconst (v := (0)) dX12_has_88 (by decide)) (z_c (ok_istore_n dX12_has_89 rfl) (z_c (ok_iload_n dX12_has_90 rfl) (z_c (ok_bipush (v := (64)) dX12_has_91 (by decide)) (z_c (ok_icmp_ge dX12_has_93 (by decide)) (z_c (ok_iload_n dX12_has_96 rfl) (z_c (ok_aload_n dX12_has_97 rfl) (z_c (ok_iload_n dX12_has_98 rfl) z_n))))))))))))
noncomputable def tX12_has_2 : List (Nat × zF) := [(99, (zcv 222 1 12)), (102, (z_if_eq 117)), (105, (zla4 0 1)), (106, (zli4 3 1)), (107, (zcv 223 1 12)), (110, (z_if_eq 117)), (113, (zst 1 (zp (.int (1))))), (114, (zgt 118)), (117, (zst 1 (zp (.int (0))))), (118, (zst 1 z_iadd)), (119, (zsi4 4 2 1)), (120, (zin4 4 3 (1)))]
theorem kX12_has_2 : ∀ q ∈ tX12_has_2, zOk zg iX12_has q.1 q.2 := (z_c (ok_callV zcal_222 (q := (RX12, TX12, 73)) rfl zw_939 zw_940 zw_941 dX12_has_99) (z_c (ok_if_eq dX12_has_102 (by decide)) (z_c (ok_aload_n dX12_has_105 rfl) (z_c (ok_iload_n dX12_has_106 rfl) (z_c (ok_callV zcal_223 (q := (RX12, TX12, 73)) rfl zw_921 zw_922 zw_923 dX12_has_107) (z_c (ok_if_eq dX12_has_110 (by decide)) (z_c (ok_iconst (v := (1)) dX12_has_113 (by decide)) (z_c (ok_goto dX12_has_114 (by decide)) (z_c (ok_iconst (v := (0)) dX12_has_117 (by decide)) (z_c (ok_iadd dX12_has_118) (z_c (ok_istore_n dX12_has_119 rfl) (z_c (ok_iinc (v := (1)) dX12_has_120 (by decide)) z_n))))))))))))
noncomputable def tX12_has_3 : List (Nat × zF) := [(123, (zgt 90)), (126, (zli4 2 1)), (127, (zri false)), (128, (zla4 0 1)), (129, (zgf 12 19)), (132, (zla4 0 1)), (133, (zgf 12 13)), (136, (zal 0)), (137, (zri false)), (138, (zla4 0 1)), (139, (zgf 12 24)), (142, (zla4 0 1))]
theorem kX12_has_3 : ∀ q ∈ tX12_has_3, zOk zg iX12_has q.1 q.2 := (z_c (ok_goto dX12_has_123 (by decide)) (z_c (ok_iload_n dX12_has_126 rfl) (z_c (ok_ireturn rfl dX12_has_127) (z_c (ok_aload_n dX12_has_128 rfl) (z_c (ok_getf (C := RX12) (T := TX12) (N := 73) rfl (by decide) zinX12 rfl zw_706 dX12_has_129) (z_c (ok_aload_n dX12_has_132 rfl) (z_c (ok_getf (C := RX12) (T := TX12) (N := 73) rfl (by decide) zinX12 rfl zw_700 dX12_has_133) (z_c (ok_iaload rfl dX12_has_136) (z_c (ok_ireturn rfl dX12_has_137) (z_c (ok_aload_n dX12_has_138 rfl) (z_c (ok_getf (C := RX12) (T := TX12) (N := 73) rfl (by decide) zinX12 rfl zw_711 dX12_has_139) (z_c (ok_aload_n dX12_has_142 rfl) z_n))))))))))))
noncomputable def tX12_has_4 : List (Nat × zF) := [(143, (zgf 12 13)), (146, (zal 0)), (147, (zri false)), (148, (zla4 0 1)), (149, (zgf 12 48)), (152, (zst 1 (zp (.int (0))))), (153, (zal 0)), (154, (zri false)), (155, (zla4 0 1)), (156, (zgf 12 49)), (159, (zst 1 (zp (.int (0))))), (160, (zal 0))]
theorem kX12_has_4 : ∀ q ∈ tX12_has_4, zOk zg iX12_has q.1 q.2 := (z_c (ok_getf (C := RX12) (T := TX12) (N := 73) rfl (by decide) zinX12 rfl zw_700 dX12_has_143) (z_c (ok_iaload rfl dX12_has_146) (z_c (ok_ireturn rfl dX12_has_147) (z_c (ok_aload_n dX12_has_148 rfl) (z_c (ok_getf (C := RX12) (T := TX12) (N := 73) rfl (by decide) zinX12 rfl zw_736 dX12_has_149) (z_c (ok_iconst (v := (0)) dX12_has_152 (by decide)) (z_c (ok_iaload rfl dX12_has_153) (z_c (ok_ireturn rfl dX12_has_154) (z_c (ok_aload_n dX12_has_155 rfl) (z_c (ok_getf (C := RX12) (T := TX12) (N := 73) rfl (by decide) zinX12 rfl zw_737 dX12_has_156) (z_c (ok_iconst (v := (0)) dX12_has_159 (by decide)) (z_c (ok_iaload rfl dX12_has_160) z_n))))))))))))
noncomputable def tX12_has_5 : List (Nat × zF) := [(161, (zcs 220 1)), (164, (zri false)), (165, (zla4 0 1)), (166, (zst 1 (zp (.int (0))))), (167, (zst 1 (zp (.int ((-1)))))), (168, (zcv 228 2 12)), (171, (zst 1 (zp (.int (0))))), (172, (zsi4 4 3 1)), (173, (zli4 3 1)), (174, (zst 2 (zp (.int (64))))), (176, (z_ic_ge 202)), (179, (zli4 2 1))]
theorem kX12_has_5 : ∀ q ∈ tX12_has_5, zOk zg iX12_has q.1 q.2 := (z_c (ok_callS zcal_220 zw_924 zw_925 dX12_has_161) (z_c (ok_ireturn rfl dX12_has_164) (z_c (ok_aload_n dX12_has_165 rfl) (z_c (ok_iconst (v := (0)) dX12_has_166 (by decide)) (z_c (ok_iconst (v := (-1)) dX12_has_167 (by decide)) (z_c (ok_callV zcal_228 (q := (RX12, TX12, 73)) rfl zw_954 zw_955 zw_956 dX12_has_168) (z_c (ok_iconst (v := (0)) dX12_has_171 (by decide)) (z_c (ok_istore_n dX12_has_172 rfl) (z_c (ok_iload_n dX12_has_173 rfl) (z_c (ok_bipush (v := (64)) dX12_has_174 (by decide)) (z_c (ok_icmp_ge dX12_has_176 (by decide)) (z_c (ok_iload_n dX12_has_179 rfl) z_n))))))))))))
noncomputable def tX12_has_6 : List (Nat × zF) := [(180, (zla4 0 1)), (181, (zgf 12 60)), (184, (zli4 3 1)), (185, (zal 0)), (186, (z_if_le 193)), (189, (zst 1 (zp (.int (1))))), (190, (zgt 194)), (193, (zst 1 (zp (.int (0))))), (194, (zst 1 z_iadd)), (195, (zsi4 4 2 1)), (196, (zin4 4 3 (1))), (199, (zgt 173))]
theorem kX12_has_6 : ∀ q ∈ tX12_has_6, zOk zg iX12_has q.1 q.2 := (z_c (ok_aload_n dX12_has_180 rfl) (z_c (ok_getf (C := RX12) (T := TX12) (N := 73) rfl (by decide) zinX12 rfl zw_748 dX12_has_181) (z_c (ok_iload_n dX12_has_184 rfl) (z_c (ok_iaload rfl dX12_has_185) (z_c (ok_if_le dX12_has_186 (by decide)) (z_c (ok_iconst (v := (1)) dX12_has_189 (by decide)) (z_c (ok_goto dX12_has_190 (by decide)) (z_c (ok_iconst (v := (0)) dX12_has_193 (by decide)) (z_c (ok_iadd dX12_has_194) (z_c (ok_istore_n dX12_has_195 rfl) (z_c (ok_iinc (v := (1)) dX12_has_196 (by decide)) (z_c (ok_goto dX12_has_199 (by decide)) z_n))))))))))))
noncomputable def tX12_has_7 : List (Nat × zF) := [(202, (zli4 2 1)), (203, (zri false)), (204, (zla4 0 1)), (205, (zst 1 (zp (.int (0))))), (206, (zcv 238 1 12)), (209, (zri false)), (210, (zla4 0 1)), (211, (zgf 12 52)), (214, (zst 1 (zp (.int (0))))), (215, (zal 0)), (216, (zri false)), (217, (zla4 0 1))]
theorem kX12_has_7 : ∀ q ∈ tX12_has_7, zOk zg iX12_has q.1 q.2 := (z_c (ok_iload_n dX12_has_202 rfl) (z_c (ok_ireturn rfl dX12_has_203) (z_c (ok_aload_n dX12_has_204 rfl) (z_c (ok_iconst (v := (0)) dX12_has_205 (by decide)) (z_c (ok_callV zcal_238 (q := (RX12, TX12, 73)) rfl zw_969 zw_970 zw_971 dX12_has_206) (z_c (ok_ireturn rfl dX12_has_209) (z_c (ok_aload_n dX12_has_210 rfl) (z_c (ok_getf (C := RX12) (T := TX12) (N := 73) rfl (by decide) zinX12 rfl zw_740 dX12_has_211) (z_c (ok_iconst (v := (0)) dX12_has_214 (by decide)) (z_c (ok_iaload rfl dX12_has_215) (z_c (ok_ireturn rfl dX12_has_216) (z_c (ok_aload_n dX12_has_217 rfl) z_n))))))))))))
noncomputable def tX12_has_8 : List (Nat × zF) := [(218, (zgf 12 66)), (221, (zri false)), (222, (zla4 0 1)), (223, (zgf 12 55)), (226, (zri false)), (227, (zla4 0 1)), (228, (zgf 12 56)), (231, (zst 1 zli)), (232, (zri false)), (233, (zst 1 (zp (.int ((-1)))))), (234, (zri false))]
theorem kX12_has_8 : ∀ q ∈ tX12_has_8, zOk zg iX12_has q.1 q.2 := (z_c (ok_getf (C := RX12) (T := TX12) (N := 73) rfl (by decide) zinX12 rfl zw_754 dX12_has_218) (z_c (ok_ireturn rfl dX12_has_221) (z_c (ok_aload_n dX12_has_222 rfl) (z_c (ok_getf (C := RX12) (T := TX12) (N := 73) rfl (by decide) zinX12 rfl zw_743 dX12_has_223) (z_c (ok_ireturn rfl dX12_has_226) (z_c (ok_aload_n dX12_has_227 rfl) (z_c (ok_getf (C := RX12) (T := TX12) (N := 73) rfl (by decide) zinX12 rfl zw_744 dX12_has_228) (z_c (ok_l2i dX12_has_231) (z_c (ok_ireturn rfl dX12_has_232) (z_c (ok_iconst (v := (-1)) dX12_has_233 (by decide)) (z_c (ok_ireturn rfl dX12_has_234) z_n)))))))))))
noncomputable def tX12_has : zT := [(82, tX12_has_0), (99, tX12_has_1), (123, tX12_has_2), (143, tX12_has_3), (161, tX12_has_4), (180, tX12_has_5), (202, tX12_has_6), (218, tX12_has_7), (100000, tX12_has_8)]
theorem kX12_has : zTok zg iX12_has tX12_has := (z_t kX12_has_0 (z_t kX12_has_1 (z_t kX12_has_2 (z_t kX12_has_3 (z_t kX12_has_4 (z_t kX12_has_5 (z_t kX12_has_6 (z_t kX12_has_7 (z_t kX12_has_8 z_tn)))))))))
theorem dX12_letter_0 : decode cX12_letter 0 = .ok (.iload_n 1, 1) := by decide +kernel
theorem dX12_letter_1 : decode cX12_letter 1 = .ok (.ifCond .ne 11, 3) := by decide +kernel
theorem dX12_letter_4 : decode cX12_letter 4 = .ok (.aload_n 0, 1) := by decide +kernel
theorem dX12_letter_5 : decode cX12_letter 5 = .ok (.iload_n 2, 1) := by decide +kernel
theorem dX12_letter_6 : decode cX12_letter 6 = .ok (.invokevirtual 504, 3) := by decide +kernel
theorem dX12_letter_9 : decode cX12_letter 9 = .ok (.goto 21, 3) := by decide +kernel
theorem dX12_letter_12 : decode cX12_letter 12 = .ok (.iload_n 1, 1) := by decide +kernel
theorem dX12_letter_13 : decode cX12_letter 13 = .ok (.iconst 1, 1) := by decide +kernel
theorem dX12_letter_14 : decode cX12_letter 14 = .ok (.if_icmp .ne 15, 3) := by decide +kernel
theorem dX12_letter_17 : decode cX12_letter 17 = .ok (.aload_n 0, 1) := by decide +kernel
theorem dX12_letter_18 : decode cX12_letter 18 = .ok (.iload_n 2, 1) := by decide +kernel
theorem dX12_letter_19 : decode cX12_letter 19 = .ok (.invokevirtual 507, 3) := by decide +kernel
theorem dX12_letter_22 : decode cX12_letter 22 = .ok (.ifCond .eq 7, 3) := by decide +kernel
theorem dX12_letter_25 : decode cX12_letter 25 = .ok (.iconst 1, 1) := by decide +kernel
theorem dX12_letter_26 : decode cX12_letter 26 = .ok (.goto 4, 3) := by decide +kernel
theorem dX12_letter_29 : decode cX12_letter 29 = .ok (.iconst 0, 1) := by decide +kernel
theorem dX12_letter_30 : decode cX12_letter 30 = .ok (.istore 4, 2) := by decide +kernel
theorem dX12_letter_32 : decode cX12_letter 32 = .ok (.iload 4, 2) := by decide +kernel
theorem dX12_letter_34 : decode cX12_letter 34 = .ok (.ifCond .eq 12, 3) := by decide +kernel
theorem dX12_letter_37 : decode cX12_letter 37 = .ok (.iload_n 3, 1) := by decide +kernel
theorem dX12_letter_38 : decode cX12_letter 38 = .ok (.iconst 0, 1) := by decide +kernel
theorem dX12_letter_39 : decode cX12_letter 39 = .ok (.iconst 5, 1) := by decide +kernel
theorem dX12_letter_40 : decode cX12_letter 40 = .ok (.invokestatic 318, 3) := by decide +kernel
theorem dX12_letter_43 : decode cX12_letter 43 = .ok (.ifCond .ne 5, 3) := by decide +kernel
theorem dX12_letter_46 : decode cX12_letter 46 = .ok (.iconst (-1), 1) := by decide +kernel
theorem dX12_letter_47 : decode cX12_letter 47 = .ok (.ireturn, 1) := by decide +kernel
theorem dX12_letter_48 : decode cX12_letter 48 = .ok (.iload_n 1, 1) := by decide +kernel
theorem dX12_letter_49 : decode cX12_letter 49 = .ok (.ifCond .ne 20, 3) := by decide +kernel
theorem dX12_letter_52 : decode cX12_letter 52 = .ok (.aload_n 0, 1) := by decide +kernel
theorem dX12_letter_53 : decode cX12_letter 53 = .ok (.getfield 105, 3) := by decide +kernel
theorem dX12_letter_56 : decode cX12_letter 56 = .ok (.bipush 9, 2) := by decide +kernel
theorem dX12_letter_58 : decode cX12_letter 58 = .ok (.aload_n 0, 1) := by decide +kernel
theorem dX12_letter_59 : decode cX12_letter 59 = .ok (.getfield 51, 3) := by decide +kernel
theorem dX12_letter_62 : decode cX12_letter 62 = .ok (.imul, 1) := by decide +kernel
theorem dX12_letter_63 : decode cX12_letter 63 = .ok (.iload_n 2, 1) := by decide +kernel
theorem dX12_letter_64 : decode cX12_letter 64 = .ok (.iadd, 1) := by decide +kernel
theorem dX12_letter_65 : decode cX12_letter 65 = .ok (.laload, 1) := by decide +kernel
theorem dX12_letter_66 : decode cX12_letter 66 = .ok (.goto 17, 3) := by decide +kernel
theorem dX12_letter_69 : decode cX12_letter 69 = .ok (.aload_n 0, 1) := by decide +kernel
theorem dX12_letter_70 : decode cX12_letter 70 = .ok (.getfield 109, 3) := by decide +kernel
theorem dX12_letter_73 : decode cX12_letter 73 = .ok (.bipush 6, 2) := by decide +kernel
theorem dX12_letter_75 : decode cX12_letter 75 = .ok (.aload_n 0, 1) := by decide +kernel
theorem dX12_letter_76 : decode cX12_letter 76 = .ok (.getfield 51, 3) := by decide +kernel
theorem dX12_letter_79 : decode cX12_letter 79 = .ok (.imul, 1) := by decide +kernel
theorem dX12_letter_80 : decode cX12_letter 80 = .ok (.iload_n 2, 1) := by decide +kernel
theorem dX12_letter_81 : decode cX12_letter 81 = .ok (.iadd, 1) := by decide +kernel
theorem dX12_letter_82 : decode cX12_letter 82 = .ok (.laload, 1) := by decide +kernel
theorem dX12_letter_83 : decode cX12_letter 83 = .ok (.lstore 5, 2) := by decide +kernel
theorem dX12_letter_85 : decode cX12_letter 85 = .ok (.iconst 0, 1) := by decide +kernel
theorem dX12_letter_86 : decode cX12_letter 86 = .ok (.istore 7, 2) := by decide +kernel
theorem dX12_letter_88 : decode cX12_letter 88 = .ok (.lload 5, 2) := by decide +kernel
theorem dX12_letter_90 : decode cX12_letter 90 = .ok (.lstore 8, 2) := by decide +kernel
theorem dX12_letter_92 : decode cX12_letter 92 = .ok (.lload 8, 2) := by decide +kernel
theorem dX12_letter_94 : decode cX12_letter 94 = .ok (.lconst 0, 1) := by decide +kernel
theorem dX12_letter_95 : decode cX12_letter 95 = .ok (.lcmp, 1) := by decide +kernel
theorem dX12_letter_96 : decode cX12_letter 96 = .ok (.ifCond .le 16, 3) := by decide +kernel
theorem dX12_letter_99 : decode cX12_letter 99 = .ok (.iinc 7 1, 3) := by decide +kernel
theorem dX12_letter_102 : decode cX12_letter 102 = .ok (.lload 8, 2) := by decide +kernel
theorem dX12_letter_104 : decode cX12_letter 104 = .ok (.bipush 8, 2) := by decide +kernel
theorem dX12_letter_106 : decode cX12_letter 106 = .ok (.lshr, 1) := by decide +kernel
theorem dX12_letter_107 : decode cX12_letter 107 = .ok (.lstore 8, 2) := by decide +kernel
theorem dX12_letter_109 : decode cX12_letter 109 = .ok (.goto (-17), 3) := by decide +kernel
theorem dX12_letter_112 : decode cX12_letter 112 = .ok (.iload_n 3, 1) := by decide +kernel
theorem dX12_letter_113 : decode cX12_letter 113 = .ok (.iload 7, 2) := by decide +kernel
theorem dX12_letter_115 : decode cX12_letter 115 = .ok (.if_icmp .lt 7, 3) := by decide +kernel
theorem dX12_letter_118 : decode cX12_letter 118 = .ok (.iconst 0, 1) := by decide +kernel
theorem dX12_letter_119 : decode cX12_letter 119 = .ok (.goto 25, 3) := by decide +kernel
theorem dX12_letter_122 : decode cX12_letter 122 = .ok (.lload 5, 2) := by decide +kernel
theorem dX12_letter_124 : decode cX12_letter 124 = .ok (.bipush 8, 2) := by decide +kernel
theorem dX12_letter_126 : decode cX12_letter 126 = .ok (.iload 7, 2) := by decide +kernel
theorem dX12_letter_128 : decode cX12_letter 128 = .ok (.iconst 1, 1) := by decide +kernel
theorem dX12_letter_129 : decode cX12_letter 129 = .ok (.isub, 1) := by decide +kernel
theorem dX12_letter_130 : decode cX12_letter 130 = .ok (.iload_n 3, 1) := by decide +kernel
theorem dX12_letter_131 : decode cX12_letter 131 = .ok (.isub, 1) := by decide +kernel
theorem dX12_letter_132 : decode cX12_letter 132 = .ok (.imul, 1) := by decide +kernel
theorem dX12_letter_133 : decode cX12_letter 133 = .ok (.lshr, 1) := by decide +kernel
theorem dX12_letter_134 : decode cX12_letter 134 = .ok (.ldc2_w 510, 3) := by decide +kernel
theorem dX12_letter_137 : decode cX12_letter 137 = .ok (.land, 1) := by decide +kernel
theorem dX12_letter_138 : decode cX12_letter 138 = .ok (.l2i, 1) := by decide +kernel
theorem dX12_letter_139 : decode cX12_letter 139 = .ok (.bipush 97, 2) := by decide +kernel
theorem dX12_letter_141 : decode cX12_letter 141 = .ok (.isub, 1) := by decide +kernel
theorem dX12_letter_142 : decode cX12_letter 142 = .ok (.iconst 1, 1) := by decide +kernel
theorem dX12_letter_143 : decode cX12_letter 143 = .ok (.iadd, 1) := by decide +kernel
theorem dX12_letter_144 : decode cX12_letter 144 = .ok (.ireturn, 1) := by decide +kernel
noncomputable def tX12_letter_0 : List (Nat × zF) := [(0, (zli4 1 1)), (1, (z_if_ne 12)), (4, (zla4 0 1)), (5, (zli4 2 1)), (6, (zcv 236 1 12)), (9, (zgt 30)), (12, (zli4 1 1)), (13, (zst 1 (zp (.int (1))))), (14, (z_ic_ne 29)), (17, (zla4 0 1)), (18, (zli4 2 1)), (19, (zcv 237 1 12))]
theorem kX12_letter_0 : ∀ q ∈ tX12_letter_0, zOk zg iX12_letter q.1 q.2 := (z_c (ok_iload_n dX12_letter_0 rfl) (z_c (ok_if_ne dX12_letter_1 (by decide)) (z_c (ok_aload_n dX12_letter_4 rfl) (z_c (ok_iload_n dX12_letter_5 rfl) (z_c (ok_callV zcal_236 (q := (RX12, TX12, 73)) rfl zw_972 zw_973 zw_974 dX12_letter_6) (z_c (ok_goto dX12_letter_9 (by decide)) (z_c (ok_iload_n dX12_letter_12 rfl) (z_c (ok_iconst (v := (1)) dX12_letter_13 (by decide)) (z_c (ok_icmp_ne dX12_letter_14 (by decide)) (z_c (ok_aload_n dX12_letter_17 rfl) (z_c (ok_iload_n dX12_letter_18 rfl) (z_c (ok_callV zcal_237 (q := (RX12, TX12, 73)) rfl zw_975 zw_976 zw_977 dX12_letter_19) z_n))))))))))))
noncomputable def tX12_letter_1 : List (Nat × zF) := [(22, (z_if_eq 29)), (25, (zst 1 (zp (.int (1))))), (26, (zgt 30)), (29, (zst 1 (zp (.int (0))))), (30, (zsi4 10 4 2)), (32, (zli4 4 2)), (34, (z_if_eq 46)), (37, (zli4 3 1)), (38, (zst 1 (zp (.int (0))))), (39, (zst 1 (zp (.int (5))))), (40, (zcs 165 3)), (43, (z_if_ne 48))]
theorem kX12_letter_1 : ∀ q ∈ tX12_letter_1, zOk zg iX12_letter q.1 q.2 := (z_c (ok_if_eq dX12_letter_22 (by decide)) (z_c (ok_iconst (v := (1)) dX12_letter_25 (by decide)) (z_c (ok_goto dX12_letter_26 (by decide)) (z_c (ok_iconst (v := (0)) dX12_letter_29 (by decide)) (z_c (ok_istore dX12_letter_30) (z_c (ok_iload dX12_letter_32) (z_c (ok_if_eq dX12_letter_34 (by decide)) (z_c (ok_iload_n dX12_letter_37 rfl) (z_c (ok_iconst (v := (0)) dX12_letter_38 (by decide)) (z_c (ok_iconst (v := (5)) dX12_letter_39 (by decide)) (z_c (ok_callS zcal_165 zw_812 zw_813 dX12_letter_40) (z_c (ok_if_ne dX12_letter_43 (by decide)) z_n))))))))))))
noncomputable def tX12_letter_2 : List (Nat × zF) := [(46, (zst 1 (zp (.int ((-1)))))), (47, (zri false)), (48, (zli4 1 1)), (49, (z_if_ne 69)), (52, (zla4 0 1)), (53, (zgf 12 31)), (56, (zst 2 (zp (.int (9))))), (58, (zla4 0 1)), (59, (zgf 12 13)), (62, (zst 1 z_imul)), (63, (zli4 2 1)), (64, (zst 1 z_iadd))]
theorem kX12_letter_2 : ∀ q ∈ tX12_letter_2, zOk zg iX12_letter q.1 q.2 := (z_c (ok_iconst (v := (-1)) dX12_letter_46 (by decide)) (z_c (ok_ireturn rfl dX12_letter_47) (z_c (ok_iload_n dX12_letter_48 rfl) (z_c (ok_if_ne dX12_letter_49 (by decide)) (z_c (ok_aload_n dX12_letter_52 rfl) (z_c (ok_getf (C := RX12) (T := TX12) (N := 73) rfl (by decide) zinX12 rfl zw_718 dX12_letter_53) (z_c (ok_bipush (v := (9)) dX12_letter_56 (by decide)) (z_c (ok_aload_n dX12_letter_58 rfl) (z_c (ok_getf (C := RX12) (T := TX12) (N := 73) rfl (by decide) zinX12 rfl zw_700 dX12_letter_59) (z_c (ok_imul dX12_letter_62) (z_c (ok_iload_n dX12_letter_63 rfl) (z_c (ok_iadd dX12_letter_64) z_n))))))))))))
noncomputable def tX12_letter_3 : List (Nat × zF) := [(65, (zll 1)), (66, (zgt 83)), (69, (zla4 0 1)), (70, (zgf 12 32)), (73, (zst 2 (zp (.int (6))))), (75, (zla4 0 1)), (76, (zgf 12 13)), (79, (zst 1 z_imul)), (80, (zli4 2 1)), (81, (zst 1 z_iadd)), (82, (zll 1)), (83, (zsl4 10 5 2))]
theorem kX12_letter_3 : ∀ q ∈ tX12_letter_3, zOk zg iX12_letter q.1 q.2 := (z_c (ok_laload rfl dX12_letter_65) (z_c (ok_goto dX12_letter_66 (by decide)) (z_c (ok_aload_n dX12_letter_69 rfl) (z_c (ok_getf (C := RX12) (T := TX12) (N := 73) rfl (by decide) zinX12 rfl zw_719 dX12_letter_70) (z_c (ok_bipush (v := (6)) dX12_letter_73 (by decide)) (z_c (ok_aload_n dX12_letter_75 rfl) (z_c (ok_getf (C := RX12) (T := TX12) (N := 73) rfl (by decide) zinX12 rfl zw_700 dX12_letter_76) (z_c (ok_imul dX12_letter_79) (z_c (ok_iload_n dX12_letter_80 rfl) (z_c (ok_iadd dX12_letter_81) (z_c (ok_laload rfl dX12_letter_82) (z_c (ok_lstore dX12_letter_83) z_n))))))))))))
noncomputable def tX12_letter_4 : List (Nat × zF) := [(85, (zst 1 (zp (.int (0))))), (86, (zsi4 10 7 2)), (88, (zll4 5 2)), (90, (zsl4 10 8 2)), (92, (zll4 8 2)), (94, (zst 1 (zp (.long (0))))), (95, (zst 1 zcm)), (96, (z_if_le 112)), (99, (zin4 10 7 (1))), (102, (zll4 8 2)), (104, (zst 2 (zp (.int (8))))), (106, (zst 1 z_lshr))]
theorem kX12_letter_4 : ∀ q ∈ tX12_letter_4, zOk zg iX12_letter q.1 q.2 := (z_c (ok_iconst (v := (0)) dX12_letter_85 (by decide)) (z_c (ok_istore dX12_letter_86) (z_c (ok_lload dX12_letter_88) (z_c (ok_lstore dX12_letter_90) (z_c (ok_lload dX12_letter_92) (z_c (ok_lconst (v := (0)) dX12_letter_94 (by decide)) (z_c (ok_lcmp dX12_letter_95) (z_c (ok_if_le dX12_letter_96 (by decide)) (z_c (ok_iinc (v := (1)) dX12_letter_99 (by decide)) (z_c (ok_lload dX12_letter_102) (z_c (ok_bipush (v := (8)) dX12_letter_104 (by decide)) (z_c (ok_lshr dX12_letter_106) z_n))))))))))))
noncomputable def tX12_letter_5 : List (Nat × zF) := [(107, (zsl4 10 8 2)), (109, (zgt 92)), (112, (zli4 3 1)), (113, (zli4 7 2)), (115, (z_ic_lt 122)), (118, (zst 1 (zp (.int (0))))), (119, (zgt 144)), (122, (zll4 5 2)), (124, (zst 2 (zp (.int (8))))), (126, (zli4 7 2)), (128, (zst 1 (zp (.int (1))))), (129, (zst 1 z_isub))]
theorem kX12_letter_5 : ∀ q ∈ tX12_letter_5, zOk zg iX12_letter q.1 q.2 := (z_c (ok_lstore dX12_letter_107) (z_c (ok_goto dX12_letter_109 (by decide)) (z_c (ok_iload_n dX12_letter_112 rfl) (z_c (ok_iload dX12_letter_113) (z_c (ok_icmp_lt dX12_letter_115 (by decide)) (z_c (ok_iconst (v := (0)) dX12_letter_118 (by decide)) (z_c (ok_goto dX12_letter_119 (by decide)) (z_c (ok_lload dX12_letter_122) (z_c (ok_bipush (v := (8)) dX12_letter_124 (by decide)) (z_c (ok_iload dX12_letter_126) (z_c (ok_iconst (v := (1)) dX12_letter_128 (by decide)) (z_c (ok_isub dX12_letter_129) z_n))))))))))))
noncomputable def tX12_letter_6 : List (Nat × zF) := [(130, (zli4 3 1)), (131, (zst 1 z_isub)), (132, (zst 1 z_imul)), (133, (zst 1 z_lshr)), (134, (zst 3 (zp (.long (255))))), (137, (zst 1 z_land)), (138, (zst 1 zli)), (139, (zst 2 (zp (.int (97))))), (141, (zst 1 z_isub)), (142, (zst 1 (zp (.int (1))))), (143, (zst 1 z_iadd)), (144, (zri false))]
theorem kX12_letter_6 : ∀ q ∈ tX12_letter_6, zOk zg iX12_letter q.1 q.2 := (z_c (ok_iload_n dX12_letter_130 rfl) (z_c (ok_isub dX12_letter_131) (z_c (ok_imul dX12_letter_132) (z_c (ok_lshr dX12_letter_133) (z_c (ok_ldc2 (v := (255)) zw_978 dX12_letter_134) (z_c (ok_land dX12_letter_137) (z_c (ok_l2i dX12_letter_138) (z_c (ok_bipush (v := (97)) dX12_letter_139 (by decide)) (z_c (ok_isub dX12_letter_141) (z_c (ok_iconst (v := (1)) dX12_letter_142 (by decide)) (z_c (ok_iadd dX12_letter_143) (z_c (ok_ireturn rfl dX12_letter_144) z_n))))))))))))
noncomputable def tX12_letter : zT := [(22, tX12_letter_0), (46, tX12_letter_1), (65, tX12_letter_2), (85, tX12_letter_3), (107, tX12_letter_4), (130, tX12_letter_5), (100000, tX12_letter_6)]
theorem kX12_letter : zTok zg iX12_letter tX12_letter := (z_t kX12_letter_0 (z_t kX12_letter_1 (z_t kX12_letter_2 (z_t kX12_letter_3 (z_t kX12_letter_4 (z_t kX12_letter_5 (z_t kX12_letter_6 z_tn)))))))
theorem dX12_cell_0 : decode cX12_cell 0 = .ok (.aload_n 0, 1) := by decide +kernel
theorem dX12_cell_1 : decode cX12_cell 1 = .ok (.iload_n 1, 1) := by decide +kernel
theorem dX12_cell_2 : decode cX12_cell 2 = .ok (.iload_n 2, 1) := by decide +kernel
theorem dX12_cell_3 : decode cX12_cell 3 = .ok (.invokevirtual 444, 3) := by decide +kernel
theorem dX12_cell_6 : decode cX12_cell 6 = .ok (.ifCond .ne 5, 3) := by decide +kernel
theorem dX12_cell_9 : decode cX12_cell 9 = .ok (.iconst (-1), 1) := by decide +kernel
theorem dX12_cell_10 : decode cX12_cell 10 = .ok (.ireturn, 1) := by decide +kernel
theorem dX12_cell_11 : decode cX12_cell 11 = .ok (.bipush 8, 2) := by decide +kernel
theorem dX12_cell_13 : decode cX12_cell 13 = .ok (.iload_n 2, 1) := by decide +kernel
theorem dX12_cell_14 : decode cX12_cell 14 = .ok (.imul, 1) := by decide +kernel
theorem dX12_cell_15 : decode cX12_cell 15 = .ok (.iload_n 1, 1) := by decide +kernel
theorem dX12_cell_16 : decode cX12_cell 16 = .ok (.iadd, 1) := by decide +kernel
theorem dX12_cell_17 : decode cX12_cell 17 = .ok (.istore 4, 2) := by decide +kernel
theorem dX12_cell_19 : decode cX12_cell 19 = .ok (.aload_n 0, 1) := by decide +kernel
theorem dX12_cell_20 : decode cX12_cell 20 = .ok (.iconst 0, 1) := by decide +kernel
theorem dX12_cell_21 : decode cX12_cell 21 = .ok (.iconst (-1), 1) := by decide +kernel
theorem dX12_cell_22 : decode cX12_cell 22 = .ok (.invokevirtual 486, 3) := by decide +kernel
theorem dX12_cell_25 : decode cX12_cell 25 = .ok (.iload_n 3, 1) := by decide +kernel
theorem dX12_cell_26 : decode cX12_cell 26 = .ok (.ifCond .ne 21, 3) := by decide +kernel
theorem dX12_cell_29 : decode cX12_cell 29 = .ok (.aload_n 0, 1) := by decide +kernel
theorem dX12_cell_30 : decode cX12_cell 30 = .ok (.getfield 66, 3) := by decide +kernel
theorem dX12_cell_33 : decode cX12_cell 33 = .ok (.bipush 64, 2) := by decide +kernel
theorem dX12_cell_35 : decode cX12_cell 35 = .ok (.aload_n 0, 1) := by decide +kernel
theorem dX12_cell_36 : decode cX12_cell 36 = .ok (.getfield 51, 3) := by decide +kernel
theorem dX12_cell_39 : decode cX12_cell 39 = .ok (.imul, 1) := by decide +kernel
theorem dX12_cell_40 : decode cX12_cell 40 = .ok (.iload 4, 2) := by decide +kernel
theorem dX12_cell_42 : decode cX12_cell 42 = .ok (.iadd, 1) := by decide +kernel
theorem dX12_cell_43 : decode cX12_cell 43 = .ok (.iaload, 1) := by decide +kernel
theorem dX12_cell_44 : decode cX12_cell 44 = .ok (.goto 42, 3) := by decide +kernel
theorem dX12_cell_47 : decode cX12_cell 47 = .ok (.iload_n 3, 1) := by decide +kernel
theorem dX12_cell_48 : decode cX12_cell 48 = .ok (.iconst 1, 1) := by decide +kernel
theorem dX12_cell_49 : decode cX12_cell 49 = .ok (.if_icmp .ne 21, 3) := by decide +kernel
theorem dX12_cell_52 : decode cX12_cell 52 = .ok (.aload_n 0, 1) := by decide +kernel
theorem dX12_cell_53 : decode cX12_cell 53 = .ok (.getfield 195, 3) := by decide +kernel
theorem dX12_cell_56 : decode cX12_cell 56 = .ok (.iload 4, 2) := by decide +kernel
theorem dX12_cell_58 : decode cX12_cell 58 = .ok (.iaload, 1) := by decide +kernel
theorem dX12_cell_59 : decode cX12_cell 59 = .ok (.ifCond .le 7, 3) := by decide +kernel
theorem dX12_cell_62 : decode cX12_cell 62 = .ok (.iconst 1, 1) := by decide +kernel
theorem dX12_cell_63 : decode cX12_cell 63 = .ok (.goto 23, 3) := by decide +kernel
theorem dX12_cell_66 : decode cX12_cell 66 = .ok (.iconst 0, 1) := by decide +kernel
theorem dX12_cell_67 : decode cX12_cell 67 = .ok (.goto 19, 3) := by decide +kernel
theorem dX12_cell_70 : decode cX12_cell 70 = .ok (.iload_n 3, 1) := by decide +kernel
theorem dX12_cell_71 : decode cX12_cell 71 = .ok (.iconst 2, 1) := by decide +kernel
theorem dX12_cell_72 : decode cX12_cell 72 = .ok (.if_icmp .ne 13, 3) := by decide +kernel
theorem dX12_cell_75 : decode cX12_cell 75 = .ok (.aload_n 0, 1) := by decide +kernel
theorem dX12_cell_76 : decode cX12_cell 76 = .ok (.getfield 195, 3) := by decide +kernel
theorem dX12_cell_79 : decode cX12_cell 79 = .ok (.iload 4, 2) := by decide +kernel
theorem dX12_cell_81 : decode cX12_cell 81 = .ok (.iaload, 1) := by decide +kernel
theorem dX12_cell_82 : decode cX12_cell 82 = .ok (.goto 4, 3) := by decide +kernel
theorem dX12_cell_85 : decode cX12_cell 85 = .ok (.iconst (-1), 1) := by decide +kernel
theorem dX12_cell_86 : decode cX12_cell 86 = .ok (.ireturn, 1) := by decide +kernel
noncomputable def tX12_cell_0 : List (Nat × zF) := [(0, (zla4 0 1)), (1, (zli4 1 1)), (2, (zli4 2 1)), (3, (zcv 221 2 12)), (6, (z_if_ne 11)), (9, (zst 1 (zp (.int ((-1)))))), (10, (zri false)), (11, (zst 2 (zp (.int (8))))), (13, (zli4 2 1)), (14, (zst 1 z_imul)), (15, (zli4 1 1)), (16, (zst 1 z_iadd))]
theorem kX12_cell_0 : ∀ q ∈ tX12_cell_0, zOk zg iX12_cell q.1 q.2 := (z_c (ok_aload_n dX12_cell_0 rfl) (z_c (ok_iload_n dX12_cell_1 rfl) (z_c (ok_iload_n dX12_cell_2 rfl) (z_c (ok_callV zcal_221 (q := (RX12, TX12, 73)) rfl zw_918 zw_919 zw_920 dX12_cell_3) (z_c (ok_if_ne dX12_cell_6 (by decide)) (z_c (ok_iconst (v := (-1)) dX12_cell_9 (by decide)) (z_c (ok_ireturn rfl dX12_cell_10) (z_c (ok_bipush (v := (8)) dX12_cell_11 (by decide)) (z_c (ok_iload_n dX12_cell_13 rfl) (z_c (ok_imul dX12_cell_14) (z_c (ok_iload_n dX12_cell_15 rfl) (z_c (ok_iadd dX12_cell_16) z_n))))))))))))
noncomputable def tX12_cell_1 : List (Nat × zF) := [(17, (zsi4 5 4 2)), (19, (zla4 0 1)), (20, (zst 1 (zp (.int (0))))), (21, (zst 1 (zp (.int ((-1)))))), (22, (zcv 228 2 12)), (25, (zli4 3 1)), (26, (z_if_ne 47)), (29, (zla4 0 1)), (30, (zgf 12 18)), (33, (zst 2 (zp (.int (64))))), (35, (zla4 0 1)), (36, (zgf 12 13))]
theorem kX12_cell_1 : ∀ q ∈ tX12_cell_1, zOk zg iX12_cell q.1 q.2 := (z_c (ok_istore dX12_cell_17) (z_c (ok_aload_n dX12_cell_19 rfl) (z_c (ok_iconst (v := (0)) dX12_cell_20 (by decide)) (z_c (ok_iconst (v := (-1)) dX12_cell_21 (by decide)) (z_c (ok_callV zcal_228 (q := (RX12, TX12, 73)) rfl zw_954 zw_955 zw_956 dX12_cell_22) (z_c (ok_iload_n dX12_cell_25 rfl) (z_c (ok_if_ne dX12_cell_26 (by decide)) (z_c (ok_aload_n dX12_cell_29 rfl) (z_c (ok_getf (C := RX12) (T := TX12) (N := 73) rfl (by decide) zinX12 rfl zw_705 dX12_cell_30) (z_c (ok_bipush (v := (64)) dX12_cell_33 (by decide)) (z_c (ok_aload_n dX12_cell_35 rfl) (z_c (ok_getf (C := RX12) (T := TX12) (N := 73) rfl (by decide) zinX12 rfl zw_700 dX12_cell_36) z_n))))))))))))
noncomputable def tX12_cell_2 : List (Nat × zF) := [(39, (zst 1 z_imul)), (40, (zli4 4 2)), (42, (zst 1 z_iadd)), (43, (zal 0)), (44, (zgt 86)), (47, (zli4 3 1)), (48, (zst 1 (zp (.int (1))))), (49, (z_ic_ne 70)), (52, (zla4 0 1)), (53, (zgf 12 60)), (56, (zli4 4 2)), (58, (zal 0))]
theorem kX12_cell_2 : ∀ q ∈ tX12_cell_2, zOk zg iX12_cell q.1 q.2 := (z_c (ok_imul dX12_cell_39) (z_c (ok_iload dX12_cell_40) (z_c (ok_iadd dX12_cell_42) (z_c (ok_iaload rfl dX12_cell_43) (z_c (ok_goto dX12_cell_44 (by decide)) (z_c (ok_iload_n dX12_cell_47 rfl) (z_c (ok_iconst (v := (1)) dX12_cell_48 (by decide)) (z_c (ok_icmp_ne dX12_cell_49 (by decide)) (z_c (ok_aload_n dX12_cell_52 rfl) (z_c (ok_getf (C := RX12) (T := TX12) (N := 73) rfl (by decide) zinX12 rfl zw_748 dX12_cell_53) (z_c (ok_iload dX12_cell_56) (z_c (ok_iaload rfl dX12_cell_58) z_n))))))))))))
noncomputable def tX12_cell_3 : List (Nat × zF) := [(59, (z_if_le 66)), (62, (zst 1 (zp (.int (1))))), (63, (zgt 86)), (66, (zst 1 (zp (.int (0))))), (67, (zgt 86)), (70, (zli4 3 1)), (71, (zst 1 (zp (.int (2))))), (72, (z_ic_ne 85)), (75, (zla4 0 1)), (76, (zgf 12 60)), (79, (zli4 4 2)), (81, (zal 0))]
theorem kX12_cell_3 : ∀ q ∈ tX12_cell_3, zOk zg iX12_cell q.1 q.2 := (z_c (ok_if_le dX12_cell_59 (by decide)) (z_c (ok_iconst (v := (1)) dX12_cell_62 (by decide)) (z_c (ok_goto dX12_cell_63 (by decide)) (z_c (ok_iconst (v := (0)) dX12_cell_66 (by decide)) (z_c (ok_goto dX12_cell_67 (by decide)) (z_c (ok_iload_n dX12_cell_70 rfl) (z_c (ok_iconst (v := (2)) dX12_cell_71 (by decide)) (z_c (ok_icmp_ne dX12_cell_72 (by decide)) (z_c (ok_aload_n dX12_cell_75 rfl) (z_c (ok_getf (C := RX12) (T := TX12) (N := 73) rfl (by decide) zinX12 rfl zw_748 dX12_cell_76) (z_c (ok_iload dX12_cell_79) (z_c (ok_iaload rfl dX12_cell_81) z_n))))))))))))
noncomputable def tX12_cell_4 : List (Nat × zF) := [(82, (zgt 86)), (85, (zst 1 (zp (.int ((-1)))))), (86, (zri false))]
theorem kX12_cell_4 : ∀ q ∈ tX12_cell_4, zOk zg iX12_cell q.1 q.2 := (z_c (ok_goto dX12_cell_82 (by decide)) (z_c (ok_iconst (v := (-1)) dX12_cell_85 (by decide)) (z_c (ok_ireturn rfl dX12_cell_86) z_n)))
noncomputable def tX12_cell : zT := [(17, tX12_cell_0), (39, tX12_cell_1), (59, tX12_cell_2), (82, tX12_cell_3), (100000, tX12_cell_4)]
theorem kX12_cell : zTok zg iX12_cell tX12_cell := (z_t kX12_cell_0 (z_t kX12_cell_1 (z_t kX12_cell_2 (z_t kX12_cell_3 (z_t kX12_cell_4 z_tn)))))
theorem dX12_partOf_0 : decode cX12_partOf 0 = .ok (.iload_n 1, 1) := by decide +kernel
theorem dX12_partOf_1 : decode cX12_partOf 1 = .ok (.ifCond .ne 10, 3) := by decide +kernel
theorem dX12_partOf_4 : decode cX12_partOf 4 = .ok (.iload_n 0, 1) := by decide +kernel
theorem dX12_partOf_5 : decode cX12_partOf 5 = .ok (.bipush 8, 2) := by decide +kernel
theorem dX12_partOf_7 : decode cX12_partOf 7 = .ok (.irem, 1) := by decide +kernel
theorem dX12_partOf_8 : decode cX12_partOf 8 = .ok (.goto 7, 3) := by decide +kernel
theorem dX12_partOf_11 : decode cX12_partOf 11 = .ok (.iload_n 0, 1) := by decide +kernel
theorem dX12_partOf_12 : decode cX12_partOf 12 = .ok (.bipush 8, 2) := by decide +kernel
theorem dX12_partOf_14 : decode cX12_partOf 14 = .ok (.idiv, 1) := by decide +kernel
theorem dX12_partOf_15 : decode cX12_partOf 15 = .ok (.ireturn, 1) := by decide +kernel
noncomputable def tX12_partOf_0 : List (Nat × zF) := [(0, (zli4 1 1)), (1, (z_if_ne 11)), (4, (zli4 0 1)), (5, (zst 2 (zp (.int (8))))), (7, (zst 1 z_irem)), (8, (zgt 15)), (11, (zli4 0 1)), (12, (zst 2 (zp (.int (8))))), (14, (zst 1 z_idiv)), (15, (zri false))]
theorem kX12_partOf_0 : ∀ q ∈ tX12_partOf_0, zOk zg iX12_partOf q.1 q.2 := (z_c (ok_iload_n dX12_partOf_0 rfl) (z_c (ok_if_ne dX12_partOf_1 (by decide)) (z_c (ok_iload_n dX12_partOf_4 rfl) (z_c (ok_bipush (v := (8)) dX12_partOf_5 (by decide)) (z_c (ok_irem dX12_partOf_7) (z_c (ok_goto dX12_partOf_8 (by decide)) (z_c (ok_iload_n dX12_partOf_11 rfl) (z_c (ok_bipush (v := (8)) dX12_partOf_12 (by decide)) (z_c (ok_idiv dX12_partOf_14) (z_c (ok_ireturn rfl dX12_partOf_15) z_n))))))))))
noncomputable def tX12_partOf : zT := [(100000, tX12_partOf_0)]
theorem kX12_partOf : zTok zg iX12_partOf tX12_partOf := (z_t kX12_partOf_0 z_tn)
theorem dX12_thing_0 : decode cX12_thing 0 = .ok (.aload_n 0, 1) := by decide +kernel
theorem dX12_thing_1 : decode cX12_thing 1 = .ok (.iload_n 1, 1) := by decide +kernel
theorem dX12_thing_2 : decode cX12_thing 2 = .ok (.invokevirtual 504, 3) := by decide +kernel
theorem dX12_thing_5 : decode cX12_thing 5 = .ok (.ifCond .ne 5, 3) := by decide +kernel
theorem dX12_thing_8 : decode cX12_thing 8 = .ok (.iconst (-1), 1) := by decide +kernel
theorem dX12_thing_9 : decode cX12_thing 9 = .ok (.ireturn, 1) := by decide +kernel
theorem dX12_thing_10 : decode cX12_thing 10 = .ok (.iload_n 2, 1) := by decide +kernel
theorem dX12_thing_11 : decode cX12_thing 11 = .ok (.tableswitch 140 0 6 #[41, 41, 60, 75, 90, 109, 116], 41) := by decide +kernel
theorem dX12_thing_52 : decode cX12_thing 52 = .ok (.aload_n 0, 1) := by decide +kernel
theorem dX12_thing_53 : decode cX12_thing 53 = .ok (.getfield 72, 3) := by decide +kernel
theorem dX12_thing_56 : decode cX12_thing 56 = .ok (.bipush 9, 2) := by decide +kernel
theorem dX12_thing_58 : decode cX12_thing 58 = .ok (.aload_n 0, 1) := by decide +kernel
theorem dX12_thing_59 : decode cX12_thing 59 = .ok (.getfield 51, 3) := by decide +kernel
theorem dX12_thing_62 : decode cX12_thing 62 = .ok (.imul, 1) := by decide +kernel
theorem dX12_thing_63 : decode cX12_thing 63 = .ok (.iload_n 1, 1) := by decide +kernel
theorem dX12_thing_64 : decode cX12_thing 64 = .ok (.iadd, 1) := by decide +kernel
theorem dX12_thing_65 : decode cX12_thing 65 = .ok (.iaload, 1) := by decide +kernel
theorem dX12_thing_66 : decode cX12_thing 66 = .ok (.iload_n 2, 1) := by decide +kernel
theorem dX12_thing_67 : decode cX12_thing 67 = .ok (.invokestatic 512, 3) := by decide +kernel
theorem dX12_thing_70 : decode cX12_thing 70 = .ok (.ireturn, 1) := by decide +kernel
theorem dX12_thing_71 : decode cX12_thing 71 = .ok (.aload_n 0, 1) := by decide +kernel
theorem dX12_thing_72 : decode cX12_thing 72 = .ok (.getfield 75, 3) := by decide +kernel
theorem dX12_thing_75 : decode cX12_thing 75 = .ok (.bipush 9, 2) := by decide +kernel
theorem dX12_thing_77 : decode cX12_thing 77 = .ok (.aload_n 0, 1) := by decide +kernel
theorem dX12_thing_78 : decode cX12_thing 78 = .ok (.getfield 51, 3) := by decide +kernel
theorem dX12_thing_81 : decode cX12_thing 81 = .ok (.imul, 1) := by decide +kernel
theorem dX12_thing_82 : decode cX12_thing 82 = .ok (.iload_n 1, 1) := by decide +kernel
theorem dX12_thing_83 : decode cX12_thing 83 = .ok (.iadd, 1) := by decide +kernel
theorem dX12_thing_84 : decode cX12_thing 84 = .ok (.iaload, 1) := by decide +kernel
theorem dX12_thing_85 : decode cX12_thing 85 = .ok (.ireturn, 1) := by decide +kernel
theorem dX12_thing_86 : decode cX12_thing 86 = .ok (.aload_n 0, 1) := by decide +kernel
theorem dX12_thing_87 : decode cX12_thing 87 = .ok (.getfield 78, 3) := by decide +kernel
theorem dX12_thing_90 : decode cX12_thing 90 = .ok (.bipush 9, 2) := by decide +kernel
theorem dX12_thing_92 : decode cX12_thing 92 = .ok (.aload_n 0, 1) := by decide +kernel
theorem dX12_thing_93 : decode cX12_thing 93 = .ok (.getfield 51, 3) := by decide +kernel
theorem dX12_thing_96 : decode cX12_thing 96 = .ok (.imul, 1) := by decide +kernel
theorem dX12_thing_97 : decode cX12_thing 97 = .ok (.iload_n 1, 1) := by decide +kernel
theorem dX12_thing_98 : decode cX12_thing 98 = .ok (.iadd, 1) := by decide +kernel
theorem dX12_thing_99 : decode cX12_thing 99 = .ok (.iaload, 1) := by decide +kernel
theorem dX12_thing_100 : decode cX12_thing 100 = .ok (.ireturn, 1) := by decide +kernel
theorem dX12_thing_101 : decode cX12_thing 101 = .ok (.aload_n 0, 1) := by decide +kernel
theorem dX12_thing_102 : decode cX12_thing 102 = .ok (.getfield 162, 3) := by decide +kernel
theorem dX12_thing_105 : decode cX12_thing 105 = .ok (.iconst 0, 1) := by decide +kernel
theorem dX12_thing_106 : decode cX12_thing 106 = .ok (.iaload, 1) := by decide +kernel
theorem dX12_thing_107 : decode cX12_thing 107 = .ok (.iload_n 1, 1) := by decide +kernel
theorem dX12_thing_108 : decode cX12_thing 108 = .ok (.invokestatic 382, 3) := by decide +kernel
theorem dX12_thing_111 : decode cX12_thing 111 = .ok (.ifCond .eq 7, 3) := by decide +kernel
theorem dX12_thing_114 : decode cX12_thing 114 = .ok (.iconst 1, 1) := by decide +kernel
theorem dX12_thing_115 : decode cX12_thing 115 = .ok (.goto 4, 3) := by decide +kernel
theorem dX12_thing_118 : decode cX12_thing 118 = .ok (.iconst 0, 1) := by decide +kernel
theorem dX12_thing_119 : decode cX12_thing 119 = .ok (.ireturn, 1) := by decide +kernel
theorem dX12_thing_120 : decode cX12_thing 120 = .ok (.aload_n 0, 1) := by decide +kernel
theorem dX12_thing_121 : decode cX12_thing 121 = .ok (.getfield 165, 3) := by decide +kernel
theorem dX12_thing_124 : decode cX12_thing 124 = .ok (.iload_n 1, 1) := by decide +kernel
theorem dX12_thing_125 : decode cX12_thing 125 = .ok (.iaload, 1) := by decide +kernel
theorem dX12_thing_126 : decode cX12_thing 126 = .ok (.ireturn, 1) := by decide +kernel
theorem dX12_thing_127 : decode cX12_thing 127 = .ok (.aload_n 0, 1) := by decide +kernel
theorem dX12_thing_128 : decode cX12_thing 128 = .ok (.getfield 162, 3) := by decide +kernel
theorem dX12_thing_131 : decode cX12_thing 131 = .ok (.iconst 0, 1) := by decide +kernel
theorem dX12_thing_132 : decode cX12_thing 132 = .ok (.iaload, 1) := by decide +kernel
theorem dX12_thing_133 : decode cX12_thing 133 = .ok (.iload_n 1, 1) := by decide +kernel
theorem dX12_thing_134 : decode cX12_thing 134 = .ok (.invokestatic 382, 3) := by decide +kernel
theorem dX12_thing_137 : decode cX12_thing 137 = .ok (.ifCond .eq 12, 3) := by decide +kernel
theorem dX12_thing_140 : decode cX12_thing 140 = .ok (.aload_n 0, 1) := by decide +kernel
theorem dX12_thing_141 : decode cX12_thing 141 = .ok (.iconst 0, 1) := by decide +kernel
theorem dX12_thing_142 : decode cX12_thing 142 = .ok (.iload_n 1, 1) := by decide +kernel
theorem dX12_thing_143 : decode cX12_thing 143 = .ok (.invokevirtual 465, 3) := by decide +kernel
theorem dX12_thing_146 : decode cX12_thing 146 = .ok (.goto 4, 3) := by decide +kernel
theorem dX12_thing_149 : decode cX12_thing 149 = .ok (.iconst (-1), 1) := by decide +kernel
theorem dX12_thing_150 : decode cX12_thing 150 = .ok (.ireturn, 1) := by decide +kernel
theorem dX12_thing_151 : decode cX12_thing 151 = .ok (.iconst (-1), 1) := by decide +kernel
theorem dX12_thing_152 : decode cX12_thing 152 = .ok (.ireturn, 1) := by decide +kernel
noncomputable def tX12_thing_0 : List (Nat × zF) := [(0, (zla4 0 1)), (1, (zli4 1 1)), (2, (zcv 236 1 12)), (5, (z_if_ne 10)), (8, (zst 1 (zp (.int ((-1)))))), (9, (zri false)), (10, (zli4 2 1)), (11, (zts [(0, 52), (1, 52), (2, 71), (3, 86), (4, 101), (5, 120), (6, 127)] 151)), (52, (zla4 0 1)), (53, (zgf 12 20)), (56, (zst 2 (zp (.int (9))))), (58, (zla4 0 1))]
theorem kX12_thing_0 : ∀ q ∈ tX12_thing_0, zOk zg iX12_thing q.1 q.2 := (z_c (ok_aload_n dX12_thing_0 rfl) (z_c (ok_iload_n dX12_thing_1 rfl) (z_c (ok_callV zcal_236 (q := (RX12, TX12, 73)) rfl zw_972 zw_973 zw_974 dX12_thing_2) (z_c (ok_if_ne dX12_thing_5 (by decide)) (z_c (ok_iconst (v := (-1)) dX12_thing_8 (by decide)) (z_c (ok_ireturn rfl dX12_thing_9) (z_c (ok_iload_n dX12_thing_10 rfl) (z_c (ok_tsw dX12_thing_11 (by decide) (by decide +kernel) (by decide +kernel) (by decide)) (z_c (ok_aload_n dX12_thing_52 rfl) (z_c (ok_getf (C := RX12) (T := TX12) (N := 73) rfl (by decide) zinX12 rfl zw_707 dX12_thing_53) (z_c (ok_bipush (v := (9)) dX12_thing_56 (by decide)) (z_c (ok_aload_n dX12_thing_58 rfl) z_n))))))))))))
noncomputable def tX12_thing_1 : List (Nat × zF) := [(59, (zgf 12 13)), (62, (zst 1 z_imul)), (63, (zli4 1 1)), (64, (zst 1 z_iadd)), (65, (zal 0)), (66, (zli4 2 1)), (67, (zcs 242 2)), (70, (zri false)), (71, (zla4 0 1)), (72, (zgf 12 21)), (75, (zst 2 (zp (.int (9))))), (77, (zla4 0 1))]
theorem kX12_thing_1 : ∀ q ∈ tX12_thing_1, zOk zg iX12_thing q.1 q.2 := (z_c (ok_getf (C := RX12) (T := TX12) (N := 73) rfl (by decide) zinX12 rfl zw_700 dX12_thing_59) (z_c (ok_imul dX12_thing_62) (z_c (ok_iload_n dX12_thing_63 rfl) (z_c (ok_iadd dX12_thing_64) (z_c (ok_iaload rfl dX12_thing_65) (z_c (ok_iload_n dX12_thing_66 rfl) (z_c (ok_callS zcal_242 zw_979 zw_980 dX12_thing_67) (z_c (ok_ireturn rfl dX12_thing_70) (z_c (ok_aload_n dX12_thing_71 rfl) (z_c (ok_getf (C := RX12) (T := TX12) (N := 73) rfl (by decide) zinX12 rfl zw_708 dX12_thing_72) (z_c (ok_bipush (v := (9)) dX12_thing_75 (by decide)) (z_c (ok_aload_n dX12_thing_77 rfl) z_n))))))))))))
noncomputable def tX12_thing_2 : List (Nat × zF) := [(78, (zgf 12 13)), (81, (zst 1 z_imul)), (82, (zli4 1 1)), (83, (zst 1 z_iadd)), (84, (zal 0)), (85, (zri false)), (86, (zla4 0 1)), (87, (zgf 12 22)), (90, (zst 2 (zp (.int (9))))), (92, (zla4 0 1)), (93, (zgf 12 13)), (96, (zst 1 z_imul))]
theorem kX12_thing_2 : ∀ q ∈ tX12_thing_2, zOk zg iX12_thing q.1 q.2 := (z_c (ok_getf (C := RX12) (T := TX12) (N := 73) rfl (by decide) zinX12 rfl zw_700 dX12_thing_78) (z_c (ok_imul dX12_thing_81) (z_c (ok_iload_n dX12_thing_82 rfl) (z_c (ok_iadd dX12_thing_83) (z_c (ok_iaload rfl dX12_thing_84) (z_c (ok_ireturn rfl dX12_thing_85) (z_c (ok_aload_n dX12_thing_86 rfl) (z_c (ok_getf (C := RX12) (T := TX12) (N := 73) rfl (by decide) zinX12 rfl zw_709 dX12_thing_87) (z_c (ok_bipush (v := (9)) dX12_thing_90 (by decide)) (z_c (ok_aload_n dX12_thing_92 rfl) (z_c (ok_getf (C := RX12) (T := TX12) (N := 73) rfl (by decide) zinX12 rfl zw_700 dX12_thing_93) (z_c (ok_imul dX12_thing_96) z_n))))))))))))
noncomputable def tX12_thing_3 : List (Nat × zF) := [(97, (zli4 1 1)), (98, (zst 1 z_iadd)), (99, (zal 0)), (100, (zri false)), (101, (zla4 0 1)), (102, (zgf 12 49)), (105, (zst 1 (zp (.int (0))))), (106, (zal 0)), (107, (zli4 1 1)), (108, (zcs 193 2)), (111, (z_if_eq 118)), (114, (zst 1 (zp (.int (1)))))]
theorem kX12_thing_3 : ∀ q ∈ tX12_thing_3, zOk zg iX12_thing q.1 q.2 := (z_c (ok_iload_n dX12_thing_97 rfl) (z_c (ok_iadd dX12_thing_98) (z_c (ok_iaload rfl dX12_thing_99) (z_c (ok_ireturn rfl dX12_thing_100) (z_c (ok_aload_n dX12_thing_101 rfl) (z_c (ok_getf (C := RX12) (T := TX12) (N := 73) rfl (by decide) zinX12 rfl zw_737 dX12_thing_102) (z_c (ok_iconst (v := (0)) dX12_thing_105 (by decide)) (z_c (ok_iaload rfl dX12_thing_106) (z_c (ok_iload_n dX12_thing_107 rfl) (z_c (ok_callS zcal_193 zw_866 zw_867 dX12_thing_108) (z_c (ok_if_eq dX12_thing_111 (by decide)) (z_c (ok_iconst (v := (1)) dX12_thing_114 (by decide)) z_n))))))))))))
noncomputable def tX12_thing_4 : List (Nat × zF) := [(115, (zgt 119)), (118, (zst 1 (zp (.int (0))))), (119, (zri false)), (120, (zla4 0 1)), (121, (zgf 12 50)), (124, (zli4 1 1)), (125, (zal 0)), (126, (zri false)), (127, (zla4 0 1)), (128, (zgf 12 49)), (131, (zst 1 (zp (.int (0))))), (132, (zal 0))]
theorem kX12_thing_4 : ∀ q ∈ tX12_thing_4, zOk zg iX12_thing q.1 q.2 := (z_c (ok_goto dX12_thing_115 (by decide)) (z_c (ok_iconst (v := (0)) dX12_thing_118 (by decide)) (z_c (ok_ireturn rfl dX12_thing_119) (z_c (ok_aload_n dX12_thing_120 rfl) (z_c (ok_getf (C := RX12) (T := TX12) (N := 73) rfl (by decide) zinX12 rfl zw_738 dX12_thing_121) (z_c (ok_iload_n dX12_thing_124 rfl) (z_c (ok_iaload rfl dX12_thing_125) (z_c (ok_ireturn rfl dX12_thing_126) (z_c (ok_aload_n dX12_thing_127 rfl) (z_c (ok_getf (C := RX12) (T := TX12) (N := 73) rfl (by decide) zinX12 rfl zw_737 dX12_thing_128) (z_c (ok_iconst (v := (0)) dX12_thing_131 (by decide)) (z_c (ok_iaload rfl dX12_thing_132) z_n))))))))))))
noncomputable def tX12_thing_5 : List (Nat × zF) := [(133, (zli4 1 1)), (134, (zcs 193 2)), (137, (z_if_eq 149)), (140, (zla4 0 1)), (141, (zst 1 (zp (.int (0))))), (142, (zli4 1 1)), (143, (zcv 226 2 12)), (146, (zgt 150)), (149, (zst 1 (zp (.int ((-1)))))), (150, (zri false)), (151, (zst 1 (zp (.int ((-1)))))), (152, (zri false))]
theorem kX12_thing_5 : ∀ q ∈ tX12_thing_5, zOk zg iX12_thing q.1 q.2 := (z_c (ok_iload_n dX12_thing_133 rfl) (z_c (ok_callS zcal_193 zw_866 zw_867 dX12_thing_134) (z_c (ok_if_eq dX12_thing_137 (by decide)) (z_c (ok_aload_n dX12_thing_140 rfl) (z_c (ok_iconst (v := (0)) dX12_thing_141 (by decide)) (z_c (ok_iload_n dX12_thing_142 rfl) (z_c (ok_callV zcal_226 (q := (RX12, TX12, 73)) rfl zw_936 zw_937 zw_938 dX12_thing_143) (z_c (ok_goto dX12_thing_146 (by decide)) (z_c (ok_iconst (v := (-1)) dX12_thing_149 (by decide)) (z_c (ok_ireturn rfl dX12_thing_150) (z_c (ok_iconst (v := (-1)) dX12_thing_151 (by decide)) (z_c (ok_ireturn rfl dX12_thing_152) z_n))))))))))))
noncomputable def tX12_thing : zT := [(59, tX12_thing_0), (78, tX12_thing_1), (97, tX12_thing_2), (115, tX12_thing_3), (133, tX12_thing_4), (100000, tX12_thing_5)]
theorem kX12_thing : zTok zg iX12_thing tX12_thing := (z_t kX12_thing_0 (z_t kX12_thing_1 (z_t kX12_thing_2 (z_t kX12_thing_3 (z_t kX12_thing_4 (z_t kX12_thing_5 z_tn))))))
theorem dX12_folk_0 : decode cX12_folk 0 = .ok (.aload_n 0, 1) := by decide +kernel
theorem dX12_folk_1 : decode cX12_folk 1 = .ok (.iload_n 1, 1) := by decide +kernel
theorem dX12_folk_2 : decode cX12_folk 2 = .ok (.invokevirtual 507, 3) := by decide +kernel
theorem dX12_folk_5 : decode cX12_folk 5 = .ok (.ifCond .ne 5, 3) := by decide +kernel
theorem dX12_folk_8 : decode cX12_folk 8 = .ok (.iconst (-1), 1) := by decide +kernel
theorem dX12_folk_9 : decode cX12_folk 9 = .ok (.ireturn, 1) := by decide +kernel
theorem dX12_folk_10 : decode cX12_folk 10 = .ok (.iload_n 2, 1) := by decide +kernel
theorem dX12_folk_11 : decode cX12_folk 11 = .ok (.tableswitch 123 0 4 #[33, 33, 44, 44, 65], 33) := by decide +kernel
theorem dX12_folk_44 : decode cX12_folk 44 = .ok (.aload_n 0, 1) := by decide +kernel
theorem dX12_folk_45 : decode cX12_folk 45 = .ok (.getfield 168, 3) := by decide +kernel
theorem dX12_folk_48 : decode cX12_folk 48 = .ok (.iload_n 1, 1) := by decide +kernel
theorem dX12_folk_49 : decode cX12_folk 49 = .ok (.iaload, 1) := by decide +kernel
theorem dX12_folk_50 : decode cX12_folk 50 = .ok (.iload_n 2, 1) := by decide +kernel
theorem dX12_folk_51 : decode cX12_folk 51 = .ok (.invokestatic 512, 3) := by decide +kernel
theorem dX12_folk_54 : decode cX12_folk 54 = .ok (.ireturn, 1) := by decide +kernel
theorem dX12_folk_55 : decode cX12_folk 55 = .ok (.aload_n 0, 1) := by decide +kernel
theorem dX12_folk_56 : decode cX12_folk 56 = .ok (.getfield 90, 3) := by decide +kernel
theorem dX12_folk_59 : decode cX12_folk 59 = .ok (.bipush 6, 2) := by decide +kernel
theorem dX12_folk_61 : decode cX12_folk 61 = .ok (.aload_n 0, 1) := by decide +kernel
theorem dX12_folk_62 : decode cX12_folk 62 = .ok (.getfield 51, 3) := by decide +kernel
theorem dX12_folk_65 : decode cX12_folk 65 = .ok (.imul, 1) := by decide +kernel
theorem dX12_folk_66 : decode cX12_folk 66 = .ok (.iload_n 1, 1) := by decide +kernel
theorem dX12_folk_67 : decode cX12_folk 67 = .ok (.iadd, 1) := by decide +kernel
theorem dX12_folk_68 : decode cX12_folk 68 = .ok (.iaload, 1) := by decide +kernel
theorem dX12_folk_69 : decode cX12_folk 69 = .ok (.iload_n 2, 1) := by decide +kernel
theorem dX12_folk_70 : decode cX12_folk 70 = .ok (.iconst 2, 1) := by decide +kernel
theorem dX12_folk_71 : decode cX12_folk 71 = .ok (.isub, 1) := by decide +kernel
theorem dX12_folk_72 : decode cX12_folk 72 = .ok (.invokestatic 512, 3) := by decide +kernel
theorem dX12_folk_75 : decode cX12_folk 75 = .ok (.ireturn, 1) := by decide +kernel
theorem dX12_folk_76 : decode cX12_folk 76 = .ok (.aload_n 0, 1) := by decide +kernel
theorem dX12_folk_77 : decode cX12_folk 77 = .ok (.iconst 0, 1) := by decide +kernel
theorem dX12_folk_78 : decode cX12_folk 78 = .ok (.iconst (-1), 1) := by decide +kernel
theorem dX12_folk_79 : decode cX12_folk 79 = .ok (.invokevirtual 486, 3) := by decide +kernel
theorem dX12_folk_82 : decode cX12_folk 82 = .ok (.aload_n 0, 1) := by decide +kernel
theorem dX12_folk_83 : decode cX12_folk 83 = .ok (.aload_n 0, 1) := by decide +kernel
theorem dX12_folk_84 : decode cX12_folk 84 = .ok (.getfield 90, 3) := by decide +kernel
theorem dX12_folk_87 : decode cX12_folk 87 = .ok (.bipush 6, 2) := by decide +kernel
theorem dX12_folk_89 : decode cX12_folk 89 = .ok (.aload_n 0, 1) := by decide +kernel
theorem dX12_folk_90 : decode cX12_folk 90 = .ok (.getfield 51, 3) := by decide +kernel
theorem dX12_folk_93 : decode cX12_folk 93 = .ok (.imul, 1) := by decide +kernel
theorem dX12_folk_94 : decode cX12_folk 94 = .ok (.iload_n 1, 1) := by decide +kernel
theorem dX12_folk_95 : decode cX12_folk 95 = .ok (.iadd, 1) := by decide +kernel
theorem dX12_folk_96 : decode cX12_folk 96 = .ok (.iaload, 1) := by decide +kernel
theorem dX12_folk_97 : decode cX12_folk 97 = .ok (.iconst 1, 1) := by decide +kernel
theorem dX12_folk_98 : decode cX12_folk 98 = .ok (.invokevirtual 478, 3) := by decide +kernel
theorem dX12_folk_101 : decode cX12_folk 101 = .ok (.aload_n 0, 1) := by decide +kernel
theorem dX12_folk_102 : decode cX12_folk 102 = .ok (.getfield 198, 3) := by decide +kernel
theorem dX12_folk_105 : decode cX12_folk 105 = .ok (.aload_n 0, 1) := by decide +kernel
theorem dX12_folk_106 : decode cX12_folk 106 = .ok (.getfield 168, 3) := by decide +kernel
theorem dX12_folk_109 : decode cX12_folk 109 = .ok (.iload_n 1, 1) := by decide +kernel
theorem dX12_folk_110 : decode cX12_folk 110 = .ok (.iaload, 1) := by decide +kernel
theorem dX12_folk_111 : decode cX12_folk 111 = .ok (.iaload, 1) := by decide +kernel
theorem dX12_folk_112 : decode cX12_folk 112 = .ok (.ldc_w 474, 3) := by decide +kernel
theorem dX12_folk_115 : decode cX12_folk 115 = .ok (.if_icmp .ne 7, 3) := by decide +kernel
theorem dX12_folk_118 : decode cX12_folk 118 = .ok (.iconst (-1), 1) := by decide +kernel
theorem dX12_folk_119 : decode cX12_folk 119 = .ok (.goto 14, 3) := by decide +kernel
theorem dX12_folk_122 : decode cX12_folk 122 = .ok (.aload_n 0, 1) := by decide +kernel
theorem dX12_folk_123 : decode cX12_folk 123 = .ok (.getfield 198, 3) := by decide +kernel
theorem dX12_folk_126 : decode cX12_folk 126 = .ok (.aload_n 0, 1) := by decide +kernel
theorem dX12_folk_127 : decode cX12_folk 127 = .ok (.getfield 168, 3) := by decide +kernel
theorem dX12_folk_130 : decode cX12_folk 130 = .ok (.iload_n 1, 1) := by decide +kernel
theorem dX12_folk_131 : decode cX12_folk 131 = .ok (.iaload, 1) := by decide +kernel
theorem dX12_folk_132 : decode cX12_folk 132 = .ok (.iaload, 1) := by decide +kernel
theorem dX12_folk_133 : decode cX12_folk 133 = .ok (.ireturn, 1) := by decide +kernel
theorem dX12_folk_134 : decode cX12_folk 134 = .ok (.iconst (-1), 1) := by decide +kernel
theorem dX12_folk_135 : decode cX12_folk 135 = .ok (.ireturn, 1) := by decide +kernel
noncomputable def tX12_folk_0 : List (Nat × zF) := [(0, (zla4 0 1)), (1, (zli4 1 1)), (2, (zcv 237 1 12)), (5, (z_if_ne 10)), (8, (zst 1 (zp (.int ((-1)))))), (9, (zri false)), (10, (zli4 2 1)), (11, (zts [(0, 44), (1, 44), (2, 55), (3, 55), (4, 76)] 134)), (44, (zla4 0 1)), (45, (zgf 12 51)), (48, (zli4 1 1)), (49, (zal 0))]
theorem kX12_folk_0 : ∀ q ∈ tX12_folk_0, zOk zg iX12_folk q.1 q.2 := (z_c (ok_aload_n dX12_folk_0 rfl) (z_c (ok_iload_n dX12_folk_1 rfl) (z_c (ok_callV zcal_237 (q := (RX12, TX12, 73)) rfl zw_975 zw_976 zw_977 dX12_folk_2) (z_c (ok_if_ne dX12_folk_5 (by decide)) (z_c (ok_iconst (v := (-1)) dX12_folk_8 (by decide)) (z_c (ok_ireturn rfl dX12_folk_9) (z_c (ok_iload_n dX12_folk_10 rfl) (z_c (ok_tsw dX12_folk_11 (by decide) (by decide +kernel) (by decide +kernel) (by decide)) (z_c (ok_aload_n dX12_folk_44 rfl) (z_c (ok_getf (C := RX12) (T := TX12) (N := 73) rfl (by decide) zinX12 rfl zw_739 dX12_folk_45) (z_c (ok_iload_n dX12_folk_48 rfl) (z_c (ok_iaload rfl dX12_folk_49) z_n))))))))))))
noncomputable def tX12_folk_1 : List (Nat × zF) := [(50, (zli4 2 1)), (51, (zcs 242 2)), (54, (zri false)), (55, (zla4 0 1)), (56, (zgf 12 26)), (59, (zst 2 (zp (.int (6))))), (61, (zla4 0 1)), (62, (zgf 12 13)), (65, (zst 1 z_imul)), (66, (zli4 1 1)), (67, (zst 1 z_iadd)), (68, (zal 0))]
theorem kX12_folk_1 : ∀ q ∈ tX12_folk_1, zOk zg iX12_folk q.1 q.2 := (z_c (ok_iload_n dX12_folk_50 rfl) (z_c (ok_callS zcal_242 zw_979 zw_980 dX12_folk_51) (z_c (ok_ireturn rfl dX12_folk_54) (z_c (ok_aload_n dX12_folk_55 rfl) (z_c (ok_getf (C := RX12) (T := TX12) (N := 73) rfl (by decide) zinX12 rfl zw_713 dX12_folk_56) (z_c (ok_bipush (v := (6)) dX12_folk_59 (by decide)) (z_c (ok_aload_n dX12_folk_61 rfl) (z_c (ok_getf (C := RX12) (T := TX12) (N := 73) rfl (by decide) zinX12 rfl zw_700 dX12_folk_62) (z_c (ok_imul dX12_folk_65) (z_c (ok_iload_n dX12_folk_66 rfl) (z_c (ok_iadd dX12_folk_67) (z_c (ok_iaload rfl dX12_folk_68) z_n))))))))))))
noncomputable def tX12_folk_2 : List (Nat × zF) := [(69, (zli4 2 1)), (70, (zst 1 (zp (.int (2))))), (71, (zst 1 z_isub)), (72, (zcs 242 2)), (75, (zri false)), (76, (zla4 0 1)), (77, (zst 1 (zp (.int (0))))), (78, (zst 1 (zp (.int ((-1)))))), (79, (zcv 228 2 12)), (82, (zla4 0 1)), (83, (zla4 0 1)), (84, (zgf 12 26))]
theorem kX12_folk_2 : ∀ q ∈ tX12_folk_2, zOk zg iX12_folk q.1 q.2 := (z_c (ok_iload_n dX12_folk_69 rfl) (z_c (ok_iconst (v := (2)) dX12_folk_70 (by decide)) (z_c (ok_isub dX12_folk_71) (z_c (ok_callS zcal_242 zw_979 zw_980 dX12_folk_72) (z_c (ok_ireturn rfl dX12_folk_75) (z_c (ok_aload_n dX12_folk_76 rfl) (z_c (ok_iconst (v := (0)) dX12_folk_77 (by decide)) (z_c (ok_iconst (v := (-1)) dX12_folk_78 (by decide)) (z_c (ok_callV zcal_228 (q := (RX12, TX12, 73)) rfl zw_954 zw_955 zw_956 dX12_folk_79) (z_c (ok_aload_n dX12_folk_82 rfl) (z_c (ok_aload_n dX12_folk_83 rfl) (z_c (ok_getf (C := RX12) (T := TX12) (N := 73) rfl (by decide) zinX12 rfl zw_713 dX12_folk_84) z_n))))))))))))
noncomputable def tX12_folk_3 : List (Nat × zF) := [(87, (zst 2 (zp (.int (6))))), (89, (zla4 0 1)), (90, (zgf 12 13)), (93, (zst 1 z_imul)), (94, (zli4 1 1)), (95, (zst 1 z_iadd)), (96, (zal 0)), (97, (zst 1 (zp (.int (1))))), (98, (zcv 229 2 12)), (101, (zla4 0 1)), (102, (zgf 12 61)), (105, (zla4 0 1))]
theorem kX12_folk_3 : ∀ q ∈ tX12_folk_3, zOk zg iX12_folk q.1 q.2 := (z_c (ok_bipush (v := (6)) dX12_folk_87 (by decide)) (z_c (ok_aload_n dX12_folk_89 rfl) (z_c (ok_getf (C := RX12) (T := TX12) (N := 73) rfl (by decide) zinX12 rfl zw_700 dX12_folk_90) (z_c (ok_imul dX12_folk_93) (z_c (ok_iload_n dX12_folk_94 rfl) (z_c (ok_iadd dX12_folk_95) (z_c (ok_iaload rfl dX12_folk_96) (z_c (ok_iconst (v := (1)) dX12_folk_97 (by decide)) (z_c (ok_callV zcal_229 (q := (RX12, TX12, 73)) rfl zw_948 zw_949 zw_950 dX12_folk_98) (z_c (ok_aload_n dX12_folk_101 rfl) (z_c (ok_getf (C := RX12) (T := TX12) (N := 73) rfl (by decide) zinX12 rfl zw_749 dX12_folk_102) (z_c (ok_aload_n dX12_folk_105 rfl) z_n))))))))))))
noncomputable def tX12_folk_4 : List (Nat × zF) := [(106, (zgf 12 51)), (109, (zli4 1 1)), (110, (zal 0)), (111, (zal 0)), (112, (zst 3 (zp (.int (100000000))))), (115, (z_ic_ne 122)), (118, (zst 1 (zp (.int ((-1)))))), (119, (zgt 133)), (122, (zla4 0 1)), (123, (zgf 12 61)), (126, (zla4 0 1)), (127, (zgf 12 51))]
theorem kX12_folk_4 : ∀ q ∈ tX12_folk_4, zOk zg iX12_folk q.1 q.2 := (z_c (ok_getf (C := RX12) (T := TX12) (N := 73) rfl (by decide) zinX12 rfl zw_739 dX12_folk_106) (z_c (ok_iload_n dX12_folk_109 rfl) (z_c (ok_iaload rfl dX12_folk_110) (z_c (ok_iaload rfl dX12_folk_111) (z_c (ok_ldcw (v := (100000000)) zw_944 dX12_folk_112) (z_c (ok_icmp_ne dX12_folk_115 (by decide)) (z_c (ok_iconst (v := (-1)) dX12_folk_118 (by decide)) (z_c (ok_goto dX12_folk_119 (by decide)) (z_c (ok_aload_n dX12_folk_122 rfl) (z_c (ok_getf (C := RX12) (T := TX12) (N := 73) rfl (by decide) zinX12 rfl zw_749 dX12_folk_123) (z_c (ok_aload_n dX12_folk_126 rfl) (z_c (ok_getf (C := RX12) (T := TX12) (N := 73) rfl (by decide) zinX12 rfl zw_739 dX12_folk_127) z_n))))))))))))
noncomputable def tX12_folk_5 : List (Nat × zF) := [(130, (zli4 1 1)), (131, (zal 0)), (132, (zal 0)), (133, (zri false)), (134, (zst 1 (zp (.int ((-1)))))), (135, (zri false))]
theorem kX12_folk_5 : ∀ q ∈ tX12_folk_5, zOk zg iX12_folk q.1 q.2 := (z_c (ok_iload_n dX12_folk_130 rfl) (z_c (ok_iaload rfl dX12_folk_131) (z_c (ok_iaload rfl dX12_folk_132) (z_c (ok_ireturn rfl dX12_folk_133) (z_c (ok_iconst (v := (-1)) dX12_folk_134 (by decide)) (z_c (ok_ireturn rfl dX12_folk_135) z_n))))))
noncomputable def tX12_folk : zT := [(50, tX12_folk_0), (69, tX12_folk_1), (87, tX12_folk_2), (106, tX12_folk_3), (130, tX12_folk_4), (100000, tX12_folk_5)]
theorem kX12_folk : zTok zg iX12_folk tX12_folk := (z_t kX12_folk_0 (z_t kX12_folk_1 (z_t kX12_folk_2 (z_t kX12_folk_3 (z_t kX12_folk_4 (z_t kX12_folk_5 z_tn))))))
theorem dX12_isAhead_0 : decode cX12_isAhead 0 = .ok (.aload_n 0, 1) := by decide +kernel
theorem dX12_isAhead_1 : decode cX12_isAhead 1 = .ok (.getfield 153, 3) := by decide +kernel
theorem dX12_isAhead_4 : decode cX12_isAhead 4 = .ok (.ifCond .eq 30, 3) := by decide +kernel
theorem dX12_isAhead_7 : decode cX12_isAhead 7 = .ok (.iload_n 1, 1) := by decide +kernel
theorem dX12_isAhead_8 : decode cX12_isAhead 8 = .ok (.iload_n 2, 1) := by decide +kernel
theorem dX12_isAhead_9 : decode cX12_isAhead 9 = .ok (.iload_n 3, 1) := by decide +kernel
theorem dX12_isAhead_10 : decode cX12_isAhead 10 = .ok (.invokestatic 318, 3) := by decide +kernel
theorem dX12_isAhead_13 : decode cX12_isAhead 13 = .ok (.ifCond .eq 21, 3) := by decide +kernel
theorem dX12_isAhead_16 : decode cX12_isAhead 16 = .ok (.aload_n 0, 1) := by decide +kernel
theorem dX12_isAhead_17 : decode cX12_isAhead 17 = .ok (.getfield 159, 3) := by decide +kernel
theorem dX12_isAhead_20 : decode cX12_isAhead 20 = .ok (.iconst 0, 1) := by decide +kernel
theorem dX12_isAhead_21 : decode cX12_isAhead 21 = .ok (.iaload, 1) := by decide +kernel
theorem dX12_isAhead_22 : decode cX12_isAhead 22 = .ok (.sipush 999, 3) := by decide +kernel
theorem dX12_isAhead_25 : decode cX12_isAhead 25 = .ok (.iload_n 1, 1) := by decide +kernel
theorem dX12_isAhead_26 : decode cX12_isAhead 26 = .ok (.isub, 1) := by decide +kernel
theorem dX12_isAhead_27 : decode cX12_isAhead 27 = .ok (.if_icmp .gt 7, 3) := by decide +kernel
theorem dX12_isAhead_30 : decode cX12_isAhead 30 = .ok (.iconst 1, 1) := by decide +kernel
theorem dX12_isAhead_31 : decode cX12_isAhead 31 = .ok (.goto 4, 3) := by decide +kernel
theorem dX12_isAhead_34 : decode cX12_isAhead 34 = .ok (.iconst 0, 1) := by decide +kernel
theorem dX12_isAhead_35 : decode cX12_isAhead 35 = .ok (.ireturn, 1) := by decide +kernel
noncomputable def tX12_isAhead_0 : List (Nat × zF) := [(0, (zla4 0 1)), (1, (zgf 12 46)), (4, (z_if_eq 34)), (7, (zli4 1 1)), (8, (zli4 2 1)), (9, (zli4 3 1)), (10, (zcs 165 3)), (13, (z_if_eq 34)), (16, (zla4 0 1)), (17, (zgf 12 48)), (20, (zst 1 (zp (.int (0))))), (21, (zal 0))]
theorem kX12_isAhead_0 : ∀ q ∈ tX12_isAhead_0, zOk zg iX12_isAhead q.1 q.2 := (z_c (ok_aload_n dX12_isAhead_0 rfl) (z_c (ok_getf (C := RX12) (T := TX12) (N := 73) rfl (by decide) zinX12 rfl zw_734 dX12_isAhead_1) (z_c (ok_if_eq dX12_isAhead_4 (by decide)) (z_c (ok_iload_n dX12_isAhead_7 rfl) (z_c (ok_iload_n dX12_isAhead_8 rfl) (z_c (ok_iload_n dX12_isAhead_9 rfl) (z_c (ok_callS zcal_165 zw_812 zw_813 dX12_isAhead_10) (z_c (ok_if_eq dX12_isAhead_13 (by decide)) (z_c (ok_aload_n dX12_isAhead_16 rfl) (z_c (ok_getf (C := RX12) (T := TX12) (N := 73) rfl (by decide) zinX12 rfl zw_736 dX12_isAhead_17) (z_c (ok_iconst (v := (0)) dX12_isAhead_20 (by decide)) (z_c (ok_iaload rfl dX12_isAhead_21) z_n))))))))))))
noncomputable def tX12_isAhead_1 : List (Nat × zF) := [(22, (zst 3 (zp (.int (999))))), (25, (zli4 1 1)), (26, (zst 1 z_isub)), (27, (z_ic_gt 34)), (30, (zst 1 (zp (.int (1))))), (31, (zgt 35)), (34, (zst 1 (zp (.int (0))))), (35, (zri true))]
theorem kX12_isAhead_1 : ∀ q ∈ tX12_isAhead_1, zOk zg iX12_isAhead q.1 q.2 := (z_c (ok_sipush (v := (999)) dX12_isAhead_22 (by decide)) (z_c (ok_iload_n dX12_isAhead_25 rfl) (z_c (ok_isub dX12_isAhead_26) (z_c (ok_icmp_gt dX12_isAhead_27 (by decide)) (z_c (ok_iconst (v := (1)) dX12_isAhead_30 (by decide)) (z_c (ok_goto dX12_isAhead_31 (by decide)) (z_c (ok_iconst (v := (0)) dX12_isAhead_34 (by decide)) (z_c (ok_zreturn rfl dX12_isAhead_35) z_n))))))))
noncomputable def tX12_isAhead : zT := [(22, tX12_isAhead_0), (100000, tX12_isAhead_1)]
theorem kX12_isAhead : zTok zg iX12_isAhead tX12_isAhead := (z_t kX12_isAhead_0 (z_t kX12_isAhead_1 z_tn))
theorem dX12_runsOn_0 : decode cX12_runsOn 0 = .ok (.iconst 0, 1) := by decide +kernel
theorem dX12_runsOn_1 : decode cX12_runsOn 1 = .ok (.istore_n 2, 1) := by decide +kernel
theorem dX12_runsOn_2 : decode cX12_runsOn 2 = .ok (.iload_n 2, 1) := by decide +kernel
theorem dX12_runsOn_3 : decode cX12_runsOn 3 = .ok (.iload_n 1, 1) := by decide +kernel
theorem dX12_runsOn_4 : decode cX12_runsOn 4 = .ok (.if_icmp .ge 16, 3) := by decide +kernel
theorem dX12_runsOn_7 : decode cX12_runsOn 7 = .ok (.aload_n 0, 1) := by decide +kernel
theorem dX12_runsOn_8 : decode cX12_runsOn 8 = .ok (.iconst 1, 1) := by decide +kernel
theorem dX12_runsOn_9 : decode cX12_runsOn 9 = .ok (.iconst (-1), 1) := by decide +kernel
theorem dX12_runsOn_10 : decode cX12_runsOn 10 = .ok (.invokevirtual 515, 3) := by decide +kernel
theorem dX12_runsOn_13 : decode cX12_runsOn 13 = .ok (.pop, 1) := by decide +kernel
theorem dX12_runsOn_14 : decode cX12_runsOn 14 = .ok (.iinc 2 1, 3) := by decide +kernel
theorem dX12_runsOn_17 : decode cX12_runsOn 17 = .ok (.goto (-15), 3) := by decide +kernel
theorem dX12_runsOn_20 : decode cX12_runsOn 20 = .ok (.return_, 1) := by decide +kernel
noncomputable def tX12_runsOn_0 : List (Nat × zF) := [(0, (zst 1 (zp (.int (0))))), (1, (zsi4 3 2 1)), (2, (zli4 2 1)), (3, (zli4 1 1)), (4, (z_ic_ge 20)), (7, (zla4 0 1)), (8, (zst 1 (zp (.int (1))))), (9, (zst 1 (zp (.int ((-1)))))), (10, (zcv 235 2 12)), (13, (zst 1 zpo)), (14, (zin4 3 2 (1))), (17, (zgt 2))]
theorem kX12_runsOn_0 : ∀ q ∈ tX12_runsOn_0, zOk zg iX12_runsOn q.1 q.2 := (z_c (ok_iconst (v := (0)) dX12_runsOn_0 (by decide)) (z_c (ok_istore_n dX12_runsOn_1 rfl) (z_c (ok_iload_n dX12_runsOn_2 rfl) (z_c (ok_iload_n dX12_runsOn_3 rfl) (z_c (ok_icmp_ge dX12_runsOn_4 (by decide)) (z_c (ok_aload_n dX12_runsOn_7 rfl) (z_c (ok_iconst (v := (1)) dX12_runsOn_8 (by decide)) (z_c (ok_iconst (v := (-1)) dX12_runsOn_9 (by decide)) (z_c (ok_callV zcal_235 (q := (RX12, TX12, 73)) rfl zw_981 zw_982 zw_983 dX12_runsOn_10) (z_c (ok_pop dX12_runsOn_13) (z_c (ok_iinc (v := (1)) dX12_runsOn_14 (by decide)) (z_c (ok_goto dX12_runsOn_17 (by decide)) z_n))))))))))))
noncomputable def tX12_runsOn_1 : List (Nat × zF) := [(20, zrv)]
theorem kX12_runsOn_1 : ∀ q ∈ tX12_runsOn_1, zOk zg iX12_runsOn q.1 q.2 := (z_c (ok_return rfl dX12_runsOn_20) z_n)
noncomputable def tX12_runsOn : zT := [(20, tX12_runsOn_0), (100000, tX12_runsOn_1)]
theorem kX12_runsOn : zTok zg iX12_runsOn tX12_runsOn := (z_t kX12_runsOn_0 (z_t kX12_runsOn_1 z_tn))
theorem dX12_later_0 : decode cX12_later 0 = .ok (.aload_n 0, 1) := by decide +kernel
theorem dX12_later_1 : decode cX12_later 1 = .ok (.iload_n 1, 1) := by decide +kernel
theorem dX12_later_2 : decode cX12_later 2 = .ok (.invokevirtual 507, 3) := by decide +kernel
theorem dX12_later_5 : decode cX12_later 5 = .ok (.ifCond .eq 23, 3) := by decide +kernel
theorem dX12_later_8 : decode cX12_later 8 = .ok (.aload_n 0, 1) := by decide +kernel
theorem dX12_later_9 : decode cX12_later 9 = .ok (.iload_n 2, 1) := by decide +kernel
theorem dX12_later_10 : decode cX12_later 10 = .ok (.iconst 0, 1) := by decide +kernel
theorem dX12_later_11 : decode cX12_later 11 = .ok (.bipush 40, 2) := by decide +kernel
theorem dX12_later_13 : decode cX12_later 13 = .ok (.invokevirtual 518, 3) := by decide +kernel
theorem dX12_later_16 : decode cX12_later 16 = .ok (.ifCond .eq 12, 3) := by decide +kernel
theorem dX12_later_19 : decode cX12_later 19 = .ok (.iload_n 3, 1) := by decide +kernel
theorem dX12_later_20 : decode cX12_later 20 = .ok (.iconst 0, 1) := by decide +kernel
theorem dX12_later_21 : decode cX12_later 21 = .ok (.iconst 1, 1) := by decide +kernel
theorem dX12_later_22 : decode cX12_later 22 = .ok (.invokestatic 318, 3) := by decide +kernel
theorem dX12_later_25 : decode cX12_later 25 = .ok (.ifCond .ne 5, 3) := by decide +kernel
theorem dX12_later_28 : decode cX12_later 28 = .ok (.iconst (-1), 1) := by decide +kernel
theorem dX12_later_29 : decode cX12_later 29 = .ok (.ireturn, 1) := by decide +kernel
theorem dX12_later_30 : decode cX12_later 30 = .ok (.aload_n 0, 1) := by decide +kernel
theorem dX12_later_31 : decode cX12_later 31 = .ok (.iconst 1, 1) := by decide +kernel
theorem dX12_later_32 : decode cX12_later 32 = .ok (.iconst 0, 1) := by decide +kernel
theorem dX12_later_33 : decode cX12_later 33 = .ok (.invokevirtual 425, 3) := by decide +kernel
theorem dX12_later_36 : decode cX12_later 36 = .ok (.aload_n 0, 1) := by decide +kernel
theorem dX12_later_37 : decode cX12_later 37 = .ok (.iload_n 2, 1) := by decide +kernel
theorem dX12_later_38 : decode cX12_later 38 = .ok (.invokevirtual 521, 3) := by decide +kernel
theorem dX12_later_41 : decode cX12_later 41 = .ok (.aload_n 0, 1) := by decide +kernel
theorem dX12_later_42 : decode cX12_later 42 = .ok (.getfield 168, 3) := by decide +kernel
theorem dX12_later_45 : decode cX12_later 45 = .ok (.bipush 6, 2) := by decide +kernel
theorem dX12_later_47 : decode cX12_later 47 = .ok (.iload_n 1, 1) := by decide +kernel
theorem dX12_later_48 : decode cX12_later 48 = .ok (.iadd, 1) := by decide +kernel
theorem dX12_later_49 : decode cX12_later 49 = .ok (.iaload, 1) := by decide +kernel
theorem dX12_later_50 : decode cX12_later 50 = .ok (.iload_n 3, 1) := by decide +kernel
theorem dX12_later_51 : decode cX12_later 51 = .ok (.invokestatic 512, 3) := by decide +kernel
theorem dX12_later_54 : decode cX12_later 54 = .ok (.ireturn, 1) := by decide +kernel
noncomputable def tX12_later_0 : List (Nat × zF) := [(0, (zla4 0 1)), (1, (zli4 1 1)), (2, (zcv 237 1 12)), (5, (z_if_eq 28)), (8, (zla4 0 1)), (9, (zli4 2 1)), (10, (zst 1 (zp (.int (0))))), (11, (zst 2 (zp (.int (40))))), (13, (zcv 245 3 12)), (16, (z_if_eq 28)), (19, (zli4 3 1)), (20, (zst 1 (zp (.int (0)))))]
theorem kX12_later_0 : ∀ q ∈ tX12_later_0, zOk zg iX12_later q.1 q.2 := (z_c (ok_aload_n dX12_later_0 rfl) (z_c (ok_iload_n dX12_later_1 rfl) (z_c (ok_callV zcal_237 (q := (RX12, TX12, 73)) rfl zw_975 zw_976 zw_977 dX12_later_2) (z_c (ok_if_eq dX12_later_5 (by decide)) (z_c (ok_aload_n dX12_later_8 rfl) (z_c (ok_iload_n dX12_later_9 rfl) (z_c (ok_iconst (v := (0)) dX12_later_10 (by decide)) (z_c (ok_bipush (v := (40)) dX12_later_11 (by decide)) (z_c (ok_callV zcal_245 (q := (RX12, TX12, 73)) rfl zw_984 zw_985 zw_986 dX12_later_13) (z_c (ok_if_eq dX12_later_16 (by decide)) (z_c (ok_iload_n dX12_later_19 rfl) (z_c (ok_iconst (v := (0)) dX12_later_20 (by decide)) z_n))))))))))))
noncomputable def tX12_later_1 : List (Nat × zF) := [(21, (zst 1 (zp (.int (1))))), (22, (zcs 165 3)), (25, (z_if_ne 30)), (28, (zst 1 (zp (.int ((-1)))))), (29, (zri false)), (30, (zla4 0 1)), (31, (zst 1 (zp (.int (1))))), (32, (zst 1 (zp (.int (0))))), (33, (zcv 210 2 12)), (36, (zla4 0 1)), (37, (zli4 2 1)), (38, (zcv 246 1 12))]
theorem kX12_later_1 : ∀ q ∈ tX12_later_1, zOk zg iX12_later q.1 q.2 := (z_c (ok_iconst (v := (1)) dX12_later_21 (by decide)) (z_c (ok_callS zcal_165 zw_812 zw_813 dX12_later_22) (z_c (ok_if_ne dX12_later_25 (by decide)) (z_c (ok_iconst (v := (-1)) dX12_later_28 (by decide)) (z_c (ok_ireturn rfl dX12_later_29) (z_c (ok_aload_n dX12_later_30 rfl) (z_c (ok_iconst (v := (1)) dX12_later_31 (by decide)) (z_c (ok_iconst (v := (0)) dX12_later_32 (by decide)) (z_c (ok_callV zcal_210 (q := (RX12, TX12, 73)) rfl zw_907 zw_908 zw_909 dX12_later_33) (z_c (ok_aload_n dX12_later_36 rfl) (z_c (ok_iload_n dX12_later_37 rfl) (z_c (ok_callV zcal_246 (q := (RX12, TX12, 73)) rfl zw_987 zw_988 zw_989 dX12_later_38) z_n))))))))))))
noncomputable def tX12_later_2 : List (Nat × zF) := [(41, (zla4 0 1)), (42, (zgf 12 51)), (45, (zst 2 (zp (.int (6))))), (47, (zli4 1 1)), (48, (zst 1 z_iadd)), (49, (zal 0)), (50, (zli4 3 1)), (51, (zcs 242 2)), (54, (zri false))]
theorem kX12_later_2 : ∀ q ∈ tX12_later_2, zOk zg iX12_later q.1 q.2 := (z_c (ok_aload_n dX12_later_41 rfl) (z_c (ok_getf (C := RX12) (T := TX12) (N := 73) rfl (by decide) zinX12 rfl zw_739 dX12_later_42) (z_c (ok_bipush (v := (6)) dX12_later_45 (by decide)) (z_c (ok_iload_n dX12_later_47 rfl) (z_c (ok_iadd dX12_later_48) (z_c (ok_iaload rfl dX12_later_49) (z_c (ok_iload_n dX12_later_50 rfl) (z_c (ok_callS zcal_242 zw_979 zw_980 dX12_later_51) (z_c (ok_ireturn rfl dX12_later_54) z_n)))))))))
noncomputable def tX12_later : zT := [(21, tX12_later_0), (41, tX12_later_1), (100000, tX12_later_2)]
theorem kX12_later : zTok zg iX12_later tX12_later := (z_t kX12_later_0 (z_t kX12_later_1 (z_t kX12_later_2 z_tn)))
theorem dX12_home_0 : decode cX12_home 0 = .ok (.aload_n 0, 1) := by decide +kernel
theorem dX12_home_1 : decode cX12_home 1 = .ok (.iload_n 1, 1) := by decide +kernel
theorem dX12_home_2 : decode cX12_home 2 = .ok (.invokevirtual 507, 3) := by decide +kernel
theorem dX12_home_5 : decode cX12_home 5 = .ok (.ifCond .ne 5, 3) := by decide +kernel
theorem dX12_home_8 : decode cX12_home 8 = .ok (.iconst (-1), 1) := by decide +kernel
theorem dX12_home_9 : decode cX12_home 9 = .ok (.ireturn, 1) := by decide +kernel
theorem dX12_home_10 : decode cX12_home 10 = .ok (.aload_n 0, 1) := by decide +kernel
theorem dX12_home_11 : decode cX12_home 11 = .ok (.iconst 1, 1) := by decide +kernel
theorem dX12_home_12 : decode cX12_home 12 = .ok (.iconst 0, 1) := by decide +kernel
theorem dX12_home_13 : decode cX12_home 13 = .ok (.invokevirtual 425, 3) := by decide +kernel
theorem dX12_home_16 : decode cX12_home 16 = .ok (.iconst 0, 1) := by decide +kernel
theorem dX12_home_17 : decode cX12_home 17 = .ok (.istore_n 2, 1) := by decide +kernel
theorem dX12_home_18 : decode cX12_home 18 = .ok (.aload_n 0, 1) := by decide +kernel
theorem dX12_home_19 : decode cX12_home 19 = .ok (.iload_n 2, 1) := by decide +kernel
theorem dX12_home_20 : decode cX12_home 20 = .ok (.iconst 0, 1) := by decide +kernel
theorem dX12_home_21 : decode cX12_home 21 = .ok (.bipush 40, 2) := by decide +kernel
theorem dX12_home_23 : decode cX12_home 23 = .ok (.invokevirtual 518, 3) := by decide +kernel
theorem dX12_home_26 : decode cX12_home 26 = .ok (.ifCond .eq 27, 3) := by decide +kernel
theorem dX12_home_29 : decode cX12_home 29 = .ok (.aload_n 0, 1) := by decide +kernel
theorem dX12_home_30 : decode cX12_home 30 = .ok (.iconst 1, 1) := by decide +kernel
theorem dX12_home_31 : decode cX12_home 31 = .ok (.iload_n 1, 1) := by decide +kernel
theorem dX12_home_32 : decode cX12_home 32 = .ok (.invokevirtual 498, 3) := by decide +kernel
theorem dX12_home_35 : decode cX12_home 35 = .ok (.ifCond .eq 5, 3) := by decide +kernel
theorem dX12_home_38 : decode cX12_home 38 = .ok (.iload_n 2, 1) := by decide +kernel
theorem dX12_home_39 : decode cX12_home 39 = .ok (.ireturn, 1) := by decide +kernel
theorem dX12_home_40 : decode cX12_home 40 = .ok (.aload_n 0, 1) := by decide +kernel
theorem dX12_home_41 : decode cX12_home 41 = .ok (.iconst 1, 1) := by decide +kernel
theorem dX12_home_42 : decode cX12_home 42 = .ok (.iconst (-1), 1) := by decide +kernel
theorem dX12_home_43 : decode cX12_home 43 = .ok (.invokevirtual 515, 3) := by decide +kernel
theorem dX12_home_46 : decode cX12_home 46 = .ok (.pop, 1) := by decide +kernel
theorem dX12_home_47 : decode cX12_home 47 = .ok (.iinc 2 1, 3) := by decide +kernel
theorem dX12_home_50 : decode cX12_home 50 = .ok (.goto (-32), 3) := by decide +kernel
theorem dX12_home_53 : decode cX12_home 53 = .ok (.iconst (-1), 1) := by decide +kernel
theorem dX12_home_54 : decode cX12_home 54 = .ok (.ireturn, 1) := by decide +kernel
noncomputable def tX12_home_0 : List (Nat × zF) := [(0, (zla4 0 1)), (1, (zli4 1 1)), (2, (zcv 237 1 12)), (5, (z_if_ne 10)), (8, (zst 1 (zp (.int ((-1)))))), (9, (zri false)), (10, (zla4 0 1)), (11, (zst 1 (zp (.int (1))))), (12, (zst 1 (zp (.int (0))))), (13, (zcv 210 2 12)), (16, (zst 1 (zp (.int (0))))), (17, (zsi4 3 2 1))]
theorem kX12_home_0 : ∀ q ∈ tX12_home_0, zOk zg iX12_home q.1 q.2 := (z_c (ok_aload_n dX12_home_0 rfl) (z_c (ok_iload_n dX12_home_1 rfl) (z_c (ok_callV zcal_237 (q := (RX12, TX12, 73)) rfl zw_975 zw_976 zw_977 dX12_home_2) (z_c (ok_if_ne dX12_home_5 (by decide)) (z_c (ok_iconst (v := (-1)) dX12_home_8 (by decide)) (z_c (ok_ireturn rfl dX12_home_9) (z_c (ok_aload_n dX12_home_10 rfl) (z_c (ok_iconst (v := (1)) dX12_home_11 (by decide)) (z_c (ok_iconst (v := (0)) dX12_home_12 (by decide)) (z_c (ok_callV zcal_210 (q := (RX12, TX12, 73)) rfl zw_907 zw_908 zw_909 dX12_home_13) (z_c (ok_iconst (v := (0)) dX12_home_16 (by decide)) (z_c (ok_istore_n dX12_home_17 rfl) z_n))))))))))))
noncomputable def tX12_home_1 : List (Nat × zF) := [(18, (zla4 0 1)), (19, (zli4 2 1)), (20, (zst 1 (zp (.int (0))))), (21, (zst 2 (zp (.int (40))))), (23, (zcv 245 3 12)), (26, (z_if_eq 53)), (29, (zla4 0 1)), (30, (zst 1 (zp (.int (1))))), (31, (zli4 1 1)), (32, (zcv 231 2 12)), (35, (z_if_eq 40)), (38, (zli4 2 1))]
theorem kX12_home_1 : ∀ q ∈ tX12_home_1, zOk zg iX12_home q.1 q.2 := (z_c (ok_aload_n dX12_home_18 rfl) (z_c (ok_iload_n dX12_home_19 rfl) (z_c (ok_iconst (v := (0)) dX12_home_20 (by decide)) (z_c (ok_bipush (v := (40)) dX12_home_21 (by decide)) (z_c (ok_callV zcal_245 (q := (RX12, TX12, 73)) rfl zw_984 zw_985 zw_986 dX12_home_23) (z_c (ok_if_eq dX12_home_26 (by decide)) (z_c (ok_aload_n dX12_home_29 rfl) (z_c (ok_iconst (v := (1)) dX12_home_30 (by decide)) (z_c (ok_iload_n dX12_home_31 rfl) (z_c (ok_callV zcal_231 (q := (RX12, TX12, 73)) rfl zw_966 zw_967 zw_968 dX12_home_32) (z_c (ok_if_eq dX12_home_35 (by decide)) (z_c (ok_iload_n dX12_home_38 rfl) z_n))))))))))))
noncomputable def tX12_home_2 : List (Nat × zF) := [(39, (zri false)), (40, (zla4 0 1)), (41, (zst 1 (zp (.int (1))))), (42, (zst 1 (zp (.int ((-1)))))), (43, (zcv 235 2 12)), (46, (zst 1 zpo)), (47, (zin4 3 2 (1))), (50, (zgt 18)), (53, (zst 1 (zp (.int ((-1)))))), (54, (zri false))]
theorem kX12_home_2 : ∀ q ∈ tX12_home_2, zOk zg iX12_home q.1 q.2 := (z_c (ok_ireturn rfl dX12_home_39) (z_c (ok_aload_n dX12_home_40 rfl) (z_c (ok_iconst (v := (1)) dX12_home_41 (by decide)) (z_c (ok_iconst (v := (-1)) dX12_home_42 (by decide)) (z_c (ok_callV zcal_235 (q := (RX12, TX12, 73)) rfl zw_981 zw_982 zw_983 dX12_home_43) (z_c (ok_pop dX12_home_46) (z_c (ok_iinc (v := (1)) dX12_home_47 (by decide)) (z_c (ok_goto dX12_home_50 (by decide)) (z_c (ok_iconst (v := (-1)) dX12_home_53 (by decide)) (z_c (ok_ireturn rfl dX12_home_54) z_n))))))))))
noncomputable def tX12_home : zT := [(18, tX12_home_0), (39, tX12_home_1), (100000, tX12_home_2)]
theorem kX12_home : zTok zg iX12_home tX12_home := (z_t kX12_home_0 (z_t kX12_home_1 (z_t kX12_home_2 z_tn)))
theorem dX12_missing_0 : decode cX12_missing 0 = .ok (.aload_n 0, 1) := by decide +kernel
theorem dX12_missing_1 : decode cX12_missing 1 = .ok (.iload_n 1, 1) := by decide +kernel
theorem dX12_missing_2 : decode cX12_missing 2 = .ok (.invokevirtual 504, 3) := by decide +kernel
theorem dX12_missing_5 : decode cX12_missing 5 = .ok (.ifCond .eq 14, 3) := by decide +kernel
theorem dX12_missing_8 : decode cX12_missing 8 = .ok (.aload_n 0, 1) := by decide +kernel
theorem dX12_missing_9 : decode cX12_missing 9 = .ok (.iload_n 2, 1) := by decide +kernel
theorem dX12_missing_10 : decode cX12_missing 10 = .ok (.iconst 0, 1) := by decide +kernel
theorem dX12_missing_11 : decode cX12_missing 11 = .ok (.bipush 40, 2) := by decide +kernel
theorem dX12_missing_13 : decode cX12_missing 13 = .ok (.invokevirtual 518, 3) := by decide +kernel
theorem dX12_missing_16 : decode cX12_missing 16 = .ok (.ifCond .ne 5, 3) := by decide +kernel
theorem dX12_missing_19 : decode cX12_missing 19 = .ok (.iconst (-1), 1) := by decide +kernel
theorem dX12_missing_20 : decode cX12_missing 20 = .ok (.ireturn, 1) := by decide +kernel
theorem dX12_missing_21 : decode cX12_missing 21 = .ok (.aload_n 0, 1) := by decide +kernel
theorem dX12_missing_22 : decode cX12_missing 22 = .ok (.iconst 1, 1) := by decide +kernel
theorem dX12_missing_23 : decode cX12_missing 23 = .ok (.iconst 0, 1) := by decide +kernel
theorem dX12_missing_24 : decode cX12_missing 24 = .ok (.invokevirtual 425, 3) := by decide +kernel
theorem dX12_missing_27 : decode cX12_missing 27 = .ok (.aload_n 0, 1) := by decide +kernel
theorem dX12_missing_28 : decode cX12_missing 28 = .ok (.iload_n 2, 1) := by decide +kernel
theorem dX12_missing_29 : decode cX12_missing 29 = .ok (.invokevirtual 521, 3) := by decide +kernel
theorem dX12_missing_32 : decode cX12_missing 32 = .ok (.aload_n 0, 1) := by decide +kernel
theorem dX12_missing_33 : decode cX12_missing 33 = .ok (.getfield 162, 3) := by decide +kernel
theorem dX12_missing_36 : decode cX12_missing 36 = .ok (.iconst 1, 1) := by decide +kernel
theorem dX12_missing_37 : decode cX12_missing 37 = .ok (.iaload, 1) := by decide +kernel
theorem dX12_missing_38 : decode cX12_missing 38 = .ok (.iload_n 1, 1) := by decide +kernel
theorem dX12_missing_39 : decode cX12_missing 39 = .ok (.invokestatic 382, 3) := by decide +kernel
theorem dX12_missing_42 : decode cX12_missing 42 = .ok (.ifCond .eq 7, 3) := by decide +kernel
theorem dX12_missing_45 : decode cX12_missing 45 = .ok (.iconst 1, 1) := by decide +kernel
theorem dX12_missing_46 : decode cX12_missing 46 = .ok (.goto 4, 3) := by decide +kernel
theorem dX12_missing_49 : decode cX12_missing 49 = .ok (.iconst 0, 1) := by decide +kernel
theorem dX12_missing_50 : decode cX12_missing 50 = .ok (.ireturn, 1) := by decide +kernel
noncomputable def tX12_missing_0 : List (Nat × zF) := [(0, (zla4 0 1)), (1, (zli4 1 1)), (2, (zcv 236 1 12)), (5, (z_if_eq 19)), (8, (zla4 0 1)), (9, (zli4 2 1)), (10, (zst 1 (zp (.int (0))))), (11, (zst 2 (zp (.int (40))))), (13, (zcv 245 3 12)), (16, (z_if_ne 21)), (19, (zst 1 (zp (.int ((-1)))))), (20, (zri false))]
theorem kX12_missing_0 : ∀ q ∈ tX12_missing_0, zOk zg iX12_missing q.1 q.2 := (z_c (ok_aload_n dX12_missing_0 rfl) (z_c (ok_iload_n dX12_missing_1 rfl) (z_c (ok_callV zcal_236 (q := (RX12, TX12, 73)) rfl zw_972 zw_973 zw_974 dX12_missing_2) (z_c (ok_if_eq dX12_missing_5 (by decide)) (z_c (ok_aload_n dX12_missing_8 rfl) (z_c (ok_iload_n dX12_missing_9 rfl) (z_c (ok_iconst (v := (0)) dX12_missing_10 (by decide)) (z_c (ok_bipush (v := (40)) dX12_missing_11 (by decide)) (z_c (ok_callV zcal_245 (q := (RX12, TX12, 73)) rfl zw_984 zw_985 zw_986 dX12_missing_13) (z_c (ok_if_ne dX12_missing_16 (by decide)) (z_c (ok_iconst (v := (-1)) dX12_missing_19 (by decide)) (z_c (ok_ireturn rfl dX12_missing_20) z_n))))))))))))
noncomputable def tX12_missing_1 : List (Nat × zF) := [(21, (zla4 0 1)), (22, (zst 1 (zp (.int (1))))), (23, (zst 1 (zp (.int (0))))), (24, (zcv 210 2 12)), (27, (zla4 0 1)), (28, (zli4 2 1)), (29, (zcv 246 1 12)), (32, (zla4 0 1)), (33, (zgf 12 49)), (36, (zst 1 (zp (.int (1))))), (37, (zal 0)), (38, (zli4 1 1))]
theorem kX12_missing_1 : ∀ q ∈ tX12_missing_1, zOk zg iX12_missing q.1 q.2 := (z_c (ok_aload_n dX12_missing_21 rfl) (z_c (ok_iconst (v := (1)) dX12_missing_22 (by decide)) (z_c (ok_iconst (v := (0)) dX12_missing_23 (by decide)) (z_c (ok_callV zcal_210 (q := (RX12, TX12, 73)) rfl zw_907 zw_908 zw_909 dX12_missing_24) (z_c (ok_aload_n dX12_missing_27 rfl) (z_c (ok_iload_n dX12_missing_28 rfl) (z_c (ok_callV zcal_246 (q := (RX12, TX12, 73)) rfl zw_987 zw_988 zw_989 dX12_missing_29) (z_c (ok_aload_n dX12_missing_32 rfl) (z_c (ok_getf (C := RX12) (T := TX12) (N := 73) rfl (by decide) zinX12 rfl zw_737 dX12_missing_33) (z_c (ok_iconst (v := (1)) dX12_missing_36 (by decide)) (z_c (ok_iaload rfl dX12_missing_37) (z_c (ok_iload_n dX12_missing_38 rfl) z_n))))))))))))
noncomputable def tX12_missing_2 : List (Nat × zF) := [(39, (zcs 193 2)), (42, (z_if_eq 49)), (45, (zst 1 (zp (.int (1))))), (46, (zgt 50)), (49, (zst 1 (zp (.int (0))))), (50, (zri false))]
theorem kX12_missing_2 : ∀ q ∈ tX12_missing_2, zOk zg iX12_missing q.1 q.2 := (z_c (ok_callS zcal_193 zw_866 zw_867 dX12_missing_39) (z_c (ok_if_eq dX12_missing_42 (by decide)) (z_c (ok_iconst (v := (1)) dX12_missing_45 (by decide)) (z_c (ok_goto dX12_missing_46 (by decide)) (z_c (ok_iconst (v := (0)) dX12_missing_49 (by decide)) (z_c (ok_ireturn rfl dX12_missing_50) z_n))))))
noncomputable def tX12_missing : zT := [(21, tX12_missing_0), (39, tX12_missing_1), (100000, tX12_missing_2)]
theorem kX12_missing : zTok zg iX12_missing tX12_missing := (z_t kX12_missing_0 (z_t kX12_missing_1 (z_t kX12_missing_2 z_tn)))
theorem dX12_turnsAll_0 : decode cX12_turnsAll 0 = .ok (.iconst 0, 1) := by decide +kernel
theorem dX12_turnsAll_1 : decode cX12_turnsAll 1 = .ok (.istore_n 2, 1) := by decide +kernel
theorem dX12_turnsAll_2 : decode cX12_turnsAll 2 = .ok (.iload_n 2, 1) := by decide +kernel
theorem dX12_turnsAll_3 : decode cX12_turnsAll 3 = .ok (.aload_n 0, 1) := by decide +kernel
theorem dX12_turnsAll_4 : decode cX12_turnsAll 4 = .ok (.getfield 69, 3) := by decide +kernel
theorem dX12_turnsAll_7 : decode cX12_turnsAll 7 = .ok (.aload_n 0, 1) := by decide +kernel
theorem dX12_turnsAll_8 : decode cX12_turnsAll 8 = .ok (.getfield 51, 3) := by decide +kernel
theorem dX12_turnsAll_11 : decode cX12_turnsAll 11 = .ok (.iaload, 1) := by decide +kernel
theorem dX12_turnsAll_12 : decode cX12_turnsAll 12 = .ok (.if_icmp .ge 23, 3) := by decide +kernel
theorem dX12_turnsAll_15 : decode cX12_turnsAll 15 = .ok (.iload_n 1, 1) := by decide +kernel
theorem dX12_turnsAll_16 : decode cX12_turnsAll 16 = .ok (.iload_n 2, 1) := by decide +kernel
theorem dX12_turnsAll_17 : decode cX12_turnsAll 17 = .ok (.invokestatic 382, 3) := by decide +kernel
theorem dX12_turnsAll_20 : decode cX12_turnsAll 20 = .ok (.ifCond .eq 9, 3) := by decide +kernel
theorem dX12_turnsAll_23 : decode cX12_turnsAll 23 = .ok (.aload_n 0, 1) := by decide +kernel
theorem dX12_turnsAll_24 : decode cX12_turnsAll 24 = .ok (.iconst 1, 1) := by decide +kernel
theorem dX12_turnsAll_25 : decode cX12_turnsAll 25 = .ok (.iload_n 2, 1) := by decide +kernel
theorem dX12_turnsAll_26 : decode cX12_turnsAll 26 = .ok (.invokevirtual 495, 3) := by decide +kernel
theorem dX12_turnsAll_29 : decode cX12_turnsAll 29 = .ok (.iinc 2 1, 3) := by decide +kernel
theorem dX12_turnsAll_32 : decode cX12_turnsAll 32 = .ok (.goto (-30), 3) := by decide +kernel
theorem dX12_turnsAll_35 : decode cX12_turnsAll 35 = .ok (.return_, 1) := by decide +kernel
noncomputable def tX12_turnsAll_0 : List (Nat × zF) := [(0, (zst 1 (zp (.int (0))))), (1, (zsi4 3 2 1)), (2, (zli4 2 1)), (3, (zla4 0 1)), (4, (zgf 12 19)), (7, (zla4 0 1)), (8, (zgf 12 13)), (11, (zal 0)), (12, (z_ic_ge 35)), (15, (zli4 1 1)), (16, (zli4 2 1)), (17, (zcs 193 2))]
theorem kX12_turnsAll_0 : ∀ q ∈ tX12_turnsAll_0, zOk zg iX12_turnsAll q.1 q.2 := (z_c (ok_iconst (v := (0)) dX12_turnsAll_0 (by decide)) (z_c (ok_istore_n dX12_turnsAll_1 rfl) (z_c (ok_iload_n dX12_turnsAll_2 rfl) (z_c (ok_aload_n dX12_turnsAll_3 rfl) (z_c (ok_getf (C := RX12) (T := TX12) (N := 73) rfl (by decide) zinX12 rfl zw_706 dX12_turnsAll_4) (z_c (ok_aload_n dX12_turnsAll_7 rfl) (z_c (ok_getf (C := RX12) (T := TX12) (N := 73) rfl (by decide) zinX12 rfl zw_700 dX12_turnsAll_8) (z_c (ok_iaload rfl dX12_turnsAll_11) (z_c (ok_icmp_ge dX12_turnsAll_12 (by decide)) (z_c (ok_iload_n dX12_turnsAll_15 rfl) (z_c (ok_iload_n dX12_turnsAll_16 rfl) (z_c (ok_callS zcal_193 zw_866 zw_867 dX12_turnsAll_17) z_n))))))))))))
noncomputable def tX12_turnsAll_1 : List (Nat × zF) := [(20, (z_if_eq 29)), (23, (zla4 0 1)), (24, (zst 1 (zp (.int (1))))), (25, (zli4 2 1)), (26, (zcv 233 2 12)), (29, (zin4 3 2 (1))), (32, (zgt 2)), (35, zrv)]
theorem kX12_turnsAll_1 : ∀ q ∈ tX12_turnsAll_1, zOk zg iX12_turnsAll q.1 q.2 := (z_c (ok_if_eq dX12_turnsAll_20 (by decide)) (z_c (ok_aload_n dX12_turnsAll_23 rfl) (z_c (ok_iconst (v := (1)) dX12_turnsAll_24 (by decide)) (z_c (ok_iload_n dX12_turnsAll_25 rfl) (z_c (ok_callV zcal_233 (q := (RX12, TX12, 73)) rfl zw_963 zw_964 zw_965 dX12_turnsAll_26) (z_c (ok_iinc (v := (1)) dX12_turnsAll_29 (by decide)) (z_c (ok_goto dX12_turnsAll_32 (by decide)) (z_c (ok_return rfl dX12_turnsAll_35) z_n))))))))
noncomputable def tX12_turnsAll : zT := [(20, tX12_turnsAll_0), (100000, tX12_turnsAll_1)]
theorem kX12_turnsAll : zTok zg iX12_turnsAll tX12_turnsAll := (z_t kX12_turnsAll_0 (z_t kX12_turnsAll_1 z_tn))
theorem dX12_losses_0 : decode cX12_losses 0 = .ok (.aload_n 0, 1) := by decide +kernel
theorem dX12_losses_1 : decode cX12_losses 1 = .ok (.iload_n 1, 1) := by decide +kernel
theorem dX12_losses_2 : decode cX12_losses 2 = .ok (.invokevirtual 507, 3) := by decide +kernel
theorem dX12_losses_5 : decode cX12_losses 5 = .ok (.ifCond .eq 14, 3) := by decide +kernel
theorem dX12_losses_8 : decode cX12_losses 8 = .ok (.aload_n 0, 1) := by decide +kernel
theorem dX12_losses_9 : decode cX12_losses 9 = .ok (.iload_n 2, 1) := by decide +kernel
theorem dX12_losses_10 : decode cX12_losses 10 = .ok (.iconst 0, 1) := by decide +kernel
theorem dX12_losses_11 : decode cX12_losses 11 = .ok (.bipush 20, 2) := by decide +kernel
theorem dX12_losses_13 : decode cX12_losses 13 = .ok (.invokevirtual 518, 3) := by decide +kernel
theorem dX12_losses_16 : decode cX12_losses 16 = .ok (.ifCond .ne 5, 3) := by decide +kernel
theorem dX12_losses_19 : decode cX12_losses 19 = .ok (.iconst (-1), 1) := by decide +kernel
theorem dX12_losses_20 : decode cX12_losses 20 = .ok (.ireturn, 1) := by decide +kernel
theorem dX12_losses_21 : decode cX12_losses 21 = .ok (.iconst (-1), 1) := by decide +kernel
theorem dX12_losses_22 : decode cX12_losses 22 = .ok (.istore_n 3, 1) := by decide +kernel
theorem dX12_losses_23 : decode cX12_losses 23 = .ok (.iconst 0, 1) := by decide +kernel
theorem dX12_losses_24 : decode cX12_losses 24 = .ok (.istore 4, 2) := by decide +kernel
theorem dX12_losses_26 : decode cX12_losses 26 = .ok (.iload 4, 2) := by decide +kernel
theorem dX12_losses_28 : decode cX12_losses 28 = .ok (.iconst 1, 1) := by decide +kernel
theorem dX12_losses_29 : decode cX12_losses 29 = .ok (.aload_n 0, 1) := by decide +kernel
theorem dX12_losses_30 : decode cX12_losses 30 = .ok (.getfield 69, 3) := by decide +kernel
theorem dX12_losses_33 : decode cX12_losses 33 = .ok (.aload_n 0, 1) := by decide +kernel
theorem dX12_losses_34 : decode cX12_losses 34 = .ok (.getfield 51, 3) := by decide +kernel
theorem dX12_losses_37 : decode cX12_losses 37 = .ok (.iaload, 1) := by decide +kernel
theorem dX12_losses_38 : decode cX12_losses 38 = .ok (.ishl, 1) := by decide +kernel
theorem dX12_losses_39 : decode cX12_losses 39 = .ok (.if_icmp .ge 70, 3) := by decide +kernel
theorem dX12_losses_42 : decode cX12_losses 42 = .ok (.iload 4, 2) := by decide +kernel
theorem dX12_losses_44 : decode cX12_losses 44 = .ok (.aload_n 0, 1) := by decide +kernel
theorem dX12_losses_45 : decode cX12_losses 45 = .ok (.getfield 162, 3) := by decide +kernel
theorem dX12_losses_48 : decode cX12_losses 48 = .ok (.iconst 0, 1) := by decide +kernel
theorem dX12_losses_49 : decode cX12_losses 49 = .ok (.iaload, 1) := by decide +kernel
theorem dX12_losses_50 : decode cX12_losses 50 = .ok (.iand, 1) := by decide +kernel
theorem dX12_losses_51 : decode cX12_losses 51 = .ok (.ifCond .ne 52, 3) := by decide +kernel
theorem dX12_losses_54 : decode cX12_losses 54 = .ok (.iload_n 3, 1) := by decide +kernel
theorem dX12_losses_55 : decode cX12_losses 55 = .ok (.iconst (-1), 1) := by decide +kernel
theorem dX12_losses_56 : decode cX12_losses 56 = .ok (.if_icmp .eq 18, 3) := by decide +kernel
theorem dX12_losses_59 : decode cX12_losses 59 = .ok (.iload 4, 2) := by decide +kernel
theorem dX12_losses_61 : decode cX12_losses 61 = .ok (.invokestatic 450, 3) := by decide +kernel
theorem dX12_losses_64 : decode cX12_losses 64 = .ok (.iload_n 3, 1) := by decide +kernel
theorem dX12_losses_65 : decode cX12_losses 65 = .ok (.invokestatic 450, 3) := by decide +kernel
theorem dX12_losses_68 : decode cX12_losses 68 = .ok (.if_icmp .lt 6, 3) := by decide +kernel
theorem dX12_losses_71 : decode cX12_losses 71 = .ok (.goto 32, 3) := by decide +kernel
theorem dX12_losses_74 : decode cX12_losses 74 = .ok (.aload_n 0, 1) := by decide +kernel
theorem dX12_losses_75 : decode cX12_losses 75 = .ok (.iconst 1, 1) := by decide +kernel
theorem dX12_losses_76 : decode cX12_losses 76 = .ok (.iconst 0, 1) := by decide +kernel
theorem dX12_losses_77 : decode cX12_losses 77 = .ok (.invokevirtual 425, 3) := by decide +kernel
theorem dX12_losses_80 : decode cX12_losses 80 = .ok (.aload_n 0, 1) := by decide +kernel
theorem dX12_losses_81 : decode cX12_losses 81 = .ok (.iload 4, 2) := by decide +kernel
theorem dX12_losses_83 : decode cX12_losses 83 = .ok (.invokevirtual 524, 3) := by decide +kernel
theorem dX12_losses_86 : decode cX12_losses 86 = .ok (.aload_n 0, 1) := by decide +kernel
theorem dX12_losses_87 : decode cX12_losses 87 = .ok (.iload_n 2, 1) := by decide +kernel
theorem dX12_losses_88 : decode cX12_losses 88 = .ok (.invokevirtual 521, 3) := by decide +kernel
theorem dX12_losses_91 : decode cX12_losses 91 = .ok (.aload_n 0, 1) := by decide +kernel
theorem dX12_losses_92 : decode cX12_losses 92 = .ok (.iconst 1, 1) := by decide +kernel
theorem dX12_losses_93 : decode cX12_losses 93 = .ok (.iload_n 1, 1) := by decide +kernel
theorem dX12_losses_94 : decode cX12_losses 94 = .ok (.invokevirtual 498, 3) := by decide +kernel
theorem dX12_losses_97 : decode cX12_losses 97 = .ok (.ifCond .eq 6, 3) := by decide +kernel
theorem dX12_losses_100 : decode cX12_losses 100 = .ok (.iload 4, 2) := by decide +kernel
theorem dX12_losses_102 : decode cX12_losses 102 = .ok (.istore_n 3, 1) := by decide +kernel
theorem dX12_losses_103 : decode cX12_losses 103 = .ok (.iinc 4 1, 3) := by decide +kernel
theorem dX12_losses_106 : decode cX12_losses 106 = .ok (.goto (-80), 3) := by decide +kernel
theorem dX12_losses_109 : decode cX12_losses 109 = .ok (.iload_n 3, 1) := by decide +kernel
theorem dX12_losses_110 : decode cX12_losses 110 = .ok (.ireturn, 1) := by decide +kernel
noncomputable def tX12_losses_0 : List (Nat × zF) := [(0, (zla4 0 1)), (1, (zli4 1 1)), (2, (zcv 237 1 12)), (5, (z_if_eq 19)), (8, (zla4 0 1)), (9, (zli4 2 1)), (10, (zst 1 (zp (.int (0))))), (11, (zst 2 (zp (.int (20))))), (13, (zcv 245 3 12)), (16, (z_if_ne 21)), (19, (zst 1 (zp (.int ((-1)))))), (20, (zri false))]
theorem kX12_losses_0 : ∀ q ∈ tX12_losses_0, zOk zg iX12_losses q.1 q.2 := (z_c (ok_aload_n dX12_losses_0 rfl) (z_c (ok_iload_n dX12_losses_1 rfl) (z_c (ok_callV zcal_237 (q := (RX12, TX12, 73)) rfl zw_975 zw_976 zw_977 dX12_losses_2) (z_c (ok_if_eq dX12_losses_5 (by decide)) (z_c (ok_aload_n dX12_losses_8 rfl) (z_c (ok_iload_n dX12_losses_9 rfl) (z_c (ok_iconst (v := (0)) dX12_losses_10 (by decide)) (z_c (ok_bipush (v := (20)) dX12_losses_11 (by decide)) (z_c (ok_callV zcal_245 (q := (RX12, TX12, 73)) rfl zw_984 zw_985 zw_986 dX12_losses_13) (z_c (ok_if_ne dX12_losses_16 (by decide)) (z_c (ok_iconst (v := (-1)) dX12_losses_19 (by decide)) (z_c (ok_ireturn rfl dX12_losses_20) z_n))))))))))))
noncomputable def tX12_losses_1 : List (Nat × zF) := [(21, (zst 1 (zp (.int ((-1)))))), (22, (zsi4 5 3 1)), (23, (zst 1 (zp (.int (0))))), (24, (zsi4 5 4 2)), (26, (zli4 4 2)), (28, (zst 1 (zp (.int (1))))), (29, (zla4 0 1)), (30, (zgf 12 19)), (33, (zla4 0 1)), (34, (zgf 12 13)), (37, (zal 0)), (38, (zst 1 z_ishl))]
theorem kX12_losses_1 : ∀ q ∈ tX12_losses_1, zOk zg iX12_losses q.1 q.2 := (z_c (ok_iconst (v := (-1)) dX12_losses_21 (by decide)) (z_c (ok_istore_n dX12_losses_22 rfl) (z_c (ok_iconst (v := (0)) dX12_losses_23 (by decide)) (z_c (ok_istore dX12_losses_24) (z_c (ok_iload dX12_losses_26) (z_c (ok_iconst (v := (1)) dX12_losses_28 (by decide)) (z_c (ok_aload_n dX12_losses_29 rfl) (z_c (ok_getf (C := RX12) (T := TX12) (N := 73) rfl (by decide) zinX12 rfl zw_706 dX12_losses_30) (z_c (ok_aload_n dX12_losses_33 rfl) (z_c (ok_getf (C := RX12) (T := TX12) (N := 73) rfl (by decide) zinX12 rfl zw_700 dX12_losses_34) (z_c (ok_iaload rfl dX12_losses_37) (z_c (ok_ishl dX12_losses_38) z_n))))))))))))
noncomputable def tX12_losses_2 : List (Nat × zF) := [(39, (z_ic_ge 109)), (42, (zli4 4 2)), (44, (zla4 0 1)), (45, (zgf 12 49)), (48, (zst 1 (zp (.int (0))))), (49, (zal 0)), (50, (zst 1 z_iand)), (51, (z_if_ne 103)), (54, (zli4 3 1)), (55, (zst 1 (zp (.int ((-1)))))), (56, (z_ic_eq 74)), (59, (zli4 4 2))]
theorem kX12_losses_2 : ∀ q ∈ tX12_losses_2, zOk zg iX12_losses q.1 q.2 := (z_c (ok_icmp_ge dX12_losses_39 (by decide)) (z_c (ok_iload dX12_losses_42) (z_c (ok_aload_n dX12_losses_44 rfl) (z_c (ok_getf (C := RX12) (T := TX12) (N := 73) rfl (by decide) zinX12 rfl zw_737 dX12_losses_45) (z_c (ok_iconst (v := (0)) dX12_losses_48 (by decide)) (z_c (ok_iaload rfl dX12_losses_49) (z_c (ok_iand dX12_losses_50) (z_c (ok_if_ne dX12_losses_51 (by decide)) (z_c (ok_iload_n dX12_losses_54 rfl) (z_c (ok_iconst (v := (-1)) dX12_losses_55 (by decide)) (z_c (ok_icmp_eq dX12_losses_56 (by decide)) (z_c (ok_iload dX12_losses_59) z_n))))))))))))
noncomputable def tX12_losses_3 : List (Nat × zF) := [(61, (zcs 220 1)), (64, (zli4 3 1)), (65, (zcs 220 1)), (68, (z_ic_lt 74)), (71, (zgt 103)), (74, (zla4 0 1)), (75, (zst 1 (zp (.int (1))))), (76, (zst 1 (zp (.int (0))))), (77, (zcv 210 2 12)), (80, (zla4 0 1)), (81, (zli4 4 2)), (83, (zcv 250 1 12))]
theorem kX12_losses_3 : ∀ q ∈ tX12_losses_3, zOk zg iX12_losses q.1 q.2 := (z_c (ok_callS zcal_220 zw_924 zw_925 dX12_losses_61) (z_c (ok_iload_n dX12_losses_64 rfl) (z_c (ok_callS zcal_220 zw_924 zw_925 dX12_losses_65) (z_c (ok_icmp_lt dX12_losses_68 (by decide)) (z_c (ok_goto dX12_losses_71 (by decide)) (z_c (ok_aload_n dX12_losses_74 rfl) (z_c (ok_iconst (v := (1)) dX12_losses_75 (by decide)) (z_c (ok_iconst (v := (0)) dX12_losses_76 (by decide)) (z_c (ok_callV zcal_210 (q := (RX12, TX12, 73)) rfl zw_907 zw_908 zw_909 dX12_losses_77) (z_c (ok_aload_n dX12_losses_80 rfl) (z_c (ok_iload dX12_losses_81) (z_c (ok_callV zcal_250 (q := (RX12, TX12, 73)) rfl zw_990 zw_991 zw_992 dX12_losses_83) z_n))))))))))))
noncomputable def tX12_losses_4 : List (Nat × zF) := [(86, (zla4 0 1)), (87, (zli4 2 1)), (88, (zcv 246 1 12)), (91, (zla4 0 1)), (92, (zst 1 (zp (.int (1))))), (93, (zli4 1 1)), (94, (zcv 231 2 12)), (97, (z_if_eq 103)), (100, (zli4 4 2)), (102, (zsi4 5 3 1)), (103, (zin4 5 4 (1))), (106, (zgt 26))]
theorem kX12_losses_4 : ∀ q ∈ tX12_losses_4, zOk zg iX12_losses q.1 q.2 := (z_c (ok_aload_n dX12_losses_86 rfl) (z_c (ok_iload_n dX12_losses_87 rfl) (z_c (ok_callV zcal_246 (q := (RX12, TX12, 73)) rfl zw_987 zw_988 zw_989 dX12_losses_88) (z_c (ok_aload_n dX12_losses_91 rfl) (z_c (ok_iconst (v := (1)) dX12_losses_92 (by decide)) (z_c (ok_iload_n dX12_losses_93 rfl) (z_c (ok_callV zcal_231 (q := (RX12, TX12, 73)) rfl zw_966 zw_967 zw_968 dX12_losses_94) (z_c (ok_if_eq dX12_losses_97 (by decide)) (z_c (ok_iload dX12_losses_100) (z_c (ok_istore_n dX12_losses_102 rfl) (z_c (ok_iinc (v := (1)) dX12_losses_103 (by decide)) (z_c (ok_goto dX12_losses_106 (by decide)) z_n))))))))))))
noncomputable def tX12_losses_5 : List (Nat × zF) := [(109, (zli4 3 1)), (110, (zri false))]
theorem kX12_losses_5 : ∀ q ∈ tX12_losses_5, zOk zg iX12_losses q.1 q.2 := (z_c (ok_iload_n dX12_losses_109 rfl) (z_c (ok_ireturn rfl dX12_losses_110) z_n))
noncomputable def tX12_losses : zT := [(21, tX12_losses_0), (39, tX12_losses_1), (61, tX12_losses_2), (86, tX12_losses_3), (109, tX12_losses_4), (100000, tX12_losses_5)]
theorem kX12_losses : zTok zg iX12_losses tX12_losses := (z_t kX12_losses_0 (z_t kX12_losses_1 (z_t kX12_losses_2 (z_t kX12_losses_3 (z_t kX12_losses_4 (z_t kX12_losses_5 z_tn))))))
theorem dX12_worst_0 : decode cX12_worst 0 = .ok (.aload_n 0, 1) := by decide +kernel
theorem dX12_worst_1 : decode cX12_worst 1 = .ok (.iload_n 1, 1) := by decide +kernel
theorem dX12_worst_2 : decode cX12_worst 2 = .ok (.iconst 1, 1) := by decide +kernel
theorem dX12_worst_3 : decode cX12_worst 3 = .ok (.bipush 20, 2) := by decide +kernel
theorem dX12_worst_5 : decode cX12_worst 5 = .ok (.invokevirtual 518, 3) := by decide +kernel
theorem dX12_worst_8 : decode cX12_worst 8 = .ok (.ifCond .eq 12, 3) := by decide +kernel
theorem dX12_worst_11 : decode cX12_worst 11 = .ok (.iload_n 2, 1) := by decide +kernel
theorem dX12_worst_12 : decode cX12_worst 12 = .ok (.iconst 0, 1) := by decide +kernel
theorem dX12_worst_13 : decode cX12_worst 13 = .ok (.iconst 1, 1) := by decide +kernel
theorem dX12_worst_14 : decode cX12_worst 14 = .ok (.invokestatic 318, 3) := by decide +kernel
theorem dX12_worst_17 : decode cX12_worst 17 = .ok (.ifCond .ne 5, 3) := by decide +kernel
theorem dX12_worst_20 : decode cX12_worst 20 = .ok (.iconst (-1), 1) := by decide +kernel
theorem dX12_worst_21 : decode cX12_worst 21 = .ok (.ireturn, 1) := by decide +kernel
theorem dX12_worst_22 : decode cX12_worst 22 = .ok (.iconst (-1), 1) := by decide +kernel
theorem dX12_worst_23 : decode cX12_worst 23 = .ok (.istore_n 3, 1) := by decide +kernel
theorem dX12_worst_24 : decode cX12_worst 24 = .ok (.ldc_w 474, 3) := by decide +kernel
theorem dX12_worst_27 : decode cX12_worst 27 = .ok (.istore 4, 2) := by decide +kernel
theorem dX12_worst_29 : decode cX12_worst 29 = .ok (.iconst 0, 1) := by decide +kernel
theorem dX12_worst_30 : decode cX12_worst 30 = .ok (.istore 5, 2) := by decide +kernel
theorem dX12_worst_32 : decode cX12_worst 32 = .ok (.iload 5, 2) := by decide +kernel
theorem dX12_worst_34 : decode cX12_worst 34 = .ok (.aload_n 0, 1) := by decide +kernel
theorem dX12_worst_35 : decode cX12_worst 35 = .ok (.getfield 69, 3) := by decide +kernel
theorem dX12_worst_38 : decode cX12_worst 38 = .ok (.aload_n 0, 1) := by decide +kernel
theorem dX12_worst_39 : decode cX12_worst 39 = .ok (.getfield 51, 3) := by decide +kernel
theorem dX12_worst_42 : decode cX12_worst 42 = .ok (.iaload, 1) := by decide +kernel
theorem dX12_worst_43 : decode cX12_worst 43 = .ok (.if_icmp .ge 68, 3) := by decide +kernel
theorem dX12_worst_46 : decode cX12_worst 46 = .ok (.aload_n 0, 1) := by decide +kernel
theorem dX12_worst_47 : decode cX12_worst 47 = .ok (.getfield 162, 3) := by decide +kernel
theorem dX12_worst_50 : decode cX12_worst 50 = .ok (.iconst 0, 1) := by decide +kernel
theorem dX12_worst_51 : decode cX12_worst 51 = .ok (.iaload, 1) := by decide +kernel
theorem dX12_worst_52 : decode cX12_worst 52 = .ok (.iload 5, 2) := by decide +kernel
theorem dX12_worst_54 : decode cX12_worst 54 = .ok (.invokestatic 382, 3) := by decide +kernel
theorem dX12_worst_57 : decode cX12_worst 57 = .ok (.ifCond .ne 6, 3) := by decide +kernel
theorem dX12_worst_60 : decode cX12_worst 60 = .ok (.goto 45, 3) := by decide +kernel
theorem dX12_worst_63 : decode cX12_worst 63 = .ok (.aload_n 0, 1) := by decide +kernel
theorem dX12_worst_64 : decode cX12_worst 64 = .ok (.iconst 1, 1) := by decide +kernel
theorem dX12_worst_65 : decode cX12_worst 65 = .ok (.iconst 0, 1) := by decide +kernel
theorem dX12_worst_66 : decode cX12_worst 66 = .ok (.invokevirtual 425, 3) := by decide +kernel
theorem dX12_worst_69 : decode cX12_worst 69 = .ok (.aload_n 0, 1) := by decide +kernel
theorem dX12_worst_70 : decode cX12_worst 70 = .ok (.iconst 1, 1) := by decide +kernel
theorem dX12_worst_71 : decode cX12_worst 71 = .ok (.iload 5, 2) := by decide +kernel
theorem dX12_worst_73 : decode cX12_worst 73 = .ok (.ishl, 1) := by decide +kernel
theorem dX12_worst_74 : decode cX12_worst 74 = .ok (.invokevirtual 524, 3) := by decide +kernel
theorem dX12_worst_77 : decode cX12_worst 77 = .ok (.aload_n 0, 1) := by decide +kernel
theorem dX12_worst_78 : decode cX12_worst 78 = .ok (.iload_n 1, 1) := by decide +kernel
theorem dX12_worst_79 : decode cX12_worst 79 = .ok (.invokevirtual 521, 3) := by decide +kernel
theorem dX12_worst_82 : decode cX12_worst 82 = .ok (.aload_n 0, 1) := by decide +kernel
theorem dX12_worst_83 : decode cX12_worst 83 = .ok (.iconst 1, 1) := by decide +kernel
theorem dX12_worst_84 : decode cX12_worst 84 = .ok (.invokevirtual 501, 3) := by decide +kernel
theorem dX12_worst_87 : decode cX12_worst 87 = .ok (.iload 4, 2) := by decide +kernel
theorem dX12_worst_89 : decode cX12_worst 89 = .ok (.if_icmp .lt 6, 3) := by decide +kernel
theorem dX12_worst_92 : decode cX12_worst 92 = .ok (.goto 13, 3) := by decide +kernel
theorem dX12_worst_95 : decode cX12_worst 95 = .ok (.aload_n 0, 1) := by decide +kernel
theorem dX12_worst_96 : decode cX12_worst 96 = .ok (.iconst 1, 1) := by decide +kernel
theorem dX12_worst_97 : decode cX12_worst 97 = .ok (.invokevirtual 501, 3) := by decide +kernel
theorem dX12_worst_100 : decode cX12_worst 100 = .ok (.istore 4, 2) := by decide +kernel
theorem dX12_worst_102 : decode cX12_worst 102 = .ok (.iload 5, 2) := by decide +kernel
theorem dX12_worst_104 : decode cX12_worst 104 = .ok (.istore_n 3, 1) := by decide +kernel
theorem dX12_worst_105 : decode cX12_worst 105 = .ok (.iinc 5 1, 3) := by decide +kernel
theorem dX12_worst_108 : decode cX12_worst 108 = .ok (.goto (-76), 3) := by decide +kernel
theorem dX12_worst_111 : decode cX12_worst 111 = .ok (.iload_n 3, 1) := by decide +kernel
theorem dX12_worst_112 : decode cX12_worst 112 = .ok (.iconst (-1), 1) := by decide +kernel
theorem dX12_worst_113 : decode cX12_worst 113 = .ok (.if_icmp .eq 7, 3) := by decide +kernel
theorem dX12_worst_116 : decode cX12_worst 116 = .ok (.iload_n 2, 1) := by decide +kernel
theorem dX12_worst_117 : decode cX12_worst 117 = .ok (.ifCond .ne 7, 3) := by decide +kernel
theorem dX12_worst_120 : decode cX12_worst 120 = .ok (.iload_n 3, 1) := by decide +kernel
theorem dX12_worst_121 : decode cX12_worst 121 = .ok (.goto 5, 3) := by decide +kernel
theorem dX12_worst_124 : decode cX12_worst 124 = .ok (.iload 4, 2) := by decide +kernel
theorem dX12_worst_126 : decode cX12_worst 126 = .ok (.ireturn, 1) := by decide +kernel
noncomputable def tX12_worst_0 : List (Nat × zF) := [(0, (zla4 0 1)), (1, (zli4 1 1)), (2, (zst 1 (zp (.int (1))))), (3, (zst 2 (zp (.int (20))))), (5, (zcv 245 3 12)), (8, (z_if_eq 20)), (11, (zli4 2 1)), (12, (zst 1 (zp (.int (0))))), (13, (zst 1 (zp (.int (1))))), (14, (zcs 165 3)), (17, (z_if_ne 22)), (20, (zst 1 (zp (.int ((-1))))))]
theorem kX12_worst_0 : ∀ q ∈ tX12_worst_0, zOk zg iX12_worst q.1 q.2 := (z_c (ok_aload_n dX12_worst_0 rfl) (z_c (ok_iload_n dX12_worst_1 rfl) (z_c (ok_iconst (v := (1)) dX12_worst_2 (by decide)) (z_c (ok_bipush (v := (20)) dX12_worst_3 (by decide)) (z_c (ok_callV zcal_245 (q := (RX12, TX12, 73)) rfl zw_984 zw_985 zw_986 dX12_worst_5) (z_c (ok_if_eq dX12_worst_8 (by decide)) (z_c (ok_iload_n dX12_worst_11 rfl) (z_c (ok_iconst (v := (0)) dX12_worst_12 (by decide)) (z_c (ok_iconst (v := (1)) dX12_worst_13 (by decide)) (z_c (ok_callS zcal_165 zw_812 zw_813 dX12_worst_14) (z_c (ok_if_ne dX12_worst_17 (by decide)) (z_c (ok_iconst (v := (-1)) dX12_worst_20 (by decide)) z_n))))))))))))
noncomputable def tX12_worst_1 : List (Nat × zF) := [(21, (zri false)), (22, (zst 1 (zp (.int ((-1)))))), (23, (zsi4 6 3 1)), (24, (zst 3 (zp (.int (100000000))))), (27, (zsi4 6 4 2)), (29, (zst 1 (zp (.int (0))))), (30, (zsi4 6 5 2)), (32, (zli4 5 2)), (34, (zla4 0 1)), (35, (zgf 12 19)), (38, (zla4 0 1)), (39, (zgf 12 13))]
theorem kX12_worst_1 : ∀ q ∈ tX12_worst_1, zOk zg iX12_worst q.1 q.2 := (z_c (ok_ireturn rfl dX12_worst_21) (z_c (ok_iconst (v := (-1)) dX12_worst_22 (by decide)) (z_c (ok_istore_n dX12_worst_23 rfl) (z_c (ok_ldcw (v := (100000000)) zw_944 dX12_worst_24) (z_c (ok_istore dX12_worst_27) (z_c (ok_iconst (v := (0)) dX12_worst_29 (by decide)) (z_c (ok_istore dX12_worst_30) (z_c (ok_iload dX12_worst_32) (z_c (ok_aload_n dX12_worst_34 rfl) (z_c (ok_getf (C := RX12) (T := TX12) (N := 73) rfl (by decide) zinX12 rfl zw_706 dX12_worst_35) (z_c (ok_aload_n dX12_worst_38 rfl) (z_c (ok_getf (C := RX12) (T := TX12) (N := 73) rfl (by decide) zinX12 rfl zw_700 dX12_worst_39) z_n))))))))))))
noncomputable def tX12_worst_2 : List (Nat × zF) := [(42, (zal 0)), (43, (z_ic_ge 111)), (46, (zla4 0 1)), (47, (zgf 12 49)), (50, (zst 1 (zp (.int (0))))), (51, (zal 0)), (52, (zli4 5 2)), (54, (zcs 193 2)), (57, (z_if_ne 63)), (60, (zgt 105)), (63, (zla4 0 1)), (64, (zst 1 (zp (.int (1)))))]
theorem kX12_worst_2 : ∀ q ∈ tX12_worst_2, zOk zg iX12_worst q.1 q.2 := (z_c (ok_iaload rfl dX12_worst_42) (z_c (ok_icmp_ge dX12_worst_43 (by decide)) (z_c (ok_aload_n dX12_worst_46 rfl) (z_c (ok_getf (C := RX12) (T := TX12) (N := 73) rfl (by decide) zinX12 rfl zw_737 dX12_worst_47) (z_c (ok_iconst (v := (0)) dX12_worst_50 (by decide)) (z_c (ok_iaload rfl dX12_worst_51) (z_c (ok_iload dX12_worst_52) (z_c (ok_callS zcal_193 zw_866 zw_867 dX12_worst_54) (z_c (ok_if_ne dX12_worst_57 (by decide)) (z_c (ok_goto dX12_worst_60 (by decide)) (z_c (ok_aload_n dX12_worst_63 rfl) (z_c (ok_iconst (v := (1)) dX12_worst_64 (by decide)) z_n))))))))))))
noncomputable def tX12_worst_3 : List (Nat × zF) := [(65, (zst 1 (zp (.int (0))))), (66, (zcv 210 2 12)), (69, (zla4 0 1)), (70, (zst 1 (zp (.int (1))))), (71, (zli4 5 2)), (73, (zst 1 z_ishl)), (74, (zcv 250 1 12)), (77, (zla4 0 1)), (78, (zli4 1 1)), (79, (zcv 246 1 12)), (82, (zla4 0 1)), (83, (zst 1 (zp (.int (1)))))]
theorem kX12_worst_3 : ∀ q ∈ tX12_worst_3, zOk zg iX12_worst q.1 q.2 := (z_c (ok_iconst (v := (0)) dX12_worst_65 (by decide)) (z_c (ok_callV zcal_210 (q := (RX12, TX12, 73)) rfl zw_907 zw_908 zw_909 dX12_worst_66) (z_c (ok_aload_n dX12_worst_69 rfl) (z_c (ok_iconst (v := (1)) dX12_worst_70 (by decide)) (z_c (ok_iload dX12_worst_71) (z_c (ok_ishl dX12_worst_73) (z_c (ok_callV zcal_250 (q := (RX12, TX12, 73)) rfl zw_990 zw_991 zw_992 dX12_worst_74) (z_c (ok_aload_n dX12_worst_77 rfl) (z_c (ok_iload_n dX12_worst_78 rfl) (z_c (ok_callV zcal_246 (q := (RX12, TX12, 73)) rfl zw_987 zw_988 zw_989 dX12_worst_79) (z_c (ok_aload_n dX12_worst_82 rfl) (z_c (ok_iconst (v := (1)) dX12_worst_83 (by decide)) z_n))))))))))))
noncomputable def tX12_worst_4 : List (Nat × zF) := [(84, (zcv 238 1 12)), (87, (zli4 4 2)), (89, (z_ic_lt 95)), (92, (zgt 105)), (95, (zla4 0 1)), (96, (zst 1 (zp (.int (1))))), (97, (zcv 238 1 12)), (100, (zsi4 6 4 2)), (102, (zli4 5 2)), (104, (zsi4 6 3 1)), (105, (zin4 6 5 (1))), (108, (zgt 32))]
theorem kX12_worst_4 : ∀ q ∈ tX12_worst_4, zOk zg iX12_worst q.1 q.2 := (z_c (ok_callV zcal_238 (q := (RX12, TX12, 73)) rfl zw_969 zw_970 zw_971 dX12_worst_84) (z_c (ok_iload dX12_worst_87) (z_c (ok_icmp_lt dX12_worst_89 (by decide)) (z_c (ok_goto dX12_worst_92 (by decide)) (z_c (ok_aload_n dX12_worst_95 rfl) (z_c (ok_iconst (v := (1)) dX12_worst_96 (by decide)) (z_c (ok_callV zcal_238 (q := (RX12, TX12, 73)) rfl zw_969 zw_970 zw_971 dX12_worst_97) (z_c (ok_istore dX12_worst_100) (z_c (ok_iload dX12_worst_102) (z_c (ok_istore_n dX12_worst_104 rfl) (z_c (ok_iinc (v := (1)) dX12_worst_105 (by decide)) (z_c (ok_goto dX12_worst_108 (by decide)) z_n))))))))))))
noncomputable def tX12_worst_5 : List (Nat × zF) := [(111, (zli4 3 1)), (112, (zst 1 (zp (.int ((-1)))))), (113, (z_ic_eq 120)), (116, (zli4 2 1)), (117, (z_if_ne 124)), (120, (zli4 3 1)), (121, (zgt 126)), (124, (zli4 4 2)), (126, (zri false))]
theorem kX12_worst_5 : ∀ q ∈ tX12_worst_5, zOk zg iX12_worst q.1 q.2 := (z_c (ok_iload_n dX12_worst_111 rfl) (z_c (ok_iconst (v := (-1)) dX12_worst_112 (by decide)) (z_c (ok_icmp_eq dX12_worst_113 (by decide)) (z_c (ok_iload_n dX12_worst_116 rfl) (z_c (ok_if_ne dX12_worst_117 (by decide)) (z_c (ok_iload_n dX12_worst_120 rfl) (z_c (ok_goto dX12_worst_121 (by decide)) (z_c (ok_iload dX12_worst_124) (z_c (ok_ireturn rfl dX12_worst_126) z_n)))))))))
noncomputable def tX12_worst : zT := [(21, tX12_worst_0), (42, tX12_worst_1), (65, tX12_worst_2), (84, tX12_worst_3), (111, tX12_worst_4), (100000, tX12_worst_5)]
theorem kX12_worst : zTok zg iX12_worst tX12_worst := (z_t kX12_worst_0 (z_t kX12_worst_1 (z_t kX12_worst_2 (z_t kX12_worst_3 (z_t kX12_worst_4 (z_t kX12_worst_5 z_tn))))))
theorem dX12_cover_0 : decode cX12_cover 0 = .ok (.iconst 0, 1) := by decide +kernel
theorem dX12_cover_1 : decode cX12_cover 1 = .ok (.istore_n 1, 1) := by decide +kernel
theorem dX12_cover_2 : decode cX12_cover 2 = .ok (.iload_n 1, 1) := by decide +kernel
theorem dX12_cover_3 : decode cX12_cover 3 = .ok (.bipush 64, 2) := by decide +kernel
theorem dX12_cover_5 : decode cX12_cover 5 = .ok (.if_icmp .ge 16, 3) := by decide +kernel
theorem dX12_cover_8 : decode cX12_cover 8 = .ok (.aload_n 0, 1) := by decide +kernel
theorem dX12_cover_9 : decode cX12_cover 9 = .ok (.getfield 204, 3) := by decide +kernel
theorem dX12_cover_12 : decode cX12_cover 12 = .ok (.iload_n 1, 1) := by decide +kernel
theorem dX12_cover_13 : decode cX12_cover 13 = .ok (.iconst 0, 1) := by decide +kernel
theorem dX12_cover_14 : decode cX12_cover 14 = .ok (.iastore, 1) := by decide +kernel
theorem dX12_cover_15 : decode cX12_cover 15 = .ok (.iinc 1 1, 3) := by decide +kernel
theorem dX12_cover_18 : decode cX12_cover 18 = .ok (.goto (-16), 3) := by decide +kernel
theorem dX12_cover_21 : decode cX12_cover 21 = .ok (.iconst 0, 1) := by decide +kernel
theorem dX12_cover_22 : decode cX12_cover 22 = .ok (.istore_n 1, 1) := by decide +kernel
theorem dX12_cover_23 : decode cX12_cover 23 = .ok (.iload_n 1, 1) := by decide +kernel
theorem dX12_cover_24 : decode cX12_cover 24 = .ok (.aload_n 0, 1) := by decide +kernel
theorem dX12_cover_25 : decode cX12_cover 25 = .ok (.getfield 69, 3) := by decide +kernel
theorem dX12_cover_28 : decode cX12_cover 28 = .ok (.aload_n 0, 1) := by decide +kernel
theorem dX12_cover_29 : decode cX12_cover 29 = .ok (.getfield 51, 3) := by decide +kernel
theorem dX12_cover_32 : decode cX12_cover 32 = .ok (.iaload, 1) := by decide +kernel
theorem dX12_cover_33 : decode cX12_cover 33 = .ok (.if_icmp .ge 123, 3) := by decide +kernel
theorem dX12_cover_36 : decode cX12_cover 36 = .ok (.aload_n 0, 1) := by decide +kernel
theorem dX12_cover_37 : decode cX12_cover 37 = .ok (.getfield 162, 3) := by decide +kernel
theorem dX12_cover_40 : decode cX12_cover 40 = .ok (.iconst 0, 1) := by decide +kernel
theorem dX12_cover_41 : decode cX12_cover 41 = .ok (.iaload, 1) := by decide +kernel
theorem dX12_cover_42 : decode cX12_cover 42 = .ok (.iload_n 1, 1) := by decide +kernel
theorem dX12_cover_43 : decode cX12_cover 43 = .ok (.invokestatic 382, 3) := by decide +kernel
theorem dX12_cover_46 : decode cX12_cover 46 = .ok (.ifCond .ne 6, 3) := by decide +kernel
theorem dX12_cover_49 : decode cX12_cover 49 = .ok (.goto 101, 3) := by decide +kernel
theorem dX12_cover_52 : decode cX12_cover 52 = .ok (.aload_n 0, 1) := by decide +kernel
theorem dX12_cover_53 : decode cX12_cover 53 = .ok (.iconst 0, 1) := by decide +kernel
theorem dX12_cover_54 : decode cX12_cover 54 = .ok (.iload_n 1, 1) := by decide +kernel
theorem dX12_cover_55 : decode cX12_cover 55 = .ok (.invokevirtual 465, 3) := by decide +kernel
theorem dX12_cover_58 : decode cX12_cover 58 = .ok (.istore_n 2, 1) := by decide +kernel
theorem dX12_cover_59 : decode cX12_cover 59 = .ok (.aload_n 0, 1) := by decide +kernel
theorem dX12_cover_60 : decode cX12_cover 60 = .ok (.getfield 72, 3) := by decide +kernel
theorem dX12_cover_63 : decode cX12_cover 63 = .ok (.bipush 9, 2) := by decide +kernel
theorem dX12_cover_65 : decode cX12_cover 65 = .ok (.aload_n 0, 1) := by decide +kernel
theorem dX12_cover_66 : decode cX12_cover 66 = .ok (.getfield 51, 3) := by decide +kernel
theorem dX12_cover_69 : decode cX12_cover 69 = .ok (.imul, 1) := by decide +kernel
theorem dX12_cover_70 : decode cX12_cover 70 = .ok (.iload_n 1, 1) := by decide +kernel
theorem dX12_cover_71 : decode cX12_cover 71 = .ok (.iadd, 1) := by decide +kernel
theorem dX12_cover_72 : decode cX12_cover 72 = .ok (.iaload, 1) := by decide +kernel
theorem dX12_cover_73 : decode cX12_cover 73 = .ok (.istore_n 3, 1) := by decide +kernel
theorem dX12_cover_74 : decode cX12_cover 74 = .ok (.iconst 0, 1) := by decide +kernel
theorem dX12_cover_75 : decode cX12_cover 75 = .ok (.istore 4, 2) := by decide +kernel
theorem dX12_cover_77 : decode cX12_cover 77 = .ok (.iload 4, 2) := by decide +kernel
theorem dX12_cover_79 : decode cX12_cover 79 = .ok (.bipush 64, 2) := by decide +kernel
theorem dX12_cover_81 : decode cX12_cover 81 = .ok (.if_icmp .ge 69, 3) := by decide +kernel
theorem dX12_cover_84 : decode cX12_cover 84 = .ok (.aload_n 0, 1) := by decide +kernel
theorem dX12_cover_85 : decode cX12_cover 85 = .ok (.iload 4, 2) := by decide +kernel
theorem dX12_cover_87 : decode cX12_cover 87 = .ok (.invokevirtual 468, 3) := by decide +kernel
theorem dX12_cover_90 : decode cX12_cover 90 = .ok (.ifCond .eq 54, 3) := by decide +kernel
theorem dX12_cover_93 : decode cX12_cover 93 = .ok (.aload_n 0, 1) := by decide +kernel
theorem dX12_cover_94 : decode cX12_cover 94 = .ok (.iload 4, 2) := by decide +kernel
theorem dX12_cover_96 : decode cX12_cover 96 = .ok (.invokevirtual 447, 3) := by decide +kernel
theorem dX12_cover_99 : decode cX12_cover 99 = .ok (.ifCond .ne 45, 3) := by decide +kernel
theorem dX12_cover_102 : decode cX12_cover 102 = .ok (.iload 4, 2) := by decide +kernel
theorem dX12_cover_104 : decode cX12_cover 104 = .ok (.bipush 8, 2) := by decide +kernel
theorem dX12_cover_106 : decode cX12_cover 106 = .ok (.irem, 1) := by decide +kernel
theorem dX12_cover_107 : decode cX12_cover 107 = .ok (.iload_n 3, 1) := by decide +kernel
theorem dX12_cover_108 : decode cX12_cover 108 = .ok (.bipush 8, 2) := by decide +kernel
theorem dX12_cover_110 : decode cX12_cover 110 = .ok (.irem, 1) := by decide +kernel
theorem dX12_cover_111 : decode cX12_cover 111 = .ok (.invokestatic 471, 3) := by decide +kernel
theorem dX12_cover_114 : decode cX12_cover 114 = .ok (.iload 4, 2) := by decide +kernel
theorem dX12_cover_116 : decode cX12_cover 116 = .ok (.bipush 8, 2) := by decide +kernel
theorem dX12_cover_118 : decode cX12_cover 118 = .ok (.idiv, 1) := by decide +kernel
theorem dX12_cover_119 : decode cX12_cover 119 = .ok (.iload_n 3, 1) := by decide +kernel
theorem dX12_cover_120 : decode cX12_cover 120 = .ok (.bipush 8, 2) := by decide +kernel
theorem dX12_cover_122 : decode cX12_cover 122 = .ok (.idiv, 1) := by decide +kernel
theorem dX12_cover_123 : decode cX12_cover 123 = .ok (.invokestatic 471, 3) := by decide +kernel
theorem dX12_cover_126 : decode cX12_cover 126 = .ok (.iadd, 1) := by decide +kernel
theorem dX12_cover_127 : decode cX12_cover 127 = .ok (.iload_n 2, 1) := by decide +kernel
theorem dX12_cover_128 : decode cX12_cover 128 = .ok (.if_icmp .gt 16, 3) := by decide +kernel
theorem dX12_cover_131 : decode cX12_cover 131 = .ok (.aload_n 0, 1) := by decide +kernel
theorem dX12_cover_132 : decode cX12_cover 132 = .ok (.getfield 204, 3) := by decide +kernel
theorem dX12_cover_135 : decode cX12_cover 135 = .ok (.iload 4, 2) := by decide +kernel
theorem dX12_cover_137 : decode cX12_cover 137 = .ok (.dup2, 1) := by decide +kernel
theorem dX12_cover_138 : decode cX12_cover 138 = .ok (.iaload, 1) := by decide +kernel
theorem dX12_cover_139 : decode cX12_cover 139 = .ok (.iconst 1, 1) := by decide +kernel
theorem dX12_cover_140 : decode cX12_cover 140 = .ok (.iload_n 1, 1) := by decide +kernel
theorem dX12_cover_141 : decode cX12_cover 141 = .ok (.ishl, 1) := by decide +kernel
theorem dX12_cover_142 : decode cX12_cover 142 = .ok (.ior, 1) := by decide +kernel
theorem dX12_cover_143 : decode cX12_cover 143 = .ok (.iastore, 1) := by decide +kernel
theorem dX12_cover_144 : decode cX12_cover 144 = .ok (.iinc 4 1, 3) := by decide +kernel
theorem dX12_cover_147 : decode cX12_cover 147 = .ok (.goto (-70), 3) := by decide +kernel
theorem dX12_cover_150 : decode cX12_cover 150 = .ok (.iinc 1 1, 3) := by decide +kernel
theorem dX12_cover_153 : decode cX12_cover 153 = .ok (.goto (-130), 3) := by decide +kernel
theorem dX12_cover_156 : decode cX12_cover 156 = .ok (.iconst (-1), 1) := by decide +kernel
theorem dX12_cover_157 : decode cX12_cover 157 = .ok (.istore_n 1, 1) := by decide +kernel
theorem dX12_cover_158 : decode cX12_cover 158 = .ok (.iconst 0, 1) := by decide +kernel
theorem dX12_cover_159 : decode cX12_cover 159 = .ok (.istore_n 2, 1) := by decide +kernel
theorem dX12_cover_160 : decode cX12_cover 160 = .ok (.iload_n 2, 1) := by decide +kernel
theorem dX12_cover_161 : decode cX12_cover 161 = .ok (.iconst 1, 1) := by decide +kernel
theorem dX12_cover_162 : decode cX12_cover 162 = .ok (.aload_n 0, 1) := by decide +kernel
theorem dX12_cover_163 : decode cX12_cover 163 = .ok (.getfield 69, 3) := by decide +kernel
theorem dX12_cover_166 : decode cX12_cover 166 = .ok (.aload_n 0, 1) := by decide +kernel
theorem dX12_cover_167 : decode cX12_cover 167 = .ok (.getfield 51, 3) := by decide +kernel
theorem dX12_cover_170 : decode cX12_cover 170 = .ok (.iaload, 1) := by decide +kernel
theorem dX12_cover_171 : decode cX12_cover 171 = .ok (.ishl, 1) := by decide +kernel
theorem dX12_cover_172 : decode cX12_cover 172 = .ok (.if_icmp .ge 98, 3) := by decide +kernel
theorem dX12_cover_175 : decode cX12_cover 175 = .ok (.iload_n 2, 1) := by decide +kernel
theorem dX12_cover_176 : decode cX12_cover 176 = .ok (.aload_n 0, 1) := by decide +kernel
theorem dX12_cover_177 : decode cX12_cover 177 = .ok (.getfield 162, 3) := by decide +kernel
theorem dX12_cover_180 : decode cX12_cover 180 = .ok (.iconst 0, 1) := by decide +kernel
theorem dX12_cover_181 : decode cX12_cover 181 = .ok (.iaload, 1) := by decide +kernel
theorem dX12_cover_182 : decode cX12_cover 182 = .ok (.iconst (-1), 1) := by decide +kernel
theorem dX12_cover_183 : decode cX12_cover 183 = .ok (.ixor, 1) := by decide +kernel
theorem dX12_cover_184 : decode cX12_cover 184 = .ok (.iand, 1) := by decide +kernel
theorem dX12_cover_185 : decode cX12_cover 185 = .ok (.ifCond .ne 23, 3) := by decide +kernel
theorem dX12_cover_188 : decode cX12_cover 188 = .ok (.iload_n 1, 1) := by decide +kernel
theorem dX12_cover_189 : decode cX12_cover 189 = .ok (.iconst (-1), 1) := by decide +kernel
theorem dX12_cover_190 : decode cX12_cover 190 = .ok (.if_icmp .eq 14, 3) := by decide +kernel
theorem dX12_cover_193 : decode cX12_cover 193 = .ok (.iload_n 2, 1) := by decide +kernel
theorem dX12_cover_194 : decode cX12_cover 194 = .ok (.invokestatic 450, 3) := by decide +kernel
theorem dX12_cover_197 : decode cX12_cover 197 = .ok (.iload_n 1, 1) := by decide +kernel
theorem dX12_cover_198 : decode cX12_cover 198 = .ok (.invokestatic 450, 3) := by decide +kernel
theorem dX12_cover_201 : decode cX12_cover 201 = .ok (.if_icmp .ge 7, 3) := by decide +kernel
theorem dX12_cover_204 : decode cX12_cover 204 = .ok (.iconst 1, 1) := by decide +kernel
theorem dX12_cover_205 : decode cX12_cover 205 = .ok (.goto 4, 3) := by decide +kernel
theorem dX12_cover_208 : decode cX12_cover 208 = .ok (.iconst 0, 1) := by decide +kernel
theorem dX12_cover_209 : decode cX12_cover 209 = .ok (.istore_n 3, 1) := by decide +kernel
theorem dX12_cover_210 : decode cX12_cover 210 = .ok (.iconst 0, 1) := by decide +kernel
theorem dX12_cover_211 : decode cX12_cover 211 = .ok (.istore 4, 2) := by decide +kernel
theorem dX12_cover_213 : decode cX12_cover 213 = .ok (.iload 4, 2) := by decide +kernel
theorem dX12_cover_215 : decode cX12_cover 215 = .ok (.bipush 64, 2) := by decide +kernel
theorem dX12_cover_217 : decode cX12_cover 217 = .ok (.if_icmp .ge 41, 3) := by decide +kernel
theorem dX12_cover_220 : decode cX12_cover 220 = .ok (.iload_n 3, 1) := by decide +kernel
theorem dX12_cover_221 : decode cX12_cover 221 = .ok (.ifCond .eq 37, 3) := by decide +kernel
theorem dX12_cover_224 : decode cX12_cover 224 = .ok (.aload_n 0, 1) := by decide +kernel
theorem dX12_cover_225 : decode cX12_cover 225 = .ok (.getfield 204, 3) := by decide +kernel
theorem dX12_cover_228 : decode cX12_cover 228 = .ok (.iload 4, 2) := by decide +kernel
theorem dX12_cover_230 : decode cX12_cover 230 = .ok (.iaload, 1) := by decide +kernel
theorem dX12_cover_231 : decode cX12_cover 231 = .ok (.ifCond .eq 15, 3) := by decide +kernel
theorem dX12_cover_234 : decode cX12_cover 234 = .ok (.aload_n 0, 1) := by decide +kernel
theorem dX12_cover_235 : decode cX12_cover 235 = .ok (.getfield 204, 3) := by decide +kernel
theorem dX12_cover_238 : decode cX12_cover 238 = .ok (.iload 4, 2) := by decide +kernel
theorem dX12_cover_240 : decode cX12_cover 240 = .ok (.iaload, 1) := by decide +kernel
theorem dX12_cover_241 : decode cX12_cover 241 = .ok (.iload_n 2, 1) := by decide +kernel
theorem dX12_cover_242 : decode cX12_cover 242 = .ok (.iand, 1) := by decide +kernel
theorem dX12_cover_243 : decode cX12_cover 243 = .ok (.ifCond .eq 7, 3) := by decide +kernel
theorem dX12_cover_246 : decode cX12_cover 246 = .ok (.iconst 1, 1) := by decide +kernel
theorem dX12_cover_247 : decode cX12_cover 247 = .ok (.goto 4, 3) := by decide +kernel
theorem dX12_cover_250 : decode cX12_cover 250 = .ok (.iconst 0, 1) := by decide +kernel
theorem dX12_cover_251 : decode cX12_cover 251 = .ok (.istore_n 3, 1) := by decide +kernel
theorem dX12_cover_252 : decode cX12_cover 252 = .ok (.iinc 4 1, 3) := by decide +kernel
theorem dX12_cover_255 : decode cX12_cover 255 = .ok (.goto (-42), 3) := by decide +kernel
theorem dX12_cover_258 : decode cX12_cover 258 = .ok (.iload_n 3, 1) := by decide +kernel
theorem dX12_cover_259 : decode cX12_cover 259 = .ok (.ifCond .eq 5, 3) := by decide +kernel
theorem dX12_cover_262 : decode cX12_cover 262 = .ok (.iload_n 2, 1) := by decide +kernel
theorem dX12_cover_263 : decode cX12_cover 263 = .ok (.istore_n 1, 1) := by decide +kernel
theorem dX12_cover_264 : decode cX12_cover 264 = .ok (.iinc 2 1, 3) := by decide +kernel
theorem dX12_cover_267 : decode cX12_cover 267 = .ok (.goto (-107), 3) := by decide +kernel
theorem dX12_cover_270 : decode cX12_cover 270 = .ok (.iload_n 1, 1) := by decide +kernel
theorem dX12_cover_271 : decode cX12_cover 271 = .ok (.ireturn, 1) := by decide +kernel
noncomputable def tX12_cover_0 : List (Nat × zF) := [(0, (zst 1 (zp (.int (0))))), (1, (zsi4 5 1 1)), (2, (zli4 1 1)), (3, (zst 2 (zp (.int (64))))), (5, (z_ic_ge 21)), (8, (zla4 0 1)), (9, (zgf 12 63)), (12, (zli4 1 1)), (13, (zst 1 (zp (.int (0))))), (14, (zas 0)), (15, (zin4 5 1 (1))), (18, (zgt 2))]
theorem kX12_cover_0 : ∀ q ∈ tX12_cover_0, zOk zg iX12_cover q.1 q.2 := (z_c (ok_iconst (v := (0)) dX12_cover_0 (by decide)) (z_c (ok_istore_n dX12_cover_1 rfl) (z_c (ok_iload_n dX12_cover_2 rfl) (z_c (ok_bipush (v := (64)) dX12_cover_3 (by decide)) (z_c (ok_icmp_ge dX12_cover_5 (by decide)) (z_c (ok_aload_n dX12_cover_8 rfl) (z_c (ok_getf (C := RX12) (T := TX12) (N := 73) rfl (by decide) zinX12 rfl zw_751 dX12_cover_9) (z_c (ok_iload_n dX12_cover_12 rfl) (z_c (ok_iconst (v := (0)) dX12_cover_13 (by decide)) (z_c (ok_iastore rfl dX12_cover_14) (z_c (ok_iinc (v := (1)) dX12_cover_15 (by decide)) (z_c (ok_goto dX12_cover_18 (by decide)) z_n))))))))))))
noncomputable def tX12_cover_1 : List (Nat × zF) := [(21, (zst 1 (zp (.int (0))))), (22, (zsi4 5 1 1)), (23, (zli4 1 1)), (24, (zla4 0 1)), (25, (zgf 12 19)), (28, (zla4 0 1)), (29, (zgf 12 13)), (32, (zal 0)), (33, (z_ic_ge 156)), (36, (zla4 0 1)), (37, (zgf 12 49)), (40, (zst 1 (zp (.int (0)))))]
theorem kX12_cover_1 : ∀ q ∈ tX12_cover_1, zOk zg iX12_cover q.1 q.2 := (z_c (ok_iconst (v := (0)) dX12_cover_21 (by decide)) (z_c (ok_istore_n dX12_cover_22 rfl) (z_c (ok_iload_n dX12_cover_23 rfl) (z_c (ok_aload_n dX12_cover_24 rfl) (z_c (ok_getf (C := RX12) (T := TX12) (N := 73) rfl (by decide) zinX12 rfl zw_706 dX12_cover_25) (z_c (ok_aload_n dX12_cover_28 rfl) (z_c (ok_getf (C := RX12) (T := TX12) (N := 73) rfl (by decide) zinX12 rfl zw_700 dX12_cover_29) (z_c (ok_iaload rfl dX12_cover_32) (z_c (ok_icmp_ge dX12_cover_33 (by decide)) (z_c (ok_aload_n dX12_cover_36 rfl) (z_c (ok_getf (C := RX12) (T := TX12) (N := 73) rfl (by decide) zinX12 rfl zw_737 dX12_cover_37) (z_c (ok_iconst (v := (0)) dX12_cover_40 (by decide)) z_n))))))))))))
noncomputable def tX12_cover_2 : List (Nat × zF) := [(41, (zal 0)), (42, (zli4 1 1)), (43, (zcs 193 2)), (46, (z_if_ne 52)), (49, (zgt 150)), (52, (zla4 0 1)), (53, (zst 1 (zp (.int (0))))), (54, (zli4 1 1)), (55, (zcv 226 2 12)), (58, (zsi4 5 2 1)), (59, (zla4 0 1)), (60, (zgf 12 20))]
theorem kX12_cover_2 : ∀ q ∈ tX12_cover_2, zOk zg iX12_cover q.1 q.2 := (z_c (ok_iaload rfl dX12_cover_41) (z_c (ok_iload_n dX12_cover_42 rfl) (z_c (ok_callS zcal_193 zw_866 zw_867 dX12_cover_43) (z_c (ok_if_ne dX12_cover_46 (by decide)) (z_c (ok_goto dX12_cover_49 (by decide)) (z_c (ok_aload_n dX12_cover_52 rfl) (z_c (ok_iconst (v := (0)) dX12_cover_53 (by decide)) (z_c (ok_iload_n dX12_cover_54 rfl) (z_c (ok_callV zcal_226 (q := (RX12, TX12, 73)) rfl zw_936 zw_937 zw_938 dX12_cover_55) (z_c (ok_istore_n dX12_cover_58 rfl) (z_c (ok_aload_n dX12_cover_59 rfl) (z_c (ok_getf (C := RX12) (T := TX12) (N := 73) rfl (by decide) zinX12 rfl zw_707 dX12_cover_60) z_n))))))))))))
noncomputable def tX12_cover_3 : List (Nat × zF) := [(63, (zst 2 (zp (.int (9))))), (65, (zla4 0 1)), (66, (zgf 12 13)), (69, (zst 1 z_imul)), (70, (zli4 1 1)), (71, (zst 1 z_iadd)), (72, (zal 0)), (73, (zsi4 5 3 1)), (74, (zst 1 (zp (.int (0))))), (75, (zsi4 5 4 2)), (77, (zli4 4 2)), (79, (zst 2 (zp (.int (64)))))]
theorem kX12_cover_3 : ∀ q ∈ tX12_cover_3, zOk zg iX12_cover q.1 q.2 := (z_c (ok_bipush (v := (9)) dX12_cover_63 (by decide)) (z_c (ok_aload_n dX12_cover_65 rfl) (z_c (ok_getf (C := RX12) (T := TX12) (N := 73) rfl (by decide) zinX12 rfl zw_700 dX12_cover_66) (z_c (ok_imul dX12_cover_69) (z_c (ok_iload_n dX12_cover_70 rfl) (z_c (ok_iadd dX12_cover_71) (z_c (ok_iaload rfl dX12_cover_72) (z_c (ok_istore_n dX12_cover_73 rfl) (z_c (ok_iconst (v := (0)) dX12_cover_74 (by decide)) (z_c (ok_istore dX12_cover_75) (z_c (ok_iload dX12_cover_77) (z_c (ok_bipush (v := (64)) dX12_cover_79 (by decide)) z_n))))))))))))
noncomputable def tX12_cover_4 : List (Nat × zF) := [(81, (z_ic_ge 150)), (84, (zla4 0 1)), (85, (zli4 4 2)), (87, (zcv 222 1 12)), (90, (z_if_eq 144)), (93, (zla4 0 1)), (94, (zli4 4 2)), (96, (zcv 223 1 12)), (99, (z_if_ne 144)), (102, (zli4 4 2)), (104, (zst 2 (zp (.int (8))))), (106, (zst 1 z_irem))]
theorem kX12_cover_4 : ∀ q ∈ tX12_cover_4, zOk zg iX12_cover q.1 q.2 := (z_c (ok_icmp_ge dX12_cover_81 (by decide)) (z_c (ok_aload_n dX12_cover_84 rfl) (z_c (ok_iload dX12_cover_85) (z_c (ok_callV zcal_222 (q := (RX12, TX12, 73)) rfl zw_939 zw_940 zw_941 dX12_cover_87) (z_c (ok_if_eq dX12_cover_90 (by decide)) (z_c (ok_aload_n dX12_cover_93 rfl) (z_c (ok_iload dX12_cover_94) (z_c (ok_callV zcal_223 (q := (RX12, TX12, 73)) rfl zw_921 zw_922 zw_923 dX12_cover_96) (z_c (ok_if_ne dX12_cover_99 (by decide)) (z_c (ok_iload dX12_cover_102) (z_c (ok_bipush (v := (8)) dX12_cover_104 (by decide)) (z_c (ok_irem dX12_cover_106) z_n))))))))))))
noncomputable def tX12_cover_5 : List (Nat × zF) := [(107, (zli4 3 1)), (108, (zst 2 (zp (.int (8))))), (110, (zst 1 z_irem)), (111, (zcs 227 2)), (114, (zli4 4 2)), (116, (zst 2 (zp (.int (8))))), (118, (zst 1 z_idiv)), (119, (zli4 3 1)), (120, (zst 2 (zp (.int (8))))), (122, (zst 1 z_idiv)), (123, (zcs 227 2)), (126, (zst 1 z_iadd))]
theorem kX12_cover_5 : ∀ q ∈ tX12_cover_5, zOk zg iX12_cover q.1 q.2 := (z_c (ok_iload_n dX12_cover_107 rfl) (z_c (ok_bipush (v := (8)) dX12_cover_108 (by decide)) (z_c (ok_irem dX12_cover_110) (z_c (ok_callS zcal_227 zw_942 zw_943 dX12_cover_111) (z_c (ok_iload dX12_cover_114) (z_c (ok_bipush (v := (8)) dX12_cover_116 (by decide)) (z_c (ok_idiv dX12_cover_118) (z_c (ok_iload_n dX12_cover_119 rfl) (z_c (ok_bipush (v := (8)) dX12_cover_120 (by decide)) (z_c (ok_idiv dX12_cover_122) (z_c (ok_callS zcal_227 zw_942 zw_943 dX12_cover_123) (z_c (ok_iadd dX12_cover_126) z_n))))))))))))
noncomputable def tX12_cover_6 : List (Nat × zF) := [(127, (zli4 2 1)), (128, (z_ic_gt 144)), (131, (zla4 0 1)), (132, (zgf 12 63)), (135, (zli4 4 2)), (137, (zst 1 zd2)), (138, (zal 0)), (139, (zst 1 (zp (.int (1))))), (140, (zli4 1 1)), (141, (zst 1 z_ishl)), (142, (zst 1 z_ior)), (143, (zas 0))]
theorem kX12_cover_6 : ∀ q ∈ tX12_cover_6, zOk zg iX12_cover q.1 q.2 := (z_c (ok_iload_n dX12_cover_127 rfl) (z_c (ok_icmp_gt dX12_cover_128 (by decide)) (z_c (ok_aload_n dX12_cover_131 rfl) (z_c (ok_getf (C := RX12) (T := TX12) (N := 73) rfl (by decide) zinX12 rfl zw_751 dX12_cover_132) (z_c (ok_iload dX12_cover_135) (z_c (ok_dup2 dX12_cover_137) (z_c (ok_iaload rfl dX12_cover_138) (z_c (ok_iconst (v := (1)) dX12_cover_139 (by decide)) (z_c (ok_iload_n dX12_cover_140 rfl) (z_c (ok_ishl dX12_cover_141) (z_c (ok_ior dX12_cover_142) (z_c (ok_iastore rfl dX12_cover_143) z_n))))))))))))
noncomputable def tX12_cover_7 : List (Nat × zF) := [(144, (zin4 5 4 (1))), (147, (zgt 77)), (150, (zin4 5 1 (1))), (153, (zgt 23)), (156, (zst 1 (zp (.int ((-1)))))), (157, (zsi4 5 1 1)), (158, (zst 1 (zp (.int (0))))), (159, (zsi4 5 2 1)), (160, (zli4 2 1)), (161, (zst 1 (zp (.int (1))))), (162, (zla4 0 1)), (163, (zgf 12 19))]
theorem kX12_cover_7 : ∀ q ∈ tX12_cover_7, zOk zg iX12_cover q.1 q.2 := (z_c (ok_iinc (v := (1)) dX12_cover_144 (by decide)) (z_c (ok_goto dX12_cover_147 (by decide)) (z_c (ok_iinc (v := (1)) dX12_cover_150 (by decide)) (z_c (ok_goto dX12_cover_153 (by decide)) (z_c (ok_iconst (v := (-1)) dX12_cover_156 (by decide)) (z_c (ok_istore_n dX12_cover_157 rfl) (z_c (ok_iconst (v := (0)) dX12_cover_158 (by decide)) (z_c (ok_istore_n dX12_cover_159 rfl) (z_c (ok_iload_n dX12_cover_160 rfl) (z_c (ok_iconst (v := (1)) dX12_cover_161 (by decide)) (z_c (ok_aload_n dX12_cover_162 rfl) (z_c (ok_getf (C := RX12) (T := TX12) (N := 73) rfl (by decide) zinX12 rfl zw_706 dX12_cover_163) z_n))))))))))))
noncomputable def tX12_cover_8 : List (Nat × zF) := [(166, (zla4 0 1)), (167, (zgf 12 13)), (170, (zal 0)), (171, (zst 1 z_ishl)), (172, (z_ic_ge 270)), (175, (zli4 2 1)), (176, (zla4 0 1)), (177, (zgf 12 49)), (180, (zst 1 (zp (.int (0))))), (181, (zal 0)), (182, (zst 1 (zp (.int ((-1)))))), (183, (zst 1 z_ixor))]
theorem kX12_cover_8 : ∀ q ∈ tX12_cover_8, zOk zg iX12_cover q.1 q.2 := (z_c (ok_aload_n dX12_cover_166 rfl) (z_c (ok_getf (C := RX12) (T := TX12) (N := 73) rfl (by decide) zinX12 rfl zw_700 dX12_cover_167) (z_c (ok_iaload rfl dX12_cover_170) (z_c (ok_ishl dX12_cover_171) (z_c (ok_icmp_ge dX12_cover_172 (by decide)) (z_c (ok_iload_n dX12_cover_175 rfl) (z_c (ok_aload_n dX12_cover_176 rfl) (z_c (ok_getf (C := RX12) (T := TX12) (N := 73) rfl (by decide) zinX12 rfl zw_737 dX12_cover_177) (z_c (ok_iconst (v := (0)) dX12_cover_180 (by decide)) (z_c (ok_iaload rfl dX12_cover_181) (z_c (ok_iconst (v := (-1)) dX12_cover_182 (by decide)) (z_c (ok_ixor dX12_cover_183) z_n))))))))))))
noncomputable def tX12_cover_9 : List (Nat × zF) := [(184, (zst 1 z_iand)), (185, (z_if_ne 208)), (188, (zli4 1 1)), (189, (zst 1 (zp (.int ((-1)))))), (190, (z_ic_eq 204)), (193, (zli4 2 1)), (194, (zcs 220 1)), (197, (zli4 1 1)), (198, (zcs 220 1)), (201, (z_ic_ge 208)), (204, (zst 1 (zp (.int (1))))), (205, (zgt 209))]
theorem kX12_cover_9 : ∀ q ∈ tX12_cover_9, zOk zg iX12_cover q.1 q.2 := (z_c (ok_iand dX12_cover_184) (z_c (ok_if_ne dX12_cover_185 (by decide)) (z_c (ok_iload_n dX12_cover_188 rfl) (z_c (ok_iconst (v := (-1)) dX12_cover_189 (by decide)) (z_c (ok_icmp_eq dX12_cover_190 (by decide)) (z_c (ok_iload_n dX12_cover_193 rfl) (z_c (ok_callS zcal_220 zw_924 zw_925 dX12_cover_194) (z_c (ok_iload_n dX12_cover_197 rfl) (z_c (ok_callS zcal_220 zw_924 zw_925 dX12_cover_198) (z_c (ok_icmp_ge dX12_cover_201 (by decide)) (z_c (ok_iconst (v := (1)) dX12_cover_204 (by decide)) (z_c (ok_goto dX12_cover_205 (by decide)) z_n))))))))))))
noncomputable def tX12_cover_10 : List (Nat × zF) := [(208, (zst 1 (zp (.int (0))))), (209, (zsi4 5 3 1)), (210, (zst 1 (zp (.int (0))))), (211, (zsi4 5 4 2)), (213, (zli4 4 2)), (215, (zst 2 (zp (.int (64))))), (217, (z_ic_ge 258)), (220, (zli4 3 1)), (221, (z_if_eq 258)), (224, (zla4 0 1)), (225, (zgf 12 63)), (228, (zli4 4 2))]
theorem kX12_cover_10 : ∀ q ∈ tX12_cover_10, zOk zg iX12_cover q.1 q.2 := (z_c (ok_iconst (v := (0)) dX12_cover_208 (by decide)) (z_c (ok_istore_n dX12_cover_209 rfl) (z_c (ok_iconst (v := (0)) dX12_cover_210 (by decide)) (z_c (ok_istore dX12_cover_211) (z_c (ok_iload dX12_cover_213) (z_c (ok_bipush (v := (64)) dX12_cover_215 (by decide)) (z_c (ok_icmp_ge dX12_cover_217 (by decide)) (z_c (ok_iload_n dX12_cover_220 rfl) (z_c (ok_if_eq dX12_cover_221 (by decide)) (z_c (ok_aload_n dX12_cover_224 rfl) (z_c (ok_getf (C := RX12) (T := TX12) (N := 73) rfl (by decide) zinX12 rfl zw_751 dX12_cover_225) (z_c (ok_iload dX12_cover_228) z_n))))))))))))
noncomputable def tX12_cover_11 : List (Nat × zF) := [(230, (zal 0)), (231, (z_if_eq 246)), (234, (zla4 0 1)), (235, (zgf 12 63)), (238, (zli4 4 2)), (240, (zal 0)), (241, (zli4 2 1)), (242, (zst 1 z_iand)), (243, (z_if_eq 250)), (246, (zst 1 (zp (.int (1))))), (247, (zgt 251)), (250, (zst 1 (zp (.int (0)))))]
theorem kX12_cover_11 : ∀ q ∈ tX12_cover_11, zOk zg iX12_cover q.1 q.2 := (z_c (ok_iaload rfl dX12_cover_230) (z_c (ok_if_eq dX12_cover_231 (by decide)) (z_c (ok_aload_n dX12_cover_234 rfl) (z_c (ok_getf (C := RX12) (T := TX12) (N := 73) rfl (by decide) zinX12 rfl zw_751 dX12_cover_235) (z_c (ok_iload dX12_cover_238) (z_c (ok_iaload rfl dX12_cover_240) (z_c (ok_iload_n dX12_cover_241 rfl) (z_c (ok_iand dX12_cover_242) (z_c (ok_if_eq dX12_cover_243 (by decide)) (z_c (ok_iconst (v := (1)) dX12_cover_246 (by decide)) (z_c (ok_goto dX12_cover_247 (by decide)) (z_c (ok_iconst (v := (0)) dX12_cover_250 (by decide)) z_n))))))))))))
noncomputable def tX12_cover_12 : List (Nat × zF) := [(251, (zsi4 5 3 1)), (252, (zin4 5 4 (1))), (255, (zgt 213)), (258, (zli4 3 1)), (259, (z_if_eq 264)), (262, (zli4 2 1)), (263, (zsi4 5 1 1)), (264, (zin4 5 2 (1))), (267, (zgt 160)), (270, (zli4 1 1)), (271, (zri false))]
theorem kX12_cover_12 : ∀ q ∈ tX12_cover_12, zOk zg iX12_cover q.1 q.2 := (z_c (ok_istore_n dX12_cover_251 rfl) (z_c (ok_iinc (v := (1)) dX12_cover_252 (by decide)) (z_c (ok_goto dX12_cover_255 (by decide)) (z_c (ok_iload_n dX12_cover_258 rfl) (z_c (ok_if_eq dX12_cover_259 (by decide)) (z_c (ok_iload_n dX12_cover_262 rfl) (z_c (ok_istore_n dX12_cover_263 rfl) (z_c (ok_iinc (v := (1)) dX12_cover_264 (by decide)) (z_c (ok_goto dX12_cover_267 (by decide)) (z_c (ok_iload_n dX12_cover_270 rfl) (z_c (ok_ireturn rfl dX12_cover_271) z_n)))))))))))
noncomputable def tX12_cover : zT := [(21, tX12_cover_0), (41, tX12_cover_1), (63, tX12_cover_2), (81, tX12_cover_3), (107, tX12_cover_4), (127, tX12_cover_5), (144, tX12_cover_6), (166, tX12_cover_7), (184, tX12_cover_8), (208, tX12_cover_9), (230, tX12_cover_10), (251, tX12_cover_11), (100000, tX12_cover_12)]
theorem kX12_cover : zTok zg iX12_cover tX12_cover := (z_t kX12_cover_0 (z_t kX12_cover_1 (z_t kX12_cover_2 (z_t kX12_cover_3 (z_t kX12_cover_4 (z_t kX12_cover_5 (z_t kX12_cover_6 (z_t kX12_cover_7 (z_t kX12_cover_8 (z_t kX12_cover_9 (z_t kX12_cover_10 (z_t kX12_cover_11 (z_t kX12_cover_12 z_tn)))))))))))))
theorem dX12_from_0 : decode cX12_from 0 = .ok (.sipush 512, 3) := by decide +kernel
theorem dX12_from_3 : decode cX12_from 3 = .ok (.iload_n 0, 1) := by decide +kernel
theorem dX12_from_4 : decode cX12_from 4 = .ok (.imul, 1) := by decide +kernel
theorem dX12_from_5 : decode cX12_from 5 = .ok (.iload_n 1, 1) := by decide +kernel
theorem dX12_from_6 : decode cX12_from 6 = .ok (.iadd, 1) := by decide +kernel
theorem dX12_from_7 : decode cX12_from 7 = .ok (.ireturn, 1) := by decide +kernel
noncomputable def tX12_from_0 : List (Nat × zF) := [(0, (zst 3 (zp (.int (512))))), (3, (zli4 0 1)), (4, (zst 1 z_imul)), (5, (zli4 1 1)), (6, (zst 1 z_iadd)), (7, (zri false))]
theorem kX12_from_0 : ∀ q ∈ tX12_from_0, zOk zg iX12_from q.1 q.2 := (z_c (ok_sipush (v := (512)) dX12_from_0 (by decide)) (z_c (ok_iload_n dX12_from_3 rfl) (z_c (ok_imul dX12_from_4) (z_c (ok_iload_n dX12_from_5 rfl) (z_c (ok_iadd dX12_from_6) (z_c (ok_ireturn rfl dX12_from_7) z_n))))))
noncomputable def tX12_from : zT := [(100000, tX12_from_0)]
theorem kX12_from : zTok zg iX12_from tX12_from := (z_t kX12_from_0 z_tn)
theorem dX12_costOf_0 : decode cX12_costOf 0 = .ok (.aload_n 0, 1) := by decide +kernel
theorem dX12_costOf_1 : decode cX12_costOf 1 = .ok (.getfield 162, 3) := by decide +kernel
theorem dX12_costOf_4 : decode cX12_costOf 4 = .ok (.iconst 0, 1) := by decide +kernel
theorem dX12_costOf_5 : decode cX12_costOf 5 = .ok (.iaload, 1) := by decide +kernel
theorem dX12_costOf_6 : decode cX12_costOf 6 = .ok (.iload_n 2, 1) := by decide +kernel
theorem dX12_costOf_7 : decode cX12_costOf 7 = .ok (.invokestatic 382, 3) := by decide +kernel
theorem dX12_costOf_10 : decode cX12_costOf 10 = .ok (.ifCond .eq 42, 3) := by decide +kernel
theorem dX12_costOf_13 : decode cX12_costOf 13 = .ok (.iload_n 3, 1) := by decide +kernel
theorem dX12_costOf_14 : decode cX12_costOf 14 = .ok (.iload_n 2, 1) := by decide +kernel
theorem dX12_costOf_15 : decode cX12_costOf 15 = .ok (.invokestatic 382, 3) := by decide +kernel
theorem dX12_costOf_18 : decode cX12_costOf 18 = .ok (.ifCond .ne 34, 3) := by decide +kernel
theorem dX12_costOf_21 : decode cX12_costOf 21 = .ok (.aload_n 0, 1) := by decide +kernel
theorem dX12_costOf_22 : decode cX12_costOf 22 = .ok (.getfield 207, 3) := by decide +kernel
theorem dX12_costOf_25 : decode cX12_costOf 25 = .ok (.bipush 9, 2) := by decide +kernel
theorem dX12_costOf_27 : decode cX12_costOf 27 = .ok (.iload_n 1, 1) := by decide +kernel
theorem dX12_costOf_28 : decode cX12_costOf 28 = .ok (.imul, 1) := by decide +kernel
theorem dX12_costOf_29 : decode cX12_costOf 29 = .ok (.iload_n 2, 1) := by decide +kernel
theorem dX12_costOf_30 : decode cX12_costOf 30 = .ok (.iadd, 1) := by decide +kernel
theorem dX12_costOf_31 : decode cX12_costOf 31 = .ok (.iaload, 1) := by decide +kernel
theorem dX12_costOf_32 : decode cX12_costOf 32 = .ok (.ldc_w 474, 3) := by decide +kernel
theorem dX12_costOf_35 : decode cX12_costOf 35 = .ok (.if_icmp .ge 17, 3) := by decide +kernel
theorem dX12_costOf_38 : decode cX12_costOf 38 = .ok (.aload_n 0, 1) := by decide +kernel
theorem dX12_costOf_39 : decode cX12_costOf 39 = .ok (.getfield 207, 3) := by decide +kernel
theorem dX12_costOf_42 : decode cX12_costOf 42 = .ok (.bipush 9, 2) := by decide +kernel
theorem dX12_costOf_44 : decode cX12_costOf 44 = .ok (.iload_n 1, 1) := by decide +kernel
theorem dX12_costOf_45 : decode cX12_costOf 45 = .ok (.imul, 1) := by decide +kernel
theorem dX12_costOf_46 : decode cX12_costOf 46 = .ok (.iload_n 2, 1) := by decide +kernel
theorem dX12_costOf_47 : decode cX12_costOf 47 = .ok (.iadd, 1) := by decide +kernel
theorem dX12_costOf_48 : decode cX12_costOf 48 = .ok (.iaload, 1) := by decide +kernel
theorem dX12_costOf_49 : decode cX12_costOf 49 = .ok (.goto 4, 3) := by decide +kernel
theorem dX12_costOf_52 : decode cX12_costOf 52 = .ok (.iconst (-1), 1) := by decide +kernel
theorem dX12_costOf_53 : decode cX12_costOf 53 = .ok (.ireturn, 1) := by decide +kernel
noncomputable def tX12_costOf_0 : List (Nat × zF) := [(0, (zla4 0 1)), (1, (zgf 12 49)), (4, (zst 1 (zp (.int (0))))), (5, (zal 0)), (6, (zli4 2 1)), (7, (zcs 193 2)), (10, (z_if_eq 52)), (13, (zli4 3 1)), (14, (zli4 2 1)), (15, (zcs 193 2)), (18, (z_if_ne 52)), (21, (zla4 0 1))]
theorem kX12_costOf_0 : ∀ q ∈ tX12_costOf_0, zOk zg iX12_costOf q.1 q.2 := (z_c (ok_aload_n dX12_costOf_0 rfl) (z_c (ok_getf (C := RX12) (T := TX12) (N := 73) rfl (by decide) zinX12 rfl zw_737 dX12_costOf_1) (z_c (ok_iconst (v := (0)) dX12_costOf_4 (by decide)) (z_c (ok_iaload rfl dX12_costOf_5) (z_c (ok_iload_n dX12_costOf_6 rfl) (z_c (ok_callS zcal_193 zw_866 zw_867 dX12_costOf_7) (z_c (ok_if_eq dX12_costOf_10 (by decide)) (z_c (ok_iload_n dX12_costOf_13 rfl) (z_c (ok_iload_n dX12_costOf_14 rfl) (z_c (ok_callS zcal_193 zw_866 zw_867 dX12_costOf_15) (z_c (ok_if_ne dX12_costOf_18 (by decide)) (z_c (ok_aload_n dX12_costOf_21 rfl) z_n))))))))))))
noncomputable def tX12_costOf_1 : List (Nat × zF) := [(22, (zgf 12 64)), (25, (zst 2 (zp (.int (9))))), (27, (zli4 1 1)), (28, (zst 1 z_imul)), (29, (zli4 2 1)), (30, (zst 1 z_iadd)), (31, (zal 0)), (32, (zst 3 (zp (.int (100000000))))), (35, (z_ic_ge 52)), (38, (zla4 0 1)), (39, (zgf 12 64)), (42, (zst 2 (zp (.int (9)))))]
theorem kX12_costOf_1 : ∀ q ∈ tX12_costOf_1, zOk zg iX12_costOf q.1 q.2 := (z_c (ok_getf (C := RX12) (T := TX12) (N := 73) rfl (by decide) zinX12 rfl zw_752 dX12_costOf_22) (z_c (ok_bipush (v := (9)) dX12_costOf_25 (by decide)) (z_c (ok_iload_n dX12_costOf_27 rfl) (z_c (ok_imul dX12_costOf_28) (z_c (ok_iload_n dX12_costOf_29 rfl) (z_c (ok_iadd dX12_costOf_30) (z_c (ok_iaload rfl dX12_costOf_31) (z_c (ok_ldcw (v := (100000000)) zw_944 dX12_costOf_32) (z_c (ok_icmp_ge dX12_costOf_35 (by decide)) (z_c (ok_aload_n dX12_costOf_38 rfl) (z_c (ok_getf (C := RX12) (T := TX12) (N := 73) rfl (by decide) zinX12 rfl zw_752 dX12_costOf_39) (z_c (ok_bipush (v := (9)) dX12_costOf_42 (by decide)) z_n))))))))))))
noncomputable def tX12_costOf_2 : List (Nat × zF) := [(44, (zli4 1 1)), (45, (zst 1 z_imul)), (46, (zli4 2 1)), (47, (zst 1 z_iadd)), (48, (zal 0)), (49, (zgt 53)), (52, (zst 1 (zp (.int ((-1)))))), (53, (zri false))]
theorem kX12_costOf_2 : ∀ q ∈ tX12_costOf_2, zOk zg iX12_costOf q.1 q.2 := (z_c (ok_iload_n dX12_costOf_44 rfl) (z_c (ok_imul dX12_costOf_45) (z_c (ok_iload_n dX12_costOf_46 rfl) (z_c (ok_iadd dX12_costOf_47) (z_c (ok_iaload rfl dX12_costOf_48) (z_c (ok_goto dX12_costOf_49 (by decide)) (z_c (ok_iconst (v := (-1)) dX12_costOf_52 (by decide)) (z_c (ok_ireturn rfl dX12_costOf_53) z_n))))))))
noncomputable def tX12_costOf : zT := [(22, tX12_costOf_0), (44, tX12_costOf_1), (100000, tX12_costOf_2)]
theorem kX12_costOf : zTok zg iX12_costOf tX12_costOf := (z_t kX12_costOf_0 (z_t kX12_costOf_1 (z_t kX12_costOf_2 z_tn)))
theorem dX12_sends_0 : decode cX12_sends 0 = .ok (.iconst 0, 1) := by decide +kernel
theorem dX12_sends_1 : decode cX12_sends 1 = .ok (.istore_n 1, 1) := by decide +kernel
theorem dX12_sends_2 : decode cX12_sends 2 = .ok (.iload_n 1, 1) := by decide +kernel
theorem dX12_sends_3 : decode cX12_sends 3 = .ok (.aload_n 0, 1) := by decide +kernel
theorem dX12_sends_4 : decode cX12_sends 4 = .ok (.getfield 69, 3) := by decide +kernel
theorem dX12_sends_7 : decode cX12_sends 7 = .ok (.aload_n 0, 1) := by decide +kernel
theorem dX12_sends_8 : decode cX12_sends 8 = .ok (.getfield 51, 3) := by decide +kernel
theorem dX12_sends_11 : decode cX12_sends 11 = .ok (.iaload, 1) := by decide +kernel
theorem dX12_sends_12 : decode cX12_sends 12 = .ok (.if_icmp .ge 71, 3) := by decide +kernel
theorem dX12_sends_15 : decode cX12_sends 15 = .ok (.aload_n 0, 1) := by decide +kernel
theorem dX12_sends_16 : decode cX12_sends 16 = .ok (.aload_n 0, 1) := by decide +kernel
theorem dX12_sends_17 : decode cX12_sends 17 = .ok (.getfield 72, 3) := by decide +kernel
theorem dX12_sends_20 : decode cX12_sends 20 = .ok (.bipush 9, 2) := by decide +kernel
theorem dX12_sends_22 : decode cX12_sends 22 = .ok (.aload_n 0, 1) := by decide +kernel
theorem dX12_sends_23 : decode cX12_sends 23 = .ok (.getfield 51, 3) := by decide +kernel
theorem dX12_sends_26 : decode cX12_sends 26 = .ok (.imul, 1) := by decide +kernel
theorem dX12_sends_27 : decode cX12_sends 27 = .ok (.iload_n 1, 1) := by decide +kernel
theorem dX12_sends_28 : decode cX12_sends 28 = .ok (.iadd, 1) := by decide +kernel
theorem dX12_sends_29 : decode cX12_sends 29 = .ok (.iaload, 1) := by decide +kernel
theorem dX12_sends_30 : decode cX12_sends 30 = .ok (.iconst 0, 1) := by decide +kernel
theorem dX12_sends_31 : decode cX12_sends 31 = .ok (.invokevirtual 478, 3) := by decide +kernel
theorem dX12_sends_34 : decode cX12_sends 34 = .ok (.iconst 0, 1) := by decide +kernel
theorem dX12_sends_35 : decode cX12_sends 35 = .ok (.istore_n 2, 1) := by decide +kernel
theorem dX12_sends_36 : decode cX12_sends 36 = .ok (.iload_n 2, 1) := by decide +kernel
theorem dX12_sends_37 : decode cX12_sends 37 = .ok (.aload_n 0, 1) := by decide +kernel
theorem dX12_sends_38 : decode cX12_sends 38 = .ok (.getfield 84, 3) := by decide +kernel
theorem dX12_sends_41 : decode cX12_sends 41 = .ok (.aload_n 0, 1) := by decide +kernel
theorem dX12_sends_42 : decode cX12_sends 42 = .ok (.getfield 51, 3) := by decide +kernel
theorem dX12_sends_45 : decode cX12_sends 45 = .ok (.iaload, 1) := by decide +kernel
theorem dX12_sends_46 : decode cX12_sends 46 = .ok (.if_icmp .ge 31, 3) := by decide +kernel
theorem dX12_sends_49 : decode cX12_sends 49 = .ok (.aload_n 0, 1) := by decide +kernel
theorem dX12_sends_50 : decode cX12_sends 50 = .ok (.getfield 207, 3) := by decide +kernel
theorem dX12_sends_53 : decode cX12_sends 53 = .ok (.bipush 9, 2) := by decide +kernel
theorem dX12_sends_55 : decode cX12_sends 55 = .ok (.iload_n 2, 1) := by decide +kernel
theorem dX12_sends_56 : decode cX12_sends 56 = .ok (.imul, 1) := by decide +kernel
theorem dX12_sends_57 : decode cX12_sends 57 = .ok (.iload_n 1, 1) := by decide +kernel
theorem dX12_sends_58 : decode cX12_sends 58 = .ok (.iadd, 1) := by decide +kernel
theorem dX12_sends_59 : decode cX12_sends 59 = .ok (.aload_n 0, 1) := by decide +kernel
theorem dX12_sends_60 : decode cX12_sends 60 = .ok (.getfield 198, 3) := by decide +kernel
theorem dX12_sends_63 : decode cX12_sends 63 = .ok (.aload_n 0, 1) := by decide +kernel
theorem dX12_sends_64 : decode cX12_sends 64 = .ok (.getfield 168, 3) := by decide +kernel
theorem dX12_sends_67 : decode cX12_sends 67 = .ok (.iload_n 2, 1) := by decide +kernel
theorem dX12_sends_68 : decode cX12_sends 68 = .ok (.iaload, 1) := by decide +kernel
theorem dX12_sends_69 : decode cX12_sends 69 = .ok (.iaload, 1) := by decide +kernel
theorem dX12_sends_70 : decode cX12_sends 70 = .ok (.iastore, 1) := by decide +kernel
theorem dX12_sends_71 : decode cX12_sends 71 = .ok (.iinc 2 1, 3) := by decide +kernel
theorem dX12_sends_74 : decode cX12_sends 74 = .ok (.goto (-38), 3) := by decide +kernel
theorem dX12_sends_77 : decode cX12_sends 77 = .ok (.iinc 1 1, 3) := by decide +kernel
theorem dX12_sends_80 : decode cX12_sends 80 = .ok (.goto (-78), 3) := by decide +kernel
theorem dX12_sends_83 : decode cX12_sends 83 = .ok (.iconst 0, 1) := by decide +kernel
theorem dX12_sends_84 : decode cX12_sends 84 = .ok (.istore_n 1, 1) := by decide +kernel
theorem dX12_sends_85 : decode cX12_sends 85 = .ok (.iload_n 1, 1) := by decide +kernel
theorem dX12_sends_86 : decode cX12_sends 86 = .ok (.sipush 512, 3) := by decide +kernel
theorem dX12_sends_89 : decode cX12_sends 89 = .ok (.if_icmp .ge 28, 3) := by decide +kernel
theorem dX12_sends_92 : decode cX12_sends 92 = .ok (.aload_n 0, 1) := by decide +kernel
theorem dX12_sends_93 : decode cX12_sends 93 = .ok (.getfield 210, 3) := by decide +kernel
theorem dX12_sends_96 : decode cX12_sends 96 = .ok (.aload_n 0, 1) := by decide +kernel
theorem dX12_sends_97 : decode cX12_sends 97 = .ok (.getfield 84, 3) := by decide +kernel
theorem dX12_sends_100 : decode cX12_sends 100 = .ok (.aload_n 0, 1) := by decide +kernel
theorem dX12_sends_101 : decode cX12_sends 101 = .ok (.getfield 51, 3) := by decide +kernel
theorem dX12_sends_104 : decode cX12_sends 104 = .ok (.iaload, 1) := by decide +kernel
theorem dX12_sends_105 : decode cX12_sends 105 = .ok (.iload_n 1, 1) := by decide +kernel
theorem dX12_sends_106 : decode cX12_sends 106 = .ok (.invokestatic 527, 3) := by decide +kernel
theorem dX12_sends_109 : decode cX12_sends 109 = .ok (.iconst 0, 1) := by decide +kernel
theorem dX12_sends_110 : decode cX12_sends 110 = .ok (.iastore, 1) := by decide +kernel
theorem dX12_sends_111 : decode cX12_sends 111 = .ok (.iinc 1 1, 3) := by decide +kernel
theorem dX12_sends_114 : decode cX12_sends 114 = .ok (.goto (-29), 3) := by decide +kernel
theorem dX12_sends_117 : decode cX12_sends 117 = .ok (.aload_n 0, 1) := by decide +kernel
theorem dX12_sends_118 : decode cX12_sends 118 = .ok (.getfield 84, 3) := by decide +kernel
theorem dX12_sends_121 : decode cX12_sends 121 = .ok (.aload_n 0, 1) := by decide +kernel
theorem dX12_sends_122 : decode cX12_sends 122 = .ok (.getfield 51, 3) := by decide +kernel
theorem dX12_sends_125 : decode cX12_sends 125 = .ok (.iaload, 1) := by decide +kernel
theorem dX12_sends_126 : decode cX12_sends 126 = .ok (.iconst 1, 1) := by decide +kernel
theorem dX12_sends_127 : decode cX12_sends 127 = .ok (.isub, 1) := by decide +kernel
theorem dX12_sends_128 : decode cX12_sends 128 = .ok (.istore_n 1, 1) := by decide +kernel
theorem dX12_sends_129 : decode cX12_sends 129 = .ok (.iload_n 1, 1) := by decide +kernel
theorem dX12_sends_130 : decode cX12_sends 130 = .ok (.ifCond .lt 136, 3) := by decide +kernel
theorem dX12_sends_133 : decode cX12_sends 133 = .ok (.iconst 0, 1) := by decide +kernel
theorem dX12_sends_134 : decode cX12_sends 134 = .ok (.istore_n 2, 1) := by decide +kernel
theorem dX12_sends_135 : decode cX12_sends 135 = .ok (.iload_n 2, 1) := by decide +kernel
theorem dX12_sends_136 : decode cX12_sends 136 = .ok (.sipush 512, 3) := by decide +kernel
theorem dX12_sends_139 : decode cX12_sends 139 = .ok (.if_icmp .ge 121, 3) := by decide +kernel
theorem dX12_sends_142 : decode cX12_sends 142 = .ok (.sipush 1000, 3) := by decide +kernel
theorem dX12_sends_145 : decode cX12_sends 145 = .ok (.aload_n 0, 1) := by decide +kernel
theorem dX12_sends_146 : decode cX12_sends 146 = .ok (.getfield 210, 3) := by decide +kernel
theorem dX12_sends_149 : decode cX12_sends 149 = .ok (.iload_n 1, 1) := by decide +kernel
theorem dX12_sends_150 : decode cX12_sends 150 = .ok (.iconst 1, 1) := by decide +kernel
theorem dX12_sends_151 : decode cX12_sends 151 = .ok (.iadd, 1) := by decide +kernel
theorem dX12_sends_152 : decode cX12_sends 152 = .ok (.iload_n 2, 1) := by decide +kernel
theorem dX12_sends_153 : decode cX12_sends 153 = .ok (.invokestatic 527, 3) := by decide +kernel
theorem dX12_sends_156 : decode cX12_sends 156 = .ok (.iaload, 1) := by decide +kernel
theorem dX12_sends_157 : decode cX12_sends 157 = .ok (.iadd, 1) := by decide +kernel
theorem dX12_sends_158 : decode cX12_sends 158 = .ok (.istore_n 3, 1) := by decide +kernel
theorem dX12_sends_159 : decode cX12_sends 159 = .ok (.iconst 0, 1) := by decide +kernel
theorem dX12_sends_160 : decode cX12_sends 160 = .ok (.istore 4, 2) := by decide +kernel
theorem dX12_sends_162 : decode cX12_sends 162 = .ok (.iload 4, 2) := by decide +kernel
theorem dX12_sends_164 : decode cX12_sends 164 = .ok (.aload_n 0, 1) := by decide +kernel
theorem dX12_sends_165 : decode cX12_sends 165 = .ok (.getfield 69, 3) := by decide +kernel
theorem dX12_sends_168 : decode cX12_sends 168 = .ok (.aload_n 0, 1) := by decide +kernel
theorem dX12_sends_169 : decode cX12_sends 169 = .ok (.getfield 51, 3) := by decide +kernel
theorem dX12_sends_172 : decode cX12_sends 172 = .ok (.iaload, 1) := by decide +kernel
theorem dX12_sends_173 : decode cX12_sends 173 = .ok (.if_icmp .ge 70, 3) := by decide +kernel
theorem dX12_sends_176 : decode cX12_sends 176 = .ok (.aload_n 0, 1) := by decide +kernel
theorem dX12_sends_177 : decode cX12_sends 177 = .ok (.iload_n 1, 1) := by decide +kernel
theorem dX12_sends_178 : decode cX12_sends 178 = .ok (.iload 4, 2) := by decide +kernel
theorem dX12_sends_180 : decode cX12_sends 180 = .ok (.iload_n 2, 1) := by decide +kernel
theorem dX12_sends_181 : decode cX12_sends 181 = .ok (.invokevirtual 530, 3) := by decide +kernel
theorem dX12_sends_184 : decode cX12_sends 184 = .ok (.istore 5, 2) := by decide +kernel
theorem dX12_sends_186 : decode cX12_sends 186 = .ok (.iload 5, 2) := by decide +kernel
theorem dX12_sends_188 : decode cX12_sends 188 = .ok (.iconst (-1), 1) := by decide +kernel
theorem dX12_sends_189 : decode cX12_sends 189 = .ok (.if_icmp .eq 48, 3) := by decide +kernel
theorem dX12_sends_192 : decode cX12_sends 192 = .ok (.iload 5, 2) := by decide +kernel
theorem dX12_sends_194 : decode cX12_sends 194 = .ok (.aload_n 0, 1) := by decide +kernel
theorem dX12_sends_195 : decode cX12_sends 195 = .ok (.getfield 210, 3) := by decide +kernel
theorem dX12_sends_198 : decode cX12_sends 198 = .ok (.iload_n 1, 1) := by decide +kernel
theorem dX12_sends_199 : decode cX12_sends 199 = .ok (.iconst 1, 1) := by decide +kernel
theorem dX12_sends_200 : decode cX12_sends 200 = .ok (.iadd, 1) := by decide +kernel
theorem dX12_sends_201 : decode cX12_sends 201 = .ok (.iload_n 2, 1) := by decide +kernel
theorem dX12_sends_202 : decode cX12_sends 202 = .ok (.iconst 1, 1) := by decide +kernel
theorem dX12_sends_203 : decode cX12_sends 203 = .ok (.iload 4, 2) := by decide +kernel
theorem dX12_sends_205 : decode cX12_sends 205 = .ok (.ishl, 1) := by decide +kernel
theorem dX12_sends_206 : decode cX12_sends 206 = .ok (.ior, 1) := by decide +kernel
theorem dX12_sends_207 : decode cX12_sends 207 = .ok (.invokestatic 527, 3) := by decide +kernel
theorem dX12_sends_210 : decode cX12_sends 210 = .ok (.iaload, 1) := by decide +kernel
theorem dX12_sends_211 : decode cX12_sends 211 = .ok (.iadd, 1) := by decide +kernel
theorem dX12_sends_212 : decode cX12_sends 212 = .ok (.iload_n 3, 1) := by decide +kernel
theorem dX12_sends_213 : decode cX12_sends 213 = .ok (.if_icmp .ge 24, 3) := by decide +kernel
theorem dX12_sends_216 : decode cX12_sends 216 = .ok (.iload 5, 2) := by decide +kernel
theorem dX12_sends_218 : decode cX12_sends 218 = .ok (.aload_n 0, 1) := by decide +kernel
theorem dX12_sends_219 : decode cX12_sends 219 = .ok (.getfield 210, 3) := by decide +kernel
theorem dX12_sends_222 : decode cX12_sends 222 = .ok (.iload_n 1, 1) := by decide +kernel
theorem dX12_sends_223 : decode cX12_sends 223 = .ok (.iconst 1, 1) := by decide +kernel
theorem dX12_sends_224 : decode cX12_sends 224 = .ok (.iadd, 1) := by decide +kernel
theorem dX12_sends_225 : decode cX12_sends 225 = .ok (.iload_n 2, 1) := by decide +kernel
theorem dX12_sends_226 : decode cX12_sends 226 = .ok (.iconst 1, 1) := by decide +kernel
theorem dX12_sends_227 : decode cX12_sends 227 = .ok (.iload 4, 2) := by decide +kernel
theorem dX12_sends_229 : decode cX12_sends 229 = .ok (.ishl, 1) := by decide +kernel
theorem dX12_sends_230 : decode cX12_sends 230 = .ok (.ior, 1) := by decide +kernel
theorem dX12_sends_231 : decode cX12_sends 231 = .ok (.invokestatic 527, 3) := by decide +kernel
theorem dX12_sends_234 : decode cX12_sends 234 = .ok (.iaload, 1) := by decide +kernel
theorem dX12_sends_235 : decode cX12_sends 235 = .ok (.iadd, 1) := by decide +kernel
theorem dX12_sends_236 : decode cX12_sends 236 = .ok (.istore_n 3, 1) := by decide +kernel
theorem dX12_sends_237 : decode cX12_sends 237 = .ok (.iinc 4 1, 3) := by decide +kernel
theorem dX12_sends_240 : decode cX12_sends 240 = .ok (.goto (-78), 3) := by decide +kernel
theorem dX12_sends_243 : decode cX12_sends 243 = .ok (.aload_n 0, 1) := by decide +kernel
theorem dX12_sends_244 : decode cX12_sends 244 = .ok (.getfield 210, 3) := by decide +kernel
theorem dX12_sends_247 : decode cX12_sends 247 = .ok (.iload_n 1, 1) := by decide +kernel
theorem dX12_sends_248 : decode cX12_sends 248 = .ok (.iload_n 2, 1) := by decide +kernel
theorem dX12_sends_249 : decode cX12_sends 249 = .ok (.invokestatic 527, 3) := by decide +kernel
theorem dX12_sends_252 : decode cX12_sends 252 = .ok (.iload_n 3, 1) := by decide +kernel
theorem dX12_sends_253 : decode cX12_sends 253 = .ok (.iastore, 1) := by decide +kernel
theorem dX12_sends_254 : decode cX12_sends 254 = .ok (.iinc 2 1, 3) := by decide +kernel
theorem dX12_sends_257 : decode cX12_sends 257 = .ok (.goto (-122), 3) := by decide +kernel
theorem dX12_sends_260 : decode cX12_sends 260 = .ok (.iinc 1 (-1), 3) := by decide +kernel
theorem dX12_sends_263 : decode cX12_sends 263 = .ok (.goto (-134), 3) := by decide +kernel
theorem dX12_sends_266 : decode cX12_sends 266 = .ok (.return_, 1) := by decide +kernel
noncomputable def tX12_sends_0 : List (Nat × zF) := [(0, (zst 1 (zp (.int (0))))), (1, (zsi4 6 1 1)), (2, (zli4 1 1)), (3, (zla4 0 1)), (4, (zgf 12 19)), (7, (zla4 0 1)), (8, (zgf 12 13)), (11, (zal 0)), (12, (z_ic_ge 83)), (15, (zla4 0 1)), (16, (zla4 0 1)), (17, (zgf 12 20))]
theorem kX12_sends_0 : ∀ q ∈ tX12_sends_0, zOk zg iX12_sends q.1 q.2 := (z_c (ok_iconst (v := (0)) dX12_sends_0 (by decide)) (z_c (ok_istore_n dX12_sends_1 rfl) (z_c (ok_iload_n dX12_sends_2 rfl) (z_c (ok_aload_n dX12_sends_3 rfl) (z_c (ok_getf (C := RX12) (T := TX12) (N := 73) rfl (by decide) zinX12 rfl zw_706 dX12_sends_4) (z_c (ok_aload_n dX12_sends_7 rfl) (z_c (ok_getf (C := RX12) (T := TX12) (N := 73) rfl (by decide) zinX12 rfl zw_700 dX12_sends_8) (z_c (ok_iaload rfl dX12_sends_11) (z_c (ok_icmp_ge dX12_sends_12 (by decide)) (z_c (ok_aload_n dX12_sends_15 rfl) (z_c (ok_aload_n dX12_sends_16 rfl) (z_c (ok_getf (C := RX12) (T := TX12) (N := 73) rfl (by decide) zinX12 rfl zw_707 dX12_sends_17) z_n))))))))))))
noncomputable def tX12_sends_1 : List (Nat × zF) := [(20, (zst 2 (zp (.int (9))))), (22, (zla4 0 1)), (23, (zgf 12 13)), (26, (zst 1 z_imul)), (27, (zli4 1 1)), (28, (zst 1 z_iadd)), (29, (zal 0)), (30, (zst 1 (zp (.int (0))))), (31, (zcv 229 2 12)), (34, (zst 1 (zp (.int (0))))), (35, (zsi4 6 2 1)), (36, (zli4 2 1))]
theorem kX12_sends_1 : ∀ q ∈ tX12_sends_1, zOk zg iX12_sends q.1 q.2 := (z_c (ok_bipush (v := (9)) dX12_sends_20 (by decide)) (z_c (ok_aload_n dX12_sends_22 rfl) (z_c (ok_getf (C := RX12) (T := TX12) (N := 73) rfl (by decide) zinX12 rfl zw_700 dX12_sends_23) (z_c (ok_imul dX12_sends_26) (z_c (ok_iload_n dX12_sends_27 rfl) (z_c (ok_iadd dX12_sends_28) (z_c (ok_iaload rfl dX12_sends_29) (z_c (ok_iconst (v := (0)) dX12_sends_30 (by decide)) (z_c (ok_callV zcal_229 (q := (RX12, TX12, 73)) rfl zw_948 zw_949 zw_950 dX12_sends_31) (z_c (ok_iconst (v := (0)) dX12_sends_34 (by decide)) (z_c (ok_istore_n dX12_sends_35 rfl) (z_c (ok_iload_n dX12_sends_36 rfl) z_n))))))))))))
noncomputable def tX12_sends_2 : List (Nat × zF) := [(37, (zla4 0 1)), (38, (zgf 12 24)), (41, (zla4 0 1)), (42, (zgf 12 13)), (45, (zal 0)), (46, (z_ic_ge 77)), (49, (zla4 0 1)), (50, (zgf 12 64)), (53, (zst 2 (zp (.int (9))))), (55, (zli4 2 1)), (56, (zst 1 z_imul)), (57, (zli4 1 1))]
theorem kX12_sends_2 : ∀ q ∈ tX12_sends_2, zOk zg iX12_sends q.1 q.2 := (z_c (ok_aload_n dX12_sends_37 rfl) (z_c (ok_getf (C := RX12) (T := TX12) (N := 73) rfl (by decide) zinX12 rfl zw_711 dX12_sends_38) (z_c (ok_aload_n dX12_sends_41 rfl) (z_c (ok_getf (C := RX12) (T := TX12) (N := 73) rfl (by decide) zinX12 rfl zw_700 dX12_sends_42) (z_c (ok_iaload rfl dX12_sends_45) (z_c (ok_icmp_ge dX12_sends_46 (by decide)) (z_c (ok_aload_n dX12_sends_49 rfl) (z_c (ok_getf (C := RX12) (T := TX12) (N := 73) rfl (by decide) zinX12 rfl zw_752 dX12_sends_50) (z_c (ok_bipush (v := (9)) dX12_sends_53 (by decide)) (z_c (ok_iload_n dX12_sends_55 rfl) (z_c (ok_imul dX12_sends_56) (z_c (ok_iload_n dX12_sends_57 rfl) z_n))))))))))))
noncomputable def tX12_sends_3 : List (Nat × zF) := [(58, (zst 1 z_iadd)), (59, (zla4 0 1)), (60, (zgf 12 61)), (63, (zla4 0 1)), (64, (zgf 12 51)), (67, (zli4 2 1)), (68, (zal 0)), (69, (zal 0)), (70, (zas 0)), (71, (zin4 6 2 (1))), (74, (zgt 36)), (77, (zin4 6 1 (1)))]
theorem kX12_sends_3 : ∀ q ∈ tX12_sends_3, zOk zg iX12_sends q.1 q.2 := (z_c (ok_iadd dX12_sends_58) (z_c (ok_aload_n dX12_sends_59 rfl) (z_c (ok_getf (C := RX12) (T := TX12) (N := 73) rfl (by decide) zinX12 rfl zw_749 dX12_sends_60) (z_c (ok_aload_n dX12_sends_63 rfl) (z_c (ok_getf (C := RX12) (T := TX12) (N := 73) rfl (by decide) zinX12 rfl zw_739 dX12_sends_64) (z_c (ok_iload_n dX12_sends_67 rfl) (z_c (ok_iaload rfl dX12_sends_68) (z_c (ok_iaload rfl dX12_sends_69) (z_c (ok_iastore rfl dX12_sends_70) (z_c (ok_iinc (v := (1)) dX12_sends_71 (by decide)) (z_c (ok_goto dX12_sends_74 (by decide)) (z_c (ok_iinc (v := (1)) dX12_sends_77 (by decide)) z_n))))))))))))
noncomputable def tX12_sends_4 : List (Nat × zF) := [(80, (zgt 2)), (83, (zst 1 (zp (.int (0))))), (84, (zsi4 6 1 1)), (85, (zli4 1 1)), (86, (zst 3 (zp (.int (512))))), (89, (z_ic_ge 117)), (92, (zla4 0 1)), (93, (zgf 12 65)), (96, (zla4 0 1)), (97, (zgf 12 24)), (100, (zla4 0 1)), (101, (zgf 12 13))]
theorem kX12_sends_4 : ∀ q ∈ tX12_sends_4, zOk zg iX12_sends q.1 q.2 := (z_c (ok_goto dX12_sends_80 (by decide)) (z_c (ok_iconst (v := (0)) dX12_sends_83 (by decide)) (z_c (ok_istore_n dX12_sends_84 rfl) (z_c (ok_iload_n dX12_sends_85 rfl) (z_c (ok_sipush (v := (512)) dX12_sends_86 (by decide)) (z_c (ok_icmp_ge dX12_sends_89 (by decide)) (z_c (ok_aload_n dX12_sends_92 rfl) (z_c (ok_getf (C := RX12) (T := TX12) (N := 73) rfl (by decide) zinX12 rfl zw_753 dX12_sends_93) (z_c (ok_aload_n dX12_sends_96 rfl) (z_c (ok_getf (C := RX12) (T := TX12) (N := 73) rfl (by decide) zinX12 rfl zw_711 dX12_sends_97) (z_c (ok_aload_n dX12_sends_100 rfl) (z_c (ok_getf (C := RX12) (T := TX12) (N := 73) rfl (by decide) zinX12 rfl zw_700 dX12_sends_101) z_n))))))))))))
noncomputable def tX12_sends_5 : List (Nat × zF) := [(104, (zal 0)), (105, (zli4 1 1)), (106, (zcs 254 2)), (109, (zst 1 (zp (.int (0))))), (110, (zas 0)), (111, (zin4 6 1 (1))), (114, (zgt 85)), (117, (zla4 0 1)), (118, (zgf 12 24)), (121, (zla4 0 1)), (122, (zgf 12 13)), (125, (zal 0))]
theorem kX12_sends_5 : ∀ q ∈ tX12_sends_5, zOk zg iX12_sends q.1 q.2 := (z_c (ok_iaload rfl dX12_sends_104) (z_c (ok_iload_n dX12_sends_105 rfl) (z_c (ok_callS zcal_254 zw_993 zw_994 dX12_sends_106) (z_c (ok_iconst (v := (0)) dX12_sends_109 (by decide)) (z_c (ok_iastore rfl dX12_sends_110) (z_c (ok_iinc (v := (1)) dX12_sends_111 (by decide)) (z_c (ok_goto dX12_sends_114 (by decide)) (z_c (ok_aload_n dX12_sends_117 rfl) (z_c (ok_getf (C := RX12) (T := TX12) (N := 73) rfl (by decide) zinX12 rfl zw_711 dX12_sends_118) (z_c (ok_aload_n dX12_sends_121 rfl) (z_c (ok_getf (C := RX12) (T := TX12) (N := 73) rfl (by decide) zinX12 rfl zw_700 dX12_sends_122) (z_c (ok_iaload rfl dX12_sends_125) z_n))))))))))))
noncomputable def tX12_sends_6 : List (Nat × zF) := [(126, (zst 1 (zp (.int (1))))), (127, (zst 1 z_isub)), (128, (zsi4 6 1 1)), (129, (zli4 1 1)), (130, (z_if_lt 266)), (133, (zst 1 (zp (.int (0))))), (134, (zsi4 6 2 1)), (135, (zli4 2 1)), (136, (zst 3 (zp (.int (512))))), (139, (z_ic_ge 260)), (142, (zst 3 (zp (.int (1000))))), (145, (zla4 0 1))]
theorem kX12_sends_6 : ∀ q ∈ tX12_sends_6, zOk zg iX12_sends q.1 q.2 := (z_c (ok_iconst (v := (1)) dX12_sends_126 (by decide)) (z_c (ok_isub dX12_sends_127) (z_c (ok_istore_n dX12_sends_128 rfl) (z_c (ok_iload_n dX12_sends_129 rfl) (z_c (ok_if_lt dX12_sends_130 (by decide)) (z_c (ok_iconst (v := (0)) dX12_sends_133 (by decide)) (z_c (ok_istore_n dX12_sends_134 rfl) (z_c (ok_iload_n dX12_sends_135 rfl) (z_c (ok_sipush (v := (512)) dX12_sends_136 (by decide)) (z_c (ok_icmp_ge dX12_sends_139 (by decide)) (z_c (ok_sipush (v := (1000)) dX12_sends_142 (by decide)) (z_c (ok_aload_n dX12_sends_145 rfl) z_n))))))))))))
noncomputable def tX12_sends_7 : List (Nat × zF) := [(146, (zgf 12 65)), (149, (zli4 1 1)), (150, (zst 1 (zp (.int (1))))), (151, (zst 1 z_iadd)), (152, (zli4 2 1)), (153, (zcs 254 2)), (156, (zal 0)), (157, (zst 1 z_iadd)), (158, (zsi4 6 3 1)), (159, (zst 1 (zp (.int (0))))), (160, (zsi4 6 4 2)), (162, (zli4 4 2))]
theorem kX12_sends_7 : ∀ q ∈ tX12_sends_7, zOk zg iX12_sends q.1 q.2 := (z_c (ok_getf (C := RX12) (T := TX12) (N := 73) rfl (by decide) zinX12 rfl zw_753 dX12_sends_146) (z_c (ok_iload_n dX12_sends_149 rfl) (z_c (ok_iconst (v := (1)) dX12_sends_150 (by decide)) (z_c (ok_iadd dX12_sends_151) (z_c (ok_iload_n dX12_sends_152 rfl) (z_c (ok_callS zcal_254 zw_993 zw_994 dX12_sends_153) (z_c (ok_iaload rfl dX12_sends_156) (z_c (ok_iadd dX12_sends_157) (z_c (ok_istore_n dX12_sends_158 rfl) (z_c (ok_iconst (v := (0)) dX12_sends_159 (by decide)) (z_c (ok_istore dX12_sends_160) (z_c (ok_iload dX12_sends_162) z_n))))))))))))
noncomputable def tX12_sends_8 : List (Nat × zF) := [(164, (zla4 0 1)), (165, (zgf 12 19)), (168, (zla4 0 1)), (169, (zgf 12 13)), (172, (zal 0)), (173, (z_ic_ge 243)), (176, (zla4 0 1)), (177, (zli4 1 1)), (178, (zli4 4 2)), (180, (zli4 2 1)), (181, (zcv 255 3 12)), (184, (zsi4 6 5 2))]
theorem kX12_sends_8 : ∀ q ∈ tX12_sends_8, zOk zg iX12_sends q.1 q.2 := (z_c (ok_aload_n dX12_sends_164 rfl) (z_c (ok_getf (C := RX12) (T := TX12) (N := 73) rfl (by decide) zinX12 rfl zw_706 dX12_sends_165) (z_c (ok_aload_n dX12_sends_168 rfl) (z_c (ok_getf (C := RX12) (T := TX12) (N := 73) rfl (by decide) zinX12 rfl zw_700 dX12_sends_169) (z_c (ok_iaload rfl dX12_sends_172) (z_c (ok_icmp_ge dX12_sends_173 (by decide)) (z_c (ok_aload_n dX12_sends_176 rfl) (z_c (ok_iload_n dX12_sends_177 rfl) (z_c (ok_iload dX12_sends_178) (z_c (ok_iload_n dX12_sends_180 rfl) (z_c (ok_callV zcal_255 (q := (RX12, TX12, 73)) rfl zw_995 zw_996 zw_997 dX12_sends_181) (z_c (ok_istore dX12_sends_184) z_n))))))))))))
noncomputable def tX12_sends_9 : List (Nat × zF) := [(186, (zli4 5 2)), (188, (zst 1 (zp (.int ((-1)))))), (189, (z_ic_eq 237)), (192, (zli4 5 2)), (194, (zla4 0 1)), (195, (zgf 12 65)), (198, (zli4 1 1)), (199, (zst 1 (zp (.int (1))))), (200, (zst 1 z_iadd)), (201, (zli4 2 1)), (202, (zst 1 (zp (.int (1))))), (203, (zli4 4 2))]
theorem kX12_sends_9 : ∀ q ∈ tX12_sends_9, zOk zg iX12_sends q.1 q.2 := (z_c (ok_iload dX12_sends_186) (z_c (ok_iconst (v := (-1)) dX12_sends_188 (by decide)) (z_c (ok_icmp_eq dX12_sends_189 (by decide)) (z_c (ok_iload dX12_sends_192) (z_c (ok_aload_n dX12_sends_194 rfl) (z_c (ok_getf (C := RX12) (T := TX12) (N := 73) rfl (by decide) zinX12 rfl zw_753 dX12_sends_195) (z_c (ok_iload_n dX12_sends_198 rfl) (z_c (ok_iconst (v := (1)) dX12_sends_199 (by decide)) (z_c (ok_iadd dX12_sends_200) (z_c (ok_iload_n dX12_sends_201 rfl) (z_c (ok_iconst (v := (1)) dX12_sends_202 (by decide)) (z_c (ok_iload dX12_sends_203) z_n))))))))))))
noncomputable def tX12_sends_10 : List (Nat × zF) := [(205, (zst 1 z_ishl)), (206, (zst 1 z_ior)), (207, (zcs 254 2)), (210, (zal 0)), (211, (zst 1 z_iadd)), (212, (zli4 3 1)), (213, (z_ic_ge 237)), (216, (zli4 5 2)), (218, (zla4 0 1)), (219, (zgf 12 65)), (222, (zli4 1 1)), (223, (zst 1 (zp (.int (1)))))]
theorem kX12_sends_10 : ∀ q ∈ tX12_sends_10, zOk zg iX12_sends q.1 q.2 := (z_c (ok_ishl dX12_sends_205) (z_c (ok_ior dX12_sends_206) (z_c (ok_callS zcal_254 zw_993 zw_994 dX12_sends_207) (z_c (ok_iaload rfl dX12_sends_210) (z_c (ok_iadd dX12_sends_211) (z_c (ok_iload_n dX12_sends_212 rfl) (z_c (ok_icmp_ge dX12_sends_213 (by decide)) (z_c (ok_iload dX12_sends_216) (z_c (ok_aload_n dX12_sends_218 rfl) (z_c (ok_getf (C := RX12) (T := TX12) (N := 73) rfl (by decide) zinX12 rfl zw_753 dX12_sends_219) (z_c (ok_iload_n dX12_sends_222 rfl) (z_c (ok_iconst (v := (1)) dX12_sends_223 (by decide)) z_n))))))))))))
noncomputable def tX12_sends_11 : List (Nat × zF) := [(224, (zst 1 z_iadd)), (225, (zli4 2 1)), (226, (zst 1 (zp (.int (1))))), (227, (zli4 4 2)), (229, (zst 1 z_ishl)), (230, (zst 1 z_ior)), (231, (zcs 254 2)), (234, (zal 0)), (235, (zst 1 z_iadd)), (236, (zsi4 6 3 1)), (237, (zin4 6 4 (1))), (240, (zgt 162))]
theorem kX12_sends_11 : ∀ q ∈ tX12_sends_11, zOk zg iX12_sends q.1 q.2 := (z_c (ok_iadd dX12_sends_224) (z_c (ok_iload_n dX12_sends_225 rfl) (z_c (ok_iconst (v := (1)) dX12_sends_226 (by decide)) (z_c (ok_iload dX12_sends_227) (z_c (ok_ishl dX12_sends_229) (z_c (ok_ior dX12_sends_230) (z_c (ok_callS zcal_254 zw_993 zw_994 dX12_sends_231) (z_c (ok_iaload rfl dX12_sends_234) (z_c (ok_iadd dX12_sends_235) (z_c (ok_istore_n dX12_sends_236 rfl) (z_c (ok_iinc (v := (1)) dX12_sends_237 (by decide)) (z_c (ok_goto dX12_sends_240 (by decide)) z_n))))))))))))
noncomputable def tX12_sends_12 : List (Nat × zF) := [(243, (zla4 0 1)), (244, (zgf 12 65)), (247, (zli4 1 1)), (248, (zli4 2 1)), (249, (zcs 254 2)), (252, (zli4 3 1)), (253, (zas 0)), (254, (zin4 6 2 (1))), (257, (zgt 135)), (260, (zin4 6 1 (-1))), (263, (zgt 129)), (266, zrv)]
theorem kX12_sends_12 : ∀ q ∈ tX12_sends_12, zOk zg iX12_sends q.1 q.2 := (z_c (ok_aload_n dX12_sends_243 rfl) (z_c (ok_getf (C := RX12) (T := TX12) (N := 73) rfl (by decide) zinX12 rfl zw_753 dX12_sends_244) (z_c (ok_iload_n dX12_sends_247 rfl) (z_c (ok_iload_n dX12_sends_248 rfl) (z_c (ok_callS zcal_254 zw_993 zw_994 dX12_sends_249) (z_c (ok_iload_n dX12_sends_252 rfl) (z_c (ok_iastore rfl dX12_sends_253) (z_c (ok_iinc (v := (1)) dX12_sends_254 (by decide)) (z_c (ok_goto dX12_sends_257 (by decide)) (z_c (ok_iinc (v := (-1)) dX12_sends_260 (by decide)) (z_c (ok_goto dX12_sends_263 (by decide)) (z_c (ok_return rfl dX12_sends_266) z_n))))))))))))
noncomputable def tX12_sends : zT := [(20, tX12_sends_0), (37, tX12_sends_1), (58, tX12_sends_2), (80, tX12_sends_3), (104, tX12_sends_4), (126, tX12_sends_5), (146, tX12_sends_6), (164, tX12_sends_7), (186, tX12_sends_8), (205, tX12_sends_9), (224, tX12_sends_10), (243, tX12_sends_11), (100000, tX12_sends_12)]
theorem kX12_sends : zTok zg iX12_sends tX12_sends := (z_t kX12_sends_0 (z_t kX12_sends_1 (z_t kX12_sends_2 (z_t kX12_sends_3 (z_t kX12_sends_4 (z_t kX12_sends_5 (z_t kX12_sends_6 (z_t kX12_sends_7 (z_t kX12_sends_8 (z_t kX12_sends_9 (z_t kX12_sends_10 (z_t kX12_sends_11 (z_t kX12_sends_12 z_tn)))))))))))))
theorem dX12_send_0 : decode cX12_send 0 = .ok (.iload_n 1, 1) := by decide +kernel
theorem dX12_send_1 : decode cX12_send 1 = .ok (.iconst 0, 1) := by decide +kernel
theorem dX12_send_2 : decode cX12_send 2 = .ok (.iconst 1, 1) := by decide +kernel
theorem dX12_send_3 : decode cX12_send 3 = .ok (.aload_n 0, 1) := by decide +kernel
theorem dX12_send_4 : decode cX12_send 4 = .ok (.getfield 84, 3) := by decide +kernel
theorem dX12_send_7 : decode cX12_send 7 = .ok (.aload_n 0, 1) := by decide +kernel
theorem dX12_send_8 : decode cX12_send 8 = .ok (.getfield 51, 3) := by decide +kernel
theorem dX12_send_11 : decode cX12_send 11 = .ok (.iaload, 1) := by decide +kernel
theorem dX12_send_12 : decode cX12_send 12 = .ok (.iadd, 1) := by decide +kernel
theorem dX12_send_13 : decode cX12_send 13 = .ok (.invokestatic 318, 3) := by decide +kernel
theorem dX12_send_16 : decode cX12_send 16 = .ok (.ifCond .ne 5, 3) := by decide +kernel
theorem dX12_send_19 : decode cX12_send 19 = .ok (.iconst (-1), 1) := by decide +kernel
theorem dX12_send_20 : decode cX12_send 20 = .ok (.ireturn, 1) := by decide +kernel
theorem dX12_send_21 : decode cX12_send 21 = .ok (.aload_n 0, 1) := by decide +kernel
theorem dX12_send_22 : decode cX12_send 22 = .ok (.invokevirtual 534, 3) := by decide +kernel
theorem dX12_send_25 : decode cX12_send 25 = .ok (.aload_n 0, 1) := by decide +kernel
theorem dX12_send_26 : decode cX12_send 26 = .ok (.getfield 210, 3) := by decide +kernel
theorem dX12_send_29 : decode cX12_send 29 = .ok (.iconst 0, 1) := by decide +kernel
theorem dX12_send_30 : decode cX12_send 30 = .ok (.iaload, 1) := by decide +kernel
theorem dX12_send_31 : decode cX12_send 31 = .ok (.istore_n 2, 1) := by decide +kernel
theorem dX12_send_32 : decode cX12_send 32 = .ok (.iload_n 1, 1) := by decide +kernel
theorem dX12_send_33 : decode cX12_send 33 = .ok (.iconst 2, 1) := by decide +kernel
theorem dX12_send_34 : decode cX12_send 34 = .ok (.if_icmp .ge 31, 3) := by decide +kernel
theorem dX12_send_37 : decode cX12_send 37 = .ok (.iload_n 1, 1) := by decide +kernel
theorem dX12_send_38 : decode cX12_send 38 = .ok (.ifCond .ne 21, 3) := by decide +kernel
theorem dX12_send_41 : decode cX12_send 41 = .ok (.aload_n 0, 1) := by decide +kernel
theorem dX12_send_42 : decode cX12_send 42 = .ok (.getfield 84, 3) := by decide +kernel
theorem dX12_send_45 : decode cX12_send 45 = .ok (.aload_n 0, 1) := by decide +kernel
theorem dX12_send_46 : decode cX12_send 46 = .ok (.getfield 51, 3) := by decide +kernel
theorem dX12_send_49 : decode cX12_send 49 = .ok (.iaload, 1) := by decide +kernel
theorem dX12_send_50 : decode cX12_send 50 = .ok (.iload_n 2, 1) := by decide +kernel
theorem dX12_send_51 : decode cX12_send 51 = .ok (.sipush 1000, 3) := by decide +kernel
theorem dX12_send_54 : decode cX12_send 54 = .ok (.idiv, 1) := by decide +kernel
theorem dX12_send_55 : decode cX12_send 55 = .ok (.isub, 1) := by decide +kernel
theorem dX12_send_56 : decode cX12_send 56 = .ok (.goto 8, 3) := by decide +kernel
theorem dX12_send_59 : decode cX12_send 59 = .ok (.iload_n 2, 1) := by decide +kernel
theorem dX12_send_60 : decode cX12_send 60 = .ok (.sipush 1000, 3) := by decide +kernel
theorem dX12_send_63 : decode cX12_send 63 = .ok (.irem, 1) := by decide +kernel
theorem dX12_send_64 : decode cX12_send 64 = .ok (.ireturn, 1) := by decide +kernel
theorem dX12_send_65 : decode cX12_send 65 = .ok (.iconst 0, 1) := by decide +kernel
theorem dX12_send_66 : decode cX12_send 66 = .ok (.istore_n 3, 1) := by decide +kernel
theorem dX12_send_67 : decode cX12_send 67 = .ok (.iconst (-1), 1) := by decide +kernel
theorem dX12_send_68 : decode cX12_send 68 = .ok (.istore 4, 2) := by decide +kernel
theorem dX12_send_70 : decode cX12_send 70 = .ok (.iconst 0, 1) := by decide +kernel
theorem dX12_send_71 : decode cX12_send 71 = .ok (.istore 5, 2) := by decide +kernel
theorem dX12_send_73 : decode cX12_send 73 = .ok (.iload 5, 2) := by decide +kernel
theorem dX12_send_75 : decode cX12_send 75 = .ok (.iload_n 1, 1) := by decide +kernel
theorem dX12_send_76 : decode cX12_send 76 = .ok (.iconst 2, 1) := by decide +kernel
theorem dX12_send_77 : decode cX12_send 77 = .ok (.isub, 1) := by decide +kernel
theorem dX12_send_78 : decode cX12_send 78 = .ok (.if_icmp .gt 140, 3) := by decide +kernel
theorem dX12_send_81 : decode cX12_send 81 = .ok (.iconst (-1), 1) := by decide +kernel
theorem dX12_send_82 : decode cX12_send 82 = .ok (.istore 4, 2) := by decide +kernel
theorem dX12_send_84 : decode cX12_send 84 = .ok (.aload_n 0, 1) := by decide +kernel
theorem dX12_send_85 : decode cX12_send 85 = .ok (.getfield 210, 3) := by decide +kernel
theorem dX12_send_88 : decode cX12_send 88 = .ok (.iload 5, 2) := by decide +kernel
theorem dX12_send_90 : decode cX12_send 90 = .ok (.iload_n 3, 1) := by decide +kernel
theorem dX12_send_91 : decode cX12_send 91 = .ok (.invokestatic 527, 3) := by decide +kernel
theorem dX12_send_94 : decode cX12_send 94 = .ok (.iaload, 1) := by decide +kernel
theorem dX12_send_95 : decode cX12_send 95 = .ok (.istore 6, 2) := by decide +kernel
theorem dX12_send_97 : decode cX12_send 97 = .ok (.iconst 0, 1) := by decide +kernel
theorem dX12_send_98 : decode cX12_send 98 = .ok (.istore 7, 2) := by decide +kernel
theorem dX12_send_100 : decode cX12_send 100 = .ok (.iload 7, 2) := by decide +kernel
theorem dX12_send_102 : decode cX12_send 102 = .ok (.aload_n 0, 1) := by decide +kernel
theorem dX12_send_103 : decode cX12_send 103 = .ok (.getfield 69, 3) := by decide +kernel
theorem dX12_send_106 : decode cX12_send 106 = .ok (.aload_n 0, 1) := by decide +kernel
theorem dX12_send_107 : decode cX12_send 107 = .ok (.getfield 51, 3) := by decide +kernel
theorem dX12_send_110 : decode cX12_send 110 = .ok (.iaload, 1) := by decide +kernel
theorem dX12_send_111 : decode cX12_send 111 = .ok (.if_icmp .ge 84, 3) := by decide +kernel
theorem dX12_send_114 : decode cX12_send 114 = .ok (.iload 4, 2) := by decide +kernel
theorem dX12_send_116 : decode cX12_send 116 = .ok (.iconst (-1), 1) := by decide +kernel
theorem dX12_send_117 : decode cX12_send 117 = .ok (.if_icmp .ne 78, 3) := by decide +kernel
theorem dX12_send_120 : decode cX12_send 120 = .ok (.sipush 1000, 3) := by decide +kernel
theorem dX12_send_123 : decode cX12_send 123 = .ok (.aload_n 0, 1) := by decide +kernel
theorem dX12_send_124 : decode cX12_send 124 = .ok (.getfield 210, 3) := by decide +kernel
theorem dX12_send_127 : decode cX12_send 127 = .ok (.iload 5, 2) := by decide +kernel
theorem dX12_send_129 : decode cX12_send 129 = .ok (.iconst 1, 1) := by decide +kernel
theorem dX12_send_130 : decode cX12_send 130 = .ok (.iadd, 1) := by decide +kernel
theorem dX12_send_131 : decode cX12_send 131 = .ok (.iload_n 3, 1) := by decide +kernel
theorem dX12_send_132 : decode cX12_send 132 = .ok (.invokestatic 527, 3) := by decide +kernel
theorem dX12_send_135 : decode cX12_send 135 = .ok (.iaload, 1) := by decide +kernel
theorem dX12_send_136 : decode cX12_send 136 = .ok (.iadd, 1) := by decide +kernel
theorem dX12_send_137 : decode cX12_send 137 = .ok (.iload 6, 2) := by decide +kernel
theorem dX12_send_139 : decode cX12_send 139 = .ok (.if_icmp .eq 56, 3) := by decide +kernel
theorem dX12_send_142 : decode cX12_send 142 = .ok (.aload_n 0, 1) := by decide +kernel
theorem dX12_send_143 : decode cX12_send 143 = .ok (.iload 5, 2) := by decide +kernel
theorem dX12_send_145 : decode cX12_send 145 = .ok (.iload 7, 2) := by decide +kernel
theorem dX12_send_147 : decode cX12_send 147 = .ok (.iload_n 3, 1) := by decide +kernel
theorem dX12_send_148 : decode cX12_send 148 = .ok (.invokevirtual 530, 3) := by decide +kernel
theorem dX12_send_151 : decode cX12_send 151 = .ok (.istore 8, 2) := by decide +kernel
theorem dX12_send_153 : decode cX12_send 153 = .ok (.iload 8, 2) := by decide +kernel
theorem dX12_send_155 : decode cX12_send 155 = .ok (.iconst (-1), 1) := by decide +kernel
theorem dX12_send_156 : decode cX12_send 156 = .ok (.if_icmp .eq 33, 3) := by decide +kernel
theorem dX12_send_159 : decode cX12_send 159 = .ok (.iload 8, 2) := by decide +kernel
theorem dX12_send_161 : decode cX12_send 161 = .ok (.aload_n 0, 1) := by decide +kernel
theorem dX12_send_162 : decode cX12_send 162 = .ok (.getfield 210, 3) := by decide +kernel
theorem dX12_send_165 : decode cX12_send 165 = .ok (.iload 5, 2) := by decide +kernel
theorem dX12_send_167 : decode cX12_send 167 = .ok (.iconst 1, 1) := by decide +kernel
theorem dX12_send_168 : decode cX12_send 168 = .ok (.iadd, 1) := by decide +kernel
theorem dX12_send_169 : decode cX12_send 169 = .ok (.iload_n 3, 1) := by decide +kernel
theorem dX12_send_170 : decode cX12_send 170 = .ok (.iconst 1, 1) := by decide +kernel
theorem dX12_send_171 : decode cX12_send 171 = .ok (.iload 7, 2) := by decide +kernel
theorem dX12_send_173 : decode cX12_send 173 = .ok (.ishl, 1) := by decide +kernel
theorem dX12_send_174 : decode cX12_send 174 = .ok (.ior, 1) := by decide +kernel
theorem dX12_send_175 : decode cX12_send 175 = .ok (.invokestatic 527, 3) := by decide +kernel
theorem dX12_send_178 : decode cX12_send 178 = .ok (.iaload, 1) := by decide +kernel
theorem dX12_send_179 : decode cX12_send 179 = .ok (.iadd, 1) := by decide +kernel
theorem dX12_send_180 : decode cX12_send 180 = .ok (.iload 6, 2) := by decide +kernel
theorem dX12_send_182 : decode cX12_send 182 = .ok (.if_icmp .ne 7, 3) := by decide +kernel
theorem dX12_send_185 : decode cX12_send 185 = .ok (.iload 7, 2) := by decide +kernel
theorem dX12_send_187 : decode cX12_send 187 = .ok (.istore 4, 2) := by decide +kernel
theorem dX12_send_189 : decode cX12_send 189 = .ok (.iinc 7 1, 3) := by decide +kernel
theorem dX12_send_192 : decode cX12_send 192 = .ok (.goto (-92), 3) := by decide +kernel
theorem dX12_send_195 : decode cX12_send 195 = .ok (.iload_n 3, 1) := by decide +kernel
theorem dX12_send_196 : decode cX12_send 196 = .ok (.iload 4, 2) := by decide +kernel
theorem dX12_send_198 : decode cX12_send 198 = .ok (.iconst (-1), 1) := by decide +kernel
theorem dX12_send_199 : decode cX12_send 199 = .ok (.if_icmp .ne 7, 3) := by decide +kernel
theorem dX12_send_202 : decode cX12_send 202 = .ok (.iconst 0, 1) := by decide +kernel
theorem dX12_send_203 : decode cX12_send 203 = .ok (.goto 7, 3) := by decide +kernel
theorem dX12_send_206 : decode cX12_send 206 = .ok (.iconst 1, 1) := by decide +kernel
theorem dX12_send_207 : decode cX12_send 207 = .ok (.iload 4, 2) := by decide +kernel
theorem dX12_send_209 : decode cX12_send 209 = .ok (.ishl, 1) := by decide +kernel
theorem dX12_send_210 : decode cX12_send 210 = .ok (.ior, 1) := by decide +kernel
theorem dX12_send_211 : decode cX12_send 211 = .ok (.istore_n 3, 1) := by decide +kernel
theorem dX12_send_212 : decode cX12_send 212 = .ok (.iinc 5 1, 3) := by decide +kernel
theorem dX12_send_215 : decode cX12_send 215 = .ok (.goto (-142), 3) := by decide +kernel
theorem dX12_send_218 : decode cX12_send 218 = .ok (.iload 4, 2) := by decide +kernel
theorem dX12_send_220 : decode cX12_send 220 = .ok (.ireturn, 1) := by decide +kernel
noncomputable def tX12_send_0 : List (Nat × zF) := [(0, (zli4 1 1)), (1, (zst 1 (zp (.int (0))))), (2, (zst 1 (zp (.int (1))))), (3, (zla4 0 1)), (4, (zgf 12 24)), (7, (zla4 0 1)), (8, (zgf 12 13)), (11, (zal 0)), (12, (zst 1 z_iadd)), (13, (zcs 165 3)), (16, (z_if_ne 21)), (19, (zst 1 (zp (.int ((-1))))))]
theorem kX12_send_0 : ∀ q ∈ tX12_send_0, zOk zg iX12_send q.1 q.2 := (z_c (ok_iload_n dX12_send_0 rfl) (z_c (ok_iconst (v := (0)) dX12_send_1 (by decide)) (z_c (ok_iconst (v := (1)) dX12_send_2 (by decide)) (z_c (ok_aload_n dX12_send_3 rfl) (z_c (ok_getf (C := RX12) (T := TX12) (N := 73) rfl (by decide) zinX12 rfl zw_711 dX12_send_4) (z_c (ok_aload_n dX12_send_7 rfl) (z_c (ok_getf (C := RX12) (T := TX12) (N := 73) rfl (by decide) zinX12 rfl zw_700 dX12_send_8) (z_c (ok_iaload rfl dX12_send_11) (z_c (ok_iadd dX12_send_12) (z_c (ok_callS zcal_165 zw_812 zw_813 dX12_send_13) (z_c (ok_if_ne dX12_send_16 (by decide)) (z_c (ok_iconst (v := (-1)) dX12_send_19 (by decide)) z_n))))))))))))
noncomputable def tX12_send_1 : List (Nat × zF) := [(20, (zri false)), (21, (zla4 0 1)), (22, (zcv 256 0 12)), (25, (zla4 0 1)), (26, (zgf 12 65)), (29, (zst 1 (zp (.int (0))))), (30, (zal 0)), (31, (zsi4 9 2 1)), (32, (zli4 1 1)), (33, (zst 1 (zp (.int (2))))), (34, (z_ic_ge 65)), (37, (zli4 1 1))]
theorem kX12_send_1 : ∀ q ∈ tX12_send_1, zOk zg iX12_send q.1 q.2 := (z_c (ok_ireturn rfl dX12_send_20) (z_c (ok_aload_n dX12_send_21 rfl) (z_c (ok_callV zcal_256 (q := (RX12, TX12, 73)) rfl zw_998 zw_999 zw_1000 dX12_send_22) (z_c (ok_aload_n dX12_send_25 rfl) (z_c (ok_getf (C := RX12) (T := TX12) (N := 73) rfl (by decide) zinX12 rfl zw_753 dX12_send_26) (z_c (ok_iconst (v := (0)) dX12_send_29 (by decide)) (z_c (ok_iaload rfl dX12_send_30) (z_c (ok_istore_n dX12_send_31 rfl) (z_c (ok_iload_n dX12_send_32 rfl) (z_c (ok_iconst (v := (2)) dX12_send_33 (by decide)) (z_c (ok_icmp_ge dX12_send_34 (by decide)) (z_c (ok_iload_n dX12_send_37 rfl) z_n))))))))))))
noncomputable def tX12_send_2 : List (Nat × zF) := [(38, (z_if_ne 59)), (41, (zla4 0 1)), (42, (zgf 12 24)), (45, (zla4 0 1)), (46, (zgf 12 13)), (49, (zal 0)), (50, (zli4 2 1)), (51, (zst 3 (zp (.int (1000))))), (54, (zst 1 z_idiv)), (55, (zst 1 z_isub)), (56, (zgt 64)), (59, (zli4 2 1))]
theorem kX12_send_2 : ∀ q ∈ tX12_send_2, zOk zg iX12_send q.1 q.2 := (z_c (ok_if_ne dX12_send_38 (by decide)) (z_c (ok_aload_n dX12_send_41 rfl) (z_c (ok_getf (C := RX12) (T := TX12) (N := 73) rfl (by decide) zinX12 rfl zw_711 dX12_send_42) (z_c (ok_aload_n dX12_send_45 rfl) (z_c (ok_getf (C := RX12) (T := TX12) (N := 73) rfl (by decide) zinX12 rfl zw_700 dX12_send_46) (z_c (ok_iaload rfl dX12_send_49) (z_c (ok_iload_n dX12_send_50 rfl) (z_c (ok_sipush (v := (1000)) dX12_send_51 (by decide)) (z_c (ok_idiv dX12_send_54) (z_c (ok_isub dX12_send_55) (z_c (ok_goto dX12_send_56 (by decide)) (z_c (ok_iload_n dX12_send_59 rfl) z_n))))))))))))
noncomputable def tX12_send_3 : List (Nat × zF) := [(60, (zst 3 (zp (.int (1000))))), (63, (zst 1 z_irem)), (64, (zri false)), (65, (zst 1 (zp (.int (0))))), (66, (zsi4 9 3 1)), (67, (zst 1 (zp (.int ((-1)))))), (68, (zsi4 9 4 2)), (70, (zst 1 (zp (.int (0))))), (71, (zsi4 9 5 2)), (73, (zli4 5 2)), (75, (zli4 1 1)), (76, (zst 1 (zp (.int (2)))))]
theorem kX12_send_3 : ∀ q ∈ tX12_send_3, zOk zg iX12_send q.1 q.2 := (z_c (ok_sipush (v := (1000)) dX12_send_60 (by decide)) (z_c (ok_irem dX12_send_63) (z_c (ok_ireturn rfl dX12_send_64) (z_c (ok_iconst (v := (0)) dX12_send_65 (by decide)) (z_c (ok_istore_n dX12_send_66 rfl) (z_c (ok_iconst (v := (-1)) dX12_send_67 (by decide)) (z_c (ok_istore dX12_send_68) (z_c (ok_iconst (v := (0)) dX12_send_70 (by decide)) (z_c (ok_istore dX12_send_71) (z_c (ok_iload dX12_send_73) (z_c (ok_iload_n dX12_send_75 rfl) (z_c (ok_iconst (v := (2)) dX12_send_76 (by decide)) z_n))))))))))))
noncomputable def tX12_send_4 : List (Nat × zF) := [(77, (zst 1 z_isub)), (78, (z_ic_gt 218)), (81, (zst 1 (zp (.int ((-1)))))), (82, (zsi4 9 4 2)), (84, (zla4 0 1)), (85, (zgf 12 65)), (88, (zli4 5 2)), (90, (zli4 3 1)), (91, (zcs 254 2)), (94, (zal 0)), (95, (zsi4 9 6 2)), (97, (zst 1 (zp (.int (0)))))]
theorem kX12_send_4 : ∀ q ∈ tX12_send_4, zOk zg iX12_send q.1 q.2 := (z_c (ok_isub dX12_send_77) (z_c (ok_icmp_gt dX12_send_78 (by decide)) (z_c (ok_iconst (v := (-1)) dX12_send_81 (by decide)) (z_c (ok_istore dX12_send_82) (z_c (ok_aload_n dX12_send_84 rfl) (z_c (ok_getf (C := RX12) (T := TX12) (N := 73) rfl (by decide) zinX12 rfl zw_753 dX12_send_85) (z_c (ok_iload dX12_send_88) (z_c (ok_iload_n dX12_send_90 rfl) (z_c (ok_callS zcal_254 zw_993 zw_994 dX12_send_91) (z_c (ok_iaload rfl dX12_send_94) (z_c (ok_istore dX12_send_95) (z_c (ok_iconst (v := (0)) dX12_send_97 (by decide)) z_n))))))))))))
noncomputable def tX12_send_5 : List (Nat × zF) := [(98, (zsi4 9 7 2)), (100, (zli4 7 2)), (102, (zla4 0 1)), (103, (zgf 12 19)), (106, (zla4 0 1)), (107, (zgf 12 13)), (110, (zal 0)), (111, (z_ic_ge 195)), (114, (zli4 4 2)), (116, (zst 1 (zp (.int ((-1)))))), (117, (z_ic_ne 195)), (120, (zst 3 (zp (.int (1000)))))]
theorem kX12_send_5 : ∀ q ∈ tX12_send_5, zOk zg iX12_send q.1 q.2 := (z_c (ok_istore dX12_send_98) (z_c (ok_iload dX12_send_100) (z_c (ok_aload_n dX12_send_102 rfl) (z_c (ok_getf (C := RX12) (T := TX12) (N := 73) rfl (by decide) zinX12 rfl zw_706 dX12_send_103) (z_c (ok_aload_n dX12_send_106 rfl) (z_c (ok_getf (C := RX12) (T := TX12) (N := 73) rfl (by decide) zinX12 rfl zw_700 dX12_send_107) (z_c (ok_iaload rfl dX12_send_110) (z_c (ok_icmp_ge dX12_send_111 (by decide)) (z_c (ok_iload dX12_send_114) (z_c (ok_iconst (v := (-1)) dX12_send_116 (by decide)) (z_c (ok_icmp_ne dX12_send_117 (by decide)) (z_c (ok_sipush (v := (1000)) dX12_send_120 (by decide)) z_n))))))))))))
noncomputable def tX12_send_6 : List (Nat × zF) := [(123, (zla4 0 1)), (124, (zgf 12 65)), (127, (zli4 5 2)), (129, (zst 1 (zp (.int (1))))), (130, (zst 1 z_iadd)), (131, (zli4 3 1)), (132, (zcs 254 2)), (135, (zal 0)), (136, (zst 1 z_iadd)), (137, (zli4 6 2)), (139, (z_ic_eq 195)), (142, (zla4 0 1))]
theorem kX12_send_6 : ∀ q ∈ tX12_send_6, zOk zg iX12_send q.1 q.2 := (z_c (ok_aload_n dX12_send_123 rfl) (z_c (ok_getf (C := RX12) (T := TX12) (N := 73) rfl (by decide) zinX12 rfl zw_753 dX12_send_124) (z_c (ok_iload dX12_send_127) (z_c (ok_iconst (v := (1)) dX12_send_129 (by decide)) (z_c (ok_iadd dX12_send_130) (z_c (ok_iload_n dX12_send_131 rfl) (z_c (ok_callS zcal_254 zw_993 zw_994 dX12_send_132) (z_c (ok_iaload rfl dX12_send_135) (z_c (ok_iadd dX12_send_136) (z_c (ok_iload dX12_send_137) (z_c (ok_icmp_eq dX12_send_139 (by decide)) (z_c (ok_aload_n dX12_send_142 rfl) z_n))))))))))))
noncomputable def tX12_send_7 : List (Nat × zF) := [(143, (zli4 5 2)), (145, (zli4 7 2)), (147, (zli4 3 1)), (148, (zcv 255 3 12)), (151, (zsi4 9 8 2)), (153, (zli4 8 2)), (155, (zst 1 (zp (.int ((-1)))))), (156, (z_ic_eq 189)), (159, (zli4 8 2)), (161, (zla4 0 1)), (162, (zgf 12 65)), (165, (zli4 5 2))]
theorem kX12_send_7 : ∀ q ∈ tX12_send_7, zOk zg iX12_send q.1 q.2 := (z_c (ok_iload dX12_send_143) (z_c (ok_iload dX12_send_145) (z_c (ok_iload_n dX12_send_147 rfl) (z_c (ok_callV zcal_255 (q := (RX12, TX12, 73)) rfl zw_995 zw_996 zw_997 dX12_send_148) (z_c (ok_istore dX12_send_151) (z_c (ok_iload dX12_send_153) (z_c (ok_iconst (v := (-1)) dX12_send_155 (by decide)) (z_c (ok_icmp_eq dX12_send_156 (by decide)) (z_c (ok_iload dX12_send_159) (z_c (ok_aload_n dX12_send_161 rfl) (z_c (ok_getf (C := RX12) (T := TX12) (N := 73) rfl (by decide) zinX12 rfl zw_753 dX12_send_162) (z_c (ok_iload dX12_send_165) z_n))))))))))))
noncomputable def tX12_send_8 : List (Nat × zF) := [(167, (zst 1 (zp (.int (1))))), (168, (zst 1 z_iadd)), (169, (zli4 3 1)), (170, (zst 1 (zp (.int (1))))), (171, (zli4 7 2)), (173, (zst 1 z_ishl)), (174, (zst 1 z_ior)), (175, (zcs 254 2)), (178, (zal 0)), (179, (zst 1 z_iadd)), (180, (zli4 6 2)), (182, (z_ic_ne 189))]
theorem kX12_send_8 : ∀ q ∈ tX12_send_8, zOk zg iX12_send q.1 q.2 := (z_c (ok_iconst (v := (1)) dX12_send_167 (by decide)) (z_c (ok_iadd dX12_send_168) (z_c (ok_iload_n dX12_send_169 rfl) (z_c (ok_iconst (v := (1)) dX12_send_170 (by decide)) (z_c (ok_iload dX12_send_171) (z_c (ok_ishl dX12_send_173) (z_c (ok_ior dX12_send_174) (z_c (ok_callS zcal_254 zw_993 zw_994 dX12_send_175) (z_c (ok_iaload rfl dX12_send_178) (z_c (ok_iadd dX12_send_179) (z_c (ok_iload dX12_send_180) (z_c (ok_icmp_ne dX12_send_182 (by decide)) z_n))))))))))))
noncomputable def tX12_send_9 : List (Nat × zF) := [(185, (zli4 7 2)), (187, (zsi4 9 4 2)), (189, (zin4 9 7 (1))), (192, (zgt 100)), (195, (zli4 3 1)), (196, (zli4 4 2)), (198, (zst 1 (zp (.int ((-1)))))), (199, (z_ic_ne 206)), (202, (zst 1 (zp (.int (0))))), (203, (zgt 210)), (206, (zst 1 (zp (.int (1))))), (207, (zli4 4 2))]
theorem kX12_send_9 : ∀ q ∈ tX12_send_9, zOk zg iX12_send q.1 q.2 := (z_c (ok_iload dX12_send_185) (z_c (ok_istore dX12_send_187) (z_c (ok_iinc (v := (1)) dX12_send_189 (by decide)) (z_c (ok_goto dX12_send_192 (by decide)) (z_c (ok_iload_n dX12_send_195 rfl) (z_c (ok_iload dX12_send_196) (z_c (ok_iconst (v := (-1)) dX12_send_198 (by decide)) (z_c (ok_icmp_ne dX12_send_199 (by decide)) (z_c (ok_iconst (v := (0)) dX12_send_202 (by decide)) (z_c (ok_goto dX12_send_203 (by decide)) (z_c (ok_iconst (v := (1)) dX12_send_206 (by decide)) (z_c (ok_iload dX12_send_207) z_n))))))))))))
noncomputable def tX12_send_10 : List (Nat × zF) := [(209, (zst 1 z_ishl)), (210, (zst 1 z_ior)), (211, (zsi4 9 3 1)), (212, (zin4 9 5 (1))), (215, (zgt 73)), (218, (zli4 4 2)), (220, (zri false))]
theorem kX12_send_10 : ∀ q ∈ tX12_send_10, zOk zg iX12_send q.1 q.2 := (z_c (ok_ishl dX12_send_209) (z_c (ok_ior dX12_send_210) (z_c (ok_istore_n dX12_send_211 rfl) (z_c (ok_iinc (v := (1)) dX12_send_212 (by decide)) (z_c (ok_goto dX12_send_215 (by decide)) (z_c (ok_iload dX12_send_218) (z_c (ok_ireturn rfl dX12_send_220) z_n)))))))
noncomputable def tX12_send : zT := [(20, tX12_send_0), (38, tX12_send_1), (60, tX12_send_2), (77, tX12_send_3), (98, tX12_send_4), (123, tX12_send_5), (143, tX12_send_6), (167, tX12_send_7), (185, tX12_send_8), (209, tX12_send_9), (100000, tX12_send_10)]
theorem kX12_send : zTok zg iX12_send tX12_send := (z_t kX12_send_0 (z_t kX12_send_1 (z_t kX12_send_2 (z_t kX12_send_3 (z_t kX12_send_4 (z_t kX12_send_5 (z_t kX12_send_6 (z_t kX12_send_7 (z_t kX12_send_8 (z_t kX12_send_9 (z_t kX12_send_10 z_tn)))))))))))
