theorem dX12_quaying_0 : decode cX12_quaying 0 = .ok (.aload_n 0, 1) := by decide +kernel
theorem dX12_quaying_1 : decode cX12_quaying 1 = .ok (.ldc2_w 262, 3) := by decide +kernel
theorem dX12_quaying_4 : decode cX12_quaying 4 = .ok (.invokevirtual 366, 3) := by decide +kernel
theorem dX12_quaying_7 : decode cX12_quaying 7 = .ok (.aload_n 0, 1) := by decide +kernel
theorem dX12_quaying_8 : decode cX12_quaying 8 = .ok (.getfield 54, 3) := by decide +kernel
theorem dX12_quaying_11 : decode cX12_quaying 11 = .ok (.aload_n 0, 1) := by decide +kernel
theorem dX12_quaying_12 : decode cX12_quaying 12 = .ok (.getfield 115, 3) := by decide +kernel
theorem dX12_quaying_15 : decode cX12_quaying 15 = .ok (.aload_n 0, 1) := by decide +kernel
theorem dX12_quaying_16 : decode cX12_quaying 16 = .ok (.iconst 3, 1) := by decide +kernel
theorem dX12_quaying_17 : decode cX12_quaying 17 = .ok (.bipush 7, 2) := by decide +kernel
theorem dX12_quaying_19 : decode cX12_quaying 19 = .ok (.invokevirtual 359, 3) := by decide +kernel
theorem dX12_quaying_22 : decode cX12_quaying 22 = .ok (.iastore, 1) := by decide +kernel
theorem dX12_quaying_23 : decode cX12_quaying 23 = .ok (.aload_n 0, 1) := by decide +kernel
theorem dX12_quaying_24 : decode cX12_quaying 24 = .ok (.ldc2_w 264, 3) := by decide +kernel
theorem dX12_quaying_27 : decode cX12_quaying 27 = .ok (.invokevirtual 366, 3) := by decide +kernel
theorem dX12_quaying_30 : decode cX12_quaying 30 = .ok (.aload_n 0, 1) := by decide +kernel
theorem dX12_quaying_31 : decode cX12_quaying 31 = .ok (.getfield 57, 3) := by decide +kernel
theorem dX12_quaying_34 : decode cX12_quaying 34 = .ok (.aload_n 0, 1) := by decide +kernel
theorem dX12_quaying_35 : decode cX12_quaying 35 = .ok (.getfield 115, 3) := by decide +kernel
theorem dX12_quaying_38 : decode cX12_quaying 38 = .ok (.aload_n 0, 1) := by decide +kernel
theorem dX12_quaying_39 : decode cX12_quaying 39 = .ok (.iconst 3, 1) := by decide +kernel
theorem dX12_quaying_40 : decode cX12_quaying 40 = .ok (.bipush 7, 2) := by decide +kernel
theorem dX12_quaying_42 : decode cX12_quaying 42 = .ok (.invokevirtual 359, 3) := by decide +kernel
theorem dX12_quaying_45 : decode cX12_quaying 45 = .ok (.iastore, 1) := by decide +kernel
theorem dX12_quaying_46 : decode cX12_quaying 46 = .ok (.return_, 1) := by decide +kernel
noncomputable def tX12_quaying_0 : List (Nat × zF) := [(0, (zla4 0 1)), (1, (zst 3 (zp (.long (1903518073))))), (4, (zcv 192 1 12)), (7, (zla4 0 1)), (8, (zgf 12 14)), (11, (zla4 0 1)), (12, (zgf 12 34)), (15, (zla4 0 1)), (16, (zst 1 (zp (.int (3))))), (17, (zst 2 (zp (.int (7))))), (19, (zcv 180 2 12)), (22, (zas 0))]
theorem kX12_quaying_0 : ∀ q ∈ tX12_quaying_0, zOk zg iX12_quaying q.1 q.2 := (z_c (ok_aload_n dX12_quaying_0 rfl) (z_c (ok_ldc2 (v := (1903518073)) zw_783 dX12_quaying_1) (z_c (ok_callV zcal_192 (q := (RX12, TX12, 73)) rfl zw_854 zw_855 zw_856 dX12_quaying_4) (z_c (ok_aload_n dX12_quaying_7 rfl) (z_c (ok_getf (C := RX12) (T := TX12) (N := 73) rfl (by decide) zinX12 rfl zw_701 dX12_quaying_8) (z_c (ok_aload_n dX12_quaying_11 rfl) (z_c (ok_getf (C := RX12) (T := TX12) (N := 73) rfl (by decide) zinX12 rfl zw_721 dX12_quaying_12) (z_c (ok_aload_n dX12_quaying_15 rfl) (z_c (ok_iconst (v := (3)) dX12_quaying_16 (by decide)) (z_c (ok_bipush (v := (7)) dX12_quaying_17 (by decide)) (z_c (ok_callV zcal_180 (q := (RX12, TX12, 73)) rfl zw_848 zw_849 zw_850 dX12_quaying_19) (z_c (ok_iastore rfl dX12_quaying_22) z_n))))))))))))
noncomputable def tX12_quaying_1 : List (Nat × zF) := [(23, (zla4 0 1)), (24, (zst 3 (zp (.long (25209))))), (27, (zcv 192 1 12)), (30, (zla4 0 1)), (31, (zgf 12 15)), (34, (zla4 0 1)), (35, (zgf 12 34)), (38, (zla4 0 1)), (39, (zst 1 (zp (.int (3))))), (40, (zst 2 (zp (.int (7))))), (42, (zcv 180 2 12)), (45, (zas 0))]
theorem kX12_quaying_1 : ∀ q ∈ tX12_quaying_1, zOk zg iX12_quaying q.1 q.2 := (z_c (ok_aload_n dX12_quaying_23 rfl) (z_c (ok_ldc2 (v := (25209)) zw_784 dX12_quaying_24) (z_c (ok_callV zcal_192 (q := (RX12, TX12, 73)) rfl zw_854 zw_855 zw_856 dX12_quaying_27) (z_c (ok_aload_n dX12_quaying_30 rfl) (z_c (ok_getf (C := RX12) (T := TX12) (N := 73) rfl (by decide) zinX12 rfl zw_702 dX12_quaying_31) (z_c (ok_aload_n dX12_quaying_34 rfl) (z_c (ok_getf (C := RX12) (T := TX12) (N := 73) rfl (by decide) zinX12 rfl zw_721 dX12_quaying_35) (z_c (ok_aload_n dX12_quaying_38 rfl) (z_c (ok_iconst (v := (3)) dX12_quaying_39 (by decide)) (z_c (ok_bipush (v := (7)) dX12_quaying_40 (by decide)) (z_c (ok_callV zcal_180 (q := (RX12, TX12, 73)) rfl zw_848 zw_849 zw_850 dX12_quaying_42) (z_c (ok_iastore rfl dX12_quaying_45) z_n))))))))))))
noncomputable def tX12_quaying_2 : List (Nat × zF) := [(46, zrv)]
theorem kX12_quaying_2 : ∀ q ∈ tX12_quaying_2, zOk zg iX12_quaying q.1 q.2 := (z_c (ok_return rfl dX12_quaying_46) z_n)
noncomputable def tX12_quaying : zT := [(23, tX12_quaying_0), (46, tX12_quaying_1), (100000, tX12_quaying_2)]
theorem kX12_quaying : zTok zg iX12_quaying tX12_quaying := (z_t kX12_quaying_0 (z_t kX12_quaying_1 (z_t kX12_quaying_2 z_tn)))
theorem dX12_telling_0 : decode cX12_telling 0 = .ok (.aload_n 0, 1) := by decide +kernel
theorem dX12_telling_1 : decode cX12_telling 1 = .ok (.iconst 0, 1) := by decide +kernel
theorem dX12_telling_2 : decode cX12_telling 2 = .ok (.invokevirtual 370, 3) := by decide +kernel
theorem dX12_telling_5 : decode cX12_telling 5 = .ok (.ifCond .ne 5, 3) := by decide +kernel
theorem dX12_telling_8 : decode cX12_telling 8 = .ok (.iconst 0, 1) := by decide +kernel
theorem dX12_telling_9 : decode cX12_telling 9 = .ok (.ireturn, 1) := by decide +kernel
theorem dX12_telling_10 : decode cX12_telling 10 = .ok (.aload_n 0, 1) := by decide +kernel
theorem dX12_telling_11 : decode cX12_telling 11 = .ok (.iload_n 1, 1) := by decide +kernel
theorem dX12_telling_12 : decode cX12_telling 12 = .ok (.iload_n 2, 1) := by decide +kernel
theorem dX12_telling_13 : decode cX12_telling 13 = .ok (.invokevirtual 359, 3) := by decide +kernel
theorem dX12_telling_16 : decode cX12_telling 16 = .ok (.ireturn, 1) := by decide +kernel
noncomputable def tX12_telling_0 : List (Nat × zF) := [(0, (zla4 0 1)), (1, (zst 1 (zp (.int (0))))), (2, (zcv 191 1 12)), (5, (z_if_ne 10)), (8, (zst 1 (zp (.int (0))))), (9, (zri false)), (10, (zla4 0 1)), (11, (zli4 1 1)), (12, (zli4 2 1)), (13, (zcv 180 2 12)), (16, (zri false))]
theorem kX12_telling_0 : ∀ q ∈ tX12_telling_0, zOk zg iX12_telling q.1 q.2 := (z_c (ok_aload_n dX12_telling_0 rfl) (z_c (ok_iconst (v := (0)) dX12_telling_1 (by decide)) (z_c (ok_callV zcal_191 (q := (RX12, TX12, 73)) rfl zw_857 zw_858 zw_859 dX12_telling_2) (z_c (ok_if_ne dX12_telling_5 (by decide)) (z_c (ok_iconst (v := (0)) dX12_telling_8 (by decide)) (z_c (ok_ireturn rfl dX12_telling_9) (z_c (ok_aload_n dX12_telling_10 rfl) (z_c (ok_iload_n dX12_telling_11 rfl) (z_c (ok_iload_n dX12_telling_12 rfl) (z_c (ok_callV zcal_180 (q := (RX12, TX12, 73)) rfl zw_848 zw_849 zw_850 dX12_telling_13) (z_c (ok_ireturn rfl dX12_telling_16) z_n)))))))))))
noncomputable def tX12_telling : zT := [(100000, tX12_telling_0)]
theorem kX12_telling : zTok zg iX12_telling tX12_telling := (z_t kX12_telling_0 z_tn)
theorem dX12_walling_0 : decode cX12_walling 0 = .ok (.aload_n 0, 1) := by decide +kernel
theorem dX12_walling_1 : decode cX12_walling 1 = .ok (.iconst 0, 1) := by decide +kernel
theorem dX12_walling_2 : decode cX12_walling 2 = .ok (.invokevirtual 370, 3) := by decide +kernel
theorem dX12_walling_5 : decode cX12_walling 5 = .ok (.ifCond .ne 4, 3) := by decide +kernel
theorem dX12_walling_8 : decode cX12_walling 8 = .ok (.return_, 1) := by decide +kernel
theorem dX12_walling_9 : decode cX12_walling 9 = .ok (.aload_n 0, 1) := by decide +kernel
theorem dX12_walling_10 : decode cX12_walling 10 = .ok (.iconst 1, 1) := by decide +kernel
theorem dX12_walling_11 : decode cX12_walling 11 = .ok (.invokevirtual 374, 3) := by decide +kernel
theorem dX12_walling_14 : decode cX12_walling 14 = .ok (.istore_n 1, 1) := by decide +kernel
theorem dX12_walling_15 : decode cX12_walling 15 = .ok (.aload_n 0, 1) := by decide +kernel
theorem dX12_walling_16 : decode cX12_walling 16 = .ok (.getfield 36, 3) := by decide +kernel
theorem dX12_walling_19 : decode cX12_walling 19 = .ok (.ifCond .ne 18, 3) := by decide +kernel
theorem dX12_walling_22 : decode cX12_walling 22 = .ok (.aload_n 0, 1) := by decide +kernel
theorem dX12_walling_23 : decode cX12_walling 23 = .ok (.getfield 66, 3) := by decide +kernel
theorem dX12_walling_26 : decode cX12_walling 26 = .ok (.bipush 64, 2) := by decide +kernel
theorem dX12_walling_28 : decode cX12_walling 28 = .ok (.aload_n 0, 1) := by decide +kernel
theorem dX12_walling_29 : decode cX12_walling 29 = .ok (.getfield 115, 3) := by decide +kernel
theorem dX12_walling_32 : decode cX12_walling 32 = .ok (.imul, 1) := by decide +kernel
theorem dX12_walling_33 : decode cX12_walling 33 = .ok (.iload_n 1, 1) := by decide +kernel
theorem dX12_walling_34 : decode cX12_walling 34 = .ok (.iadd, 1) := by decide +kernel
theorem dX12_walling_35 : decode cX12_walling 35 = .ok (.iconst 1, 1) := by decide +kernel
theorem dX12_walling_36 : decode cX12_walling 36 = .ok (.iastore, 1) := by decide +kernel
theorem dX12_walling_37 : decode cX12_walling 37 = .ok (.return_, 1) := by decide +kernel
noncomputable def tX12_walling_0 : List (Nat × zF) := [(0, (zla4 0 1)), (1, (zst 1 (zp (.int (0))))), (2, (zcv 191 1 12)), (5, (z_if_ne 9)), (8, zrv), (9, (zla4 0 1)), (10, (zst 1 (zp (.int (1))))), (11, (zcv 196 1 12)), (14, (zsi4 2 1 1)), (15, (zla4 0 1)), (16, (zgf 12 8)), (19, (z_if_ne 37))]
theorem kX12_walling_0 : ∀ q ∈ tX12_walling_0, zOk zg iX12_walling q.1 q.2 := (z_c (ok_aload_n dX12_walling_0 rfl) (z_c (ok_iconst (v := (0)) dX12_walling_1 (by decide)) (z_c (ok_callV zcal_191 (q := (RX12, TX12, 73)) rfl zw_857 zw_858 zw_859 dX12_walling_2) (z_c (ok_if_ne dX12_walling_5 (by decide)) (z_c (ok_return rfl dX12_walling_8) (z_c (ok_aload_n dX12_walling_9 rfl) (z_c (ok_iconst (v := (1)) dX12_walling_10 (by decide)) (z_c (ok_callV zcal_196 (q := (RX12, TX12, 73)) rfl zw_860 zw_861 zw_862 dX12_walling_11) (z_c (ok_istore_n dX12_walling_14 rfl) (z_c (ok_aload_n dX12_walling_15 rfl) (z_c (ok_getf (C := RX12) (T := TX12) (N := 73) rfl (by decide) zinX12 rfl zw_695 dX12_walling_16) (z_c (ok_if_ne dX12_walling_19 (by decide)) z_n))))))))))))
noncomputable def tX12_walling_1 : List (Nat × zF) := [(22, (zla4 0 1)), (23, (zgf 12 18)), (26, (zst 2 (zp (.int (64))))), (28, (zla4 0 1)), (29, (zgf 12 34)), (32, (zst 1 z_imul)), (33, (zli4 1 1)), (34, (zst 1 z_iadd)), (35, (zst 1 (zp (.int (1))))), (36, (zas 0)), (37, zrv)]
theorem kX12_walling_1 : ∀ q ∈ tX12_walling_1, zOk zg iX12_walling q.1 q.2 := (z_c (ok_aload_n dX12_walling_22 rfl) (z_c (ok_getf (C := RX12) (T := TX12) (N := 73) rfl (by decide) zinX12 rfl zw_705 dX12_walling_23) (z_c (ok_bipush (v := (64)) dX12_walling_26 (by decide)) (z_c (ok_aload_n dX12_walling_28 rfl) (z_c (ok_getf (C := RX12) (T := TX12) (N := 73) rfl (by decide) zinX12 rfl zw_721 dX12_walling_29) (z_c (ok_imul dX12_walling_32) (z_c (ok_iload_n dX12_walling_33 rfl) (z_c (ok_iadd dX12_walling_34) (z_c (ok_iconst (v := (1)) dX12_walling_35 (by decide)) (z_c (ok_iastore rfl dX12_walling_36) (z_c (ok_return rfl dX12_walling_37) z_n)))))))))))
noncomputable def tX12_walling : zT := [(22, tX12_walling_0), (100000, tX12_walling_1)]
theorem kX12_walling : zTok zg iX12_walling tX12_walling := (z_t kX12_walling_0 (z_t kX12_walling_1 z_tn))
theorem dX12_lacking_0 : decode cX12_lacking 0 = .ok (.aload_n 0, 1) := by decide +kernel
theorem dX12_lacking_1 : decode cX12_lacking 1 = .ok (.aload_n 0, 1) := by decide +kernel
theorem dX12_lacking_2 : decode cX12_lacking 2 = .ok (.getfield 69, 3) := by decide +kernel
theorem dX12_lacking_5 : decode cX12_lacking 5 = .ok (.aload_n 0, 1) := by decide +kernel
theorem dX12_lacking_6 : decode cX12_lacking 6 = .ok (.getfield 115, 3) := by decide +kernel
theorem dX12_lacking_9 : decode cX12_lacking 9 = .ok (.iaload, 1) := by decide +kernel
theorem dX12_lacking_10 : decode cX12_lacking 10 = .ok (.bipush 9, 2) := by decide +kernel
theorem dX12_lacking_12 : decode cX12_lacking 12 = .ok (.if_icmp .ne 7, 3) := by decide +kernel
theorem dX12_lacking_15 : decode cX12_lacking 15 = .ok (.iconst 1, 1) := by decide +kernel
theorem dX12_lacking_16 : decode cX12_lacking 16 = .ok (.goto 4, 3) := by decide +kernel
theorem dX12_lacking_19 : decode cX12_lacking 19 = .ok (.iconst 0, 1) := by decide +kernel
theorem dX12_lacking_20 : decode cX12_lacking 20 = .ok (.invokevirtual 370, 3) := by decide +kernel
theorem dX12_lacking_23 : decode cX12_lacking 23 = .ok (.ifCond .ne 4, 3) := by decide +kernel
theorem dX12_lacking_26 : decode cX12_lacking 26 = .ok (.return_, 1) := by decide +kernel
theorem dX12_lacking_27 : decode cX12_lacking 27 = .ok (.bipush 9, 2) := by decide +kernel
theorem dX12_lacking_29 : decode cX12_lacking 29 = .ok (.aload_n 0, 1) := by decide +kernel
theorem dX12_lacking_30 : decode cX12_lacking 30 = .ok (.getfield 115, 3) := by decide +kernel
theorem dX12_lacking_33 : decode cX12_lacking 33 = .ok (.imul, 1) := by decide +kernel
theorem dX12_lacking_34 : decode cX12_lacking 34 = .ok (.aload_n 0, 1) := by decide +kernel
theorem dX12_lacking_35 : decode cX12_lacking 35 = .ok (.getfield 69, 3) := by decide +kernel
theorem dX12_lacking_38 : decode cX12_lacking 38 = .ok (.aload_n 0, 1) := by decide +kernel
theorem dX12_lacking_39 : decode cX12_lacking 39 = .ok (.getfield 115, 3) := by decide +kernel
theorem dX12_lacking_42 : decode cX12_lacking 42 = .ok (.iaload, 1) := by decide +kernel
theorem dX12_lacking_43 : decode cX12_lacking 43 = .ok (.iadd, 1) := by decide +kernel
theorem dX12_lacking_44 : decode cX12_lacking 44 = .ok (.istore_n 1, 1) := by decide +kernel
theorem dX12_lacking_45 : decode cX12_lacking 45 = .ok (.aload_n 0, 1) := by decide +kernel
theorem dX12_lacking_46 : decode cX12_lacking 46 = .ok (.getfield 105, 3) := by decide +kernel
theorem dX12_lacking_49 : decode cX12_lacking 49 = .ok (.iload_n 1, 1) := by decide +kernel
theorem dX12_lacking_50 : decode cX12_lacking 50 = .ok (.aload_n 0, 1) := by decide +kernel
theorem dX12_lacking_51 : decode cX12_lacking 51 = .ok (.invokevirtual 378, 3) := by decide +kernel
theorem dX12_lacking_54 : decode cX12_lacking 54 = .ok (.lastore, 1) := by decide +kernel
theorem dX12_lacking_55 : decode cX12_lacking 55 = .ok (.aload_n 0, 1) := by decide +kernel
theorem dX12_lacking_56 : decode cX12_lacking 56 = .ok (.ldc2_w 274, 3) := by decide +kernel
theorem dX12_lacking_59 : decode cX12_lacking 59 = .ok (.invokevirtual 366, 3) := by decide +kernel
theorem dX12_lacking_62 : decode cX12_lacking 62 = .ok (.aload_n 0, 1) := by decide +kernel
theorem dX12_lacking_63 : decode cX12_lacking 63 = .ok (.getfield 72, 3) := by decide +kernel
theorem dX12_lacking_66 : decode cX12_lacking 66 = .ok (.iload_n 1, 1) := by decide +kernel
theorem dX12_lacking_67 : decode cX12_lacking 67 = .ok (.aload_n 0, 1) := by decide +kernel
theorem dX12_lacking_68 : decode cX12_lacking 68 = .ok (.iconst 0, 1) := by decide +kernel
theorem dX12_lacking_69 : decode cX12_lacking 69 = .ok (.invokevirtual 374, 3) := by decide +kernel
theorem dX12_lacking_72 : decode cX12_lacking 72 = .ok (.iastore, 1) := by decide +kernel
theorem dX12_lacking_73 : decode cX12_lacking 73 = .ok (.aload_n 0, 1) := by decide +kernel
theorem dX12_lacking_74 : decode cX12_lacking 74 = .ok (.ldc2_w 276, 3) := by decide +kernel
theorem dX12_lacking_77 : decode cX12_lacking 77 = .ok (.invokevirtual 366, 3) := by decide +kernel
theorem dX12_lacking_80 : decode cX12_lacking 80 = .ok (.aload_n 0, 1) := by decide +kernel
theorem dX12_lacking_81 : decode cX12_lacking 81 = .ok (.getfield 75, 3) := by decide +kernel
theorem dX12_lacking_84 : decode cX12_lacking 84 = .ok (.iload_n 1, 1) := by decide +kernel
theorem dX12_lacking_85 : decode cX12_lacking 85 = .ok (.aload_n 0, 1) := by decide +kernel
theorem dX12_lacking_86 : decode cX12_lacking 86 = .ok (.iconst 1, 1) := by decide +kernel
theorem dX12_lacking_87 : decode cX12_lacking 87 = .ok (.bipush 9, 2) := by decide +kernel
theorem dX12_lacking_89 : decode cX12_lacking 89 = .ok (.invokevirtual 359, 3) := by decide +kernel
theorem dX12_lacking_92 : decode cX12_lacking 92 = .ok (.iastore, 1) := by decide +kernel
theorem dX12_lacking_93 : decode cX12_lacking 93 = .ok (.aload_n 0, 1) := by decide +kernel
theorem dX12_lacking_94 : decode cX12_lacking 94 = .ok (.ldc2_w 278, 3) := by decide +kernel
theorem dX12_lacking_97 : decode cX12_lacking 97 = .ok (.invokevirtual 366, 3) := by decide +kernel
theorem dX12_lacking_100 : decode cX12_lacking 100 = .ok (.aload_n 0, 1) := by decide +kernel
theorem dX12_lacking_101 : decode cX12_lacking 101 = .ok (.getfield 78, 3) := by decide +kernel
theorem dX12_lacking_104 : decode cX12_lacking 104 = .ok (.iload_n 1, 1) := by decide +kernel
theorem dX12_lacking_105 : decode cX12_lacking 105 = .ok (.aload_n 0, 1) := by decide +kernel
theorem dX12_lacking_106 : decode cX12_lacking 106 = .ok (.iconst 0, 1) := by decide +kernel
theorem dX12_lacking_107 : decode cX12_lacking 107 = .ok (.bipush 9, 2) := by decide +kernel
theorem dX12_lacking_109 : decode cX12_lacking 109 = .ok (.invokevirtual 359, 3) := by decide +kernel
theorem dX12_lacking_112 : decode cX12_lacking 112 = .ok (.iastore, 1) := by decide +kernel
theorem dX12_lacking_113 : decode cX12_lacking 113 = .ok (.aload_n 0, 1) := by decide +kernel
theorem dX12_lacking_114 : decode cX12_lacking 114 = .ok (.getfield 36, 3) := by decide +kernel
theorem dX12_lacking_117 : decode cX12_lacking 117 = .ok (.ifCond .ne 16, 3) := by decide +kernel
theorem dX12_lacking_120 : decode cX12_lacking 120 = .ok (.aload_n 0, 1) := by decide +kernel
theorem dX12_lacking_121 : decode cX12_lacking 121 = .ok (.getfield 69, 3) := by decide +kernel
theorem dX12_lacking_124 : decode cX12_lacking 124 = .ok (.aload_n 0, 1) := by decide +kernel
theorem dX12_lacking_125 : decode cX12_lacking 125 = .ok (.getfield 115, 3) := by decide +kernel
theorem dX12_lacking_128 : decode cX12_lacking 128 = .ok (.dup2, 1) := by decide +kernel
theorem dX12_lacking_129 : decode cX12_lacking 129 = .ok (.iaload, 1) := by decide +kernel
theorem dX12_lacking_130 : decode cX12_lacking 130 = .ok (.iconst 1, 1) := by decide +kernel
theorem dX12_lacking_131 : decode cX12_lacking 131 = .ok (.iadd, 1) := by decide +kernel
theorem dX12_lacking_132 : decode cX12_lacking 132 = .ok (.iastore, 1) := by decide +kernel
theorem dX12_lacking_133 : decode cX12_lacking 133 = .ok (.return_, 1) := by decide +kernel
noncomputable def tX12_lacking_0 : List (Nat × zF) := [(0, (zla4 0 1)), (1, (zla4 0 1)), (2, (zgf 12 19)), (5, (zla4 0 1)), (6, (zgf 12 34)), (9, (zal 0)), (10, (zst 2 (zp (.int (9))))), (12, (z_ic_ne 19)), (15, (zst 1 (zp (.int (1))))), (16, (zgt 20)), (19, (zst 1 (zp (.int (0))))), (20, (zcv 191 1 12))]
theorem kX12_lacking_0 : ∀ q ∈ tX12_lacking_0, zOk zg iX12_lacking q.1 q.2 := (z_c (ok_aload_n dX12_lacking_0 rfl) (z_c (ok_aload_n dX12_lacking_1 rfl) (z_c (ok_getf (C := RX12) (T := TX12) (N := 73) rfl (by decide) zinX12 rfl zw_706 dX12_lacking_2) (z_c (ok_aload_n dX12_lacking_5 rfl) (z_c (ok_getf (C := RX12) (T := TX12) (N := 73) rfl (by decide) zinX12 rfl zw_721 dX12_lacking_6) (z_c (ok_iaload rfl dX12_lacking_9) (z_c (ok_bipush (v := (9)) dX12_lacking_10 (by decide)) (z_c (ok_icmp_ne dX12_lacking_12 (by decide)) (z_c (ok_iconst (v := (1)) dX12_lacking_15 (by decide)) (z_c (ok_goto dX12_lacking_16 (by decide)) (z_c (ok_iconst (v := (0)) dX12_lacking_19 (by decide)) (z_c (ok_callV zcal_191 (q := (RX12, TX12, 73)) rfl zw_857 zw_858 zw_859 dX12_lacking_20) z_n))))))))))))
noncomputable def tX12_lacking_1 : List (Nat × zF) := [(23, (z_if_ne 27)), (26, zrv), (27, (zst 2 (zp (.int (9))))), (29, (zla4 0 1)), (30, (zgf 12 34)), (33, (zst 1 z_imul)), (34, (zla4 0 1)), (35, (zgf 12 19)), (38, (zla4 0 1)), (39, (zgf 12 34)), (42, (zal 0)), (43, (zst 1 z_iadd))]
theorem kX12_lacking_1 : ∀ q ∈ tX12_lacking_1, zOk zg iX12_lacking q.1 q.2 := (z_c (ok_if_ne dX12_lacking_23 (by decide)) (z_c (ok_return rfl dX12_lacking_26) (z_c (ok_bipush (v := (9)) dX12_lacking_27 (by decide)) (z_c (ok_aload_n dX12_lacking_29 rfl) (z_c (ok_getf (C := RX12) (T := TX12) (N := 73) rfl (by decide) zinX12 rfl zw_721 dX12_lacking_30) (z_c (ok_imul dX12_lacking_33) (z_c (ok_aload_n dX12_lacking_34 rfl) (z_c (ok_getf (C := RX12) (T := TX12) (N := 73) rfl (by decide) zinX12 rfl zw_706 dX12_lacking_35) (z_c (ok_aload_n dX12_lacking_38 rfl) (z_c (ok_getf (C := RX12) (T := TX12) (N := 73) rfl (by decide) zinX12 rfl zw_721 dX12_lacking_39) (z_c (ok_iaload rfl dX12_lacking_42) (z_c (ok_iadd dX12_lacking_43) z_n))))))))))))
noncomputable def tX12_lacking_2 : List (Nat × zF) := [(44, (zsi4 2 1 1)), (45, (zla4 0 1)), (46, (zgf 12 31)), (49, (zli4 1 1)), (50, (zla4 0 1)), (51, (zcv 194 0 12)), (54, (zla 1)), (55, (zla4 0 1)), (56, (zst 3 (zp (.long (24948))))), (59, (zcv 192 1 12)), (62, (zla4 0 1)), (63, (zgf 12 20))]
theorem kX12_lacking_2 : ∀ q ∈ tX12_lacking_2, zOk zg iX12_lacking q.1 q.2 := (z_c (ok_istore_n dX12_lacking_44 rfl) (z_c (ok_aload_n dX12_lacking_45 rfl) (z_c (ok_getf (C := RX12) (T := TX12) (N := 73) rfl (by decide) zinX12 rfl zw_718 dX12_lacking_46) (z_c (ok_iload_n dX12_lacking_49 rfl) (z_c (ok_aload_n dX12_lacking_50 rfl) (z_c (ok_callV zcal_194 (q := (RX12, TX12, 73)) rfl zw_863 zw_864 zw_865 dX12_lacking_51) (z_c (ok_lastore rfl dX12_lacking_54) (z_c (ok_aload_n dX12_lacking_55 rfl) (z_c (ok_ldc2 (v := (24948)) zw_789 dX12_lacking_56) (z_c (ok_callV zcal_192 (q := (RX12, TX12, 73)) rfl zw_854 zw_855 zw_856 dX12_lacking_59) (z_c (ok_aload_n dX12_lacking_62 rfl) (z_c (ok_getf (C := RX12) (T := TX12) (N := 73) rfl (by decide) zinX12 rfl zw_707 dX12_lacking_63) z_n))))))))))))
noncomputable def tX12_lacking_3 : List (Nat × zF) := [(66, (zli4 1 1)), (67, (zla4 0 1)), (68, (zst 1 (zp (.int (0))))), (69, (zcv 196 1 12)), (72, (zas 0)), (73, (zla4 0 1)), (74, (zst 3 (zp (.long (6845797))))), (77, (zcv 192 1 12)), (80, (zla4 0 1)), (81, (zgf 12 21)), (84, (zli4 1 1)), (85, (zla4 0 1))]
theorem kX12_lacking_3 : ∀ q ∈ tX12_lacking_3, zOk zg iX12_lacking q.1 q.2 := (z_c (ok_iload_n dX12_lacking_66 rfl) (z_c (ok_aload_n dX12_lacking_67 rfl) (z_c (ok_iconst (v := (0)) dX12_lacking_68 (by decide)) (z_c (ok_callV zcal_196 (q := (RX12, TX12, 73)) rfl zw_860 zw_861 zw_862 dX12_lacking_69) (z_c (ok_iastore rfl dX12_lacking_72) (z_c (ok_aload_n dX12_lacking_73 rfl) (z_c (ok_ldc2 (v := (6845797)) zw_790 dX12_lacking_74) (z_c (ok_callV zcal_192 (q := (RX12, TX12, 73)) rfl zw_854 zw_855 zw_856 dX12_lacking_77) (z_c (ok_aload_n dX12_lacking_80 rfl) (z_c (ok_getf (C := RX12) (T := TX12) (N := 73) rfl (by decide) zinX12 rfl zw_708 dX12_lacking_81) (z_c (ok_iload_n dX12_lacking_84 rfl) (z_c (ok_aload_n dX12_lacking_85 rfl) z_n))))))))))))
noncomputable def tX12_lacking_4 : List (Nat × zF) := [(86, (zst 1 (zp (.int (1))))), (87, (zst 2 (zp (.int (9))))), (89, (zcv 180 2 12)), (92, (zas 0)), (93, (zla4 0 1)), (94, (zst 3 (zp (.long (1751738216))))), (97, (zcv 192 1 12)), (100, (zla4 0 1)), (101, (zgf 12 22)), (104, (zli4 1 1)), (105, (zla4 0 1)), (106, (zst 1 (zp (.int (0)))))]
theorem kX12_lacking_4 : ∀ q ∈ tX12_lacking_4, zOk zg iX12_lacking q.1 q.2 := (z_c (ok_iconst (v := (1)) dX12_lacking_86 (by decide)) (z_c (ok_bipush (v := (9)) dX12_lacking_87 (by decide)) (z_c (ok_callV zcal_180 (q := (RX12, TX12, 73)) rfl zw_848 zw_849 zw_850 dX12_lacking_89) (z_c (ok_iastore rfl dX12_lacking_92) (z_c (ok_aload_n dX12_lacking_93 rfl) (z_c (ok_ldc2 (v := (1751738216)) zw_791 dX12_lacking_94) (z_c (ok_callV zcal_192 (q := (RX12, TX12, 73)) rfl zw_854 zw_855 zw_856 dX12_lacking_97) (z_c (ok_aload_n dX12_lacking_100 rfl) (z_c (ok_getf (C := RX12) (T := TX12) (N := 73) rfl (by decide) zinX12 rfl zw_709 dX12_lacking_101) (z_c (ok_iload_n dX12_lacking_104 rfl) (z_c (ok_aload_n dX12_lacking_105 rfl) (z_c (ok_iconst (v := (0)) dX12_lacking_106 (by decide)) z_n))))))))))))
noncomputable def tX12_lacking_5 : List (Nat × zF) := [(107, (zst 2 (zp (.int (9))))), (109, (zcv 180 2 12)), (112, (zas 0)), (113, (zla4 0 1)), (114, (zgf 12 8)), (117, (z_if_ne 133)), (120, (zla4 0 1)), (121, (zgf 12 19)), (124, (zla4 0 1)), (125, (zgf 12 34)), (128, (zst 1 zd2)), (129, (zal 0))]
theorem kX12_lacking_5 : ∀ q ∈ tX12_lacking_5, zOk zg iX12_lacking q.1 q.2 := (z_c (ok_bipush (v := (9)) dX12_lacking_107 (by decide)) (z_c (ok_callV zcal_180 (q := (RX12, TX12, 73)) rfl zw_848 zw_849 zw_850 dX12_lacking_109) (z_c (ok_iastore rfl dX12_lacking_112) (z_c (ok_aload_n dX12_lacking_113 rfl) (z_c (ok_getf (C := RX12) (T := TX12) (N := 73) rfl (by decide) zinX12 rfl zw_695 dX12_lacking_114) (z_c (ok_if_ne dX12_lacking_117 (by decide)) (z_c (ok_aload_n dX12_lacking_120 rfl) (z_c (ok_getf (C := RX12) (T := TX12) (N := 73) rfl (by decide) zinX12 rfl zw_706 dX12_lacking_121) (z_c (ok_aload_n dX12_lacking_124 rfl) (z_c (ok_getf (C := RX12) (T := TX12) (N := 73) rfl (by decide) zinX12 rfl zw_721 dX12_lacking_125) (z_c (ok_dup2 dX12_lacking_128) (z_c (ok_iaload rfl dX12_lacking_129) z_n))))))))))))
noncomputable def tX12_lacking_6 : List (Nat × zF) := [(130, (zst 1 (zp (.int (1))))), (131, (zst 1 z_iadd)), (132, (zas 0)), (133, zrv)]
theorem kX12_lacking_6 : ∀ q ∈ tX12_lacking_6, zOk zg iX12_lacking q.1 q.2 := (z_c (ok_iconst (v := (1)) dX12_lacking_130 (by decide)) (z_c (ok_iadd dX12_lacking_131) (z_c (ok_iastore rfl dX12_lacking_132) (z_c (ok_return rfl dX12_lacking_133) z_n))))
noncomputable def tX12_lacking : zT := [(23, tX12_lacking_0), (44, tX12_lacking_1), (66, tX12_lacking_2), (86, tX12_lacking_3), (107, tX12_lacking_4), (130, tX12_lacking_5), (100000, tX12_lacking_6)]
theorem kX12_lacking : zTok zg iX12_lacking tX12_lacking := (z_t kX12_lacking_0 (z_t kX12_lacking_1 (z_t kX12_lacking_2 (z_t kX12_lacking_3 (z_t kX12_lacking_4 (z_t kX12_lacking_5 (z_t kX12_lacking_6 z_tn)))))))
theorem dX12_having_0 : decode cX12_having 0 = .ok (.aload_n 0, 1) := by decide +kernel
theorem dX12_having_1 : decode cX12_having 1 = .ok (.iconst 0, 1) := by decide +kernel
theorem dX12_having_2 : decode cX12_having 2 = .ok (.invokevirtual 370, 3) := by decide +kernel
theorem dX12_having_5 : decode cX12_having 5 = .ok (.ifCond .ne 4, 3) := by decide +kernel
theorem dX12_having_8 : decode cX12_having 8 = .ok (.return_, 1) := by decide +kernel
theorem dX12_having_9 : decode cX12_having 9 = .ok (.aload_n 0, 1) := by decide +kernel
theorem dX12_having_10 : decode cX12_having 10 = .ok (.invokevirtual 253, 3) := by decide +kernel
theorem dX12_having_13 : decode cX12_having 13 = .ok (.aload_n 0, 1) := by decide +kernel
theorem dX12_having_14 : decode cX12_having 14 = .ok (.getfield 36, 3) := by decide +kernel
theorem dX12_having_17 : decode cX12_having 17 = .ok (.ifCond .le 4, 3) := by decide +kernel
theorem dX12_having_20 : decode cX12_having 20 = .ok (.return_, 1) := by decide +kernel
theorem dX12_having_21 : decode cX12_having 21 = .ok (.aload_n 0, 1) := by decide +kernel
theorem dX12_having_22 : decode cX12_having 22 = .ok (.getfield 20, 3) := by decide +kernel
theorem dX12_having_25 : decode cX12_having 25 = .ok (.iconst 1, 1) := by decide +kernel
theorem dX12_having_26 : decode cX12_having 26 = .ok (.if_icmp .ne 14, 3) := by decide +kernel
theorem dX12_having_29 : decode cX12_having 29 = .ok (.aload_n 0, 1) := by decide +kernel
theorem dX12_having_30 : decode cX12_having 30 = .ok (.aload_n 0, 1) := by decide +kernel
theorem dX12_having_31 : decode cX12_having 31 = .ok (.getfield 32, 3) := by decide +kernel
theorem dX12_having_34 : decode cX12_having 34 = .ok (.invokevirtual 353, 3) := by decide +kernel
theorem dX12_having_37 : decode cX12_having 37 = .ok (.ifCond .eq 12, 3) := by decide +kernel
theorem dX12_having_40 : decode cX12_having 40 = .ok (.aload_n 0, 1) := by decide +kernel
theorem dX12_having_41 : decode cX12_having 41 = .ok (.iconst 1, 1) := by decide +kernel
theorem dX12_having_42 : decode cX12_having 42 = .ok (.aload_n 0, 1) := by decide +kernel
theorem dX12_having_43 : decode cX12_having 43 = .ok (.getfield 23, 3) := by decide +kernel
theorem dX12_having_46 : decode cX12_having 46 = .ok (.invokevirtual 242, 3) := by decide +kernel
theorem dX12_having_49 : decode cX12_having 49 = .ok (.aload_n 0, 1) := by decide +kernel
theorem dX12_having_50 : decode cX12_having 50 = .ok (.getfield 36, 3) := by decide +kernel
theorem dX12_having_53 : decode cX12_having 53 = .ok (.ifCond .le 7, 3) := by decide +kernel
theorem dX12_having_56 : decode cX12_having 56 = .ok (.iconst 0, 1) := by decide +kernel
theorem dX12_having_57 : decode cX12_having 57 = .ok (.goto 11, 3) := by decide +kernel
theorem dX12_having_60 : decode cX12_having 60 = .ok (.aload_n 0, 1) := by decide +kernel
theorem dX12_having_61 : decode cX12_having 61 = .ok (.aload_n 0, 1) := by decide +kernel
theorem dX12_having_62 : decode cX12_having 62 = .ok (.getfield 32, 3) := by decide +kernel
theorem dX12_having_65 : decode cX12_having 65 = .ok (.invokevirtual 314, 3) := by decide +kernel
theorem dX12_having_68 : decode cX12_having 68 = .ok (.istore_n 1, 1) := by decide +kernel
theorem dX12_having_69 : decode cX12_having 69 = .ok (.aload_n 0, 1) := by decide +kernel
theorem dX12_having_70 : decode cX12_having 70 = .ok (.getfield 36, 3) := by decide +kernel
theorem dX12_having_73 : decode cX12_having 73 = .ok (.ifCond .ne 33, 3) := by decide +kernel
theorem dX12_having_76 : decode cX12_having 76 = .ok (.iload_n 1, 1) := by decide +kernel
theorem dX12_having_77 : decode cX12_having 77 = .ok (.iconst (-1), 1) := by decide +kernel
theorem dX12_having_78 : decode cX12_having 78 = .ok (.if_icmp .eq 19, 3) := by decide +kernel
theorem dX12_having_81 : decode cX12_having 81 = .ok (.aload_n 0, 1) := by decide +kernel
theorem dX12_having_82 : decode cX12_having 82 = .ok (.getfield 81, 3) := by decide +kernel
theorem dX12_having_85 : decode cX12_having 85 = .ok (.aload_n 0, 1) := by decide +kernel
theorem dX12_having_86 : decode cX12_having 86 = .ok (.getfield 115, 3) := by decide +kernel
theorem dX12_having_89 : decode cX12_having 89 = .ok (.iaload, 1) := by decide +kernel
theorem dX12_having_90 : decode cX12_having 90 = .ok (.iload_n 1, 1) := by decide +kernel
theorem dX12_having_91 : decode cX12_having 91 = .ok (.invokestatic 382, 3) := by decide +kernel
theorem dX12_having_94 : decode cX12_having 94 = .ok (.ifCond .eq 12, 3) := by decide +kernel
theorem dX12_having_97 : decode cX12_having 97 = .ok (.aload_n 0, 1) := by decide +kernel
theorem dX12_having_98 : decode cX12_having 98 = .ok (.iconst 3, 1) := by decide +kernel
theorem dX12_having_99 : decode cX12_having 99 = .ok (.aload_n 0, 1) := by decide +kernel
theorem dX12_having_100 : decode cX12_having 100 = .ok (.getfield 23, 3) := by decide +kernel
theorem dX12_having_103 : decode cX12_having 103 = .ok (.invokevirtual 242, 3) := by decide +kernel
theorem dX12_having_106 : decode cX12_having 106 = .ok (.aload_n 0, 1) := by decide +kernel
theorem dX12_having_107 : decode cX12_having 107 = .ok (.getfield 36, 3) := by decide +kernel
theorem dX12_having_110 : decode cX12_having 110 = .ok (.ifCond .le 4, 3) := by decide +kernel
theorem dX12_having_113 : decode cX12_having 113 = .ok (.return_, 1) := by decide +kernel
theorem dX12_having_114 : decode cX12_having 114 = .ok (.aload_n 0, 1) := by decide +kernel
theorem dX12_having_115 : decode cX12_having 115 = .ok (.invokevirtual 259, 3) := by decide +kernel
theorem dX12_having_118 : decode cX12_having 118 = .ok (.aload_n 0, 1) := by decide +kernel
theorem dX12_having_119 : decode cX12_having 119 = .ok (.getfield 81, 3) := by decide +kernel
theorem dX12_having_122 : decode cX12_having 122 = .ok (.aload_n 0, 1) := by decide +kernel
theorem dX12_having_123 : decode cX12_having 123 = .ok (.getfield 115, 3) := by decide +kernel
theorem dX12_having_126 : decode cX12_having 126 = .ok (.dup2, 1) := by decide +kernel
theorem dX12_having_127 : decode cX12_having 127 = .ok (.iaload, 1) := by decide +kernel
theorem dX12_having_128 : decode cX12_having 128 = .ok (.iconst 1, 1) := by decide +kernel
theorem dX12_having_129 : decode cX12_having 129 = .ok (.iload_n 1, 1) := by decide +kernel
theorem dX12_having_130 : decode cX12_having 130 = .ok (.ishl, 1) := by decide +kernel
theorem dX12_having_131 : decode cX12_having 131 = .ok (.ior, 1) := by decide +kernel
theorem dX12_having_132 : decode cX12_having 132 = .ok (.iastore, 1) := by decide +kernel
theorem dX12_having_133 : decode cX12_having 133 = .ok (.return_, 1) := by decide +kernel
noncomputable def tX12_having_0 : List (Nat × zF) := [(0, (zla4 0 1)), (1, (zst 1 (zp (.int (0))))), (2, (zcv 191 1 12)), (5, (z_if_ne 9)), (8, zrv), (9, (zla4 0 1)), (10, (zcv 172 0 12)), (13, (zla4 0 1)), (14, (zgf 12 8)), (17, (z_if_le 21)), (20, zrv), (21, (zla4 0 1))]
theorem kX12_having_0 : ∀ q ∈ tX12_having_0, zOk zg iX12_having q.1 q.2 := (z_c (ok_aload_n dX12_having_0 rfl) (z_c (ok_iconst (v := (0)) dX12_having_1 (by decide)) (z_c (ok_callV zcal_191 (q := (RX12, TX12, 73)) rfl zw_857 zw_858 zw_859 dX12_having_2) (z_c (ok_if_ne dX12_having_5 (by decide)) (z_c (ok_return rfl dX12_having_8) (z_c (ok_aload_n dX12_having_9 rfl) (z_c (ok_callV zcal_172 (q := (RX12, TX12, 73)) rfl zw_774 zw_775 zw_776 dX12_having_10) (z_c (ok_aload_n dX12_having_13 rfl) (z_c (ok_getf (C := RX12) (T := TX12) (N := 73) rfl (by decide) zinX12 rfl zw_695 dX12_having_14) (z_c (ok_if_le dX12_having_17 (by decide)) (z_c (ok_return rfl dX12_having_20) (z_c (ok_aload_n dX12_having_21 rfl) z_n))))))))))))
noncomputable def tX12_having_1 : List (Nat × zF) := [(22, (zgf 12 3)), (25, (zst 1 (zp (.int (1))))), (26, (z_ic_ne 40)), (29, (zla4 0 1)), (30, (zla4 0 1)), (31, (zgf 12 7)), (34, (zcv 177 1 12)), (37, (z_if_eq 49)), (40, (zla4 0 1)), (41, (zst 1 (zp (.int (1))))), (42, (zla4 0 1)), (43, (zgf 12 4))]
theorem kX12_having_1 : ∀ q ∈ tX12_having_1, zOk zg iX12_having q.1 q.2 := (z_c (ok_getf (C := RX12) (T := TX12) (N := 73) rfl (by decide) zinX12 rfl zw_690 dX12_having_22) (z_c (ok_iconst (v := (1)) dX12_having_25 (by decide)) (z_c (ok_icmp_ne dX12_having_26 (by decide)) (z_c (ok_aload_n dX12_having_29 rfl) (z_c (ok_aload_n dX12_having_30 rfl) (z_c (ok_getf (C := RX12) (T := TX12) (N := 73) rfl (by decide) zinX12 rfl zw_694 dX12_having_31) (z_c (ok_callV zcal_177 (q := (RX12, TX12, 73)) rfl zw_842 zw_843 zw_844 dX12_having_34) (z_c (ok_if_eq dX12_having_37 (by decide)) (z_c (ok_aload_n dX12_having_40 rfl) (z_c (ok_iconst (v := (1)) dX12_having_41 (by decide)) (z_c (ok_aload_n dX12_having_42 rfl) (z_c (ok_getf (C := RX12) (T := TX12) (N := 73) rfl (by decide) zinX12 rfl zw_691 dX12_having_43) z_n))))))))))))
noncomputable def tX12_having_2 : List (Nat × zF) := [(46, (zcv 169 2 12)), (49, (zla4 0 1)), (50, (zgf 12 8)), (53, (z_if_le 60)), (56, (zst 1 (zp (.int (0))))), (57, (zgt 68)), (60, (zla4 0 1)), (61, (zla4 0 1)), (62, (zgf 12 7)), (65, (zcv 178 1 12)), (68, (zsi4 2 1 1)), (69, (zla4 0 1))]
theorem kX12_having_2 : ∀ q ∈ tX12_having_2, zOk zg iX12_having q.1 q.2 := (z_c (ok_callV zcal_169 (q := (RX12, TX12, 73)) rfl zw_767 zw_768 zw_769 dX12_having_46) (z_c (ok_aload_n dX12_having_49 rfl) (z_c (ok_getf (C := RX12) (T := TX12) (N := 73) rfl (by decide) zinX12 rfl zw_695 dX12_having_50) (z_c (ok_if_le dX12_having_53 (by decide)) (z_c (ok_iconst (v := (0)) dX12_having_56 (by decide)) (z_c (ok_goto dX12_having_57 (by decide)) (z_c (ok_aload_n dX12_having_60 rfl) (z_c (ok_aload_n dX12_having_61 rfl) (z_c (ok_getf (C := RX12) (T := TX12) (N := 73) rfl (by decide) zinX12 rfl zw_694 dX12_having_62) (z_c (ok_callV zcal_178 (q := (RX12, TX12, 73)) rfl zw_809 zw_810 zw_811 dX12_having_65) (z_c (ok_istore_n dX12_having_68 rfl) (z_c (ok_aload_n dX12_having_69 rfl) z_n))))))))))))
noncomputable def tX12_having_3 : List (Nat × zF) := [(70, (zgf 12 8)), (73, (z_if_ne 106)), (76, (zli4 1 1)), (77, (zst 1 (zp (.int ((-1)))))), (78, (z_ic_eq 97)), (81, (zla4 0 1)), (82, (zgf 12 23)), (85, (zla4 0 1)), (86, (zgf 12 34)), (89, (zal 0)), (90, (zli4 1 1)), (91, (zcs 193 2))]
theorem kX12_having_3 : ∀ q ∈ tX12_having_3, zOk zg iX12_having q.1 q.2 := (z_c (ok_getf (C := RX12) (T := TX12) (N := 73) rfl (by decide) zinX12 rfl zw_695 dX12_having_70) (z_c (ok_if_ne dX12_having_73 (by decide)) (z_c (ok_iload_n dX12_having_76 rfl) (z_c (ok_iconst (v := (-1)) dX12_having_77 (by decide)) (z_c (ok_icmp_eq dX12_having_78 (by decide)) (z_c (ok_aload_n dX12_having_81 rfl) (z_c (ok_getf (C := RX12) (T := TX12) (N := 73) rfl (by decide) zinX12 rfl zw_710 dX12_having_82) (z_c (ok_aload_n dX12_having_85 rfl) (z_c (ok_getf (C := RX12) (T := TX12) (N := 73) rfl (by decide) zinX12 rfl zw_721 dX12_having_86) (z_c (ok_iaload rfl dX12_having_89) (z_c (ok_iload_n dX12_having_90 rfl) (z_c (ok_callS zcal_193 zw_866 zw_867 dX12_having_91) z_n))))))))))))
noncomputable def tX12_having_4 : List (Nat × zF) := [(94, (z_if_eq 106)), (97, (zla4 0 1)), (98, (zst 1 (zp (.int (3))))), (99, (zla4 0 1)), (100, (zgf 12 4)), (103, (zcv 169 2 12)), (106, (zla4 0 1)), (107, (zgf 12 8)), (110, (z_if_le 114)), (113, zrv), (114, (zla4 0 1)), (115, (zcv 173 0 12))]
theorem kX12_having_4 : ∀ q ∈ tX12_having_4, zOk zg iX12_having q.1 q.2 := (z_c (ok_if_eq dX12_having_94 (by decide)) (z_c (ok_aload_n dX12_having_97 rfl) (z_c (ok_iconst (v := (3)) dX12_having_98 (by decide)) (z_c (ok_aload_n dX12_having_99 rfl) (z_c (ok_getf (C := RX12) (T := TX12) (N := 73) rfl (by decide) zinX12 rfl zw_691 dX12_having_100) (z_c (ok_callV zcal_169 (q := (RX12, TX12, 73)) rfl zw_767 zw_768 zw_769 dX12_having_103) (z_c (ok_aload_n dX12_having_106 rfl) (z_c (ok_getf (C := RX12) (T := TX12) (N := 73) rfl (by decide) zinX12 rfl zw_695 dX12_having_107) (z_c (ok_if_le dX12_having_110 (by decide)) (z_c (ok_return rfl dX12_having_113) (z_c (ok_aload_n dX12_having_114 rfl) (z_c (ok_callV zcal_173 (q := (RX12, TX12, 73)) rfl zw_780 zw_781 zw_782 dX12_having_115) z_n))))))))))))
noncomputable def tX12_having_5 : List (Nat × zF) := [(118, (zla4 0 1)), (119, (zgf 12 23)), (122, (zla4 0 1)), (123, (zgf 12 34)), (126, (zst 1 zd2)), (127, (zal 0)), (128, (zst 1 (zp (.int (1))))), (129, (zli4 1 1)), (130, (zst 1 z_ishl)), (131, (zst 1 z_ior)), (132, (zas 0)), (133, zrv)]
theorem kX12_having_5 : ∀ q ∈ tX12_having_5, zOk zg iX12_having q.1 q.2 := (z_c (ok_aload_n dX12_having_118 rfl) (z_c (ok_getf (C := RX12) (T := TX12) (N := 73) rfl (by decide) zinX12 rfl zw_710 dX12_having_119) (z_c (ok_aload_n dX12_having_122 rfl) (z_c (ok_getf (C := RX12) (T := TX12) (N := 73) rfl (by decide) zinX12 rfl zw_721 dX12_having_123) (z_c (ok_dup2 dX12_having_126) (z_c (ok_iaload rfl dX12_having_127) (z_c (ok_iconst (v := (1)) dX12_having_128 (by decide)) (z_c (ok_iload_n dX12_having_129 rfl) (z_c (ok_ishl dX12_having_130) (z_c (ok_ior dX12_having_131) (z_c (ok_iastore rfl dX12_having_132) (z_c (ok_return rfl dX12_having_133) z_n))))))))))))
noncomputable def tX12_having : zT := [(22, tX12_having_0), (46, tX12_having_1), (70, tX12_having_2), (94, tX12_having_3), (118, tX12_having_4), (100000, tX12_having_5)]
theorem kX12_having : zTok zg iX12_having tX12_having := (z_t kX12_having_0 (z_t kX12_having_1 (z_t kX12_having_2 (z_t kX12_having_3 (z_t kX12_having_4 (z_t kX12_having_5 z_tn))))))
theorem dX12_folking_0 : decode cX12_folking 0 = .ok (.aload_n 0, 1) := by decide +kernel
theorem dX12_folking_1 : decode cX12_folking 1 = .ok (.aload_n 0, 1) := by decide +kernel
theorem dX12_folking_2 : decode cX12_folking 2 = .ok (.getfield 84, 3) := by decide +kernel
theorem dX12_folking_5 : decode cX12_folking 5 = .ok (.aload_n 0, 1) := by decide +kernel
theorem dX12_folking_6 : decode cX12_folking 6 = .ok (.getfield 115, 3) := by decide +kernel
theorem dX12_folking_9 : decode cX12_folking 9 = .ok (.iaload, 1) := by decide +kernel
theorem dX12_folking_10 : decode cX12_folking 10 = .ok (.bipush 6, 2) := by decide +kernel
theorem dX12_folking_12 : decode cX12_folking 12 = .ok (.if_icmp .ne 7, 3) := by decide +kernel
theorem dX12_folking_15 : decode cX12_folking 15 = .ok (.iconst 1, 1) := by decide +kernel
theorem dX12_folking_16 : decode cX12_folking 16 = .ok (.goto 4, 3) := by decide +kernel
theorem dX12_folking_19 : decode cX12_folking 19 = .ok (.iconst 0, 1) := by decide +kernel
theorem dX12_folking_20 : decode cX12_folking 20 = .ok (.invokevirtual 370, 3) := by decide +kernel
theorem dX12_folking_23 : decode cX12_folking 23 = .ok (.ifCond .ne 4, 3) := by decide +kernel
theorem dX12_folking_26 : decode cX12_folking 26 = .ok (.return_, 1) := by decide +kernel
theorem dX12_folking_27 : decode cX12_folking 27 = .ok (.bipush 6, 2) := by decide +kernel
theorem dX12_folking_29 : decode cX12_folking 29 = .ok (.aload_n 0, 1) := by decide +kernel
theorem dX12_folking_30 : decode cX12_folking 30 = .ok (.getfield 115, 3) := by decide +kernel
theorem dX12_folking_33 : decode cX12_folking 33 = .ok (.imul, 1) := by decide +kernel
theorem dX12_folking_34 : decode cX12_folking 34 = .ok (.aload_n 0, 1) := by decide +kernel
theorem dX12_folking_35 : decode cX12_folking 35 = .ok (.getfield 84, 3) := by decide +kernel
theorem dX12_folking_38 : decode cX12_folking 38 = .ok (.aload_n 0, 1) := by decide +kernel
theorem dX12_folking_39 : decode cX12_folking 39 = .ok (.getfield 115, 3) := by decide +kernel
theorem dX12_folking_42 : decode cX12_folking 42 = .ok (.iaload, 1) := by decide +kernel
theorem dX12_folking_43 : decode cX12_folking 43 = .ok (.iadd, 1) := by decide +kernel
theorem dX12_folking_44 : decode cX12_folking 44 = .ok (.istore_n 1, 1) := by decide +kernel
theorem dX12_folking_45 : decode cX12_folking 45 = .ok (.aload_n 0, 1) := by decide +kernel
theorem dX12_folking_46 : decode cX12_folking 46 = .ok (.getfield 109, 3) := by decide +kernel
theorem dX12_folking_49 : decode cX12_folking 49 = .ok (.iload_n 1, 1) := by decide +kernel
theorem dX12_folking_50 : decode cX12_folking 50 = .ok (.aload_n 0, 1) := by decide +kernel
theorem dX12_folking_51 : decode cX12_folking 51 = .ok (.invokevirtual 378, 3) := by decide +kernel
theorem dX12_folking_54 : decode cX12_folking 54 = .ok (.lastore, 1) := by decide +kernel
theorem dX12_folking_55 : decode cX12_folking 55 = .ok (.aload_n 0, 1) := by decide +kernel
theorem dX12_folking_56 : decode cX12_folking 56 = .ok (.ldc2_w 274, 3) := by decide +kernel
theorem dX12_folking_59 : decode cX12_folking 59 = .ok (.invokevirtual 366, 3) := by decide +kernel
theorem dX12_folking_62 : decode cX12_folking 62 = .ok (.aload_n 0, 1) := by decide +kernel
theorem dX12_folking_63 : decode cX12_folking 63 = .ok (.getfield 87, 3) := by decide +kernel
theorem dX12_folking_66 : decode cX12_folking 66 = .ok (.iload_n 1, 1) := by decide +kernel
theorem dX12_folking_67 : decode cX12_folking 67 = .ok (.aload_n 0, 1) := by decide +kernel
theorem dX12_folking_68 : decode cX12_folking 68 = .ok (.iconst 0, 1) := by decide +kernel
theorem dX12_folking_69 : decode cX12_folking 69 = .ok (.invokevirtual 374, 3) := by decide +kernel
theorem dX12_folking_72 : decode cX12_folking 72 = .ok (.iastore, 1) := by decide +kernel
theorem dX12_folking_73 : decode cX12_folking 73 = .ok (.aload_n 0, 1) := by decide +kernel
theorem dX12_folking_74 : decode cX12_folking 74 = .ok (.ldc2_w 284, 3) := by decide +kernel
theorem dX12_folking_77 : decode cX12_folking 77 = .ok (.invokevirtual 366, 3) := by decide +kernel
theorem dX12_folking_80 : decode cX12_folking 80 = .ok (.aload_n 0, 1) := by decide +kernel
theorem dX12_folking_81 : decode cX12_folking 81 = .ok (.getfield 90, 3) := by decide +kernel
theorem dX12_folking_84 : decode cX12_folking 84 = .ok (.iload_n 1, 1) := by decide +kernel
theorem dX12_folking_85 : decode cX12_folking 85 = .ok (.aload_n 0, 1) := by decide +kernel
theorem dX12_folking_86 : decode cX12_folking 86 = .ok (.iconst 0, 1) := by decide +kernel
theorem dX12_folking_87 : decode cX12_folking 87 = .ok (.invokevirtual 374, 3) := by decide +kernel
theorem dX12_folking_90 : decode cX12_folking 90 = .ok (.iastore, 1) := by decide +kernel
theorem dX12_folking_91 : decode cX12_folking 91 = .ok (.aload_n 0, 1) := by decide +kernel
theorem dX12_folking_92 : decode cX12_folking 92 = .ok (.getfield 36, 3) := by decide +kernel
theorem dX12_folking_95 : decode cX12_folking 95 = .ok (.ifCond .ne 16, 3) := by decide +kernel
theorem dX12_folking_98 : decode cX12_folking 98 = .ok (.aload_n 0, 1) := by decide +kernel
theorem dX12_folking_99 : decode cX12_folking 99 = .ok (.getfield 84, 3) := by decide +kernel
theorem dX12_folking_102 : decode cX12_folking 102 = .ok (.aload_n 0, 1) := by decide +kernel
theorem dX12_folking_103 : decode cX12_folking 103 = .ok (.getfield 115, 3) := by decide +kernel
theorem dX12_folking_106 : decode cX12_folking 106 = .ok (.dup2, 1) := by decide +kernel
theorem dX12_folking_107 : decode cX12_folking 107 = .ok (.iaload, 1) := by decide +kernel
theorem dX12_folking_108 : decode cX12_folking 108 = .ok (.iconst 1, 1) := by decide +kernel
theorem dX12_folking_109 : decode cX12_folking 109 = .ok (.iadd, 1) := by decide +kernel
theorem dX12_folking_110 : decode cX12_folking 110 = .ok (.iastore, 1) := by decide +kernel
theorem dX12_folking_111 : decode cX12_folking 111 = .ok (.return_, 1) := by decide +kernel
noncomputable def tX12_folking_0 : List (Nat × zF) := [(0, (zla4 0 1)), (1, (zla4 0 1)), (2, (zgf 12 24)), (5, (zla4 0 1)), (6, (zgf 12 34)), (9, (zal 0)), (10, (zst 2 (zp (.int (6))))), (12, (z_ic_ne 19)), (15, (zst 1 (zp (.int (1))))), (16, (zgt 20)), (19, (zst 1 (zp (.int (0))))), (20, (zcv 191 1 12))]
theorem kX12_folking_0 : ∀ q ∈ tX12_folking_0, zOk zg iX12_folking q.1 q.2 := (z_c (ok_aload_n dX12_folking_0 rfl) (z_c (ok_aload_n dX12_folking_1 rfl) (z_c (ok_getf (C := RX12) (T := TX12) (N := 73) rfl (by decide) zinX12 rfl zw_711 dX12_folking_2) (z_c (ok_aload_n dX12_folking_5 rfl) (z_c (ok_getf (C := RX12) (T := TX12) (N := 73) rfl (by decide) zinX12 rfl zw_721 dX12_folking_6) (z_c (ok_iaload rfl dX12_folking_9) (z_c (ok_bipush (v := (6)) dX12_folking_10 (by decide)) (z_c (ok_icmp_ne dX12_folking_12 (by decide)) (z_c (ok_iconst (v := (1)) dX12_folking_15 (by decide)) (z_c (ok_goto dX12_folking_16 (by decide)) (z_c (ok_iconst (v := (0)) dX12_folking_19 (by decide)) (z_c (ok_callV zcal_191 (q := (RX12, TX12, 73)) rfl zw_857 zw_858 zw_859 dX12_folking_20) z_n))))))))))))
noncomputable def tX12_folking_1 : List (Nat × zF) := [(23, (z_if_ne 27)), (26, zrv), (27, (zst 2 (zp (.int (6))))), (29, (zla4 0 1)), (30, (zgf 12 34)), (33, (zst 1 z_imul)), (34, (zla4 0 1)), (35, (zgf 12 24)), (38, (zla4 0 1)), (39, (zgf 12 34)), (42, (zal 0)), (43, (zst 1 z_iadd))]
theorem kX12_folking_1 : ∀ q ∈ tX12_folking_1, zOk zg iX12_folking q.1 q.2 := (z_c (ok_if_ne dX12_folking_23 (by decide)) (z_c (ok_return rfl dX12_folking_26) (z_c (ok_bipush (v := (6)) dX12_folking_27 (by decide)) (z_c (ok_aload_n dX12_folking_29 rfl) (z_c (ok_getf (C := RX12) (T := TX12) (N := 73) rfl (by decide) zinX12 rfl zw_721 dX12_folking_30) (z_c (ok_imul dX12_folking_33) (z_c (ok_aload_n dX12_folking_34 rfl) (z_c (ok_getf (C := RX12) (T := TX12) (N := 73) rfl (by decide) zinX12 rfl zw_711 dX12_folking_35) (z_c (ok_aload_n dX12_folking_38 rfl) (z_c (ok_getf (C := RX12) (T := TX12) (N := 73) rfl (by decide) zinX12 rfl zw_721 dX12_folking_39) (z_c (ok_iaload rfl dX12_folking_42) (z_c (ok_iadd dX12_folking_43) z_n))))))))))))
noncomputable def tX12_folking_2 : List (Nat × zF) := [(44, (zsi4 2 1 1)), (45, (zla4 0 1)), (46, (zgf 12 32)), (49, (zli4 1 1)), (50, (zla4 0 1)), (51, (zcv 194 0 12)), (54, (zla 1)), (55, (zla4 0 1)), (56, (zst 3 (zp (.long (24948))))), (59, (zcv 192 1 12)), (62, (zla4 0 1)), (63, (zgf 12 25))]
theorem kX12_folking_2 : ∀ q ∈ tX12_folking_2, zOk zg iX12_folking q.1 q.2 := (z_c (ok_istore_n dX12_folking_44 rfl) (z_c (ok_aload_n dX12_folking_45 rfl) (z_c (ok_getf (C := RX12) (T := TX12) (N := 73) rfl (by decide) zinX12 rfl zw_719 dX12_folking_46) (z_c (ok_iload_n dX12_folking_49 rfl) (z_c (ok_aload_n dX12_folking_50 rfl) (z_c (ok_callV zcal_194 (q := (RX12, TX12, 73)) rfl zw_863 zw_864 zw_865 dX12_folking_51) (z_c (ok_lastore rfl dX12_folking_54) (z_c (ok_aload_n dX12_folking_55 rfl) (z_c (ok_ldc2 (v := (24948)) zw_789 dX12_folking_56) (z_c (ok_callV zcal_192 (q := (RX12, TX12, 73)) rfl zw_854 zw_855 zw_856 dX12_folking_59) (z_c (ok_aload_n dX12_folking_62 rfl) (z_c (ok_getf (C := RX12) (T := TX12) (N := 73) rfl (by decide) zinX12 rfl zw_712 dX12_folking_63) z_n))))))))))))
noncomputable def tX12_folking_3 : List (Nat × zF) := [(66, (zli4 1 1)), (67, (zla4 0 1)), (68, (zst 1 (zp (.int (0))))), (69, (zcv 196 1 12)), (72, (zas 0)), (73, (zla4 0 1)), (74, (zst 3 (zp (.long (1752132965))))), (77, (zcv 192 1 12)), (80, (zla4 0 1)), (81, (zgf 12 26)), (84, (zli4 1 1)), (85, (zla4 0 1))]
theorem kX12_folking_3 : ∀ q ∈ tX12_folking_3, zOk zg iX12_folking q.1 q.2 := (z_c (ok_iload_n dX12_folking_66 rfl) (z_c (ok_aload_n dX12_folking_67 rfl) (z_c (ok_iconst (v := (0)) dX12_folking_68 (by decide)) (z_c (ok_callV zcal_196 (q := (RX12, TX12, 73)) rfl zw_860 zw_861 zw_862 dX12_folking_69) (z_c (ok_iastore rfl dX12_folking_72) (z_c (ok_aload_n dX12_folking_73 rfl) (z_c (ok_ldc2 (v := (1752132965)) zw_794 dX12_folking_74) (z_c (ok_callV zcal_192 (q := (RX12, TX12, 73)) rfl zw_854 zw_855 zw_856 dX12_folking_77) (z_c (ok_aload_n dX12_folking_80 rfl) (z_c (ok_getf (C := RX12) (T := TX12) (N := 73) rfl (by decide) zinX12 rfl zw_713 dX12_folking_81) (z_c (ok_iload_n dX12_folking_84 rfl) (z_c (ok_aload_n dX12_folking_85 rfl) z_n))))))))))))
noncomputable def tX12_folking_4 : List (Nat × zF) := [(86, (zst 1 (zp (.int (0))))), (87, (zcv 196 1 12)), (90, (zas 0)), (91, (zla4 0 1)), (92, (zgf 12 8)), (95, (z_if_ne 111)), (98, (zla4 0 1)), (99, (zgf 12 24)), (102, (zla4 0 1)), (103, (zgf 12 34)), (106, (zst 1 zd2)), (107, (zal 0))]
theorem kX12_folking_4 : ∀ q ∈ tX12_folking_4, zOk zg iX12_folking q.1 q.2 := (z_c (ok_iconst (v := (0)) dX12_folking_86 (by decide)) (z_c (ok_callV zcal_196 (q := (RX12, TX12, 73)) rfl zw_860 zw_861 zw_862 dX12_folking_87) (z_c (ok_iastore rfl dX12_folking_90) (z_c (ok_aload_n dX12_folking_91 rfl) (z_c (ok_getf (C := RX12) (T := TX12) (N := 73) rfl (by decide) zinX12 rfl zw_695 dX12_folking_92) (z_c (ok_if_ne dX12_folking_95 (by decide)) (z_c (ok_aload_n dX12_folking_98 rfl) (z_c (ok_getf (C := RX12) (T := TX12) (N := 73) rfl (by decide) zinX12 rfl zw_711 dX12_folking_99) (z_c (ok_aload_n dX12_folking_102 rfl) (z_c (ok_getf (C := RX12) (T := TX12) (N := 73) rfl (by decide) zinX12 rfl zw_721 dX12_folking_103) (z_c (ok_dup2 dX12_folking_106) (z_c (ok_iaload rfl dX12_folking_107) z_n))))))))))))
noncomputable def tX12_folking_5 : List (Nat × zF) := [(108, (zst 1 (zp (.int (1))))), (109, (zst 1 z_iadd)), (110, (zas 0)), (111, zrv)]
theorem kX12_folking_5 : ∀ q ∈ tX12_folking_5, zOk zg iX12_folking q.1 q.2 := (z_c (ok_iconst (v := (1)) dX12_folking_108 (by decide)) (z_c (ok_iadd dX12_folking_109) (z_c (ok_iastore rfl dX12_folking_110) (z_c (ok_return rfl dX12_folking_111) z_n))))
noncomputable def tX12_folking : zT := [(23, tX12_folking_0), (44, tX12_folking_1), (66, tX12_folking_2), (86, tX12_folking_3), (108, tX12_folking_4), (100000, tX12_folking_5)]
theorem kX12_folking : zTok zg iX12_folking tX12_folking := (z_t kX12_folking_0 (z_t kX12_folking_1 (z_t kX12_folking_2 (z_t kX12_folking_3 (z_t kX12_folking_4 (z_t kX12_folking_5 z_tn))))))
theorem dX12_reading_0 : decode cX12_reading 0 = .ok (.iconst 3, 1) := by decide +kernel
theorem dX12_reading_1 : decode cX12_reading 1 = .ok (.aload_n 0, 1) := by decide +kernel
theorem dX12_reading_2 : decode cX12_reading 2 = .ok (.getfield 115, 3) := by decide +kernel
theorem dX12_reading_5 : decode cX12_reading 5 = .ok (.imul, 1) := by decide +kernel
theorem dX12_reading_6 : decode cX12_reading 6 = .ok (.iload_n 1, 1) := by decide +kernel
theorem dX12_reading_7 : decode cX12_reading 7 = .ok (.iadd, 1) := by decide +kernel
theorem dX12_reading_8 : decode cX12_reading 8 = .ok (.istore_n 2, 1) := by decide +kernel
theorem dX12_reading_9 : decode cX12_reading 9 = .ok (.aload_n 0, 1) := by decide +kernel
theorem dX12_reading_10 : decode cX12_reading 10 = .ok (.aload_n 0, 1) := by decide +kernel
theorem dX12_reading_11 : decode cX12_reading 11 = .ok (.getfield 93, 3) := by decide +kernel
theorem dX12_reading_14 : decode cX12_reading 14 = .ok (.iload_n 2, 1) := by decide +kernel
theorem dX12_reading_15 : decode cX12_reading 15 = .ok (.iaload, 1) := by decide +kernel
theorem dX12_reading_16 : decode cX12_reading 16 = .ok (.iconst (-1), 1) := by decide +kernel
theorem dX12_reading_17 : decode cX12_reading 17 = .ok (.if_icmp .eq 7, 3) := by decide +kernel
theorem dX12_reading_20 : decode cX12_reading 20 = .ok (.iconst 1, 1) := by decide +kernel
theorem dX12_reading_21 : decode cX12_reading 21 = .ok (.goto 4, 3) := by decide +kernel
theorem dX12_reading_24 : decode cX12_reading 24 = .ok (.iconst 0, 1) := by decide +kernel
theorem dX12_reading_25 : decode cX12_reading 25 = .ok (.invokevirtual 370, 3) := by decide +kernel
theorem dX12_reading_28 : decode cX12_reading 28 = .ok (.ifCond .ne 4, 3) := by decide +kernel
theorem dX12_reading_31 : decode cX12_reading 31 = .ok (.return_, 1) := by decide +kernel
theorem dX12_reading_32 : decode cX12_reading 32 = .ok (.aload_n 0, 1) := by decide +kernel
theorem dX12_reading_33 : decode cX12_reading 33 = .ok (.iload_n 1, 1) := by decide +kernel
theorem dX12_reading_34 : decode cX12_reading 34 = .ok (.putfield 118, 3) := by decide +kernel
theorem dX12_reading_37 : decode cX12_reading 37 = .ok (.aload_n 0, 1) := by decide +kernel
theorem dX12_reading_38 : decode cX12_reading 38 = .ok (.getfield 93, 3) := by decide +kernel
theorem dX12_reading_41 : decode cX12_reading 41 = .ok (.iload_n 2, 1) := by decide +kernel
theorem dX12_reading_42 : decode cX12_reading 42 = .ok (.aload_n 0, 1) := by decide +kernel
theorem dX12_reading_43 : decode cX12_reading 43 = .ok (.getfield 112, 3) := by decide +kernel
theorem dX12_reading_46 : decode cX12_reading 46 = .ok (.iastore, 1) := by decide +kernel
theorem dX12_reading_47 : decode cX12_reading 47 = .ok (.aload_n 0, 1) := by decide +kernel
theorem dX12_reading_48 : decode cX12_reading 48 = .ok (.iload_n 1, 1) := by decide +kernel
theorem dX12_reading_49 : decode cX12_reading 49 = .ok (.ifCond .eq 7, 3) := by decide +kernel
theorem dX12_reading_52 : decode cX12_reading 52 = .ok (.iconst 1, 1) := by decide +kernel
theorem dX12_reading_53 : decode cX12_reading 53 = .ok (.goto 4, 3) := by decide +kernel
theorem dX12_reading_56 : decode cX12_reading 56 = .ok (.iconst 0, 1) := by decide +kernel
theorem dX12_reading_57 : decode cX12_reading 57 = .ok (.invokevirtual 386, 3) := by decide +kernel
theorem dX12_reading_60 : decode cX12_reading 60 = .ok (.aload_n 0, 1) := by decide +kernel
theorem dX12_reading_61 : decode cX12_reading 61 = .ok (.getfield 96, 3) := by decide +kernel
theorem dX12_reading_64 : decode cX12_reading 64 = .ok (.iload_n 2, 1) := by decide +kernel
theorem dX12_reading_65 : decode cX12_reading 65 = .ok (.aload_n 0, 1) := by decide +kernel
theorem dX12_reading_66 : decode cX12_reading 66 = .ok (.getfield 112, 3) := by decide +kernel
theorem dX12_reading_69 : decode cX12_reading 69 = .ok (.iastore, 1) := by decide +kernel
theorem dX12_reading_70 : decode cX12_reading 70 = .ok (.return_, 1) := by decide +kernel
noncomputable def tX12_reading_0 : List (Nat × zF) := [(0, (zst 1 (zp (.int (3))))), (1, (zla4 0 1)), (2, (zgf 12 34)), (5, (zst 1 z_imul)), (6, (zli4 1 1)), (7, (zst 1 z_iadd)), (8, (zsi4 3 2 1)), (9, (zla4 0 1)), (10, (zla4 0 1)), (11, (zgf 12 27)), (14, (zli4 2 1)), (15, (zal 0))]
theorem kX12_reading_0 : ∀ q ∈ tX12_reading_0, zOk zg iX12_reading q.1 q.2 := (z_c (ok_iconst (v := (3)) dX12_reading_0 (by decide)) (z_c (ok_aload_n dX12_reading_1 rfl) (z_c (ok_getf (C := RX12) (T := TX12) (N := 73) rfl (by decide) zinX12 rfl zw_721 dX12_reading_2) (z_c (ok_imul dX12_reading_5) (z_c (ok_iload_n dX12_reading_6 rfl) (z_c (ok_iadd dX12_reading_7) (z_c (ok_istore_n dX12_reading_8 rfl) (z_c (ok_aload_n dX12_reading_9 rfl) (z_c (ok_aload_n dX12_reading_10 rfl) (z_c (ok_getf (C := RX12) (T := TX12) (N := 73) rfl (by decide) zinX12 rfl zw_714 dX12_reading_11) (z_c (ok_iload_n dX12_reading_14 rfl) (z_c (ok_iaload rfl dX12_reading_15) z_n))))))))))))
noncomputable def tX12_reading_1 : List (Nat × zF) := [(16, (zst 1 (zp (.int ((-1)))))), (17, (z_ic_eq 24)), (20, (zst 1 (zp (.int (1))))), (21, (zgt 25)), (24, (zst 1 (zp (.int (0))))), (25, (zcv 191 1 12)), (28, (z_if_ne 32)), (31, zrv), (32, (zla4 0 1)), (33, (zli4 1 1)), (34, (zpf 12 35 (.int))), (37, (zla4 0 1))]
theorem kX12_reading_1 : ∀ q ∈ tX12_reading_1, zOk zg iX12_reading q.1 q.2 := (z_c (ok_iconst (v := (-1)) dX12_reading_16 (by decide)) (z_c (ok_icmp_eq dX12_reading_17 (by decide)) (z_c (ok_iconst (v := (1)) dX12_reading_20 (by decide)) (z_c (ok_goto dX12_reading_21 (by decide)) (z_c (ok_iconst (v := (0)) dX12_reading_24 (by decide)) (z_c (ok_callV zcal_191 (q := (RX12, TX12, 73)) rfl zw_857 zw_858 zw_859 dX12_reading_25) (z_c (ok_if_ne dX12_reading_28 (by decide)) (z_c (ok_return rfl dX12_reading_31) (z_c (ok_aload_n dX12_reading_32 rfl) (z_c (ok_iload_n dX12_reading_33 rfl) (z_c (ok_putf (C := RX12) (T := TX12) (N := 73) false tyX12 tyX12_ok nmX12 rfl (by decide) zinX12 rfl zw_722 rfl (fun h => absurd h (by decide)) rfl dX12_reading_34) (z_c (ok_aload_n dX12_reading_37 rfl) z_n))))))))))))
noncomputable def tX12_reading_2 : List (Nat × zF) := [(38, (zgf 12 27)), (41, (zli4 2 1)), (42, (zla4 0 1)), (43, (zgf 12 33)), (46, (zas 0)), (47, (zla4 0 1)), (48, (zli4 1 1)), (49, (z_if_eq 56)), (52, (zst 1 (zp (.int (1))))), (53, (zgt 57)), (56, (zst 1 (zp (.int (0))))), (57, (zcv 190 1 12))]
theorem kX12_reading_2 : ∀ q ∈ tX12_reading_2, zOk zg iX12_reading q.1 q.2 := (z_c (ok_getf (C := RX12) (T := TX12) (N := 73) rfl (by decide) zinX12 rfl zw_714 dX12_reading_38) (z_c (ok_iload_n dX12_reading_41 rfl) (z_c (ok_aload_n dX12_reading_42 rfl) (z_c (ok_getf (C := RX12) (T := TX12) (N := 73) rfl (by decide) zinX12 rfl zw_720 dX12_reading_43) (z_c (ok_iastore rfl dX12_reading_46) (z_c (ok_aload_n dX12_reading_47 rfl) (z_c (ok_iload_n dX12_reading_48 rfl) (z_c (ok_if_eq dX12_reading_49 (by decide)) (z_c (ok_iconst (v := (1)) dX12_reading_52 (by decide)) (z_c (ok_goto dX12_reading_53 (by decide)) (z_c (ok_iconst (v := (0)) dX12_reading_56 (by decide)) (z_c (ok_callV zcal_190 (q := (RX12, TX12, 73)) rfl zw_868 zw_869 zw_870 dX12_reading_57) z_n))))))))))))
noncomputable def tX12_reading_3 : List (Nat × zF) := [(60, (zla4 0 1)), (61, (zgf 12 28)), (64, (zli4 2 1)), (65, (zla4 0 1)), (66, (zgf 12 33)), (69, (zas 0)), (70, zrv)]
theorem kX12_reading_3 : ∀ q ∈ tX12_reading_3, zOk zg iX12_reading q.1 q.2 := (z_c (ok_aload_n dX12_reading_60 rfl) (z_c (ok_getf (C := RX12) (T := TX12) (N := 73) rfl (by decide) zinX12 rfl zw_715 dX12_reading_61) (z_c (ok_iload_n dX12_reading_64 rfl) (z_c (ok_aload_n dX12_reading_65 rfl) (z_c (ok_getf (C := RX12) (T := TX12) (N := 73) rfl (by decide) zinX12 rfl zw_720 dX12_reading_66) (z_c (ok_iastore rfl dX12_reading_69) (z_c (ok_return rfl dX12_reading_70) z_n)))))))
noncomputable def tX12_reading : zT := [(16, tX12_reading_0), (38, tX12_reading_1), (60, tX12_reading_2), (100000, tX12_reading_3)]
theorem kX12_reading : zTok zg iX12_reading tX12_reading := (z_t kX12_reading_0 (z_t kX12_reading_1 (z_t kX12_reading_2 (z_t kX12_reading_3 z_tn))))
theorem dX12_statement_0 : decode cX12_statement 0 = .ok (.aload_n 0, 1) := by decide +kernel
theorem dX12_statement_1 : decode cX12_statement 1 = .ok (.invokevirtual 253, 3) := by decide +kernel
theorem dX12_statement_4 : decode cX12_statement 4 = .ok (.aload_n 0, 1) := by decide +kernel
theorem dX12_statement_5 : decode cX12_statement 5 = .ok (.getfield 36, 3) := by decide +kernel
theorem dX12_statement_8 : decode cX12_statement 8 = .ok (.ifCond .le 4, 3) := by decide +kernel
theorem dX12_statement_11 : decode cX12_statement 11 = .ok (.return_, 1) := by decide +kernel
theorem dX12_statement_12 : decode cX12_statement 12 = .ok (.aload_n 0, 1) := by decide +kernel
theorem dX12_statement_13 : decode cX12_statement 13 = .ok (.ldc2_w 266, 3) := by decide +kernel
theorem dX12_statement_16 : decode cX12_statement 16 = .ok (.invokevirtual 334, 3) := by decide +kernel
theorem dX12_statement_19 : decode cX12_statement 19 = .ok (.ifCond .eq 22, 3) := by decide +kernel
theorem dX12_statement_22 : decode cX12_statement 22 = .ok (.aload_n 0, 1) := by decide +kernel
theorem dX12_statement_23 : decode cX12_statement 23 = .ok (.getfield 60, 3) := by decide +kernel
theorem dX12_statement_26 : decode cX12_statement 26 = .ok (.aload_n 0, 1) := by decide +kernel
theorem dX12_statement_27 : decode cX12_statement 27 = .ok (.getfield 115, 3) := by decide +kernel
theorem dX12_statement_30 : decode cX12_statement 30 = .ok (.aload_n 0, 1) := by decide +kernel
theorem dX12_statement_31 : decode cX12_statement 31 = .ok (.iconst 1, 1) := by decide +kernel
theorem dX12_statement_32 : decode cX12_statement 32 = .ok (.bipush 9, 2) := by decide +kernel
theorem dX12_statement_34 : decode cX12_statement 34 = .ok (.invokevirtual 390, 3) := by decide +kernel
theorem dX12_statement_37 : decode cX12_statement 37 = .ok (.iastore, 1) := by decide +kernel
theorem dX12_statement_38 : decode cX12_statement 38 = .ok (.goto 163, 3) := by decide +kernel
theorem dX12_statement_41 : decode cX12_statement 41 = .ok (.aload_n 0, 1) := by decide +kernel
theorem dX12_statement_42 : decode cX12_statement 42 = .ok (.ldc2_w 268, 3) := by decide +kernel
theorem dX12_statement_45 : decode cX12_statement 45 = .ok (.invokevirtual 334, 3) := by decide +kernel
theorem dX12_statement_48 : decode cX12_statement 48 = .ok (.ifCond .eq 22, 3) := by decide +kernel
theorem dX12_statement_51 : decode cX12_statement 51 = .ok (.aload_n 0, 1) := by decide +kernel
theorem dX12_statement_52 : decode cX12_statement 52 = .ok (.getfield 63, 3) := by decide +kernel
theorem dX12_statement_55 : decode cX12_statement 55 = .ok (.aload_n 0, 1) := by decide +kernel
theorem dX12_statement_56 : decode cX12_statement 56 = .ok (.getfield 115, 3) := by decide +kernel
theorem dX12_statement_59 : decode cX12_statement 59 = .ok (.aload_n 0, 1) := by decide +kernel
theorem dX12_statement_60 : decode cX12_statement 60 = .ok (.iconst 0, 1) := by decide +kernel
theorem dX12_statement_61 : decode cX12_statement 61 = .ok (.bipush 100, 2) := by decide +kernel
theorem dX12_statement_63 : decode cX12_statement 63 = .ok (.invokevirtual 390, 3) := by decide +kernel
theorem dX12_statement_66 : decode cX12_statement 66 = .ok (.iastore, 1) := by decide +kernel
theorem dX12_statement_67 : decode cX12_statement 67 = .ok (.goto 134, 3) := by decide +kernel
theorem dX12_statement_70 : decode cX12_statement 70 = .ok (.aload_n 0, 1) := by decide +kernel
theorem dX12_statement_71 : decode cX12_statement 71 = .ok (.ldc2_w 270, 3) := by decide +kernel
theorem dX12_statement_74 : decode cX12_statement 74 = .ok (.invokevirtual 334, 3) := by decide +kernel
theorem dX12_statement_77 : decode cX12_statement 77 = .ok (.ifCond .eq 10, 3) := by decide +kernel
theorem dX12_statement_80 : decode cX12_statement 80 = .ok (.aload_n 0, 1) := by decide +kernel
theorem dX12_statement_81 : decode cX12_statement 81 = .ok (.invokevirtual 393, 3) := by decide +kernel
theorem dX12_statement_84 : decode cX12_statement 84 = .ok (.goto 117, 3) := by decide +kernel
theorem dX12_statement_87 : decode cX12_statement 87 = .ok (.aload_n 0, 1) := by decide +kernel
theorem dX12_statement_88 : decode cX12_statement 88 = .ok (.ldc2_w 272, 3) := by decide +kernel
theorem dX12_statement_91 : decode cX12_statement 91 = .ok (.invokevirtual 334, 3) := by decide +kernel
theorem dX12_statement_94 : decode cX12_statement 94 = .ok (.ifCond .eq 10, 3) := by decide +kernel
theorem dX12_statement_97 : decode cX12_statement 97 = .ok (.aload_n 0, 1) := by decide +kernel
theorem dX12_statement_98 : decode cX12_statement 98 = .ok (.invokevirtual 396, 3) := by decide +kernel
theorem dX12_statement_101 : decode cX12_statement 101 = .ok (.goto 100, 3) := by decide +kernel
theorem dX12_statement_104 : decode cX12_statement 104 = .ok (.aload_n 0, 1) := by decide +kernel
theorem dX12_statement_105 : decode cX12_statement 105 = .ok (.ldc2_w 280, 3) := by decide +kernel
theorem dX12_statement_108 : decode cX12_statement 108 = .ok (.invokevirtual 334, 3) := by decide +kernel
theorem dX12_statement_111 : decode cX12_statement 111 = .ok (.ifCond .eq 10, 3) := by decide +kernel
theorem dX12_statement_114 : decode cX12_statement 114 = .ok (.aload_n 0, 1) := by decide +kernel
theorem dX12_statement_115 : decode cX12_statement 115 = .ok (.invokevirtual 399, 3) := by decide +kernel
theorem dX12_statement_118 : decode cX12_statement 118 = .ok (.goto 83, 3) := by decide +kernel
theorem dX12_statement_121 : decode cX12_statement 121 = .ok (.aload_n 0, 1) := by decide +kernel
theorem dX12_statement_122 : decode cX12_statement 122 = .ok (.ldc2_w 282, 3) := by decide +kernel
theorem dX12_statement_125 : decode cX12_statement 125 = .ok (.invokevirtual 334, 3) := by decide +kernel
theorem dX12_statement_128 : decode cX12_statement 128 = .ok (.ifCond .eq 10, 3) := by decide +kernel
theorem dX12_statement_131 : decode cX12_statement 131 = .ok (.aload_n 0, 1) := by decide +kernel
theorem dX12_statement_132 : decode cX12_statement 132 = .ok (.invokevirtual 402, 3) := by decide +kernel
theorem dX12_statement_135 : decode cX12_statement 135 = .ok (.goto 66, 3) := by decide +kernel
theorem dX12_statement_138 : decode cX12_statement 138 = .ok (.aload_n 0, 1) := by decide +kernel
theorem dX12_statement_139 : decode cX12_statement 139 = .ok (.ldc2_w 286, 3) := by decide +kernel
theorem dX12_statement_142 : decode cX12_statement 142 = .ok (.invokevirtual 334, 3) := by decide +kernel
theorem dX12_statement_145 : decode cX12_statement 145 = .ok (.ifCond .eq 11, 3) := by decide +kernel
theorem dX12_statement_148 : decode cX12_statement 148 = .ok (.aload_n 0, 1) := by decide +kernel
theorem dX12_statement_149 : decode cX12_statement 149 = .ok (.iconst 0, 1) := by decide +kernel
theorem dX12_statement_150 : decode cX12_statement 150 = .ok (.invokevirtual 405, 3) := by decide +kernel
theorem dX12_statement_153 : decode cX12_statement 153 = .ok (.goto 48, 3) := by decide +kernel
theorem dX12_statement_156 : decode cX12_statement 156 = .ok (.aload_n 0, 1) := by decide +kernel
theorem dX12_statement_157 : decode cX12_statement 157 = .ok (.ldc2_w 288, 3) := by decide +kernel
theorem dX12_statement_160 : decode cX12_statement 160 = .ok (.invokevirtual 334, 3) := by decide +kernel
theorem dX12_statement_163 : decode cX12_statement 163 = .ok (.ifCond .eq 11, 3) := by decide +kernel
theorem dX12_statement_166 : decode cX12_statement 166 = .ok (.aload_n 0, 1) := by decide +kernel
theorem dX12_statement_167 : decode cX12_statement 167 = .ok (.iconst 1, 1) := by decide +kernel
theorem dX12_statement_168 : decode cX12_statement 168 = .ok (.invokevirtual 405, 3) := by decide +kernel
theorem dX12_statement_171 : decode cX12_statement 171 = .ok (.goto 30, 3) := by decide +kernel
theorem dX12_statement_174 : decode cX12_statement 174 = .ok (.aload_n 0, 1) := by decide +kernel
theorem dX12_statement_175 : decode cX12_statement 175 = .ok (.ldc2_w 290, 3) := by decide +kernel
theorem dX12_statement_178 : decode cX12_statement 178 = .ok (.invokevirtual 334, 3) := by decide +kernel
theorem dX12_statement_181 : decode cX12_statement 181 = .ok (.ifCond .eq 11, 3) := by decide +kernel
theorem dX12_statement_184 : decode cX12_statement 184 = .ok (.aload_n 0, 1) := by decide +kernel
theorem dX12_statement_185 : decode cX12_statement 185 = .ok (.iconst 2, 1) := by decide +kernel
theorem dX12_statement_186 : decode cX12_statement 186 = .ok (.invokevirtual 405, 3) := by decide +kernel
theorem dX12_statement_189 : decode cX12_statement 189 = .ok (.goto 12, 3) := by decide +kernel
theorem dX12_statement_192 : decode cX12_statement 192 = .ok (.aload_n 0, 1) := by decide +kernel
theorem dX12_statement_193 : decode cX12_statement 193 = .ok (.iconst 1, 1) := by decide +kernel
theorem dX12_statement_194 : decode cX12_statement 194 = .ok (.aload_n 0, 1) := by decide +kernel
theorem dX12_statement_195 : decode cX12_statement 195 = .ok (.getfield 23, 3) := by decide +kernel
theorem dX12_statement_198 : decode cX12_statement 198 = .ok (.invokevirtual 242, 3) := by decide +kernel
theorem dX12_statement_201 : decode cX12_statement 201 = .ok (.return_, 1) := by decide +kernel
noncomputable def tX12_statement_0 : List (Nat × zF) := [(0, (zla4 0 1)), (1, (zcv 172 0 12)), (4, (zla4 0 1)), (5, (zgf 12 8)), (8, (z_if_le 12)), (11, zrv), (12, (zla4 0 1)), (13, (zst 3 (zp (.long (1885430629))))), (16, (zcv 175 1 12)), (19, (z_if_eq 41)), (22, (zla4 0 1)), (23, (zgf 12 16))]
theorem kX12_statement_0 : ∀ q ∈ tX12_statement_0, zOk zg iX12_statement q.1 q.2 := (z_c (ok_aload_n dX12_statement_0 rfl) (z_c (ok_callV zcal_172 (q := (RX12, TX12, 73)) rfl zw_774 zw_775 zw_776 dX12_statement_1) (z_c (ok_aload_n dX12_statement_4 rfl) (z_c (ok_getf (C := RX12) (T := TX12) (N := 73) rfl (by decide) zinX12 rfl zw_695 dX12_statement_5) (z_c (ok_if_le dX12_statement_8 (by decide)) (z_c (ok_return rfl dX12_statement_11) (z_c (ok_aload_n dX12_statement_12 rfl) (z_c (ok_ldc2 (v := (1885430629)) zw_785 dX12_statement_13) (z_c (ok_callV zcal_175 (q := (RX12, TX12, 73)) rfl zw_824 zw_825 zw_826 dX12_statement_16) (z_c (ok_if_eq dX12_statement_19 (by decide)) (z_c (ok_aload_n dX12_statement_22 rfl) (z_c (ok_getf (C := RX12) (T := TX12) (N := 73) rfl (by decide) zinX12 rfl zw_703 dX12_statement_23) z_n))))))))))))
noncomputable def tX12_statement_1 : List (Nat × zF) := [(26, (zla4 0 1)), (27, (zgf 12 34)), (30, (zla4 0 1)), (31, (zst 1 (zp (.int (1))))), (32, (zst 2 (zp (.int (9))))), (34, (zcv 198 2 12)), (37, (zas 0)), (38, (zgt 201)), (41, (zla4 0 1)), (42, (zst 3 (zp (.long (1734437989))))), (45, (zcv 175 1 12)), (48, (z_if_eq 70))]
theorem kX12_statement_1 : ∀ q ∈ tX12_statement_1, zOk zg iX12_statement q.1 q.2 := (z_c (ok_aload_n dX12_statement_26 rfl) (z_c (ok_getf (C := RX12) (T := TX12) (N := 73) rfl (by decide) zinX12 rfl zw_721 dX12_statement_27) (z_c (ok_aload_n dX12_statement_30 rfl) (z_c (ok_iconst (v := (1)) dX12_statement_31 (by decide)) (z_c (ok_bipush (v := (9)) dX12_statement_32 (by decide)) (z_c (ok_callV zcal_198 (q := (RX12, TX12, 73)) rfl zw_871 zw_872 zw_873 dX12_statement_34) (z_c (ok_iastore rfl dX12_statement_37) (z_c (ok_goto dX12_statement_38 (by decide)) (z_c (ok_aload_n dX12_statement_41 rfl) (z_c (ok_ldc2 (v := (1734437989)) zw_786 dX12_statement_42) (z_c (ok_callV zcal_175 (q := (RX12, TX12, 73)) rfl zw_824 zw_825 zw_826 dX12_statement_45) (z_c (ok_if_eq dX12_statement_48 (by decide)) z_n))))))))))))
noncomputable def tX12_statement_2 : List (Nat × zF) := [(51, (zla4 0 1)), (52, (zgf 12 17)), (55, (zla4 0 1)), (56, (zgf 12 34)), (59, (zla4 0 1)), (60, (zst 1 (zp (.int (0))))), (61, (zst 2 (zp (.int (100))))), (63, (zcv 198 2 12)), (66, (zas 0)), (67, (zgt 201)), (70, (zla4 0 1)), (71, (zst 3 (zp (.long (2002873452)))))]
theorem kX12_statement_2 : ∀ q ∈ tX12_statement_2, zOk zg iX12_statement q.1 q.2 := (z_c (ok_aload_n dX12_statement_51 rfl) (z_c (ok_getf (C := RX12) (T := TX12) (N := 73) rfl (by decide) zinX12 rfl zw_704 dX12_statement_52) (z_c (ok_aload_n dX12_statement_55 rfl) (z_c (ok_getf (C := RX12) (T := TX12) (N := 73) rfl (by decide) zinX12 rfl zw_721 dX12_statement_56) (z_c (ok_aload_n dX12_statement_59 rfl) (z_c (ok_iconst (v := (0)) dX12_statement_60 (by decide)) (z_c (ok_bipush (v := (100)) dX12_statement_61 (by decide)) (z_c (ok_callV zcal_198 (q := (RX12, TX12, 73)) rfl zw_871 zw_872 zw_873 dX12_statement_63) (z_c (ok_iastore rfl dX12_statement_66) (z_c (ok_goto dX12_statement_67 (by decide)) (z_c (ok_aload_n dX12_statement_70 rfl) (z_c (ok_ldc2 (v := (2002873452)) zw_787 dX12_statement_71) z_n))))))))))))
noncomputable def tX12_statement_3 : List (Nat × zF) := [(74, (zcv 175 1 12)), (77, (z_if_eq 87)), (80, (zla4 0 1)), (81, (zcv 199 0 12)), (84, (zgt 201)), (87, (zla4 0 1)), (88, (zst 3 (zp (.long (1818321771))))), (91, (zcv 175 1 12)), (94, (z_if_eq 104)), (97, (zla4 0 1)), (98, (zcv 200 0 12)), (101, (zgt 201))]
theorem kX12_statement_3 : ∀ q ∈ tX12_statement_3, zOk zg iX12_statement q.1 q.2 := (z_c (ok_callV zcal_175 (q := (RX12, TX12, 73)) rfl zw_824 zw_825 zw_826 dX12_statement_74) (z_c (ok_if_eq dX12_statement_77 (by decide)) (z_c (ok_aload_n dX12_statement_80 rfl) (z_c (ok_callV zcal_199 (q := (RX12, TX12, 73)) rfl zw_874 zw_875 zw_876 dX12_statement_81) (z_c (ok_goto dX12_statement_84 (by decide)) (z_c (ok_aload_n dX12_statement_87 rfl) (z_c (ok_ldc2 (v := (1818321771)) zw_788 dX12_statement_88) (z_c (ok_callV zcal_175 (q := (RX12, TX12, 73)) rfl zw_824 zw_825 zw_826 dX12_statement_91) (z_c (ok_if_eq dX12_statement_94 (by decide)) (z_c (ok_aload_n dX12_statement_97 rfl) (z_c (ok_callV zcal_200 (q := (RX12, TX12, 73)) rfl zw_877 zw_878 zw_879 dX12_statement_98) (z_c (ok_goto dX12_statement_101 (by decide)) z_n))))))))))))
noncomputable def tX12_statement_4 : List (Nat × zF) := [(104, (zla4 0 1)), (105, (zst 3 (zp (.long (6840691))))), (108, (zcv 175 1 12)), (111, (z_if_eq 121)), (114, (zla4 0 1)), (115, (zcv 201 0 12)), (118, (zgt 201)), (121, (zla4 0 1)), (122, (zst 3 (zp (.long (1718578283))))), (125, (zcv 175 1 12)), (128, (z_if_eq 138)), (131, (zla4 0 1))]
theorem kX12_statement_4 : ∀ q ∈ tX12_statement_4, zOk zg iX12_statement q.1 q.2 := (z_c (ok_aload_n dX12_statement_104 rfl) (z_c (ok_ldc2 (v := (6840691)) zw_792 dX12_statement_105) (z_c (ok_callV zcal_175 (q := (RX12, TX12, 73)) rfl zw_824 zw_825 zw_826 dX12_statement_108) (z_c (ok_if_eq dX12_statement_111 (by decide)) (z_c (ok_aload_n dX12_statement_114 rfl) (z_c (ok_callV zcal_201 (q := (RX12, TX12, 73)) rfl zw_880 zw_881 zw_882 dX12_statement_115) (z_c (ok_goto dX12_statement_118 (by decide)) (z_c (ok_aload_n dX12_statement_121 rfl) (z_c (ok_ldc2 (v := (1718578283)) zw_793 dX12_statement_122) (z_c (ok_callV zcal_175 (q := (RX12, TX12, 73)) rfl zw_824 zw_825 zw_826 dX12_statement_125) (z_c (ok_if_eq dX12_statement_128 (by decide)) (z_c (ok_aload_n dX12_statement_131 rfl) z_n))))))))))))
noncomputable def tX12_statement_5 : List (Nat × zF) := [(132, (zcv 202 0 12)), (135, (zgt 201)), (138, (zla4 0 1)), (139, (zst 3 (zp (.long (444200875891))))), (142, (zcv 175 1 12)), (145, (z_if_eq 156)), (148, (zla4 0 1)), (149, (zst 1 (zp (.int (0))))), (150, (zcv 203 1 12)), (153, (zgt 201)), (156, (zla4 0 1)), (157, (zst 3 (zp (.long (439855506547)))))]
theorem kX12_statement_5 : ∀ q ∈ tX12_statement_5, zOk zg iX12_statement q.1 q.2 := (z_c (ok_callV zcal_202 (q := (RX12, TX12, 73)) rfl zw_883 zw_884 zw_885 dX12_statement_132) (z_c (ok_goto dX12_statement_135 (by decide)) (z_c (ok_aload_n dX12_statement_138 rfl) (z_c (ok_ldc2 (v := (444200875891)) zw_795 dX12_statement_139) (z_c (ok_callV zcal_175 (q := (RX12, TX12, 73)) rfl zw_824 zw_825 zw_826 dX12_statement_142) (z_c (ok_if_eq dX12_statement_145 (by decide)) (z_c (ok_aload_n dX12_statement_148 rfl) (z_c (ok_iconst (v := (0)) dX12_statement_149 (by decide)) (z_c (ok_callV zcal_203 (q := (RX12, TX12, 73)) rfl zw_886 zw_887 zw_888 dX12_statement_150) (z_c (ok_goto dX12_statement_153 (by decide)) (z_c (ok_aload_n dX12_statement_156 rfl) (z_c (ok_ldc2 (v := (439855506547)) zw_796 dX12_statement_157) z_n))))))))))))
noncomputable def tX12_statement_6 : List (Nat × zF) := [(160, (zcv 175 1 12)), (163, (z_if_eq 174)), (166, (zla4 0 1)), (167, (zst 1 (zp (.int (1))))), (168, (zcv 203 1 12)), (171, (zgt 201)), (174, (zla4 0 1)), (175, (zst 3 (zp (.long (465726301555))))), (178, (zcv 175 1 12)), (181, (z_if_eq 192)), (184, (zla4 0 1)), (185, (zst 1 (zp (.int (2)))))]
theorem kX12_statement_6 : ∀ q ∈ tX12_statement_6, zOk zg iX12_statement q.1 q.2 := (z_c (ok_callV zcal_175 (q := (RX12, TX12, 73)) rfl zw_824 zw_825 zw_826 dX12_statement_160) (z_c (ok_if_eq dX12_statement_163 (by decide)) (z_c (ok_aload_n dX12_statement_166 rfl) (z_c (ok_iconst (v := (1)) dX12_statement_167 (by decide)) (z_c (ok_callV zcal_203 (q := (RX12, TX12, 73)) rfl zw_886 zw_887 zw_888 dX12_statement_168) (z_c (ok_goto dX12_statement_171 (by decide)) (z_c (ok_aload_n dX12_statement_174 rfl) (z_c (ok_ldc2 (v := (465726301555)) zw_797 dX12_statement_175) (z_c (ok_callV zcal_175 (q := (RX12, TX12, 73)) rfl zw_824 zw_825 zw_826 dX12_statement_178) (z_c (ok_if_eq dX12_statement_181 (by decide)) (z_c (ok_aload_n dX12_statement_184 rfl) (z_c (ok_iconst (v := (2)) dX12_statement_185 (by decide)) z_n))))))))))))
noncomputable def tX12_statement_7 : List (Nat × zF) := [(186, (zcv 203 1 12)), (189, (zgt 201)), (192, (zla4 0 1)), (193, (zst 1 (zp (.int (1))))), (194, (zla4 0 1)), (195, (zgf 12 4)), (198, (zcv 169 2 12)), (201, zrv)]
theorem kX12_statement_7 : ∀ q ∈ tX12_statement_7, zOk zg iX12_statement q.1 q.2 := (z_c (ok_callV zcal_203 (q := (RX12, TX12, 73)) rfl zw_886 zw_887 zw_888 dX12_statement_186) (z_c (ok_goto dX12_statement_189 (by decide)) (z_c (ok_aload_n dX12_statement_192 rfl) (z_c (ok_iconst (v := (1)) dX12_statement_193 (by decide)) (z_c (ok_aload_n dX12_statement_194 rfl) (z_c (ok_getf (C := RX12) (T := TX12) (N := 73) rfl (by decide) zinX12 rfl zw_691 dX12_statement_195) (z_c (ok_callV zcal_169 (q := (RX12, TX12, 73)) rfl zw_767 zw_768 zw_769 dX12_statement_198) (z_c (ok_return rfl dX12_statement_201) z_n))))))))
noncomputable def tX12_statement : zT := [(26, tX12_statement_0), (51, tX12_statement_1), (74, tX12_statement_2), (104, tX12_statement_3), (132, tX12_statement_4), (160, tX12_statement_5), (186, tX12_statement_6), (100000, tX12_statement_7)]
theorem kX12_statement : zTok zg iX12_statement tX12_statement := (z_t kX12_statement_0 (z_t kX12_statement_1 (z_t kX12_statement_2 (z_t kX12_statement_3 (z_t kX12_statement_4 (z_t kX12_statement_5 (z_t kX12_statement_6 (z_t kX12_statement_7 z_tn))))))))
theorem dX12_finishes_0 : decode cX12_finishes 0 = .ok (.aload_n 0, 1) := by decide +kernel
theorem dX12_finishes_1 : decode cX12_finishes 1 = .ok (.invokevirtual 253, 3) := by decide +kernel
theorem dX12_finishes_4 : decode cX12_finishes 4 = .ok (.aload_n 0, 1) := by decide +kernel
theorem dX12_finishes_5 : decode cX12_finishes 5 = .ok (.getfield 36, 3) := by decide +kernel
theorem dX12_finishes_8 : decode cX12_finishes 8 = .ok (.ifCond .le 4, 3) := by decide +kernel
theorem dX12_finishes_11 : decode cX12_finishes 11 = .ok (.return_, 1) := by decide +kernel
theorem dX12_finishes_12 : decode cX12_finishes 12 = .ok (.aload_n 0, 1) := by decide +kernel
theorem dX12_finishes_13 : decode cX12_finishes 13 = .ok (.getfield 26, 3) := by decide +kernel
theorem dX12_finishes_16 : decode cX12_finishes 16 = .ok (.istore_n 2, 1) := by decide +kernel
theorem dX12_finishes_17 : decode cX12_finishes 17 = .ok (.iload_n 2, 1) := by decide +kernel
theorem dX12_finishes_18 : decode cX12_finishes 18 = .ok (.aload_n 0, 1) := by decide +kernel
theorem dX12_finishes_19 : decode cX12_finishes 19 = .ok (.getfield 17, 3) := by decide +kernel
theorem dX12_finishes_22 : decode cX12_finishes 22 = .ok (.if_icmp .ge 31, 3) := by decide +kernel
theorem dX12_finishes_25 : decode cX12_finishes 25 = .ok (.aload_n 0, 1) := by decide +kernel
theorem dX12_finishes_26 : decode cX12_finishes 26 = .ok (.getfield 7, 3) := by decide +kernel
theorem dX12_finishes_29 : decode cX12_finishes 29 = .ok (.iload_n 2, 1) := by decide +kernel
theorem dX12_finishes_30 : decode cX12_finishes 30 = .ok (.iaload, 1) := by decide +kernel
theorem dX12_finishes_31 : decode cX12_finishes 31 = .ok (.bipush 32, 2) := by decide +kernel
theorem dX12_finishes_33 : decode cX12_finishes 33 = .ok (.if_icmp .eq 14, 3) := by decide +kernel
theorem dX12_finishes_36 : decode cX12_finishes 36 = .ok (.aload_n 0, 1) := by decide +kernel
theorem dX12_finishes_37 : decode cX12_finishes 37 = .ok (.getfield 7, 3) := by decide +kernel
theorem dX12_finishes_40 : decode cX12_finishes 40 = .ok (.iload_n 2, 1) := by decide +kernel
theorem dX12_finishes_41 : decode cX12_finishes 41 = .ok (.iaload, 1) := by decide +kernel
theorem dX12_finishes_42 : decode cX12_finishes 42 = .ok (.bipush 10, 2) := by decide +kernel
theorem dX12_finishes_44 : decode cX12_finishes 44 = .ok (.if_icmp .ne 9, 3) := by decide +kernel
theorem dX12_finishes_47 : decode cX12_finishes 47 = .ok (.iinc 2 1, 3) := by decide +kernel
theorem dX12_finishes_50 : decode cX12_finishes 50 = .ok (.goto (-33), 3) := by decide +kernel
theorem dX12_finishes_53 : decode cX12_finishes 53 = .ok (.aload_n 0, 1) := by decide +kernel
theorem dX12_finishes_54 : decode cX12_finishes 54 = .ok (.bipush 59, 2) := by decide +kernel
theorem dX12_finishes_56 : decode cX12_finishes 56 = .ok (.invokevirtual 256, 3) := by decide +kernel
theorem dX12_finishes_59 : decode cX12_finishes 59 = .ok (.ifCond .eq 24, 3) := by decide +kernel
theorem dX12_finishes_62 : decode cX12_finishes 62 = .ok (.iload_n 1, 1) := by decide +kernel
theorem dX12_finishes_63 : decode cX12_finishes 63 = .ok (.bipush 80, 2) := by decide +kernel
theorem dX12_finishes_65 : decode cX12_finishes 65 = .ok (.if_icmp .ne 18, 3) := by decide +kernel
theorem dX12_finishes_68 : decode cX12_finishes 68 = .ok (.iload_n 2, 1) := by decide +kernel
theorem dX12_finishes_69 : decode cX12_finishes 69 = .ok (.aload_n 0, 1) := by decide +kernel
theorem dX12_finishes_70 : decode cX12_finishes 70 = .ok (.getfield 17, 3) := by decide +kernel
theorem dX12_finishes_73 : decode cX12_finishes 73 = .ok (.if_icmp .ge 10, 3) := by decide +kernel
theorem dX12_finishes_76 : decode cX12_finishes 76 = .ok (.aload_n 0, 1) := by decide +kernel
theorem dX12_finishes_77 : decode cX12_finishes 77 = .ok (.bipush 6, 2) := by decide +kernel
theorem dX12_finishes_79 : decode cX12_finishes 79 = .ok (.iload_n 2, 1) := by decide +kernel
theorem dX12_finishes_80 : decode cX12_finishes 80 = .ok (.invokevirtual 242, 3) := by decide +kernel
theorem dX12_finishes_83 : decode cX12_finishes 83 = .ok (.aload_n 0, 1) := by decide +kernel
theorem dX12_finishes_84 : decode cX12_finishes 84 = .ok (.bipush 59, 2) := by decide +kernel
theorem dX12_finishes_86 : decode cX12_finishes 86 = .ok (.invokevirtual 408, 3) := by decide +kernel
theorem dX12_finishes_89 : decode cX12_finishes 89 = .ok (.return_, 1) := by decide +kernel
noncomputable def tX12_finishes_0 : List (Nat × zF) := [(0, (zla4 0 1)), (1, (zcv 172 0 12)), (4, (zla4 0 1)), (5, (zgf 12 8)), (8, (z_if_le 12)), (11, zrv), (12, (zla4 0 1)), (13, (zgf 12 5)), (16, (zsi4 3 2 1)), (17, (zli4 2 1)), (18, (zla4 0 1)), (19, (zgf 12 2))]
theorem kX12_finishes_0 : ∀ q ∈ tX12_finishes_0, zOk zg iX12_finishes q.1 q.2 := (z_c (ok_aload_n dX12_finishes_0 rfl) (z_c (ok_callV zcal_172 (q := (RX12, TX12, 73)) rfl zw_774 zw_775 zw_776 dX12_finishes_1) (z_c (ok_aload_n dX12_finishes_4 rfl) (z_c (ok_getf (C := RX12) (T := TX12) (N := 73) rfl (by decide) zinX12 rfl zw_695 dX12_finishes_5) (z_c (ok_if_le dX12_finishes_8 (by decide)) (z_c (ok_return rfl dX12_finishes_11) (z_c (ok_aload_n dX12_finishes_12 rfl) (z_c (ok_getf (C := RX12) (T := TX12) (N := 73) rfl (by decide) zinX12 rfl zw_692 dX12_finishes_13) (z_c (ok_istore_n dX12_finishes_16 rfl) (z_c (ok_iload_n dX12_finishes_17 rfl) (z_c (ok_aload_n dX12_finishes_18 rfl) (z_c (ok_getf (C := RX12) (T := TX12) (N := 73) rfl (by decide) zinX12 rfl zw_689 dX12_finishes_19) z_n))))))))))))
noncomputable def tX12_finishes_1 : List (Nat × zF) := [(22, (z_ic_ge 53)), (25, (zla4 0 1)), (26, (zgf 12 0)), (29, (zli4 2 1)), (30, (zal 0)), (31, (zst 2 (zp (.int (32))))), (33, (z_ic_eq 47)), (36, (zla4 0 1)), (37, (zgf 12 0)), (40, (zli4 2 1)), (41, (zal 0)), (42, (zst 2 (zp (.int (10)))))]
theorem kX12_finishes_1 : ∀ q ∈ tX12_finishes_1, zOk zg iX12_finishes q.1 q.2 := (z_c (ok_icmp_ge dX12_finishes_22 (by decide)) (z_c (ok_aload_n dX12_finishes_25 rfl) (z_c (ok_getf (C := RX12) (T := TX12) (N := 73) rfl (by decide) zinX12 rfl zw_687 dX12_finishes_26) (z_c (ok_iload_n dX12_finishes_29 rfl) (z_c (ok_iaload rfl dX12_finishes_30) (z_c (ok_bipush (v := (32)) dX12_finishes_31 (by decide)) (z_c (ok_icmp_eq dX12_finishes_33 (by decide)) (z_c (ok_aload_n dX12_finishes_36 rfl) (z_c (ok_getf (C := RX12) (T := TX12) (N := 73) rfl (by decide) zinX12 rfl zw_687 dX12_finishes_37) (z_c (ok_iload_n dX12_finishes_40 rfl) (z_c (ok_iaload rfl dX12_finishes_41) (z_c (ok_bipush (v := (10)) dX12_finishes_42 (by decide)) z_n))))))))))))
noncomputable def tX12_finishes_2 : List (Nat × zF) := [(44, (z_ic_ne 53)), (47, (zin4 3 2 (1))), (50, (zgt 17)), (53, (zla4 0 1)), (54, (zst 2 (zp (.int (59))))), (56, (zcv 174 1 12)), (59, (z_if_eq 83)), (62, (zli4 1 1)), (63, (zst 2 (zp (.int (80))))), (65, (z_ic_ne 83)), (68, (zli4 2 1)), (69, (zla4 0 1))]
theorem kX12_finishes_2 : ∀ q ∈ tX12_finishes_2, zOk zg iX12_finishes q.1 q.2 := (z_c (ok_icmp_ne dX12_finishes_44 (by decide)) (z_c (ok_iinc (v := (1)) dX12_finishes_47 (by decide)) (z_c (ok_goto dX12_finishes_50 (by decide)) (z_c (ok_aload_n dX12_finishes_53 rfl) (z_c (ok_bipush (v := (59)) dX12_finishes_54 (by decide)) (z_c (ok_callV zcal_174 (q := (RX12, TX12, 73)) rfl zw_777 zw_778 zw_779 dX12_finishes_56) (z_c (ok_if_eq dX12_finishes_59 (by decide)) (z_c (ok_iload_n dX12_finishes_62 rfl) (z_c (ok_bipush (v := (80)) dX12_finishes_63 (by decide)) (z_c (ok_icmp_ne dX12_finishes_65 (by decide)) (z_c (ok_iload_n dX12_finishes_68 rfl) (z_c (ok_aload_n dX12_finishes_69 rfl) z_n))))))))))))
noncomputable def tX12_finishes_3 : List (Nat × zF) := [(70, (zgf 12 2)), (73, (z_ic_ge 83)), (76, (zla4 0 1)), (77, (zst 2 (zp (.int (6))))), (79, (zli4 2 1)), (80, (zcv 169 2 12)), (83, (zla4 0 1)), (84, (zst 2 (zp (.int (59))))), (86, (zcv 176 1 12)), (89, zrv)]
theorem kX12_finishes_3 : ∀ q ∈ tX12_finishes_3, zOk zg iX12_finishes q.1 q.2 := (z_c (ok_getf (C := RX12) (T := TX12) (N := 73) rfl (by decide) zinX12 rfl zw_689 dX12_finishes_70) (z_c (ok_icmp_ge dX12_finishes_73 (by decide)) (z_c (ok_aload_n dX12_finishes_76 rfl) (z_c (ok_bipush (v := (6)) dX12_finishes_77 (by decide)) (z_c (ok_iload_n dX12_finishes_79 rfl) (z_c (ok_callV zcal_169 (q := (RX12, TX12, 73)) rfl zw_767 zw_768 zw_769 dX12_finishes_80) (z_c (ok_aload_n dX12_finishes_83 rfl) (z_c (ok_bipush (v := (59)) dX12_finishes_84 (by decide)) (z_c (ok_callV zcal_176 (q := (RX12, TX12, 73)) rfl zw_889 zw_890 zw_891 dX12_finishes_86) (z_c (ok_return rfl dX12_finishes_89) z_n))))))))))
noncomputable def tX12_finishes : zT := [(22, tX12_finishes_0), (44, tX12_finishes_1), (70, tX12_finishes_2), (100000, tX12_finishes_3)]
theorem kX12_finishes : zTok zg iX12_finishes tX12_finishes := (z_t kX12_finishes_0 (z_t kX12_finishes_1 (z_t kX12_finishes_2 (z_t kX12_finishes_3 z_tn))))
theorem dX12_quay_0 : decode cX12_quay 0 = .ok (.aload_n 0, 1) := by decide +kernel
theorem dX12_quay_1 : decode cX12_quay 1 = .ok (.aload_n 0, 1) := by decide +kernel
theorem dX12_quay_2 : decode cX12_quay 2 = .ok (.getfield 13, 3) := by decide +kernel
theorem dX12_quay_5 : decode cX12_quay 5 = .ok (.putfield 17, 3) := by decide +kernel
theorem dX12_quay_8 : decode cX12_quay 8 = .ok (.aload_n 0, 1) := by decide +kernel
theorem dX12_quay_9 : decode cX12_quay 9 = .ok (.iconst 0, 1) := by decide +kernel
theorem dX12_quay_10 : decode cX12_quay 10 = .ok (.putfield 13, 3) := by decide +kernel
theorem dX12_quay_13 : decode cX12_quay 13 = .ok (.aload_n 0, 1) := by decide +kernel
theorem dX12_quay_14 : decode cX12_quay 14 = .ok (.iconst 0, 1) := by decide +kernel
theorem dX12_quay_15 : decode cX12_quay 15 = .ok (.putfield 26, 3) := by decide +kernel
theorem dX12_quay_18 : decode cX12_quay 18 = .ok (.aload_n 0, 1) := by decide +kernel
theorem dX12_quay_19 : decode cX12_quay 19 = .ok (.iconst 0, 1) := by decide +kernel
theorem dX12_quay_20 : decode cX12_quay 20 = .ok (.putfield 36, 3) := by decide +kernel
theorem dX12_quay_23 : decode cX12_quay 23 = .ok (.aload_n 0, 1) := by decide +kernel
theorem dX12_quay_24 : decode cX12_quay 24 = .ok (.iconst (-1), 1) := by decide +kernel
theorem dX12_quay_25 : decode cX12_quay 25 = .ok (.putfield 39, 3) := by decide +kernel
theorem dX12_quay_28 : decode cX12_quay 28 = .ok (.aload_n 0, 1) := by decide +kernel
theorem dX12_quay_29 : decode cX12_quay 29 = .ok (.iconst 1, 1) := by decide +kernel
theorem dX12_quay_30 : decode cX12_quay 30 = .ok (.aload_n 0, 1) := by decide +kernel
theorem dX12_quay_31 : decode cX12_quay 31 = .ok (.getfield 51, 3) := by decide +kernel
theorem dX12_quay_34 : decode cX12_quay 34 = .ok (.isub, 1) := by decide +kernel
theorem dX12_quay_35 : decode cX12_quay 35 = .ok (.putfield 115, 3) := by decide +kernel
theorem dX12_quay_38 : decode cX12_quay 38 = .ok (.aload_n 0, 1) := by decide +kernel
theorem dX12_quay_39 : decode cX12_quay 39 = .ok (.getfield 60, 3) := by decide +kernel
theorem dX12_quay_42 : decode cX12_quay 42 = .ok (.aload_n 0, 1) := by decide +kernel
theorem dX12_quay_43 : decode cX12_quay 43 = .ok (.getfield 115, 3) := by decide +kernel
theorem dX12_quay_46 : decode cX12_quay 46 = .ok (.iconst 3, 1) := by decide +kernel
theorem dX12_quay_47 : decode cX12_quay 47 = .ok (.iastore, 1) := by decide +kernel
theorem dX12_quay_48 : decode cX12_quay 48 = .ok (.aload_n 0, 1) := by decide +kernel
theorem dX12_quay_49 : decode cX12_quay 49 = .ok (.getfield 63, 3) := by decide +kernel
theorem dX12_quay_52 : decode cX12_quay 52 = .ok (.aload_n 0, 1) := by decide +kernel
theorem dX12_quay_53 : decode cX12_quay 53 = .ok (.getfield 115, 3) := by decide +kernel
theorem dX12_quay_56 : decode cX12_quay 56 = .ok (.iconst 0, 1) := by decide +kernel
theorem dX12_quay_57 : decode cX12_quay 57 = .ok (.iastore, 1) := by decide +kernel
theorem dX12_quay_58 : decode cX12_quay 58 = .ok (.aload_n 0, 1) := by decide +kernel
theorem dX12_quay_59 : decode cX12_quay 59 = .ok (.getfield 69, 3) := by decide +kernel
theorem dX12_quay_62 : decode cX12_quay 62 = .ok (.aload_n 0, 1) := by decide +kernel
theorem dX12_quay_63 : decode cX12_quay 63 = .ok (.getfield 115, 3) := by decide +kernel
theorem dX12_quay_66 : decode cX12_quay 66 = .ok (.iconst 0, 1) := by decide +kernel
theorem dX12_quay_67 : decode cX12_quay 67 = .ok (.iastore, 1) := by decide +kernel
theorem dX12_quay_68 : decode cX12_quay 68 = .ok (.aload_n 0, 1) := by decide +kernel
theorem dX12_quay_69 : decode cX12_quay 69 = .ok (.getfield 81, 3) := by decide +kernel
theorem dX12_quay_72 : decode cX12_quay 72 = .ok (.aload_n 0, 1) := by decide +kernel
theorem dX12_quay_73 : decode cX12_quay 73 = .ok (.getfield 115, 3) := by decide +kernel
theorem dX12_quay_76 : decode cX12_quay 76 = .ok (.iconst 0, 1) := by decide +kernel
theorem dX12_quay_77 : decode cX12_quay 77 = .ok (.iastore, 1) := by decide +kernel
theorem dX12_quay_78 : decode cX12_quay 78 = .ok (.aload_n 0, 1) := by decide +kernel
theorem dX12_quay_79 : decode cX12_quay 79 = .ok (.getfield 84, 3) := by decide +kernel
theorem dX12_quay_82 : decode cX12_quay 82 = .ok (.aload_n 0, 1) := by decide +kernel
theorem dX12_quay_83 : decode cX12_quay 83 = .ok (.getfield 115, 3) := by decide +kernel
theorem dX12_quay_86 : decode cX12_quay 86 = .ok (.iconst 0, 1) := by decide +kernel
theorem dX12_quay_87 : decode cX12_quay 87 = .ok (.iastore, 1) := by decide +kernel
theorem dX12_quay_88 : decode cX12_quay 88 = .ok (.iconst 0, 1) := by decide +kernel
theorem dX12_quay_89 : decode cX12_quay 89 = .ok (.istore_n 1, 1) := by decide +kernel
theorem dX12_quay_90 : decode cX12_quay 90 = .ok (.iload_n 1, 1) := by decide +kernel
theorem dX12_quay_91 : decode cX12_quay 91 = .ok (.bipush 64, 2) := by decide +kernel
theorem dX12_quay_93 : decode cX12_quay 93 = .ok (.if_icmp .ge 24, 3) := by decide +kernel
theorem dX12_quay_96 : decode cX12_quay 96 = .ok (.aload_n 0, 1) := by decide +kernel
theorem dX12_quay_97 : decode cX12_quay 97 = .ok (.getfield 66, 3) := by decide +kernel
theorem dX12_quay_100 : decode cX12_quay 100 = .ok (.bipush 64, 2) := by decide +kernel
theorem dX12_quay_102 : decode cX12_quay 102 = .ok (.aload_n 0, 1) := by decide +kernel
theorem dX12_quay_103 : decode cX12_quay 103 = .ok (.getfield 115, 3) := by decide +kernel
theorem dX12_quay_106 : decode cX12_quay 106 = .ok (.imul, 1) := by decide +kernel
theorem dX12_quay_107 : decode cX12_quay 107 = .ok (.iload_n 1, 1) := by decide +kernel
theorem dX12_quay_108 : decode cX12_quay 108 = .ok (.iadd, 1) := by decide +kernel
theorem dX12_quay_109 : decode cX12_quay 109 = .ok (.iconst 0, 1) := by decide +kernel
theorem dX12_quay_110 : decode cX12_quay 110 = .ok (.iastore, 1) := by decide +kernel
theorem dX12_quay_111 : decode cX12_quay 111 = .ok (.iinc 1 1, 3) := by decide +kernel
theorem dX12_quay_114 : decode cX12_quay 114 = .ok (.goto (-24), 3) := by decide +kernel
theorem dX12_quay_117 : decode cX12_quay 117 = .ok (.iconst 3, 1) := by decide +kernel
theorem dX12_quay_118 : decode cX12_quay 118 = .ok (.aload_n 0, 1) := by decide +kernel
theorem dX12_quay_119 : decode cX12_quay 119 = .ok (.getfield 115, 3) := by decide +kernel
theorem dX12_quay_122 : decode cX12_quay 122 = .ok (.imul, 1) := by decide +kernel
theorem dX12_quay_123 : decode cX12_quay 123 = .ok (.istore_n 1, 1) := by decide +kernel
theorem dX12_quay_124 : decode cX12_quay 124 = .ok (.iload_n 1, 1) := by decide +kernel
theorem dX12_quay_125 : decode cX12_quay 125 = .ok (.iconst 3, 1) := by decide +kernel
theorem dX12_quay_126 : decode cX12_quay 126 = .ok (.aload_n 0, 1) := by decide +kernel
theorem dX12_quay_127 : decode cX12_quay 127 = .ok (.getfield 115, 3) := by decide +kernel
theorem dX12_quay_130 : decode cX12_quay 130 = .ok (.imul, 1) := by decide +kernel
theorem dX12_quay_131 : decode cX12_quay 131 = .ok (.iconst 3, 1) := by decide +kernel
theorem dX12_quay_132 : decode cX12_quay 132 = .ok (.iadd, 1) := by decide +kernel
theorem dX12_quay_133 : decode cX12_quay 133 = .ok (.if_icmp .ge 16, 3) := by decide +kernel
theorem dX12_quay_136 : decode cX12_quay 136 = .ok (.aload_n 0, 1) := by decide +kernel
theorem dX12_quay_137 : decode cX12_quay 137 = .ok (.getfield 93, 3) := by decide +kernel
theorem dX12_quay_140 : decode cX12_quay 140 = .ok (.iload_n 1, 1) := by decide +kernel
theorem dX12_quay_141 : decode cX12_quay 141 = .ok (.iconst (-1), 1) := by decide +kernel
theorem dX12_quay_142 : decode cX12_quay 142 = .ok (.iastore, 1) := by decide +kernel
theorem dX12_quay_143 : decode cX12_quay 143 = .ok (.iinc 1 1, 3) := by decide +kernel
theorem dX12_quay_146 : decode cX12_quay 146 = .ok (.goto (-22), 3) := by decide +kernel
theorem dX12_quay_149 : decode cX12_quay 149 = .ok (.aload_n 0, 1) := by decide +kernel
theorem dX12_quay_150 : decode cX12_quay 150 = .ok (.iconst 0, 1) := by decide +kernel
theorem dX12_quay_151 : decode cX12_quay 151 = .ok (.putfield 112, 3) := by decide +kernel
theorem dX12_quay_154 : decode cX12_quay 154 = .ok (.iconst 1, 1) := by decide +kernel
theorem dX12_quay_155 : decode cX12_quay 155 = .ok (.istore_n 1, 1) := by decide +kernel
theorem dX12_quay_156 : decode cX12_quay 156 = .ok (.aload_n 0, 1) := by decide +kernel
theorem dX12_quay_157 : decode cX12_quay 157 = .ok (.invokevirtual 259, 3) := by decide +kernel
theorem dX12_quay_160 : decode cX12_quay 160 = .ok (.aload_n 0, 1) := by decide +kernel
theorem dX12_quay_161 : decode cX12_quay 161 = .ok (.invokevirtual 410, 3) := by decide +kernel
theorem dX12_quay_164 : decode cX12_quay 164 = .ok (.aload_n 0, 1) := by decide +kernel
theorem dX12_quay_165 : decode cX12_quay 165 = .ok (.iload_n 1, 1) := by decide +kernel
theorem dX12_quay_166 : decode cX12_quay 166 = .ok (.invokevirtual 413, 3) := by decide +kernel
theorem dX12_quay_169 : decode cX12_quay 169 = .ok (.aload_n 0, 1) := by decide +kernel
theorem dX12_quay_170 : decode cX12_quay 170 = .ok (.getfield 36, 3) := by decide +kernel
theorem dX12_quay_173 : decode cX12_quay 173 = .ok (.ifCond .ne 25, 3) := by decide +kernel
theorem dX12_quay_176 : decode cX12_quay 176 = .ok (.aload_n 0, 1) := by decide +kernel
theorem dX12_quay_177 : decode cX12_quay 177 = .ok (.getfield 20, 3) := by decide +kernel
theorem dX12_quay_180 : decode cX12_quay 180 = .ok (.ifCond .eq 18, 3) := by decide +kernel
theorem dX12_quay_183 : decode cX12_quay 183 = .ok (.aload_n 0, 1) := by decide +kernel
theorem dX12_quay_184 : decode cX12_quay 184 = .ok (.invokevirtual 416, 3) := by decide +kernel
theorem dX12_quay_187 : decode cX12_quay 187 = .ok (.iinc 1 1, 3) := by decide +kernel
theorem dX12_quay_190 : decode cX12_quay 190 = .ok (.aload_n 0, 1) := by decide +kernel
theorem dX12_quay_191 : decode cX12_quay 191 = .ok (.iload_n 1, 1) := by decide +kernel
theorem dX12_quay_192 : decode cX12_quay 192 = .ok (.invokevirtual 413, 3) := by decide +kernel
theorem dX12_quay_195 : decode cX12_quay 195 = .ok (.goto (-26), 3) := by decide +kernel
theorem dX12_quay_198 : decode cX12_quay 198 = .ok (.aload_n 0, 1) := by decide +kernel
theorem dX12_quay_199 : decode cX12_quay 199 = .ok (.aload_n 0, 1) := by decide +kernel
theorem dX12_quay_200 : decode cX12_quay 200 = .ok (.getfield 36, 3) := by decide +kernel
theorem dX12_quay_203 : decode cX12_quay 203 = .ok (.putfield 42, 3) := by decide +kernel
theorem dX12_quay_206 : decode cX12_quay 206 = .ok (.aload_n 0, 1) := by decide +kernel
theorem dX12_quay_207 : decode cX12_quay 207 = .ok (.aload_n 0, 1) := by decide +kernel
theorem dX12_quay_208 : decode cX12_quay 208 = .ok (.getfield 39, 3) := by decide +kernel
theorem dX12_quay_211 : decode cX12_quay 211 = .ok (.putfield 45, 3) := by decide +kernel
theorem dX12_quay_214 : decode cX12_quay 214 = .ok (.aload_n 0, 1) := by decide +kernel
theorem dX12_quay_215 : decode cX12_quay 215 = .ok (.getfield 36, 3) := by decide +kernel
theorem dX12_quay_218 : decode cX12_quay 218 = .ok (.ifCond .le 9, 3) := by decide +kernel
theorem dX12_quay_221 : decode cX12_quay 221 = .ok (.aload_n 0, 1) := by decide +kernel
theorem dX12_quay_222 : decode cX12_quay 222 = .ok (.iconst 1, 1) := by decide +kernel
theorem dX12_quay_223 : decode cX12_quay 223 = .ok (.invokevirtual 234, 3) := by decide +kernel
theorem dX12_quay_226 : decode cX12_quay 226 = .ok (.ireturn, 1) := by decide +kernel
theorem dX12_quay_227 : decode cX12_quay 227 = .ok (.aload_n 0, 1) := by decide +kernel
theorem dX12_quay_228 : decode cX12_quay 228 = .ok (.aload_n 0, 1) := by decide +kernel
theorem dX12_quay_229 : decode cX12_quay 229 = .ok (.getfield 115, 3) := by decide +kernel
theorem dX12_quay_232 : decode cX12_quay 232 = .ok (.putfield 51, 3) := by decide +kernel
theorem dX12_quay_235 : decode cX12_quay 235 = .ok (.aload_n 0, 1) := by decide +kernel
theorem dX12_quay_236 : decode cX12_quay 236 = .ok (.iconst 1, 1) := by decide +kernel
theorem dX12_quay_237 : decode cX12_quay 237 = .ok (.putfield 153, 3) := by decide +kernel
theorem dX12_quay_240 : decode cX12_quay 240 = .ok (.aload_n 0, 1) := by decide +kernel
theorem dX12_quay_241 : decode cX12_quay 241 = .ok (.invokevirtual 419, 3) := by decide +kernel
theorem dX12_quay_244 : decode cX12_quay 244 = .ok (.iload_n 1, 1) := by decide +kernel
theorem dX12_quay_245 : decode cX12_quay 245 = .ok (.ireturn, 1) := by decide +kernel
noncomputable def tX12_quay_0 : List (Nat × zF) := [(0, (zla4 0 1)), (1, (zla4 0 1)), (2, (zgf 12 1)), (5, (zpf 12 2 (.int))), (8, (zla4 0 1)), (9, (zst 1 (zp (.int (0))))), (10, (zpf 12 1 (.int))), (13, (zla4 0 1)), (14, (zst 1 (zp (.int (0))))), (15, (zpf 12 5 (.int))), (18, (zla4 0 1)), (19, (zst 1 (zp (.int (0)))))]
theorem kX12_quay_0 : ∀ q ∈ tX12_quay_0, zOk zg iX12_quay q.1 q.2 := (z_c (ok_aload_n dX12_quay_0 rfl) (z_c (ok_aload_n dX12_quay_1 rfl) (z_c (ok_getf (C := RX12) (T := TX12) (N := 73) rfl (by decide) zinX12 rfl zw_688 dX12_quay_2) (z_c (ok_putf (C := RX12) (T := TX12) (N := 73) false tyX12 tyX12_ok nmX12 rfl (by decide) zinX12 rfl zw_689 rfl (fun h => absurd h (by decide)) rfl dX12_quay_5) (z_c (ok_aload_n dX12_quay_8 rfl) (z_c (ok_iconst (v := (0)) dX12_quay_9 (by decide)) (z_c (ok_putf (C := RX12) (T := TX12) (N := 73) false tyX12 tyX12_ok nmX12 rfl (by decide) zinX12 rfl zw_688 rfl (fun h => absurd h (by decide)) rfl dX12_quay_10) (z_c (ok_aload_n dX12_quay_13 rfl) (z_c (ok_iconst (v := (0)) dX12_quay_14 (by decide)) (z_c (ok_putf (C := RX12) (T := TX12) (N := 73) false tyX12 tyX12_ok nmX12 rfl (by decide) zinX12 rfl zw_692 rfl (fun h => absurd h (by decide)) rfl dX12_quay_15) (z_c (ok_aload_n dX12_quay_18 rfl) (z_c (ok_iconst (v := (0)) dX12_quay_19 (by decide)) z_n))))))))))))
noncomputable def tX12_quay_1 : List (Nat × zF) := [(20, (zpf 12 8 (.int))), (23, (zla4 0 1)), (24, (zst 1 (zp (.int ((-1)))))), (25, (zpf 12 9 (.int))), (28, (zla4 0 1)), (29, (zst 1 (zp (.int (1))))), (30, (zla4 0 1)), (31, (zgf 12 13)), (34, (zst 1 z_isub)), (35, (zpf 12 34 (.int))), (38, (zla4 0 1)), (39, (zgf 12 16))]
theorem kX12_quay_1 : ∀ q ∈ tX12_quay_1, zOk zg iX12_quay q.1 q.2 := (z_c (ok_putf (C := RX12) (T := TX12) (N := 73) false tyX12 tyX12_ok nmX12 rfl (by decide) zinX12 rfl zw_695 rfl (fun h => absurd h (by decide)) rfl dX12_quay_20) (z_c (ok_aload_n dX12_quay_23 rfl) (z_c (ok_iconst (v := (-1)) dX12_quay_24 (by decide)) (z_c (ok_putf (C := RX12) (T := TX12) (N := 73) false tyX12 tyX12_ok nmX12 rfl (by decide) zinX12 rfl zw_696 rfl (fun h => absurd h (by decide)) rfl dX12_quay_25) (z_c (ok_aload_n dX12_quay_28 rfl) (z_c (ok_iconst (v := (1)) dX12_quay_29 (by decide)) (z_c (ok_aload_n dX12_quay_30 rfl) (z_c (ok_getf (C := RX12) (T := TX12) (N := 73) rfl (by decide) zinX12 rfl zw_700 dX12_quay_31) (z_c (ok_isub dX12_quay_34) (z_c (ok_putf (C := RX12) (T := TX12) (N := 73) false tyX12 tyX12_ok nmX12 rfl (by decide) zinX12 rfl zw_721 rfl (fun h => absurd h (by decide)) rfl dX12_quay_35) (z_c (ok_aload_n dX12_quay_38 rfl) (z_c (ok_getf (C := RX12) (T := TX12) (N := 73) rfl (by decide) zinX12 rfl zw_703 dX12_quay_39) z_n))))))))))))
noncomputable def tX12_quay_2 : List (Nat × zF) := [(42, (zla4 0 1)), (43, (zgf 12 34)), (46, (zst 1 (zp (.int (3))))), (47, (zas 0)), (48, (zla4 0 1)), (49, (zgf 12 17)), (52, (zla4 0 1)), (53, (zgf 12 34)), (56, (zst 1 (zp (.int (0))))), (57, (zas 0)), (58, (zla4 0 1)), (59, (zgf 12 19))]
theorem kX12_quay_2 : ∀ q ∈ tX12_quay_2, zOk zg iX12_quay q.1 q.2 := (z_c (ok_aload_n dX12_quay_42 rfl) (z_c (ok_getf (C := RX12) (T := TX12) (N := 73) rfl (by decide) zinX12 rfl zw_721 dX12_quay_43) (z_c (ok_iconst (v := (3)) dX12_quay_46 (by decide)) (z_c (ok_iastore rfl dX12_quay_47) (z_c (ok_aload_n dX12_quay_48 rfl) (z_c (ok_getf (C := RX12) (T := TX12) (N := 73) rfl (by decide) zinX12 rfl zw_704 dX12_quay_49) (z_c (ok_aload_n dX12_quay_52 rfl) (z_c (ok_getf (C := RX12) (T := TX12) (N := 73) rfl (by decide) zinX12 rfl zw_721 dX12_quay_53) (z_c (ok_iconst (v := (0)) dX12_quay_56 (by decide)) (z_c (ok_iastore rfl dX12_quay_57) (z_c (ok_aload_n dX12_quay_58 rfl) (z_c (ok_getf (C := RX12) (T := TX12) (N := 73) rfl (by decide) zinX12 rfl zw_706 dX12_quay_59) z_n))))))))))))
noncomputable def tX12_quay_3 : List (Nat × zF) := [(62, (zla4 0 1)), (63, (zgf 12 34)), (66, (zst 1 (zp (.int (0))))), (67, (zas 0)), (68, (zla4 0 1)), (69, (zgf 12 23)), (72, (zla4 0 1)), (73, (zgf 12 34)), (76, (zst 1 (zp (.int (0))))), (77, (zas 0)), (78, (zla4 0 1)), (79, (zgf 12 24))]
theorem kX12_quay_3 : ∀ q ∈ tX12_quay_3, zOk zg iX12_quay q.1 q.2 := (z_c (ok_aload_n dX12_quay_62 rfl) (z_c (ok_getf (C := RX12) (T := TX12) (N := 73) rfl (by decide) zinX12 rfl zw_721 dX12_quay_63) (z_c (ok_iconst (v := (0)) dX12_quay_66 (by decide)) (z_c (ok_iastore rfl dX12_quay_67) (z_c (ok_aload_n dX12_quay_68 rfl) (z_c (ok_getf (C := RX12) (T := TX12) (N := 73) rfl (by decide) zinX12 rfl zw_710 dX12_quay_69) (z_c (ok_aload_n dX12_quay_72 rfl) (z_c (ok_getf (C := RX12) (T := TX12) (N := 73) rfl (by decide) zinX12 rfl zw_721 dX12_quay_73) (z_c (ok_iconst (v := (0)) dX12_quay_76 (by decide)) (z_c (ok_iastore rfl dX12_quay_77) (z_c (ok_aload_n dX12_quay_78 rfl) (z_c (ok_getf (C := RX12) (T := TX12) (N := 73) rfl (by decide) zinX12 rfl zw_711 dX12_quay_79) z_n))))))))))))
noncomputable def tX12_quay_4 : List (Nat × zF) := [(82, (zla4 0 1)), (83, (zgf 12 34)), (86, (zst 1 (zp (.int (0))))), (87, (zas 0)), (88, (zst 1 (zp (.int (0))))), (89, (zsi4 2 1 1)), (90, (zli4 1 1)), (91, (zst 2 (zp (.int (64))))), (93, (z_ic_ge 117)), (96, (zla4 0 1)), (97, (zgf 12 18)), (100, (zst 2 (zp (.int (64)))))]
theorem kX12_quay_4 : ∀ q ∈ tX12_quay_4, zOk zg iX12_quay q.1 q.2 := (z_c (ok_aload_n dX12_quay_82 rfl) (z_c (ok_getf (C := RX12) (T := TX12) (N := 73) rfl (by decide) zinX12 rfl zw_721 dX12_quay_83) (z_c (ok_iconst (v := (0)) dX12_quay_86 (by decide)) (z_c (ok_iastore rfl dX12_quay_87) (z_c (ok_iconst (v := (0)) dX12_quay_88 (by decide)) (z_c (ok_istore_n dX12_quay_89 rfl) (z_c (ok_iload_n dX12_quay_90 rfl) (z_c (ok_bipush (v := (64)) dX12_quay_91 (by decide)) (z_c (ok_icmp_ge dX12_quay_93 (by decide)) (z_c (ok_aload_n dX12_quay_96 rfl) (z_c (ok_getf (C := RX12) (T := TX12) (N := 73) rfl (by decide) zinX12 rfl zw_705 dX12_quay_97) (z_c (ok_bipush (v := (64)) dX12_quay_100 (by decide)) z_n))))))))))))
noncomputable def tX12_quay_5 : List (Nat × zF) := [(102, (zla4 0 1)), (103, (zgf 12 34)), (106, (zst 1 z_imul)), (107, (zli4 1 1)), (108, (zst 1 z_iadd)), (109, (zst 1 (zp (.int (0))))), (110, (zas 0)), (111, (zin4 2 1 (1))), (114, (zgt 90)), (117, (zst 1 (zp (.int (3))))), (118, (zla4 0 1)), (119, (zgf 12 34))]
theorem kX12_quay_5 : ∀ q ∈ tX12_quay_5, zOk zg iX12_quay q.1 q.2 := (z_c (ok_aload_n dX12_quay_102 rfl) (z_c (ok_getf (C := RX12) (T := TX12) (N := 73) rfl (by decide) zinX12 rfl zw_721 dX12_quay_103) (z_c (ok_imul dX12_quay_106) (z_c (ok_iload_n dX12_quay_107 rfl) (z_c (ok_iadd dX12_quay_108) (z_c (ok_iconst (v := (0)) dX12_quay_109 (by decide)) (z_c (ok_iastore rfl dX12_quay_110) (z_c (ok_iinc (v := (1)) dX12_quay_111 (by decide)) (z_c (ok_goto dX12_quay_114 (by decide)) (z_c (ok_iconst (v := (3)) dX12_quay_117 (by decide)) (z_c (ok_aload_n dX12_quay_118 rfl) (z_c (ok_getf (C := RX12) (T := TX12) (N := 73) rfl (by decide) zinX12 rfl zw_721 dX12_quay_119) z_n))))))))))))
noncomputable def tX12_quay_6 : List (Nat × zF) := [(122, (zst 1 z_imul)), (123, (zsi4 2 1 1)), (124, (zli4 1 1)), (125, (zst 1 (zp (.int (3))))), (126, (zla4 0 1)), (127, (zgf 12 34)), (130, (zst 1 z_imul)), (131, (zst 1 (zp (.int (3))))), (132, (zst 1 z_iadd)), (133, (z_ic_ge 149)), (136, (zla4 0 1)), (137, (zgf 12 27))]
theorem kX12_quay_6 : ∀ q ∈ tX12_quay_6, zOk zg iX12_quay q.1 q.2 := (z_c (ok_imul dX12_quay_122) (z_c (ok_istore_n dX12_quay_123 rfl) (z_c (ok_iload_n dX12_quay_124 rfl) (z_c (ok_iconst (v := (3)) dX12_quay_125 (by decide)) (z_c (ok_aload_n dX12_quay_126 rfl) (z_c (ok_getf (C := RX12) (T := TX12) (N := 73) rfl (by decide) zinX12 rfl zw_721 dX12_quay_127) (z_c (ok_imul dX12_quay_130) (z_c (ok_iconst (v := (3)) dX12_quay_131 (by decide)) (z_c (ok_iadd dX12_quay_132) (z_c (ok_icmp_ge dX12_quay_133 (by decide)) (z_c (ok_aload_n dX12_quay_136 rfl) (z_c (ok_getf (C := RX12) (T := TX12) (N := 73) rfl (by decide) zinX12 rfl zw_714 dX12_quay_137) z_n))))))))))))
noncomputable def tX12_quay_7 : List (Nat × zF) := [(140, (zli4 1 1)), (141, (zst 1 (zp (.int ((-1)))))), (142, (zas 0)), (143, (zin4 2 1 (1))), (146, (zgt 124)), (149, (zla4 0 1)), (150, (zst 1 (zp (.int (0))))), (151, (zpf 12 33 (.int))), (154, (zst 1 (zp (.int (1))))), (155, (zsi4 2 1 1)), (156, (zla4 0 1)), (157, (zcv 173 0 12))]
theorem kX12_quay_7 : ∀ q ∈ tX12_quay_7, zOk zg iX12_quay q.1 q.2 := (z_c (ok_iload_n dX12_quay_140 rfl) (z_c (ok_iconst (v := (-1)) dX12_quay_141 (by decide)) (z_c (ok_iastore rfl dX12_quay_142) (z_c (ok_iinc (v := (1)) dX12_quay_143 (by decide)) (z_c (ok_goto dX12_quay_146 (by decide)) (z_c (ok_aload_n dX12_quay_149 rfl) (z_c (ok_iconst (v := (0)) dX12_quay_150 (by decide)) (z_c (ok_putf (C := RX12) (T := TX12) (N := 73) false tyX12 tyX12_ok nmX12 rfl (by decide) zinX12 rfl zw_720 rfl (fun h => absurd h (by decide)) rfl dX12_quay_151) (z_c (ok_iconst (v := (1)) dX12_quay_154 (by decide)) (z_c (ok_istore_n dX12_quay_155 rfl) (z_c (ok_aload_n dX12_quay_156 rfl) (z_c (ok_callV zcal_173 (q := (RX12, TX12, 73)) rfl zw_780 zw_781 zw_782 dX12_quay_157) z_n))))))))))))
noncomputable def tX12_quay_8 : List (Nat × zF) := [(160, (zla4 0 1)), (161, (zcv 197 0 12)), (164, (zla4 0 1)), (165, (zli4 1 1)), (166, (zcv 205 1 12)), (169, (zla4 0 1)), (170, (zgf 12 8)), (173, (z_if_ne 198)), (176, (zla4 0 1)), (177, (zgf 12 3)), (180, (z_if_eq 198)), (183, (zla4 0 1))]
theorem kX12_quay_8 : ∀ q ∈ tX12_quay_8, zOk zg iX12_quay q.1 q.2 := (z_c (ok_aload_n dX12_quay_160 rfl) (z_c (ok_callV zcal_197 (q := (RX12, TX12, 73)) rfl zw_892 zw_893 zw_894 dX12_quay_161) (z_c (ok_aload_n dX12_quay_164 rfl) (z_c (ok_iload_n dX12_quay_165 rfl) (z_c (ok_callV zcal_205 (q := (RX12, TX12, 73)) rfl zw_895 zw_896 zw_897 dX12_quay_166) (z_c (ok_aload_n dX12_quay_169 rfl) (z_c (ok_getf (C := RX12) (T := TX12) (N := 73) rfl (by decide) zinX12 rfl zw_695 dX12_quay_170) (z_c (ok_if_ne dX12_quay_173 (by decide)) (z_c (ok_aload_n dX12_quay_176 rfl) (z_c (ok_getf (C := RX12) (T := TX12) (N := 73) rfl (by decide) zinX12 rfl zw_690 dX12_quay_177) (z_c (ok_if_eq dX12_quay_180 (by decide)) (z_c (ok_aload_n dX12_quay_183 rfl) z_n))))))))))))
noncomputable def tX12_quay_9 : List (Nat × zF) := [(184, (zcv 204 0 12)), (187, (zin4 2 1 (1))), (190, (zla4 0 1)), (191, (zli4 1 1)), (192, (zcv 205 1 12)), (195, (zgt 169)), (198, (zla4 0 1)), (199, (zla4 0 1)), (200, (zgf 12 8)), (203, (zpf 12 10 (.int))), (206, (zla4 0 1)), (207, (zla4 0 1))]
theorem kX12_quay_9 : ∀ q ∈ tX12_quay_9, zOk zg iX12_quay q.1 q.2 := (z_c (ok_callV zcal_204 (q := (RX12, TX12, 73)) rfl zw_898 zw_899 zw_900 dX12_quay_184) (z_c (ok_iinc (v := (1)) dX12_quay_187 (by decide)) (z_c (ok_aload_n dX12_quay_190 rfl) (z_c (ok_iload_n dX12_quay_191 rfl) (z_c (ok_callV zcal_205 (q := (RX12, TX12, 73)) rfl zw_895 zw_896 zw_897 dX12_quay_192) (z_c (ok_goto dX12_quay_195 (by decide)) (z_c (ok_aload_n dX12_quay_198 rfl) (z_c (ok_aload_n dX12_quay_199 rfl) (z_c (ok_getf (C := RX12) (T := TX12) (N := 73) rfl (by decide) zinX12 rfl zw_695 dX12_quay_200) (z_c (ok_putf (C := RX12) (T := TX12) (N := 73) false tyX12 tyX12_ok nmX12 rfl (by decide) zinX12 rfl zw_697 rfl (fun h => absurd h (by decide)) rfl dX12_quay_203) (z_c (ok_aload_n dX12_quay_206 rfl) (z_c (ok_aload_n dX12_quay_207 rfl) z_n))))))))))))
noncomputable def tX12_quay_10 : List (Nat × zF) := [(208, (zgf 12 9)), (211, (zpf 12 11 (.int))), (214, (zla4 0 1)), (215, (zgf 12 8)), (218, (z_if_le 227)), (221, (zla4 0 1)), (222, (zst 1 (zp (.int (1))))), (223, (zcv 208 1 12)), (226, (zri false)), (227, (zla4 0 1)), (228, (zla4 0 1)), (229, (zgf 12 34))]
theorem kX12_quay_10 : ∀ q ∈ tX12_quay_10, zOk zg iX12_quay q.1 q.2 := (z_c (ok_getf (C := RX12) (T := TX12) (N := 73) rfl (by decide) zinX12 rfl zw_696 dX12_quay_208) (z_c (ok_putf (C := RX12) (T := TX12) (N := 73) false tyX12 tyX12_ok nmX12 rfl (by decide) zinX12 rfl zw_698 rfl (fun h => absurd h (by decide)) rfl dX12_quay_211) (z_c (ok_aload_n dX12_quay_214 rfl) (z_c (ok_getf (C := RX12) (T := TX12) (N := 73) rfl (by decide) zinX12 rfl zw_695 dX12_quay_215) (z_c (ok_if_le dX12_quay_218 (by decide)) (z_c (ok_aload_n dX12_quay_221 rfl) (z_c (ok_iconst (v := (1)) dX12_quay_222 (by decide)) (z_c (ok_callV zcal_208 (q := (RX12, TX12, 73)) rfl zw_761 zw_762 zw_763 dX12_quay_223) (z_c (ok_ireturn rfl dX12_quay_226) (z_c (ok_aload_n dX12_quay_227 rfl) (z_c (ok_aload_n dX12_quay_228 rfl) (z_c (ok_getf (C := RX12) (T := TX12) (N := 73) rfl (by decide) zinX12 rfl zw_721 dX12_quay_229) z_n))))))))))))
noncomputable def tX12_quay_11 : List (Nat × zF) := [(232, (zpf 12 13 (.int))), (235, (zla4 0 1)), (236, (zst 1 (zp (.int (1))))), (237, (zpf 12 46 (.boolean))), (240, (zla4 0 1)), (241, (zcv 211 0 12)), (244, (zli4 1 1)), (245, (zri false))]
theorem kX12_quay_11 : ∀ q ∈ tX12_quay_11, zOk zg iX12_quay q.1 q.2 := (z_c (ok_putf (C := RX12) (T := TX12) (N := 73) false tyX12 tyX12_ok nmX12 rfl (by decide) zinX12 rfl zw_700 rfl (fun h => absurd h (by decide)) rfl dX12_quay_232) (z_c (ok_aload_n dX12_quay_235 rfl) (z_c (ok_iconst (v := (1)) dX12_quay_236 (by decide)) (z_c (ok_putf (C := RX12) (T := TX12) (N := 73) false tyX12 tyX12_ok nmX12 rfl (by decide) zinX12 rfl zw_734 rfl (fun h => absurd h (by decide)) rfl dX12_quay_237) (z_c (ok_aload_n dX12_quay_240 rfl) (z_c (ok_callV zcal_211 (q := (RX12, TX12, 73)) rfl zw_901 zw_902 zw_903 dX12_quay_241) (z_c (ok_iload_n dX12_quay_244 rfl) (z_c (ok_ireturn rfl dX12_quay_245) z_n))))))))
noncomputable def tX12_quay : zT := [(20, tX12_quay_0), (42, tX12_quay_1), (62, tX12_quay_2), (82, tX12_quay_3), (102, tX12_quay_4), (122, tX12_quay_5), (140, tX12_quay_6), (160, tX12_quay_7), (184, tX12_quay_8), (208, tX12_quay_9), (232, tX12_quay_10), (100000, tX12_quay_11)]
theorem kX12_quay : zTok zg iX12_quay tX12_quay := (z_t kX12_quay_0 (z_t kX12_quay_1 (z_t kX12_quay_2 (z_t kX12_quay_3 (z_t kX12_quay_4 (z_t kX12_quay_5 (z_t kX12_quay_6 (z_t kX12_quay_7 (z_t kX12_quay_8 (z_t kX12_quay_9 (z_t kX12_quay_10 (z_t kX12_quay_11 z_tn))))))))))))
theorem dX12_fault_0 : decode cX12_fault 0 = .ok (.iload_n 1, 1) := by decide +kernel
theorem dX12_fault_1 : decode cX12_fault 1 = .ok (.ifCond .ne 10, 3) := by decide +kernel
theorem dX12_fault_4 : decode cX12_fault 4 = .ok (.aload_n 0, 1) := by decide +kernel
theorem dX12_fault_5 : decode cX12_fault 5 = .ok (.getfield 42, 3) := by decide +kernel
theorem dX12_fault_8 : decode cX12_fault 8 = .ok (.goto 16, 3) := by decide +kernel
theorem dX12_fault_11 : decode cX12_fault 11 = .ok (.iload_n 1, 1) := by decide +kernel
theorem dX12_fault_12 : decode cX12_fault 12 = .ok (.iconst 1, 1) := by decide +kernel
theorem dX12_fault_13 : decode cX12_fault 13 = .ok (.if_icmp .ne 10, 3) := by decide +kernel
theorem dX12_fault_16 : decode cX12_fault 16 = .ok (.aload_n 0, 1) := by decide +kernel
theorem dX12_fault_17 : decode cX12_fault 17 = .ok (.getfield 45, 3) := by decide +kernel
theorem dX12_fault_20 : decode cX12_fault 20 = .ok (.goto 4, 3) := by decide +kernel
theorem dX12_fault_23 : decode cX12_fault 23 = .ok (.iconst (-1), 1) := by decide +kernel
theorem dX12_fault_24 : decode cX12_fault 24 = .ok (.ireturn, 1) := by decide +kernel
noncomputable def tX12_fault_0 : List (Nat × zF) := [(0, (zli4 1 1)), (1, (z_if_ne 11)), (4, (zla4 0 1)), (5, (zgf 12 10)), (8, (zgt 24)), (11, (zli4 1 1)), (12, (zst 1 (zp (.int (1))))), (13, (z_ic_ne 23)), (16, (zla4 0 1)), (17, (zgf 12 11)), (20, (zgt 24)), (23, (zst 1 (zp (.int ((-1))))))]
theorem kX12_fault_0 : ∀ q ∈ tX12_fault_0, zOk zg iX12_fault q.1 q.2 := (z_c (ok_iload_n dX12_fault_0 rfl) (z_c (ok_if_ne dX12_fault_1 (by decide)) (z_c (ok_aload_n dX12_fault_4 rfl) (z_c (ok_getf (C := RX12) (T := TX12) (N := 73) rfl (by decide) zinX12 rfl zw_697 dX12_fault_5) (z_c (ok_goto dX12_fault_8 (by decide)) (z_c (ok_iload_n dX12_fault_11 rfl) (z_c (ok_iconst (v := (1)) dX12_fault_12 (by decide)) (z_c (ok_icmp_ne dX12_fault_13 (by decide)) (z_c (ok_aload_n dX12_fault_16 rfl) (z_c (ok_getf (C := RX12) (T := TX12) (N := 73) rfl (by decide) zinX12 rfl zw_698 dX12_fault_17) (z_c (ok_goto dX12_fault_20 (by decide)) (z_c (ok_iconst (v := (-1)) dX12_fault_23 (by decide)) z_n))))))))))))
noncomputable def tX12_fault_1 : List (Nat × zF) := [(24, (zri false))]
theorem kX12_fault_1 : ∀ q ∈ tX12_fault_1, zOk zg iX12_fault q.1 q.2 := (z_c (ok_ireturn rfl dX12_fault_24) z_n)
noncomputable def tX12_fault : zT := [(24, tX12_fault_0), (100000, tX12_fault_1)]
theorem kX12_fault : zTok zg iX12_fault tX12_fault := (z_t kX12_fault_0 (z_t kX12_fault_1 z_tn))
theorem dX12_refuses_0 : decode cX12_refuses 0 = .ok (.aload_n 0, 1) := by decide +kernel
theorem dX12_refuses_1 : decode cX12_refuses 1 = .ok (.getfield 156, 3) := by decide +kernel
theorem dX12_refuses_4 : decode cX12_refuses 4 = .ok (.iload_n 1, 1) := by decide +kernel
theorem dX12_refuses_5 : decode cX12_refuses 5 = .ok (.dup2, 1) := by decide +kernel
theorem dX12_refuses_6 : decode cX12_refuses 6 = .ok (.iaload, 1) := by decide +kernel
theorem dX12_refuses_7 : decode cX12_refuses 7 = .ok (.iconst 1, 1) := by decide +kernel
theorem dX12_refuses_8 : decode cX12_refuses 8 = .ok (.iadd, 1) := by decide +kernel
theorem dX12_refuses_9 : decode cX12_refuses 9 = .ok (.iastore, 1) := by decide +kernel
theorem dX12_refuses_10 : decode cX12_refuses 10 = .ok (.iconst (-1), 1) := by decide +kernel
theorem dX12_refuses_11 : decode cX12_refuses 11 = .ok (.ireturn, 1) := by decide +kernel
noncomputable def tX12_refuses_0 : List (Nat × zF) := [(0, (zla4 0 1)), (1, (zgf 12 47)), (4, (zli4 1 1)), (5, (zst 1 zd2)), (6, (zal 0)), (7, (zst 1 (zp (.int (1))))), (8, (zst 1 z_iadd)), (9, (zas 0)), (10, (zst 1 (zp (.int ((-1)))))), (11, (zri false))]
theorem kX12_refuses_0 : ∀ q ∈ tX12_refuses_0, zOk zg iX12_refuses q.1 q.2 := (z_c (ok_aload_n dX12_refuses_0 rfl) (z_c (ok_getf (C := RX12) (T := TX12) (N := 73) rfl (by decide) zinX12 rfl zw_735 dX12_refuses_1) (z_c (ok_iload_n dX12_refuses_4 rfl) (z_c (ok_dup2 dX12_refuses_5) (z_c (ok_iaload rfl dX12_refuses_6) (z_c (ok_iconst (v := (1)) dX12_refuses_7 (by decide)) (z_c (ok_iadd dX12_refuses_8) (z_c (ok_iastore rfl dX12_refuses_9) (z_c (ok_iconst (v := (-1)) dX12_refuses_10 (by decide)) (z_c (ok_ireturn rfl dX12_refuses_11) z_n))))))))))
noncomputable def tX12_refuses : zT := [(100000, tX12_refuses_0)]
theorem kX12_refuses : zTok zg iX12_refuses tX12_refuses := (z_t kX12_refuses_0 z_tn)
theorem dX12_status_0 : decode cX12_status 0 = .ok (.iload_n 1, 1) := by decide +kernel
theorem dX12_status_1 : decode cX12_status 1 = .ok (.iconst 0, 1) := by decide +kernel
theorem dX12_status_2 : decode cX12_status 2 = .ok (.iconst 5, 1) := by decide +kernel
theorem dX12_status_3 : decode cX12_status 3 = .ok (.invokestatic 318, 3) := by decide +kernel
theorem dX12_status_6 : decode cX12_status 6 = .ok (.ifCond .eq 12, 3) := by decide +kernel
theorem dX12_status_9 : decode cX12_status 9 = .ok (.aload_n 0, 1) := by decide +kernel
theorem dX12_status_10 : decode cX12_status 10 = .ok (.getfield 156, 3) := by decide +kernel
theorem dX12_status_13 : decode cX12_status 13 = .ok (.iload_n 1, 1) := by decide +kernel
theorem dX12_status_14 : decode cX12_status 14 = .ok (.iaload, 1) := by decide +kernel
theorem dX12_status_15 : decode cX12_status 15 = .ok (.goto 4, 3) := by decide +kernel
theorem dX12_status_18 : decode cX12_status 18 = .ok (.iconst (-1), 1) := by decide +kernel
theorem dX12_status_19 : decode cX12_status 19 = .ok (.ireturn, 1) := by decide +kernel
noncomputable def tX12_status_0 : List (Nat × zF) := [(0, (zli4 1 1)), (1, (zst 1 (zp (.int (0))))), (2, (zst 1 (zp (.int (5))))), (3, (zcs 165 3)), (6, (z_if_eq 18)), (9, (zla4 0 1)), (10, (zgf 12 47)), (13, (zli4 1 1)), (14, (zal 0)), (15, (zgt 19)), (18, (zst 1 (zp (.int ((-1)))))), (19, (zri false))]
theorem kX12_status_0 : ∀ q ∈ tX12_status_0, zOk zg iX12_status q.1 q.2 := (z_c (ok_iload_n dX12_status_0 rfl) (z_c (ok_iconst (v := (0)) dX12_status_1 (by decide)) (z_c (ok_iconst (v := (5)) dX12_status_2 (by decide)) (z_c (ok_callS zcal_165 zw_812 zw_813 dX12_status_3) (z_c (ok_if_eq dX12_status_6 (by decide)) (z_c (ok_aload_n dX12_status_9 rfl) (z_c (ok_getf (C := RX12) (T := TX12) (N := 73) rfl (by decide) zinX12 rfl zw_735 dX12_status_10) (z_c (ok_iload_n dX12_status_13 rfl) (z_c (ok_iaload rfl dX12_status_14) (z_c (ok_goto dX12_status_15 (by decide)) (z_c (ok_iconst (v := (-1)) dX12_status_18 (by decide)) (z_c (ok_ireturn rfl dX12_status_19) z_n))))))))))))
noncomputable def tX12_status : zT := [(100000, tX12_status_0)]
theorem kX12_status : zTok zg iX12_status tX12_status := (z_t kX12_status_0 z_tn)
theorem dX12_copies_0 : decode cX12_copies 0 = .ok (.aload_n 0, 1) := by decide +kernel
theorem dX12_copies_1 : decode cX12_copies 1 = .ok (.getfield 159, 3) := by decide +kernel
theorem dX12_copies_4 : decode cX12_copies 4 = .ok (.iload_n 1, 1) := by decide +kernel
theorem dX12_copies_5 : decode cX12_copies 5 = .ok (.aload_n 0, 1) := by decide +kernel
theorem dX12_copies_6 : decode cX12_copies 6 = .ok (.getfield 159, 3) := by decide +kernel
theorem dX12_copies_9 : decode cX12_copies 9 = .ok (.iload_n 2, 1) := by decide +kernel
theorem dX12_copies_10 : decode cX12_copies 10 = .ok (.iaload, 1) := by decide +kernel
theorem dX12_copies_11 : decode cX12_copies 11 = .ok (.iastore, 1) := by decide +kernel
theorem dX12_copies_12 : decode cX12_copies 12 = .ok (.aload_n 0, 1) := by decide +kernel
theorem dX12_copies_13 : decode cX12_copies 13 = .ok (.getfield 162, 3) := by decide +kernel
theorem dX12_copies_16 : decode cX12_copies 16 = .ok (.iload_n 1, 1) := by decide +kernel
theorem dX12_copies_17 : decode cX12_copies 17 = .ok (.aload_n 0, 1) := by decide +kernel
theorem dX12_copies_18 : decode cX12_copies 18 = .ok (.getfield 162, 3) := by decide +kernel
theorem dX12_copies_21 : decode cX12_copies 21 = .ok (.iload_n 2, 1) := by decide +kernel
theorem dX12_copies_22 : decode cX12_copies 22 = .ok (.iaload, 1) := by decide +kernel
theorem dX12_copies_23 : decode cX12_copies 23 = .ok (.iastore, 1) := by decide +kernel
theorem dX12_copies_24 : decode cX12_copies 24 = .ok (.iconst 0, 1) := by decide +kernel
theorem dX12_copies_25 : decode cX12_copies 25 = .ok (.istore_n 3, 1) := by decide +kernel
theorem dX12_copies_26 : decode cX12_copies 26 = .ok (.iload_n 3, 1) := by decide +kernel
theorem dX12_copies_27 : decode cX12_copies 27 = .ok (.bipush 9, 2) := by decide +kernel
theorem dX12_copies_29 : decode cX12_copies 29 = .ok (.if_icmp .ge 31, 3) := by decide +kernel
theorem dX12_copies_32 : decode cX12_copies 32 = .ok (.aload_n 0, 1) := by decide +kernel
theorem dX12_copies_33 : decode cX12_copies 33 = .ok (.getfield 165, 3) := by decide +kernel
theorem dX12_copies_36 : decode cX12_copies 36 = .ok (.bipush 9, 2) := by decide +kernel
theorem dX12_copies_38 : decode cX12_copies 38 = .ok (.iload_n 1, 1) := by decide +kernel
theorem dX12_copies_39 : decode cX12_copies 39 = .ok (.imul, 1) := by decide +kernel
theorem dX12_copies_40 : decode cX12_copies 40 = .ok (.iload_n 3, 1) := by decide +kernel
theorem dX12_copies_41 : decode cX12_copies 41 = .ok (.iadd, 1) := by decide +kernel
theorem dX12_copies_42 : decode cX12_copies 42 = .ok (.aload_n 0, 1) := by decide +kernel
theorem dX12_copies_43 : decode cX12_copies 43 = .ok (.getfield 165, 3) := by decide +kernel
theorem dX12_copies_46 : decode cX12_copies 46 = .ok (.bipush 9, 2) := by decide +kernel
theorem dX12_copies_48 : decode cX12_copies 48 = .ok (.iload_n 2, 1) := by decide +kernel
theorem dX12_copies_49 : decode cX12_copies 49 = .ok (.imul, 1) := by decide +kernel
theorem dX12_copies_50 : decode cX12_copies 50 = .ok (.iload_n 3, 1) := by decide +kernel
theorem dX12_copies_51 : decode cX12_copies 51 = .ok (.iadd, 1) := by decide +kernel
theorem dX12_copies_52 : decode cX12_copies 52 = .ok (.iaload, 1) := by decide +kernel
theorem dX12_copies_53 : decode cX12_copies 53 = .ok (.iastore, 1) := by decide +kernel
theorem dX12_copies_54 : decode cX12_copies 54 = .ok (.iinc 3 1, 3) := by decide +kernel
theorem dX12_copies_57 : decode cX12_copies 57 = .ok (.goto (-31), 3) := by decide +kernel
theorem dX12_copies_60 : decode cX12_copies 60 = .ok (.iconst 0, 1) := by decide +kernel
theorem dX12_copies_61 : decode cX12_copies 61 = .ok (.istore_n 3, 1) := by decide +kernel
theorem dX12_copies_62 : decode cX12_copies 62 = .ok (.iload_n 3, 1) := by decide +kernel
theorem dX12_copies_63 : decode cX12_copies 63 = .ok (.bipush 6, 2) := by decide +kernel
theorem dX12_copies_65 : decode cX12_copies 65 = .ok (.if_icmp .ge 31, 3) := by decide +kernel
theorem dX12_copies_68 : decode cX12_copies 68 = .ok (.aload_n 0, 1) := by decide +kernel
theorem dX12_copies_69 : decode cX12_copies 69 = .ok (.getfield 168, 3) := by decide +kernel
theorem dX12_copies_72 : decode cX12_copies 72 = .ok (.bipush 6, 2) := by decide +kernel
theorem dX12_copies_74 : decode cX12_copies 74 = .ok (.iload_n 1, 1) := by decide +kernel
theorem dX12_copies_75 : decode cX12_copies 75 = .ok (.imul, 1) := by decide +kernel
theorem dX12_copies_76 : decode cX12_copies 76 = .ok (.iload_n 3, 1) := by decide +kernel
theorem dX12_copies_77 : decode cX12_copies 77 = .ok (.iadd, 1) := by decide +kernel
theorem dX12_copies_78 : decode cX12_copies 78 = .ok (.aload_n 0, 1) := by decide +kernel
theorem dX12_copies_79 : decode cX12_copies 79 = .ok (.getfield 168, 3) := by decide +kernel
theorem dX12_copies_82 : decode cX12_copies 82 = .ok (.bipush 6, 2) := by decide +kernel
theorem dX12_copies_84 : decode cX12_copies 84 = .ok (.iload_n 2, 1) := by decide +kernel
theorem dX12_copies_85 : decode cX12_copies 85 = .ok (.imul, 1) := by decide +kernel
theorem dX12_copies_86 : decode cX12_copies 86 = .ok (.iload_n 3, 1) := by decide +kernel
theorem dX12_copies_87 : decode cX12_copies 87 = .ok (.iadd, 1) := by decide +kernel
theorem dX12_copies_88 : decode cX12_copies 88 = .ok (.iaload, 1) := by decide +kernel
theorem dX12_copies_89 : decode cX12_copies 89 = .ok (.iastore, 1) := by decide +kernel
theorem dX12_copies_90 : decode cX12_copies 90 = .ok (.iinc 3 1, 3) := by decide +kernel
theorem dX12_copies_93 : decode cX12_copies 93 = .ok (.goto (-31), 3) := by decide +kernel
theorem dX12_copies_96 : decode cX12_copies 96 = .ok (.aload_n 0, 1) := by decide +kernel
theorem dX12_copies_97 : decode cX12_copies 97 = .ok (.getfield 171, 3) := by decide +kernel
theorem dX12_copies_100 : decode cX12_copies 100 = .ok (.iload_n 1, 1) := by decide +kernel
theorem dX12_copies_101 : decode cX12_copies 101 = .ok (.aload_n 0, 1) := by decide +kernel
theorem dX12_copies_102 : decode cX12_copies 102 = .ok (.getfield 171, 3) := by decide +kernel
theorem dX12_copies_105 : decode cX12_copies 105 = .ok (.iload_n 2, 1) := by decide +kernel
theorem dX12_copies_106 : decode cX12_copies 106 = .ok (.iaload, 1) := by decide +kernel
theorem dX12_copies_107 : decode cX12_copies 107 = .ok (.iastore, 1) := by decide +kernel
theorem dX12_copies_108 : decode cX12_copies 108 = .ok (.iconst 0, 1) := by decide +kernel
theorem dX12_copies_109 : decode cX12_copies 109 = .ok (.istore_n 3, 1) := by decide +kernel
theorem dX12_copies_110 : decode cX12_copies 110 = .ok (.iload_n 3, 1) := by decide +kernel
theorem dX12_copies_111 : decode cX12_copies 111 = .ok (.iconst 3, 1) := by decide +kernel
theorem dX12_copies_112 : decode cX12_copies 112 = .ok (.aload_n 0, 1) := by decide +kernel
theorem dX12_copies_113 : decode cX12_copies 113 = .ok (.getfield 171, 3) := by decide +kernel
theorem dX12_copies_116 : decode cX12_copies 116 = .ok (.iload_n 2, 1) := by decide +kernel
theorem dX12_copies_117 : decode cX12_copies 117 = .ok (.iaload, 1) := by decide +kernel
theorem dX12_copies_118 : decode cX12_copies 118 = .ok (.imul, 1) := by decide +kernel
theorem dX12_copies_119 : decode cX12_copies 119 = .ok (.if_icmp .ge 31, 3) := by decide +kernel
theorem dX12_copies_122 : decode cX12_copies 122 = .ok (.aload_n 0, 1) := by decide +kernel
theorem dX12_copies_123 : decode cX12_copies 123 = .ok (.getfield 174, 3) := by decide +kernel
theorem dX12_copies_126 : decode cX12_copies 126 = .ok (.bipush 120, 2) := by decide +kernel
theorem dX12_copies_128 : decode cX12_copies 128 = .ok (.iload_n 1, 1) := by decide +kernel
theorem dX12_copies_129 : decode cX12_copies 129 = .ok (.imul, 1) := by decide +kernel
theorem dX12_copies_130 : decode cX12_copies 130 = .ok (.iload_n 3, 1) := by decide +kernel
theorem dX12_copies_131 : decode cX12_copies 131 = .ok (.iadd, 1) := by decide +kernel
theorem dX12_copies_132 : decode cX12_copies 132 = .ok (.aload_n 0, 1) := by decide +kernel
theorem dX12_copies_133 : decode cX12_copies 133 = .ok (.getfield 174, 3) := by decide +kernel
theorem dX12_copies_136 : decode cX12_copies 136 = .ok (.bipush 120, 2) := by decide +kernel
theorem dX12_copies_138 : decode cX12_copies 138 = .ok (.iload_n 2, 1) := by decide +kernel
theorem dX12_copies_139 : decode cX12_copies 139 = .ok (.imul, 1) := by decide +kernel
theorem dX12_copies_140 : decode cX12_copies 140 = .ok (.iload_n 3, 1) := by decide +kernel
theorem dX12_copies_141 : decode cX12_copies 141 = .ok (.iadd, 1) := by decide +kernel
theorem dX12_copies_142 : decode cX12_copies 142 = .ok (.iaload, 1) := by decide +kernel
theorem dX12_copies_143 : decode cX12_copies 143 = .ok (.iastore, 1) := by decide +kernel
theorem dX12_copies_144 : decode cX12_copies 144 = .ok (.iinc 3 1, 3) := by decide +kernel
theorem dX12_copies_147 : decode cX12_copies 147 = .ok (.goto (-37), 3) := by decide +kernel
theorem dX12_copies_150 : decode cX12_copies 150 = .ok (.return_, 1) := by decide +kernel
noncomputable def tX12_copies_0 : List (Nat × zF) := [(0, (zla4 0 1)), (1, (zgf 12 48)), (4, (zli4 1 1)), (5, (zla4 0 1)), (6, (zgf 12 48)), (9, (zli4 2 1)), (10, (zal 0)), (11, (zas 0)), (12, (zla4 0 1)), (13, (zgf 12 49)), (16, (zli4 1 1)), (17, (zla4 0 1))]
theorem kX12_copies_0 : ∀ q ∈ tX12_copies_0, zOk zg iX12_copies q.1 q.2 := (z_c (ok_aload_n dX12_copies_0 rfl) (z_c (ok_getf (C := RX12) (T := TX12) (N := 73) rfl (by decide) zinX12 rfl zw_736 dX12_copies_1) (z_c (ok_iload_n dX12_copies_4 rfl) (z_c (ok_aload_n dX12_copies_5 rfl) (z_c (ok_getf (C := RX12) (T := TX12) (N := 73) rfl (by decide) zinX12 rfl zw_736 dX12_copies_6) (z_c (ok_iload_n dX12_copies_9 rfl) (z_c (ok_iaload rfl dX12_copies_10) (z_c (ok_iastore rfl dX12_copies_11) (z_c (ok_aload_n dX12_copies_12 rfl) (z_c (ok_getf (C := RX12) (T := TX12) (N := 73) rfl (by decide) zinX12 rfl zw_737 dX12_copies_13) (z_c (ok_iload_n dX12_copies_16 rfl) (z_c (ok_aload_n dX12_copies_17 rfl) z_n))))))))))))
noncomputable def tX12_copies_1 : List (Nat × zF) := [(18, (zgf 12 49)), (21, (zli4 2 1)), (22, (zal 0)), (23, (zas 0)), (24, (zst 1 (zp (.int (0))))), (25, (zsi4 4 3 1)), (26, (zli4 3 1)), (27, (zst 2 (zp (.int (9))))), (29, (z_ic_ge 60)), (32, (zla4 0 1)), (33, (zgf 12 50)), (36, (zst 2 (zp (.int (9)))))]
theorem kX12_copies_1 : ∀ q ∈ tX12_copies_1, zOk zg iX12_copies q.1 q.2 := (z_c (ok_getf (C := RX12) (T := TX12) (N := 73) rfl (by decide) zinX12 rfl zw_737 dX12_copies_18) (z_c (ok_iload_n dX12_copies_21 rfl) (z_c (ok_iaload rfl dX12_copies_22) (z_c (ok_iastore rfl dX12_copies_23) (z_c (ok_iconst (v := (0)) dX12_copies_24 (by decide)) (z_c (ok_istore_n dX12_copies_25 rfl) (z_c (ok_iload_n dX12_copies_26 rfl) (z_c (ok_bipush (v := (9)) dX12_copies_27 (by decide)) (z_c (ok_icmp_ge dX12_copies_29 (by decide)) (z_c (ok_aload_n dX12_copies_32 rfl) (z_c (ok_getf (C := RX12) (T := TX12) (N := 73) rfl (by decide) zinX12 rfl zw_738 dX12_copies_33) (z_c (ok_bipush (v := (9)) dX12_copies_36 (by decide)) z_n))))))))))))
noncomputable def tX12_copies_2 : List (Nat × zF) := [(38, (zli4 1 1)), (39, (zst 1 z_imul)), (40, (zli4 3 1)), (41, (zst 1 z_iadd)), (42, (zla4 0 1)), (43, (zgf 12 50)), (46, (zst 2 (zp (.int (9))))), (48, (zli4 2 1)), (49, (zst 1 z_imul)), (50, (zli4 3 1)), (51, (zst 1 z_iadd)), (52, (zal 0))]
theorem kX12_copies_2 : ∀ q ∈ tX12_copies_2, zOk zg iX12_copies q.1 q.2 := (z_c (ok_iload_n dX12_copies_38 rfl) (z_c (ok_imul dX12_copies_39) (z_c (ok_iload_n dX12_copies_40 rfl) (z_c (ok_iadd dX12_copies_41) (z_c (ok_aload_n dX12_copies_42 rfl) (z_c (ok_getf (C := RX12) (T := TX12) (N := 73) rfl (by decide) zinX12 rfl zw_738 dX12_copies_43) (z_c (ok_bipush (v := (9)) dX12_copies_46 (by decide)) (z_c (ok_iload_n dX12_copies_48 rfl) (z_c (ok_imul dX12_copies_49) (z_c (ok_iload_n dX12_copies_50 rfl) (z_c (ok_iadd dX12_copies_51) (z_c (ok_iaload rfl dX12_copies_52) z_n))))))))))))
noncomputable def tX12_copies_3 : List (Nat × zF) := [(53, (zas 0)), (54, (zin4 4 3 (1))), (57, (zgt 26)), (60, (zst 1 (zp (.int (0))))), (61, (zsi4 4 3 1)), (62, (zli4 3 1)), (63, (zst 2 (zp (.int (6))))), (65, (z_ic_ge 96)), (68, (zla4 0 1)), (69, (zgf 12 51)), (72, (zst 2 (zp (.int (6))))), (74, (zli4 1 1))]
theorem kX12_copies_3 : ∀ q ∈ tX12_copies_3, zOk zg iX12_copies q.1 q.2 := (z_c (ok_iastore rfl dX12_copies_53) (z_c (ok_iinc (v := (1)) dX12_copies_54 (by decide)) (z_c (ok_goto dX12_copies_57 (by decide)) (z_c (ok_iconst (v := (0)) dX12_copies_60 (by decide)) (z_c (ok_istore_n dX12_copies_61 rfl) (z_c (ok_iload_n dX12_copies_62 rfl) (z_c (ok_bipush (v := (6)) dX12_copies_63 (by decide)) (z_c (ok_icmp_ge dX12_copies_65 (by decide)) (z_c (ok_aload_n dX12_copies_68 rfl) (z_c (ok_getf (C := RX12) (T := TX12) (N := 73) rfl (by decide) zinX12 rfl zw_739 dX12_copies_69) (z_c (ok_bipush (v := (6)) dX12_copies_72 (by decide)) (z_c (ok_iload_n dX12_copies_74 rfl) z_n))))))))))))
noncomputable def tX12_copies_4 : List (Nat × zF) := [(75, (zst 1 z_imul)), (76, (zli4 3 1)), (77, (zst 1 z_iadd)), (78, (zla4 0 1)), (79, (zgf 12 51)), (82, (zst 2 (zp (.int (6))))), (84, (zli4 2 1)), (85, (zst 1 z_imul)), (86, (zli4 3 1)), (87, (zst 1 z_iadd)), (88, (zal 0)), (89, (zas 0))]
theorem kX12_copies_4 : ∀ q ∈ tX12_copies_4, zOk zg iX12_copies q.1 q.2 := (z_c (ok_imul dX12_copies_75) (z_c (ok_iload_n dX12_copies_76 rfl) (z_c (ok_iadd dX12_copies_77) (z_c (ok_aload_n dX12_copies_78 rfl) (z_c (ok_getf (C := RX12) (T := TX12) (N := 73) rfl (by decide) zinX12 rfl zw_739 dX12_copies_79) (z_c (ok_bipush (v := (6)) dX12_copies_82 (by decide)) (z_c (ok_iload_n dX12_copies_84 rfl) (z_c (ok_imul dX12_copies_85) (z_c (ok_iload_n dX12_copies_86 rfl) (z_c (ok_iadd dX12_copies_87) (z_c (ok_iaload rfl dX12_copies_88) (z_c (ok_iastore rfl dX12_copies_89) z_n))))))))))))
noncomputable def tX12_copies_5 : List (Nat × zF) := [(90, (zin4 4 3 (1))), (93, (zgt 62)), (96, (zla4 0 1)), (97, (zgf 12 52)), (100, (zli4 1 1)), (101, (zla4 0 1)), (102, (zgf 12 52)), (105, (zli4 2 1)), (106, (zal 0)), (107, (zas 0)), (108, (zst 1 (zp (.int (0))))), (109, (zsi4 4 3 1))]
theorem kX12_copies_5 : ∀ q ∈ tX12_copies_5, zOk zg iX12_copies q.1 q.2 := (z_c (ok_iinc (v := (1)) dX12_copies_90 (by decide)) (z_c (ok_goto dX12_copies_93 (by decide)) (z_c (ok_aload_n dX12_copies_96 rfl) (z_c (ok_getf (C := RX12) (T := TX12) (N := 73) rfl (by decide) zinX12 rfl zw_740 dX12_copies_97) (z_c (ok_iload_n dX12_copies_100 rfl) (z_c (ok_aload_n dX12_copies_101 rfl) (z_c (ok_getf (C := RX12) (T := TX12) (N := 73) rfl (by decide) zinX12 rfl zw_740 dX12_copies_102) (z_c (ok_iload_n dX12_copies_105 rfl) (z_c (ok_iaload rfl dX12_copies_106) (z_c (ok_iastore rfl dX12_copies_107) (z_c (ok_iconst (v := (0)) dX12_copies_108 (by decide)) (z_c (ok_istore_n dX12_copies_109 rfl) z_n))))))))))))
noncomputable def tX12_copies_6 : List (Nat × zF) := [(110, (zli4 3 1)), (111, (zst 1 (zp (.int (3))))), (112, (zla4 0 1)), (113, (zgf 12 52)), (116, (zli4 2 1)), (117, (zal 0)), (118, (zst 1 z_imul)), (119, (z_ic_ge 150)), (122, (zla4 0 1)), (123, (zgf 12 53)), (126, (zst 2 (zp (.int (120))))), (128, (zli4 1 1))]
theorem kX12_copies_6 : ∀ q ∈ tX12_copies_6, zOk zg iX12_copies q.1 q.2 := (z_c (ok_iload_n dX12_copies_110 rfl) (z_c (ok_iconst (v := (3)) dX12_copies_111 (by decide)) (z_c (ok_aload_n dX12_copies_112 rfl) (z_c (ok_getf (C := RX12) (T := TX12) (N := 73) rfl (by decide) zinX12 rfl zw_740 dX12_copies_113) (z_c (ok_iload_n dX12_copies_116 rfl) (z_c (ok_iaload rfl dX12_copies_117) (z_c (ok_imul dX12_copies_118) (z_c (ok_icmp_ge dX12_copies_119 (by decide)) (z_c (ok_aload_n dX12_copies_122 rfl) (z_c (ok_getf (C := RX12) (T := TX12) (N := 73) rfl (by decide) zinX12 rfl zw_741 dX12_copies_123) (z_c (ok_bipush (v := (120)) dX12_copies_126 (by decide)) (z_c (ok_iload_n dX12_copies_128 rfl) z_n))))))))))))
noncomputable def tX12_copies_7 : List (Nat × zF) := [(129, (zst 1 z_imul)), (130, (zli4 3 1)), (131, (zst 1 z_iadd)), (132, (zla4 0 1)), (133, (zgf 12 53)), (136, (zst 2 (zp (.int (120))))), (138, (zli4 2 1)), (139, (zst 1 z_imul)), (140, (zli4 3 1)), (141, (zst 1 z_iadd)), (142, (zal 0)), (143, (zas 0))]
theorem kX12_copies_7 : ∀ q ∈ tX12_copies_7, zOk zg iX12_copies q.1 q.2 := (z_c (ok_imul dX12_copies_129) (z_c (ok_iload_n dX12_copies_130 rfl) (z_c (ok_iadd dX12_copies_131) (z_c (ok_aload_n dX12_copies_132 rfl) (z_c (ok_getf (C := RX12) (T := TX12) (N := 73) rfl (by decide) zinX12 rfl zw_741 dX12_copies_133) (z_c (ok_bipush (v := (120)) dX12_copies_136 (by decide)) (z_c (ok_iload_n dX12_copies_138 rfl) (z_c (ok_imul dX12_copies_139) (z_c (ok_iload_n dX12_copies_140 rfl) (z_c (ok_iadd dX12_copies_141) (z_c (ok_iaload rfl dX12_copies_142) (z_c (ok_iastore rfl dX12_copies_143) z_n))))))))))))
noncomputable def tX12_copies_8 : List (Nat × zF) := [(144, (zin4 4 3 (1))), (147, (zgt 110)), (150, zrv)]
theorem kX12_copies_8 : ∀ q ∈ tX12_copies_8, zOk zg iX12_copies q.1 q.2 := (z_c (ok_iinc (v := (1)) dX12_copies_144 (by decide)) (z_c (ok_goto dX12_copies_147 (by decide)) (z_c (ok_return rfl dX12_copies_150) z_n)))
noncomputable def tX12_copies : zT := [(18, tX12_copies_0), (38, tX12_copies_1), (53, tX12_copies_2), (75, tX12_copies_3), (90, tX12_copies_4), (110, tX12_copies_5), (129, tX12_copies_6), (144, tX12_copies_7), (100000, tX12_copies_8)]
theorem kX12_copies : zTok zg iX12_copies tX12_copies := (z_t kX12_copies_0 (z_t kX12_copies_1 (z_t kX12_copies_2 (z_t kX12_copies_3 (z_t kX12_copies_4 (z_t kX12_copies_5 (z_t kX12_copies_6 (z_t kX12_copies_7 (z_t kX12_copies_8 z_tn)))))))))
theorem dX12_begin_0 : decode cX12_begin 0 = .ok (.aload_n 0, 1) := by decide +kernel
theorem dX12_begin_1 : decode cX12_begin 1 = .ok (.getfield 159, 3) := by decide +kernel
theorem dX12_begin_4 : decode cX12_begin 4 = .ok (.iconst 0, 1) := by decide +kernel
theorem dX12_begin_5 : decode cX12_begin 5 = .ok (.iconst 0, 1) := by decide +kernel
theorem dX12_begin_6 : decode cX12_begin 6 = .ok (.iastore, 1) := by decide +kernel
theorem dX12_begin_7 : decode cX12_begin 7 = .ok (.aload_n 0, 1) := by decide +kernel
theorem dX12_begin_8 : decode cX12_begin 8 = .ok (.getfield 162, 3) := by decide +kernel
theorem dX12_begin_11 : decode cX12_begin 11 = .ok (.iconst 0, 1) := by decide +kernel
theorem dX12_begin_12 : decode cX12_begin 12 = .ok (.iconst 1, 1) := by decide +kernel
theorem dX12_begin_13 : decode cX12_begin 13 = .ok (.aload_n 0, 1) := by decide +kernel
theorem dX12_begin_14 : decode cX12_begin 14 = .ok (.getfield 69, 3) := by decide +kernel
theorem dX12_begin_17 : decode cX12_begin 17 = .ok (.aload_n 0, 1) := by decide +kernel
theorem dX12_begin_18 : decode cX12_begin 18 = .ok (.getfield 51, 3) := by decide +kernel
theorem dX12_begin_21 : decode cX12_begin 21 = .ok (.iaload, 1) := by decide +kernel
theorem dX12_begin_22 : decode cX12_begin 22 = .ok (.ishl, 1) := by decide +kernel
theorem dX12_begin_23 : decode cX12_begin 23 = .ok (.iconst 1, 1) := by decide +kernel
theorem dX12_begin_24 : decode cX12_begin 24 = .ok (.isub, 1) := by decide +kernel
theorem dX12_begin_25 : decode cX12_begin 25 = .ok (.aload_n 0, 1) := by decide +kernel
theorem dX12_begin_26 : decode cX12_begin 26 = .ok (.getfield 81, 3) := by decide +kernel
theorem dX12_begin_29 : decode cX12_begin 29 = .ok (.aload_n 0, 1) := by decide +kernel
theorem dX12_begin_30 : decode cX12_begin 30 = .ok (.getfield 51, 3) := by decide +kernel
theorem dX12_begin_33 : decode cX12_begin 33 = .ok (.iaload, 1) := by decide +kernel
theorem dX12_begin_34 : decode cX12_begin 34 = .ok (.iconst (-1), 1) := by decide +kernel
theorem dX12_begin_35 : decode cX12_begin 35 = .ok (.ixor, 1) := by decide +kernel
theorem dX12_begin_36 : decode cX12_begin 36 = .ok (.iand, 1) := by decide +kernel
theorem dX12_begin_37 : decode cX12_begin 37 = .ok (.iastore, 1) := by decide +kernel
theorem dX12_begin_38 : decode cX12_begin 38 = .ok (.iconst 0, 1) := by decide +kernel
theorem dX12_begin_39 : decode cX12_begin 39 = .ok (.istore_n 1, 1) := by decide +kernel
theorem dX12_begin_40 : decode cX12_begin 40 = .ok (.iload_n 1, 1) := by decide +kernel
theorem dX12_begin_41 : decode cX12_begin 41 = .ok (.bipush 9, 2) := by decide +kernel
theorem dX12_begin_43 : decode cX12_begin 43 = .ok (.if_icmp .ge 36, 3) := by decide +kernel
theorem dX12_begin_46 : decode cX12_begin 46 = .ok (.aload_n 0, 1) := by decide +kernel
theorem dX12_begin_47 : decode cX12_begin 47 = .ok (.getfield 165, 3) := by decide +kernel
theorem dX12_begin_50 : decode cX12_begin 50 = .ok (.iload_n 1, 1) := by decide +kernel
theorem dX12_begin_51 : decode cX12_begin 51 = .ok (.iconst 0, 1) := by decide +kernel
theorem dX12_begin_52 : decode cX12_begin 52 = .ok (.iastore, 1) := by decide +kernel
theorem dX12_begin_53 : decode cX12_begin 53 = .ok (.aload_n 0, 1) := by decide +kernel
theorem dX12_begin_54 : decode cX12_begin 54 = .ok (.getfield 186, 3) := by decide +kernel
theorem dX12_begin_57 : decode cX12_begin 57 = .ok (.iload_n 1, 1) := by decide +kernel
theorem dX12_begin_58 : decode cX12_begin 58 = .ok (.aload_n 0, 1) := by decide +kernel
theorem dX12_begin_59 : decode cX12_begin 59 = .ok (.getfield 75, 3) := by decide +kernel
theorem dX12_begin_62 : decode cX12_begin 62 = .ok (.bipush 9, 2) := by decide +kernel
theorem dX12_begin_64 : decode cX12_begin 64 = .ok (.aload_n 0, 1) := by decide +kernel
theorem dX12_begin_65 : decode cX12_begin 65 = .ok (.getfield 51, 3) := by decide +kernel
theorem dX12_begin_68 : decode cX12_begin 68 = .ok (.imul, 1) := by decide +kernel
theorem dX12_begin_69 : decode cX12_begin 69 = .ok (.iload_n 1, 1) := by decide +kernel
theorem dX12_begin_70 : decode cX12_begin 70 = .ok (.iadd, 1) := by decide +kernel
theorem dX12_begin_71 : decode cX12_begin 71 = .ok (.iaload, 1) := by decide +kernel
theorem dX12_begin_72 : decode cX12_begin 72 = .ok (.iastore, 1) := by decide +kernel
theorem dX12_begin_73 : decode cX12_begin 73 = .ok (.iinc 1 1, 3) := by decide +kernel
theorem dX12_begin_76 : decode cX12_begin 76 = .ok (.goto (-36), 3) := by decide +kernel
theorem dX12_begin_79 : decode cX12_begin 79 = .ok (.iconst 0, 1) := by decide +kernel
theorem dX12_begin_80 : decode cX12_begin 80 = .ok (.istore_n 1, 1) := by decide +kernel
theorem dX12_begin_81 : decode cX12_begin 81 = .ok (.iload_n 1, 1) := by decide +kernel
theorem dX12_begin_82 : decode cX12_begin 82 = .ok (.bipush 6, 2) := by decide +kernel
theorem dX12_begin_84 : decode cX12_begin 84 = .ok (.if_icmp .ge 29, 3) := by decide +kernel
theorem dX12_begin_87 : decode cX12_begin 87 = .ok (.aload_n 0, 1) := by decide +kernel
theorem dX12_begin_88 : decode cX12_begin 88 = .ok (.getfield 168, 3) := by decide +kernel
theorem dX12_begin_91 : decode cX12_begin 91 = .ok (.iload_n 1, 1) := by decide +kernel
theorem dX12_begin_92 : decode cX12_begin 92 = .ok (.aload_n 0, 1) := by decide +kernel
theorem dX12_begin_93 : decode cX12_begin 93 = .ok (.getfield 87, 3) := by decide +kernel
theorem dX12_begin_96 : decode cX12_begin 96 = .ok (.bipush 6, 2) := by decide +kernel
theorem dX12_begin_98 : decode cX12_begin 98 = .ok (.aload_n 0, 1) := by decide +kernel
theorem dX12_begin_99 : decode cX12_begin 99 = .ok (.getfield 51, 3) := by decide +kernel
theorem dX12_begin_102 : decode cX12_begin 102 = .ok (.imul, 1) := by decide +kernel
theorem dX12_begin_103 : decode cX12_begin 103 = .ok (.iload_n 1, 1) := by decide +kernel
theorem dX12_begin_104 : decode cX12_begin 104 = .ok (.iadd, 1) := by decide +kernel
theorem dX12_begin_105 : decode cX12_begin 105 = .ok (.iaload, 1) := by decide +kernel
theorem dX12_begin_106 : decode cX12_begin 106 = .ok (.iastore, 1) := by decide +kernel
theorem dX12_begin_107 : decode cX12_begin 107 = .ok (.iinc 1 1, 3) := by decide +kernel
theorem dX12_begin_110 : decode cX12_begin 110 = .ok (.goto (-29), 3) := by decide +kernel
theorem dX12_begin_113 : decode cX12_begin 113 = .ok (.aload_n 0, 1) := by decide +kernel
theorem dX12_begin_114 : decode cX12_begin 114 = .ok (.getfield 171, 3) := by decide +kernel
theorem dX12_begin_117 : decode cX12_begin 117 = .ok (.iconst 0, 1) := by decide +kernel
theorem dX12_begin_118 : decode cX12_begin 118 = .ok (.iconst 0, 1) := by decide +kernel
theorem dX12_begin_119 : decode cX12_begin 119 = .ok (.iastore, 1) := by decide +kernel
theorem dX12_begin_120 : decode cX12_begin 120 = .ok (.aload_n 0, 1) := by decide +kernel
theorem dX12_begin_121 : decode cX12_begin 121 = .ok (.iconst 0, 1) := by decide +kernel
theorem dX12_begin_122 : decode cX12_begin 122 = .ok (.putfield 180, 3) := by decide +kernel
theorem dX12_begin_125 : decode cX12_begin 125 = .ok (.aload_n 0, 1) := by decide +kernel
theorem dX12_begin_126 : decode cX12_begin 126 = .ok (.iconst 0, 1) := by decide +kernel
theorem dX12_begin_127 : decode cX12_begin 127 = .ok (.putfield 213, 3) := by decide +kernel
theorem dX12_begin_130 : decode cX12_begin 130 = .ok (.return_, 1) := by decide +kernel
noncomputable def tX12_begin_0 : List (Nat × zF) := [(0, (zla4 0 1)), (1, (zgf 12 48)), (4, (zst 1 (zp (.int (0))))), (5, (zst 1 (zp (.int (0))))), (6, (zas 0)), (7, (zla4 0 1)), (8, (zgf 12 49)), (11, (zst 1 (zp (.int (0))))), (12, (zst 1 (zp (.int (1))))), (13, (zla4 0 1)), (14, (zgf 12 19)), (17, (zla4 0 1))]
theorem kX12_begin_0 : ∀ q ∈ tX12_begin_0, zOk zg iX12_begin q.1 q.2 := (z_c (ok_aload_n dX12_begin_0 rfl) (z_c (ok_getf (C := RX12) (T := TX12) (N := 73) rfl (by decide) zinX12 rfl zw_736 dX12_begin_1) (z_c (ok_iconst (v := (0)) dX12_begin_4 (by decide)) (z_c (ok_iconst (v := (0)) dX12_begin_5 (by decide)) (z_c (ok_iastore rfl dX12_begin_6) (z_c (ok_aload_n dX12_begin_7 rfl) (z_c (ok_getf (C := RX12) (T := TX12) (N := 73) rfl (by decide) zinX12 rfl zw_737 dX12_begin_8) (z_c (ok_iconst (v := (0)) dX12_begin_11 (by decide)) (z_c (ok_iconst (v := (1)) dX12_begin_12 (by decide)) (z_c (ok_aload_n dX12_begin_13 rfl) (z_c (ok_getf (C := RX12) (T := TX12) (N := 73) rfl (by decide) zinX12 rfl zw_706 dX12_begin_14) (z_c (ok_aload_n dX12_begin_17 rfl) z_n))))))))))))
noncomputable def tX12_begin_1 : List (Nat × zF) := [(18, (zgf 12 13)), (21, (zal 0)), (22, (zst 1 z_ishl)), (23, (zst 1 (zp (.int (1))))), (24, (zst 1 z_isub)), (25, (zla4 0 1)), (26, (zgf 12 23)), (29, (zla4 0 1)), (30, (zgf 12 13)), (33, (zal 0)), (34, (zst 1 (zp (.int ((-1)))))), (35, (zst 1 z_ixor))]
theorem kX12_begin_1 : ∀ q ∈ tX12_begin_1, zOk zg iX12_begin q.1 q.2 := (z_c (ok_getf (C := RX12) (T := TX12) (N := 73) rfl (by decide) zinX12 rfl zw_700 dX12_begin_18) (z_c (ok_iaload rfl dX12_begin_21) (z_c (ok_ishl dX12_begin_22) (z_c (ok_iconst (v := (1)) dX12_begin_23 (by decide)) (z_c (ok_isub dX12_begin_24) (z_c (ok_aload_n dX12_begin_25 rfl) (z_c (ok_getf (C := RX12) (T := TX12) (N := 73) rfl (by decide) zinX12 rfl zw_710 dX12_begin_26) (z_c (ok_aload_n dX12_begin_29 rfl) (z_c (ok_getf (C := RX12) (T := TX12) (N := 73) rfl (by decide) zinX12 rfl zw_700 dX12_begin_30) (z_c (ok_iaload rfl dX12_begin_33) (z_c (ok_iconst (v := (-1)) dX12_begin_34 (by decide)) (z_c (ok_ixor dX12_begin_35) z_n))))))))))))
noncomputable def tX12_begin_2 : List (Nat × zF) := [(36, (zst 1 z_iand)), (37, (zas 0)), (38, (zst 1 (zp (.int (0))))), (39, (zsi4 2 1 1)), (40, (zli4 1 1)), (41, (zst 2 (zp (.int (9))))), (43, (z_ic_ge 79)), (46, (zla4 0 1)), (47, (zgf 12 50)), (50, (zli4 1 1)), (51, (zst 1 (zp (.int (0))))), (52, (zas 0))]
theorem kX12_begin_2 : ∀ q ∈ tX12_begin_2, zOk zg iX12_begin q.1 q.2 := (z_c (ok_iand dX12_begin_36) (z_c (ok_iastore rfl dX12_begin_37) (z_c (ok_iconst (v := (0)) dX12_begin_38 (by decide)) (z_c (ok_istore_n dX12_begin_39 rfl) (z_c (ok_iload_n dX12_begin_40 rfl) (z_c (ok_bipush (v := (9)) dX12_begin_41 (by decide)) (z_c (ok_icmp_ge dX12_begin_43 (by decide)) (z_c (ok_aload_n dX12_begin_46 rfl) (z_c (ok_getf (C := RX12) (T := TX12) (N := 73) rfl (by decide) zinX12 rfl zw_738 dX12_begin_47) (z_c (ok_iload_n dX12_begin_50 rfl) (z_c (ok_iconst (v := (0)) dX12_begin_51 (by decide)) (z_c (ok_iastore rfl dX12_begin_52) z_n))))))))))))
noncomputable def tX12_begin_3 : List (Nat × zF) := [(53, (zla4 0 1)), (54, (zgf 12 57)), (57, (zli4 1 1)), (58, (zla4 0 1)), (59, (zgf 12 21)), (62, (zst 2 (zp (.int (9))))), (64, (zla4 0 1)), (65, (zgf 12 13)), (68, (zst 1 z_imul)), (69, (zli4 1 1)), (70, (zst 1 z_iadd)), (71, (zal 0))]
theorem kX12_begin_3 : ∀ q ∈ tX12_begin_3, zOk zg iX12_begin q.1 q.2 := (z_c (ok_aload_n dX12_begin_53 rfl) (z_c (ok_getf (C := RX12) (T := TX12) (N := 73) rfl (by decide) zinX12 rfl zw_745 dX12_begin_54) (z_c (ok_iload_n dX12_begin_57 rfl) (z_c (ok_aload_n dX12_begin_58 rfl) (z_c (ok_getf (C := RX12) (T := TX12) (N := 73) rfl (by decide) zinX12 rfl zw_708 dX12_begin_59) (z_c (ok_bipush (v := (9)) dX12_begin_62 (by decide)) (z_c (ok_aload_n dX12_begin_64 rfl) (z_c (ok_getf (C := RX12) (T := TX12) (N := 73) rfl (by decide) zinX12 rfl zw_700 dX12_begin_65) (z_c (ok_imul dX12_begin_68) (z_c (ok_iload_n dX12_begin_69 rfl) (z_c (ok_iadd dX12_begin_70) (z_c (ok_iaload rfl dX12_begin_71) z_n))))))))))))
noncomputable def tX12_begin_4 : List (Nat × zF) := [(72, (zas 0)), (73, (zin4 2 1 (1))), (76, (zgt 40)), (79, (zst 1 (zp (.int (0))))), (80, (zsi4 2 1 1)), (81, (zli4 1 1)), (82, (zst 2 (zp (.int (6))))), (84, (z_ic_ge 113)), (87, (zla4 0 1)), (88, (zgf 12 51)), (91, (zli4 1 1)), (92, (zla4 0 1))]
theorem kX12_begin_4 : ∀ q ∈ tX12_begin_4, zOk zg iX12_begin q.1 q.2 := (z_c (ok_iastore rfl dX12_begin_72) (z_c (ok_iinc (v := (1)) dX12_begin_73 (by decide)) (z_c (ok_goto dX12_begin_76 (by decide)) (z_c (ok_iconst (v := (0)) dX12_begin_79 (by decide)) (z_c (ok_istore_n dX12_begin_80 rfl) (z_c (ok_iload_n dX12_begin_81 rfl) (z_c (ok_bipush (v := (6)) dX12_begin_82 (by decide)) (z_c (ok_icmp_ge dX12_begin_84 (by decide)) (z_c (ok_aload_n dX12_begin_87 rfl) (z_c (ok_getf (C := RX12) (T := TX12) (N := 73) rfl (by decide) zinX12 rfl zw_739 dX12_begin_88) (z_c (ok_iload_n dX12_begin_91 rfl) (z_c (ok_aload_n dX12_begin_92 rfl) z_n))))))))))))
noncomputable def tX12_begin_5 : List (Nat × zF) := [(93, (zgf 12 25)), (96, (zst 2 (zp (.int (6))))), (98, (zla4 0 1)), (99, (zgf 12 13)), (102, (zst 1 z_imul)), (103, (zli4 1 1)), (104, (zst 1 z_iadd)), (105, (zal 0)), (106, (zas 0)), (107, (zin4 2 1 (1))), (110, (zgt 81)), (113, (zla4 0 1))]
theorem kX12_begin_5 : ∀ q ∈ tX12_begin_5, zOk zg iX12_begin q.1 q.2 := (z_c (ok_getf (C := RX12) (T := TX12) (N := 73) rfl (by decide) zinX12 rfl zw_712 dX12_begin_93) (z_c (ok_bipush (v := (6)) dX12_begin_96 (by decide)) (z_c (ok_aload_n dX12_begin_98 rfl) (z_c (ok_getf (C := RX12) (T := TX12) (N := 73) rfl (by decide) zinX12 rfl zw_700 dX12_begin_99) (z_c (ok_imul dX12_begin_102) (z_c (ok_iload_n dX12_begin_103 rfl) (z_c (ok_iadd dX12_begin_104) (z_c (ok_iaload rfl dX12_begin_105) (z_c (ok_iastore rfl dX12_begin_106) (z_c (ok_iinc (v := (1)) dX12_begin_107 (by decide)) (z_c (ok_goto dX12_begin_110 (by decide)) (z_c (ok_aload_n dX12_begin_113 rfl) z_n))))))))))))
noncomputable def tX12_begin_6 : List (Nat × zF) := [(114, (zgf 12 52)), (117, (zst 1 (zp (.int (0))))), (118, (zst 1 (zp (.int (0))))), (119, (zas 0)), (120, (zla4 0 1)), (121, (zst 1 (zp (.int (0))))), (122, (zpf 12 55 (.int))), (125, (zla4 0 1)), (126, (zst 1 (zp (.int (0))))), (127, (zpf 12 66 (.int))), (130, zrv)]
theorem kX12_begin_6 : ∀ q ∈ tX12_begin_6, zOk zg iX12_begin q.1 q.2 := (z_c (ok_getf (C := RX12) (T := TX12) (N := 73) rfl (by decide) zinX12 rfl zw_740 dX12_begin_114) (z_c (ok_iconst (v := (0)) dX12_begin_117 (by decide)) (z_c (ok_iconst (v := (0)) dX12_begin_118 (by decide)) (z_c (ok_iastore rfl dX12_begin_119) (z_c (ok_aload_n dX12_begin_120 rfl) (z_c (ok_iconst (v := (0)) dX12_begin_121 (by decide)) (z_c (ok_putf (C := RX12) (T := TX12) (N := 73) false tyX12 tyX12_ok nmX12 rfl (by decide) zinX12 rfl zw_743 rfl (fun h => absurd h (by decide)) rfl dX12_begin_122) (z_c (ok_aload_n dX12_begin_125 rfl) (z_c (ok_iconst (v := (0)) dX12_begin_126 (by decide)) (z_c (ok_putf (C := RX12) (T := TX12) (N := 73) false tyX12 tyX12_ok nmX12 rfl (by decide) zinX12 rfl zw_754 rfl (fun h => absurd h (by decide)) rfl dX12_begin_127) (z_c (ok_return rfl dX12_begin_130) z_n)))))))))))
noncomputable def tX12_begin : zT := [(18, tX12_begin_0), (36, tX12_begin_1), (53, tX12_begin_2), (72, tX12_begin_3), (93, tX12_begin_4), (114, tX12_begin_5), (100000, tX12_begin_6)]
theorem kX12_begin : zTok zg iX12_begin tX12_begin := (z_t kX12_begin_0 (z_t kX12_begin_1 (z_t kX12_begin_2 (z_t kX12_begin_3 (z_t kX12_begin_4 (z_t kX12_begin_5 (z_t kX12_begin_6 z_tn)))))))
theorem dX12_slot_0 : decode cX12_slot 0 = .ok (.iconst 2, 1) := by decide +kernel
theorem dX12_slot_1 : decode cX12_slot 1 = .ok (.aload_n 0, 1) := by decide +kernel
theorem dX12_slot_2 : decode cX12_slot 2 = .ok (.getfield 177, 3) := by decide +kernel
theorem dX12_slot_5 : decode cX12_slot 5 = .ok (.iload_n 1, 1) := by decide +kernel
theorem dX12_slot_6 : decode cX12_slot 6 = .ok (.iadd, 1) := by decide +kernel
theorem dX12_slot_7 : decode cX12_slot 7 = .ok (.bipush 20, 2) := by decide +kernel
theorem dX12_slot_9 : decode cX12_slot 9 = .ok (.irem, 1) := by decide +kernel
theorem dX12_slot_10 : decode cX12_slot 10 = .ok (.iadd, 1) := by decide +kernel
theorem dX12_slot_11 : decode cX12_slot 11 = .ok (.ireturn, 1) := by decide +kernel
noncomputable def tX12_slot_0 : List (Nat × zF) := [(0, (zst 1 (zp (.int (2))))), (1, (zla4 0 1)), (2, (zgf 12 54)), (5, (zli4 1 1)), (6, (zst 1 z_iadd)), (7, (zst 2 (zp (.int (20))))), (9, (zst 1 z_irem)), (10, (zst 1 z_iadd)), (11, (zri false))]
theorem kX12_slot_0 : ∀ q ∈ tX12_slot_0, zOk zg iX12_slot q.1 q.2 := (z_c (ok_iconst (v := (2)) dX12_slot_0 (by decide)) (z_c (ok_aload_n dX12_slot_1 rfl) (z_c (ok_getf (C := RX12) (T := TX12) (N := 73) rfl (by decide) zinX12 rfl zw_742 dX12_slot_2) (z_c (ok_iload_n dX12_slot_5 rfl) (z_c (ok_iadd dX12_slot_6) (z_c (ok_bipush (v := (20)) dX12_slot_7 (by decide)) (z_c (ok_irem dX12_slot_9) (z_c (ok_iadd dX12_slot_10) (z_c (ok_ireturn rfl dX12_slot_11) z_n)))))))))
noncomputable def tX12_slot : zT := [(100000, tX12_slot_0)]
theorem kX12_slot : zTok zg iX12_slot tX12_slot := (z_t kX12_slot_0 z_tn)
theorem dX12_keeps_0 : decode cX12_keeps 0 = .ok (.aload_n 0, 1) := by decide +kernel
theorem dX12_keeps_1 : decode cX12_keeps 1 = .ok (.getfield 180, 3) := by decide +kernel
theorem dX12_keeps_4 : decode cX12_keeps 4 = .ok (.bipush 20, 2) := by decide +kernel
theorem dX12_keeps_6 : decode cX12_keeps 6 = .ok (.if_icmp .ne 26, 3) := by decide +kernel
theorem dX12_keeps_9 : decode cX12_keeps 9 = .ok (.aload_n 0, 1) := by decide +kernel
theorem dX12_keeps_10 : decode cX12_keeps 10 = .ok (.aload_n 0, 1) := by decide +kernel
theorem dX12_keeps_11 : decode cX12_keeps 11 = .ok (.getfield 177, 3) := by decide +kernel
theorem dX12_keeps_14 : decode cX12_keeps 14 = .ok (.iconst 1, 1) := by decide +kernel
theorem dX12_keeps_15 : decode cX12_keeps 15 = .ok (.iadd, 1) := by decide +kernel
theorem dX12_keeps_16 : decode cX12_keeps 16 = .ok (.bipush 20, 2) := by decide +kernel
theorem dX12_keeps_18 : decode cX12_keeps 18 = .ok (.irem, 1) := by decide +kernel
theorem dX12_keeps_19 : decode cX12_keeps 19 = .ok (.putfield 177, 3) := by decide +kernel
theorem dX12_keeps_22 : decode cX12_keeps 22 = .ok (.aload_n 0, 1) := by decide +kernel
theorem dX12_keeps_23 : decode cX12_keeps 23 = .ok (.dup, 1) := by decide +kernel
theorem dX12_keeps_24 : decode cX12_keeps 24 = .ok (.getfield 180, 3) := by decide +kernel
theorem dX12_keeps_27 : decode cX12_keeps 27 = .ok (.iconst 1, 1) := by decide +kernel
theorem dX12_keeps_28 : decode cX12_keeps 28 = .ok (.isub, 1) := by decide +kernel
theorem dX12_keeps_29 : decode cX12_keeps 29 = .ok (.putfield 180, 3) := by decide +kernel
theorem dX12_keeps_32 : decode cX12_keeps 32 = .ok (.aload_n 0, 1) := by decide +kernel
theorem dX12_keeps_33 : decode cX12_keeps 33 = .ok (.aload_n 0, 1) := by decide +kernel
theorem dX12_keeps_34 : decode cX12_keeps 34 = .ok (.aload_n 0, 1) := by decide +kernel
theorem dX12_keeps_35 : decode cX12_keeps 35 = .ok (.getfield 180, 3) := by decide +kernel
theorem dX12_keeps_38 : decode cX12_keeps 38 = .ok (.invokevirtual 422, 3) := by decide +kernel
theorem dX12_keeps_41 : decode cX12_keeps 41 = .ok (.iconst 0, 1) := by decide +kernel
theorem dX12_keeps_42 : decode cX12_keeps 42 = .ok (.invokevirtual 425, 3) := by decide +kernel
theorem dX12_keeps_45 : decode cX12_keeps 45 = .ok (.aload_n 0, 1) := by decide +kernel
theorem dX12_keeps_46 : decode cX12_keeps 46 = .ok (.dup, 1) := by decide +kernel
theorem dX12_keeps_47 : decode cX12_keeps 47 = .ok (.getfield 180, 3) := by decide +kernel
theorem dX12_keeps_50 : decode cX12_keeps 50 = .ok (.iconst 1, 1) := by decide +kernel
theorem dX12_keeps_51 : decode cX12_keeps 51 = .ok (.iadd, 1) := by decide +kernel
theorem dX12_keeps_52 : decode cX12_keeps 52 = .ok (.putfield 180, 3) := by decide +kernel
theorem dX12_keeps_55 : decode cX12_keeps 55 = .ok (.return_, 1) := by decide +kernel
noncomputable def tX12_keeps_0 : List (Nat × zF) := [(0, (zla4 0 1)), (1, (zgf 12 55)), (4, (zst 2 (zp (.int (20))))), (6, (z_ic_ne 32)), (9, (zla4 0 1)), (10, (zla4 0 1)), (11, (zgf 12 54)), (14, (zst 1 (zp (.int (1))))), (15, (zst 1 z_iadd)), (16, (zst 2 (zp (.int (20))))), (18, (zst 1 z_irem)), (19, (zpf 12 54 (.int)))]
theorem kX12_keeps_0 : ∀ q ∈ tX12_keeps_0, zOk zg iX12_keeps q.1 q.2 := (z_c (ok_aload_n dX12_keeps_0 rfl) (z_c (ok_getf (C := RX12) (T := TX12) (N := 73) rfl (by decide) zinX12 rfl zw_743 dX12_keeps_1) (z_c (ok_bipush (v := (20)) dX12_keeps_4 (by decide)) (z_c (ok_icmp_ne dX12_keeps_6 (by decide)) (z_c (ok_aload_n dX12_keeps_9 rfl) (z_c (ok_aload_n dX12_keeps_10 rfl) (z_c (ok_getf (C := RX12) (T := TX12) (N := 73) rfl (by decide) zinX12 rfl zw_742 dX12_keeps_11) (z_c (ok_iconst (v := (1)) dX12_keeps_14 (by decide)) (z_c (ok_iadd dX12_keeps_15) (z_c (ok_bipush (v := (20)) dX12_keeps_16 (by decide)) (z_c (ok_irem dX12_keeps_18) (z_c (ok_putf (C := RX12) (T := TX12) (N := 73) false tyX12 tyX12_ok nmX12 rfl (by decide) zinX12 rfl zw_742 rfl (fun h => absurd h (by decide)) rfl dX12_keeps_19) z_n))))))))))))
noncomputable def tX12_keeps_1 : List (Nat × zF) := [(22, (zla4 0 1)), (23, (zst 1 zdu)), (24, (zgf 12 55)), (27, (zst 1 (zp (.int (1))))), (28, (zst 1 z_isub)), (29, (zpf 12 55 (.int))), (32, (zla4 0 1)), (33, (zla4 0 1)), (34, (zla4 0 1)), (35, (zgf 12 55)), (38, (zcv 212 1 12)), (41, (zst 1 (zp (.int (0)))))]
theorem kX12_keeps_1 : ∀ q ∈ tX12_keeps_1, zOk zg iX12_keeps q.1 q.2 := (z_c (ok_aload_n dX12_keeps_22 rfl) (z_c (ok_dup dX12_keeps_23) (z_c (ok_getf (C := RX12) (T := TX12) (N := 73) rfl (by decide) zinX12 rfl zw_743 dX12_keeps_24) (z_c (ok_iconst (v := (1)) dX12_keeps_27 (by decide)) (z_c (ok_isub dX12_keeps_28) (z_c (ok_putf (C := RX12) (T := TX12) (N := 73) false tyX12 tyX12_ok nmX12 rfl (by decide) zinX12 rfl zw_743 rfl (fun h => absurd h (by decide)) rfl dX12_keeps_29) (z_c (ok_aload_n dX12_keeps_32 rfl) (z_c (ok_aload_n dX12_keeps_33 rfl) (z_c (ok_aload_n dX12_keeps_34 rfl) (z_c (ok_getf (C := RX12) (T := TX12) (N := 73) rfl (by decide) zinX12 rfl zw_743 dX12_keeps_35) (z_c (ok_callV zcal_212 (q := (RX12, TX12, 73)) rfl zw_904 zw_905 zw_906 dX12_keeps_38) (z_c (ok_iconst (v := (0)) dX12_keeps_41 (by decide)) z_n))))))))))))
noncomputable def tX12_keeps_2 : List (Nat × zF) := [(42, (zcv 210 2 12)), (45, (zla4 0 1)), (46, (zst 1 zdu)), (47, (zgf 12 55)), (50, (zst 1 (zp (.int (1))))), (51, (zst 1 z_iadd)), (52, (zpf 12 55 (.int))), (55, zrv)]
theorem kX12_keeps_2 : ∀ q ∈ tX12_keeps_2, zOk zg iX12_keeps q.1 q.2 := (z_c (ok_callV zcal_210 (q := (RX12, TX12, 73)) rfl zw_907 zw_908 zw_909 dX12_keeps_42) (z_c (ok_aload_n dX12_keeps_45 rfl) (z_c (ok_dup dX12_keeps_46) (z_c (ok_getf (C := RX12) (T := TX12) (N := 73) rfl (by decide) zinX12 rfl zw_743 dX12_keeps_47) (z_c (ok_iconst (v := (1)) dX12_keeps_50 (by decide)) (z_c (ok_iadd dX12_keeps_51) (z_c (ok_putf (C := RX12) (T := TX12) (N := 73) false tyX12 tyX12_ok nmX12 rfl (by decide) zinX12 rfl zw_743 rfl (fun h => absurd h (by decide)) rfl dX12_keeps_52) (z_c (ok_return rfl dX12_keeps_55) z_n))))))))
noncomputable def tX12_keeps : zT := [(22, tX12_keeps_0), (42, tX12_keeps_1), (100000, tX12_keeps_2)]
theorem kX12_keeps : zTok zg iX12_keeps tX12_keeps := (z_t kX12_keeps_0 (z_t kX12_keeps_1 (z_t kX12_keeps_2 z_tn)))
theorem dX12_undo_0 : decode cX12_undo 0 = .ok (.aload_n 0, 1) := by decide +kernel
theorem dX12_undo_1 : decode cX12_undo 1 = .ok (.getfield 180, 3) := by decide +kernel
theorem dX12_undo_4 : decode cX12_undo 4 = .ok (.ifCond .ne 17, 3) := by decide +kernel
theorem dX12_undo_7 : decode cX12_undo 7 = .ok (.aload_n 0, 1) := by decide +kernel
theorem dX12_undo_8 : decode cX12_undo 8 = .ok (.iconst 4, 1) := by decide +kernel
theorem dX12_undo_9 : decode cX12_undo 9 = .ok (.invokevirtual 234, 3) := by decide +kernel
theorem dX12_undo_12 : decode cX12_undo 12 = .ok (.ifCond .lt 7, 3) := by decide +kernel
theorem dX12_undo_15 : decode cX12_undo 15 = .ok (.iconst 1, 1) := by decide +kernel
theorem dX12_undo_16 : decode cX12_undo 16 = .ok (.goto 4, 3) := by decide +kernel
theorem dX12_undo_19 : decode cX12_undo 19 = .ok (.iconst 0, 1) := by decide +kernel
theorem dX12_undo_20 : decode cX12_undo 20 = .ok (.ireturn, 1) := by decide +kernel
theorem dX12_undo_21 : decode cX12_undo 21 = .ok (.aload_n 0, 1) := by decide +kernel
theorem dX12_undo_22 : decode cX12_undo 22 = .ok (.dup, 1) := by decide +kernel
theorem dX12_undo_23 : decode cX12_undo 23 = .ok (.getfield 180, 3) := by decide +kernel
theorem dX12_undo_26 : decode cX12_undo 26 = .ok (.iconst 1, 1) := by decide +kernel
theorem dX12_undo_27 : decode cX12_undo 27 = .ok (.isub, 1) := by decide +kernel
theorem dX12_undo_28 : decode cX12_undo 28 = .ok (.putfield 180, 3) := by decide +kernel
theorem dX12_undo_31 : decode cX12_undo 31 = .ok (.aload_n 0, 1) := by decide +kernel
theorem dX12_undo_32 : decode cX12_undo 32 = .ok (.iconst 0, 1) := by decide +kernel
theorem dX12_undo_33 : decode cX12_undo 33 = .ok (.aload_n 0, 1) := by decide +kernel
theorem dX12_undo_34 : decode cX12_undo 34 = .ok (.aload_n 0, 1) := by decide +kernel
theorem dX12_undo_35 : decode cX12_undo 35 = .ok (.getfield 180, 3) := by decide +kernel
theorem dX12_undo_38 : decode cX12_undo 38 = .ok (.invokevirtual 422, 3) := by decide +kernel
theorem dX12_undo_41 : decode cX12_undo 41 = .ok (.invokevirtual 425, 3) := by decide +kernel
theorem dX12_undo_44 : decode cX12_undo 44 = .ok (.iconst 1, 1) := by decide +kernel
theorem dX12_undo_45 : decode cX12_undo 45 = .ok (.ireturn, 1) := by decide +kernel
noncomputable def tX12_undo_0 : List (Nat × zF) := [(0, (zla4 0 1)), (1, (zgf 12 55)), (4, (z_if_ne 21)), (7, (zla4 0 1)), (8, (zst 1 (zp (.int (4))))), (9, (zcv 208 1 12)), (12, (z_if_lt 19)), (15, (zst 1 (zp (.int (1))))), (16, (zgt 20)), (19, (zst 1 (zp (.int (0))))), (20, (zri true)), (21, (zla4 0 1))]
theorem kX12_undo_0 : ∀ q ∈ tX12_undo_0, zOk zg iX12_undo q.1 q.2 := (z_c (ok_aload_n dX12_undo_0 rfl) (z_c (ok_getf (C := RX12) (T := TX12) (N := 73) rfl (by decide) zinX12 rfl zw_743 dX12_undo_1) (z_c (ok_if_ne dX12_undo_4 (by decide)) (z_c (ok_aload_n dX12_undo_7 rfl) (z_c (ok_iconst (v := (4)) dX12_undo_8 (by decide)) (z_c (ok_callV zcal_208 (q := (RX12, TX12, 73)) rfl zw_761 zw_762 zw_763 dX12_undo_9) (z_c (ok_if_lt dX12_undo_12 (by decide)) (z_c (ok_iconst (v := (1)) dX12_undo_15 (by decide)) (z_c (ok_goto dX12_undo_16 (by decide)) (z_c (ok_iconst (v := (0)) dX12_undo_19 (by decide)) (z_c (ok_zreturn rfl dX12_undo_20) (z_c (ok_aload_n dX12_undo_21 rfl) z_n))))))))))))
noncomputable def tX12_undo_1 : List (Nat × zF) := [(22, (zst 1 zdu)), (23, (zgf 12 55)), (26, (zst 1 (zp (.int (1))))), (27, (zst 1 z_isub)), (28, (zpf 12 55 (.int))), (31, (zla4 0 1)), (32, (zst 1 (zp (.int (0))))), (33, (zla4 0 1)), (34, (zla4 0 1)), (35, (zgf 12 55)), (38, (zcv 212 1 12)), (41, (zcv 210 2 12))]
theorem kX12_undo_1 : ∀ q ∈ tX12_undo_1, zOk zg iX12_undo q.1 q.2 := (z_c (ok_dup dX12_undo_22) (z_c (ok_getf (C := RX12) (T := TX12) (N := 73) rfl (by decide) zinX12 rfl zw_743 dX12_undo_23) (z_c (ok_iconst (v := (1)) dX12_undo_26 (by decide)) (z_c (ok_isub dX12_undo_27) (z_c (ok_putf (C := RX12) (T := TX12) (N := 73) false tyX12 tyX12_ok nmX12 rfl (by decide) zinX12 rfl zw_743 rfl (fun h => absurd h (by decide)) rfl dX12_undo_28) (z_c (ok_aload_n dX12_undo_31 rfl) (z_c (ok_iconst (v := (0)) dX12_undo_32 (by decide)) (z_c (ok_aload_n dX12_undo_33 rfl) (z_c (ok_aload_n dX12_undo_34 rfl) (z_c (ok_getf (C := RX12) (T := TX12) (N := 73) rfl (by decide) zinX12 rfl zw_743 dX12_undo_35) (z_c (ok_callV zcal_212 (q := (RX12, TX12, 73)) rfl zw_904 zw_905 zw_906 dX12_undo_38) (z_c (ok_callV zcal_210 (q := (RX12, TX12, 73)) rfl zw_907 zw_908 zw_909 dX12_undo_41) z_n))))))))))))
noncomputable def tX12_undo_2 : List (Nat × zF) := [(44, (zst 1 (zp (.int (1))))), (45, (zri true))]
theorem kX12_undo_2 : ∀ q ∈ tX12_undo_2, zOk zg iX12_undo q.1 q.2 := (z_c (ok_iconst (v := (1)) dX12_undo_44 (by decide)) (z_c (ok_zreturn rfl dX12_undo_45) z_n))
noncomputable def tX12_undo : zT := [(22, tX12_undo_0), (44, tX12_undo_1), (100000, tX12_undo_2)]
theorem kX12_undo : zTok zg iX12_undo tX12_undo := (z_t kX12_undo_0 (z_t kX12_undo_1 (z_t kX12_undo_2 z_tn)))
theorem dX12_within_0 : decode cX12_within 0 = .ok (.lload_n 0, 1) := by decide +kernel
theorem dX12_within_1 : decode cX12_within 1 = .ok (.ldc2_w 428, 3) := by decide +kernel
theorem dX12_within_4 : decode cX12_within 4 = .ok (.lcmp, 1) := by decide +kernel
theorem dX12_within_5 : decode cX12_within 5 = .ok (.ifCond .le 9, 3) := by decide +kernel
theorem dX12_within_8 : decode cX12_within 8 = .ok (.ldc2_w 428, 3) := by decide +kernel
theorem dX12_within_11 : decode cX12_within 11 = .ok (.goto 18, 3) := by decide +kernel
theorem dX12_within_14 : decode cX12_within 14 = .ok (.lload_n 0, 1) := by decide +kernel
theorem dX12_within_15 : decode cX12_within 15 = .ok (.ldc2_w 430, 3) := by decide +kernel
theorem dX12_within_18 : decode cX12_within 18 = .ok (.lcmp, 1) := by decide +kernel
theorem dX12_within_19 : decode cX12_within 19 = .ok (.ifCond .ge 9, 3) := by decide +kernel
theorem dX12_within_22 : decode cX12_within 22 = .ok (.ldc2_w 430, 3) := by decide +kernel
theorem dX12_within_25 : decode cX12_within 25 = .ok (.goto 4, 3) := by decide +kernel
theorem dX12_within_28 : decode cX12_within 28 = .ok (.lload_n 0, 1) := by decide +kernel
theorem dX12_within_29 : decode cX12_within 29 = .ok (.lreturn, 1) := by decide +kernel
noncomputable def tX12_within_0 : List (Nat × zF) := [(0, (zll4 0 1)), (1, (zst 3 (zp (.long (1000000))))), (4, (zst 1 zcm)), (5, (z_if_le 14)), (8, (zst 3 (zp (.long (1000000))))), (11, (zgt 29)), (14, (zll4 0 1)), (15, (zst 3 (zp (.long (-1000000))))), (18, (zst 1 zcm)), (19, (z_if_ge 28)), (22, (zst 3 (zp (.long (-1000000))))), (25, (zgt 29))]
theorem kX12_within_0 : ∀ q ∈ tX12_within_0, zOk zg iX12_within q.1 q.2 := (z_c (ok_lload_n dX12_within_0 rfl) (z_c (ok_ldc2 (v := (1000000)) zw_910 dX12_within_1) (z_c (ok_lcmp dX12_within_4) (z_c (ok_if_le dX12_within_5 (by decide)) (z_c (ok_ldc2 (v := (1000000)) zw_910 dX12_within_8) (z_c (ok_goto dX12_within_11 (by decide)) (z_c (ok_lload_n dX12_within_14 rfl) (z_c (ok_ldc2 (v := (-1000000)) zw_911 dX12_within_15) (z_c (ok_lcmp dX12_within_18) (z_c (ok_if_ge dX12_within_19 (by decide)) (z_c (ok_ldc2 (v := (-1000000)) zw_911 dX12_within_22) (z_c (ok_goto dX12_within_25 (by decide)) z_n))))))))))))
noncomputable def tX12_within_1 : List (Nat × zF) := [(28, (zll4 0 1)), (29, zrl)]
theorem kX12_within_1 : ∀ q ∈ tX12_within_1, zOk zg iX12_within q.1 q.2 := (z_c (ok_lload_n dX12_within_28 rfl) (z_c (ok_lreturn rfl dX12_within_29) z_n))
noncomputable def tX12_within : zT := [(28, tX12_within_0), (100000, tX12_within_1)]
theorem kX12_within : zTok zg iX12_within tX12_within := (z_t kX12_within_0 (z_t kX12_within_1 z_tn))
theorem dX12_floor_0 : decode cX12_floor 0 = .ok (.lload_n 2, 1) := by decide +kernel
theorem dX12_floor_1 : decode cX12_floor 1 = .ok (.lconst 0, 1) := by decide +kernel
theorem dX12_floor_2 : decode cX12_floor 2 = .ok (.lcmp, 1) := by decide +kernel
theorem dX12_floor_3 : decode cX12_floor 3 = .ok (.ifCond .ne 5, 3) := by decide +kernel
theorem dX12_floor_6 : decode cX12_floor 6 = .ok (.lconst 0, 1) := by decide +kernel
theorem dX12_floor_7 : decode cX12_floor 7 = .ok (.lreturn, 1) := by decide +kernel
theorem dX12_floor_8 : decode cX12_floor 8 = .ok (.lload_n 0, 1) := by decide +kernel
theorem dX12_floor_9 : decode cX12_floor 9 = .ok (.lload_n 2, 1) := by decide +kernel
theorem dX12_floor_10 : decode cX12_floor 10 = .ok (.ldiv, 1) := by decide +kernel
theorem dX12_floor_11 : decode cX12_floor 11 = .ok (.lstore 4, 2) := by decide +kernel
theorem dX12_floor_13 : decode cX12_floor 13 = .ok (.lload_n 0, 1) := by decide +kernel
theorem dX12_floor_14 : decode cX12_floor 14 = .ok (.lload_n 2, 1) := by decide +kernel
theorem dX12_floor_15 : decode cX12_floor 15 = .ok (.lrem, 1) := by decide +kernel
theorem dX12_floor_16 : decode cX12_floor 16 = .ok (.lconst 0, 1) := by decide +kernel
theorem dX12_floor_17 : decode cX12_floor 17 = .ok (.lcmp, 1) := by decide +kernel
theorem dX12_floor_18 : decode cX12_floor 18 = .ok (.ifCond .eq 35, 3) := by decide +kernel
theorem dX12_floor_21 : decode cX12_floor 21 = .ok (.lload_n 0, 1) := by decide +kernel
theorem dX12_floor_22 : decode cX12_floor 22 = .ok (.lconst 0, 1) := by decide +kernel
theorem dX12_floor_23 : decode cX12_floor 23 = .ok (.lcmp, 1) := by decide +kernel
theorem dX12_floor_24 : decode cX12_floor 24 = .ok (.ifCond .ge 7, 3) := by decide +kernel
theorem dX12_floor_27 : decode cX12_floor 27 = .ok (.iconst 1, 1) := by decide +kernel
theorem dX12_floor_28 : decode cX12_floor 28 = .ok (.goto 4, 3) := by decide +kernel
theorem dX12_floor_31 : decode cX12_floor 31 = .ok (.iconst 0, 1) := by decide +kernel
theorem dX12_floor_32 : decode cX12_floor 32 = .ok (.lload_n 2, 1) := by decide +kernel
theorem dX12_floor_33 : decode cX12_floor 33 = .ok (.lconst 0, 1) := by decide +kernel
theorem dX12_floor_34 : decode cX12_floor 34 = .ok (.lcmp, 1) := by decide +kernel
theorem dX12_floor_35 : decode cX12_floor 35 = .ok (.ifCond .ge 7, 3) := by decide +kernel
theorem dX12_floor_38 : decode cX12_floor 38 = .ok (.iconst 1, 1) := by decide +kernel
theorem dX12_floor_39 : decode cX12_floor 39 = .ok (.goto 4, 3) := by decide +kernel
theorem dX12_floor_42 : decode cX12_floor 42 = .ok (.iconst 0, 1) := by decide +kernel
theorem dX12_floor_43 : decode cX12_floor 43 = .ok (.if_icmp .eq 10, 3) := by decide +kernel
theorem dX12_floor_46 : decode cX12_floor 46 = .ok (.lload 4, 2) := by decide +kernel
theorem dX12_floor_48 : decode cX12_floor 48 = .ok (.lconst 1, 1) := by decide +kernel
theorem dX12_floor_49 : decode cX12_floor 49 = .ok (.lsub, 1) := by decide +kernel
theorem dX12_floor_50 : decode cX12_floor 50 = .ok (.goto 5, 3) := by decide +kernel
theorem dX12_floor_53 : decode cX12_floor 53 = .ok (.lload 4, 2) := by decide +kernel
theorem dX12_floor_55 : decode cX12_floor 55 = .ok (.lreturn, 1) := by decide +kernel
noncomputable def tX12_floor_0 : List (Nat × zF) := [(0, (zll4 2 1)), (1, (zst 1 (zp (.long (0))))), (2, (zst 1 zcm)), (3, (z_if_ne 8)), (6, (zst 1 (zp (.long (0))))), (7, zrl), (8, (zll4 0 1)), (9, (zll4 2 1)), (10, (zst 1 z_ldiv)), (11, (zsl4 6 4 2)), (13, (zll4 0 1)), (14, (zll4 2 1))]
theorem kX12_floor_0 : ∀ q ∈ tX12_floor_0, zOk zg iX12_floor q.1 q.2 := (z_c (ok_lload_n dX12_floor_0 rfl) (z_c (ok_lconst (v := (0)) dX12_floor_1 (by decide)) (z_c (ok_lcmp dX12_floor_2) (z_c (ok_if_ne dX12_floor_3 (by decide)) (z_c (ok_lconst (v := (0)) dX12_floor_6 (by decide)) (z_c (ok_lreturn rfl dX12_floor_7) (z_c (ok_lload_n dX12_floor_8 rfl) (z_c (ok_lload_n dX12_floor_9 rfl) (z_c (ok_ldiv dX12_floor_10) (z_c (ok_lstore dX12_floor_11) (z_c (ok_lload_n dX12_floor_13 rfl) (z_c (ok_lload_n dX12_floor_14 rfl) z_n))))))))))))
noncomputable def tX12_floor_1 : List (Nat × zF) := [(15, (zst 1 z_lrem)), (16, (zst 1 (zp (.long (0))))), (17, (zst 1 zcm)), (18, (z_if_eq 53)), (21, (zll4 0 1)), (22, (zst 1 (zp (.long (0))))), (23, (zst 1 zcm)), (24, (z_if_ge 31)), (27, (zst 1 (zp (.int (1))))), (28, (zgt 32)), (31, (zst 1 (zp (.int (0))))), (32, (zll4 2 1))]
theorem kX12_floor_1 : ∀ q ∈ tX12_floor_1, zOk zg iX12_floor q.1 q.2 := (z_c (ok_lrem dX12_floor_15) (z_c (ok_lconst (v := (0)) dX12_floor_16 (by decide)) (z_c (ok_lcmp dX12_floor_17) (z_c (ok_if_eq dX12_floor_18 (by decide)) (z_c (ok_lload_n dX12_floor_21 rfl) (z_c (ok_lconst (v := (0)) dX12_floor_22 (by decide)) (z_c (ok_lcmp dX12_floor_23) (z_c (ok_if_ge dX12_floor_24 (by decide)) (z_c (ok_iconst (v := (1)) dX12_floor_27 (by decide)) (z_c (ok_goto dX12_floor_28 (by decide)) (z_c (ok_iconst (v := (0)) dX12_floor_31 (by decide)) (z_c (ok_lload_n dX12_floor_32 rfl) z_n))))))))))))
noncomputable def tX12_floor_2 : List (Nat × zF) := [(33, (zst 1 (zp (.long (0))))), (34, (zst 1 zcm)), (35, (z_if_ge 42)), (38, (zst 1 (zp (.int (1))))), (39, (zgt 43)), (42, (zst 1 (zp (.int (0))))), (43, (z_ic_eq 53)), (46, (zll4 4 2)), (48, (zst 1 (zp (.long (1))))), (49, (zst 1 z_lsub)), (50, (zgt 55)), (53, (zll4 4 2))]
theorem kX12_floor_2 : ∀ q ∈ tX12_floor_2, zOk zg iX12_floor q.1 q.2 := (z_c (ok_lconst (v := (0)) dX12_floor_33 (by decide)) (z_c (ok_lcmp dX12_floor_34) (z_c (ok_if_ge dX12_floor_35 (by decide)) (z_c (ok_iconst (v := (1)) dX12_floor_38 (by decide)) (z_c (ok_goto dX12_floor_39 (by decide)) (z_c (ok_iconst (v := (0)) dX12_floor_42 (by decide)) (z_c (ok_icmp_eq dX12_floor_43 (by decide)) (z_c (ok_lload dX12_floor_46) (z_c (ok_lconst (v := (1)) dX12_floor_48 (by decide)) (z_c (ok_lsub dX12_floor_49) (z_c (ok_goto dX12_floor_50 (by decide)) (z_c (ok_lload dX12_floor_53) z_n))))))))))))
noncomputable def tX12_floor_3 : List (Nat × zF) := [(55, zrl)]
theorem kX12_floor_3 : ∀ q ∈ tX12_floor_3, zOk zg iX12_floor q.1 q.2 := (z_c (ok_lreturn rfl dX12_floor_55) z_n)
noncomputable def tX12_floor : zT := [(15, tX12_floor_0), (33, tX12_floor_1), (55, tX12_floor_2), (100000, tX12_floor_3)]
theorem kX12_floor : zTok zg iX12_floor tX12_floor := (z_t kX12_floor_0 (z_t kX12_floor_1 (z_t kX12_floor_2 (z_t kX12_floor_3 z_tn))))
theorem dX12_two_0 : decode cX12_two 0 = .ok (.iload_n 0, 1) := by decide +kernel
theorem dX12_two_1 : decode cX12_two 1 = .ok (.tableswitch 176 31 41 #[59, 66, 73, 80, 89, 112, 124, 136, 148, 160, 172], 59) := by decide +kernel
theorem dX12_two_60 : decode cX12_two 60 = .ok (.lload_n 1, 1) := by decide +kernel
theorem dX12_two_61 : decode cX12_two 61 = .ok (.lload_n 3, 1) := by decide +kernel
theorem dX12_two_62 : decode cX12_two 62 = .ok (.ladd, 1) := by decide +kernel
theorem dX12_two_63 : decode cX12_two 63 = .ok (.invokestatic 432, 3) := by decide +kernel
theorem dX12_two_66 : decode cX12_two 66 = .ok (.lreturn, 1) := by decide +kernel
theorem dX12_two_67 : decode cX12_two 67 = .ok (.lload_n 1, 1) := by decide +kernel
theorem dX12_two_68 : decode cX12_two 68 = .ok (.lload_n 3, 1) := by decide +kernel
theorem dX12_two_69 : decode cX12_two 69 = .ok (.lsub, 1) := by decide +kernel
theorem dX12_two_70 : decode cX12_two 70 = .ok (.invokestatic 432, 3) := by decide +kernel
theorem dX12_two_73 : decode cX12_two 73 = .ok (.lreturn, 1) := by decide +kernel
theorem dX12_two_74 : decode cX12_two 74 = .ok (.lload_n 1, 1) := by decide +kernel
theorem dX12_two_75 : decode cX12_two 75 = .ok (.lload_n 3, 1) := by decide +kernel
theorem dX12_two_76 : decode cX12_two 76 = .ok (.lmul, 1) := by decide +kernel
theorem dX12_two_77 : decode cX12_two 77 = .ok (.invokestatic 432, 3) := by decide +kernel
theorem dX12_two_80 : decode cX12_two 80 = .ok (.lreturn, 1) := by decide +kernel
theorem dX12_two_81 : decode cX12_two 81 = .ok (.lload_n 1, 1) := by decide +kernel
theorem dX12_two_82 : decode cX12_two 82 = .ok (.lload_n 3, 1) := by decide +kernel
theorem dX12_two_83 : decode cX12_two 83 = .ok (.invokestatic 436, 3) := by decide +kernel
theorem dX12_two_86 : decode cX12_two 86 = .ok (.invokestatic 432, 3) := by decide +kernel
theorem dX12_two_89 : decode cX12_two 89 = .ok (.lreturn, 1) := by decide +kernel
theorem dX12_two_90 : decode cX12_two 90 = .ok (.lload_n 3, 1) := by decide +kernel
theorem dX12_two_91 : decode cX12_two 91 = .ok (.lconst 0, 1) := by decide +kernel
theorem dX12_two_92 : decode cX12_two 92 = .ok (.lcmp, 1) := by decide +kernel
theorem dX12_two_93 : decode cX12_two 93 = .ok (.ifCond .ne 7, 3) := by decide +kernel
theorem dX12_two_96 : decode cX12_two 96 = .ok (.lconst 0, 1) := by decide +kernel
theorem dX12_two_97 : decode cX12_two 97 = .ok (.goto 15, 3) := by decide +kernel
theorem dX12_two_100 : decode cX12_two 100 = .ok (.lload_n 1, 1) := by decide +kernel
theorem dX12_two_101 : decode cX12_two 101 = .ok (.lload_n 3, 1) := by decide +kernel
theorem dX12_two_102 : decode cX12_two 102 = .ok (.lload_n 1, 1) := by decide +kernel
theorem dX12_two_103 : decode cX12_two 103 = .ok (.lload_n 3, 1) := by decide +kernel
theorem dX12_two_104 : decode cX12_two 104 = .ok (.invokestatic 436, 3) := by decide +kernel
theorem dX12_two_107 : decode cX12_two 107 = .ok (.lmul, 1) := by decide +kernel
theorem dX12_two_108 : decode cX12_two 108 = .ok (.lsub, 1) := by decide +kernel
theorem dX12_two_109 : decode cX12_two 109 = .ok (.invokestatic 432, 3) := by decide +kernel
theorem dX12_two_112 : decode cX12_two 112 = .ok (.lreturn, 1) := by decide +kernel
theorem dX12_two_113 : decode cX12_two 113 = .ok (.lload_n 1, 1) := by decide +kernel
theorem dX12_two_114 : decode cX12_two 114 = .ok (.lload_n 3, 1) := by decide +kernel
theorem dX12_two_115 : decode cX12_two 115 = .ok (.lcmp, 1) := by decide +kernel
theorem dX12_two_116 : decode cX12_two 116 = .ok (.ifCond .ge 7, 3) := by decide +kernel
theorem dX12_two_119 : decode cX12_two 119 = .ok (.lload_n 1, 1) := by decide +kernel
theorem dX12_two_120 : decode cX12_two 120 = .ok (.goto 4, 3) := by decide +kernel
theorem dX12_two_123 : decode cX12_two 123 = .ok (.lload_n 3, 1) := by decide +kernel
theorem dX12_two_124 : decode cX12_two 124 = .ok (.lreturn, 1) := by decide +kernel
theorem dX12_two_125 : decode cX12_two 125 = .ok (.lload_n 1, 1) := by decide +kernel
theorem dX12_two_126 : decode cX12_two 126 = .ok (.lload_n 3, 1) := by decide +kernel
theorem dX12_two_127 : decode cX12_two 127 = .ok (.lcmp, 1) := by decide +kernel
theorem dX12_two_128 : decode cX12_two 128 = .ok (.ifCond .le 7, 3) := by decide +kernel
theorem dX12_two_131 : decode cX12_two 131 = .ok (.lload_n 1, 1) := by decide +kernel
theorem dX12_two_132 : decode cX12_two 132 = .ok (.goto 4, 3) := by decide +kernel
theorem dX12_two_135 : decode cX12_two 135 = .ok (.lload_n 3, 1) := by decide +kernel
theorem dX12_two_136 : decode cX12_two 136 = .ok (.lreturn, 1) := by decide +kernel
theorem dX12_two_137 : decode cX12_two 137 = .ok (.lload_n 1, 1) := by decide +kernel
theorem dX12_two_138 : decode cX12_two 138 = .ok (.lload_n 3, 1) := by decide +kernel
theorem dX12_two_139 : decode cX12_two 139 = .ok (.lcmp, 1) := by decide +kernel
theorem dX12_two_140 : decode cX12_two 140 = .ok (.ifCond .ge 7, 3) := by decide +kernel
theorem dX12_two_143 : decode cX12_two 143 = .ok (.lconst 1, 1) := by decide +kernel
theorem dX12_two_144 : decode cX12_two 144 = .ok (.goto 4, 3) := by decide +kernel
theorem dX12_two_147 : decode cX12_two 147 = .ok (.lconst 0, 1) := by decide +kernel
theorem dX12_two_148 : decode cX12_two 148 = .ok (.lreturn, 1) := by decide +kernel
theorem dX12_two_149 : decode cX12_two 149 = .ok (.lload_n 1, 1) := by decide +kernel
theorem dX12_two_150 : decode cX12_two 150 = .ok (.lload_n 3, 1) := by decide +kernel
theorem dX12_two_151 : decode cX12_two 151 = .ok (.lcmp, 1) := by decide +kernel
theorem dX12_two_152 : decode cX12_two 152 = .ok (.ifCond .le 7, 3) := by decide +kernel
theorem dX12_two_155 : decode cX12_two 155 = .ok (.lconst 1, 1) := by decide +kernel
theorem dX12_two_156 : decode cX12_two 156 = .ok (.goto 4, 3) := by decide +kernel
theorem dX12_two_159 : decode cX12_two 159 = .ok (.lconst 0, 1) := by decide +kernel
theorem dX12_two_160 : decode cX12_two 160 = .ok (.lreturn, 1) := by decide +kernel
theorem dX12_two_161 : decode cX12_two 161 = .ok (.lload_n 1, 1) := by decide +kernel
theorem dX12_two_162 : decode cX12_two 162 = .ok (.lload_n 3, 1) := by decide +kernel
theorem dX12_two_163 : decode cX12_two 163 = .ok (.lcmp, 1) := by decide +kernel
theorem dX12_two_164 : decode cX12_two 164 = .ok (.ifCond .ne 7, 3) := by decide +kernel
theorem dX12_two_167 : decode cX12_two 167 = .ok (.lconst 1, 1) := by decide +kernel
theorem dX12_two_168 : decode cX12_two 168 = .ok (.goto 4, 3) := by decide +kernel
theorem dX12_two_171 : decode cX12_two 171 = .ok (.lconst 0, 1) := by decide +kernel
theorem dX12_two_172 : decode cX12_two 172 = .ok (.lreturn, 1) := by decide +kernel
theorem dX12_two_173 : decode cX12_two 173 = .ok (.lload_n 1, 1) := by decide +kernel
theorem dX12_two_174 : decode cX12_two 174 = .ok (.lload_n 3, 1) := by decide +kernel
theorem dX12_two_175 : decode cX12_two 175 = .ok (.land, 1) := by decide +kernel
theorem dX12_two_176 : decode cX12_two 176 = .ok (.lreturn, 1) := by decide +kernel
theorem dX12_two_177 : decode cX12_two 177 = .ok (.lload_n 1, 1) := by decide +kernel
theorem dX12_two_178 : decode cX12_two 178 = .ok (.lload_n 3, 1) := by decide +kernel
theorem dX12_two_179 : decode cX12_two 179 = .ok (.lor, 1) := by decide +kernel
theorem dX12_two_180 : decode cX12_two 180 = .ok (.lreturn, 1) := by decide +kernel
noncomputable def tX12_two_0 : List (Nat × zF) := [(0, (zli4 0 1)), (1, (zts [(31, 60), (32, 67), (33, 74), (34, 81), (35, 90), (36, 113), (37, 125), (38, 137), (39, 149), (40, 161), (41, 173)] 177)), (60, (zll4 1 1)), (61, (zll4 3 1)), (62, (zst 1 z_ladd)), (63, (zcs 215 1)), (66, zrl), (67, (zll4 1 1)), (68, (zll4 3 1)), (69, (zst 1 z_lsub)), (70, (zcs 215 1)), (73, zrl)]
theorem kX12_two_0 : ∀ q ∈ tX12_two_0, zOk zg iX12_two q.1 q.2 := (z_c (ok_iload_n dX12_two_0 rfl) (z_c (ok_tsw dX12_two_1 (by decide) (by decide +kernel) (by decide +kernel) (by decide)) (z_c (ok_lload_n dX12_two_60 rfl) (z_c (ok_lload_n dX12_two_61 rfl) (z_c (ok_ladd dX12_two_62) (z_c (ok_callS zcal_215 zw_912 zw_913 dX12_two_63) (z_c (ok_lreturn rfl dX12_two_66) (z_c (ok_lload_n dX12_two_67 rfl) (z_c (ok_lload_n dX12_two_68 rfl) (z_c (ok_lsub dX12_two_69) (z_c (ok_callS zcal_215 zw_912 zw_913 dX12_two_70) (z_c (ok_lreturn rfl dX12_two_73) z_n))))))))))))
noncomputable def tX12_two_1 : List (Nat × zF) := [(74, (zll4 1 1)), (75, (zll4 3 1)), (76, (zst 1 z_lmul)), (77, (zcs 215 1)), (80, zrl), (81, (zll4 1 1)), (82, (zll4 3 1)), (83, (zcs 216 2)), (86, (zcs 215 1)), (89, zrl), (90, (zll4 3 1)), (91, (zst 1 (zp (.long (0)))))]
theorem kX12_two_1 : ∀ q ∈ tX12_two_1, zOk zg iX12_two q.1 q.2 := (z_c (ok_lload_n dX12_two_74 rfl) (z_c (ok_lload_n dX12_two_75 rfl) (z_c (ok_lmul dX12_two_76) (z_c (ok_callS zcal_215 zw_912 zw_913 dX12_two_77) (z_c (ok_lreturn rfl dX12_two_80) (z_c (ok_lload_n dX12_two_81 rfl) (z_c (ok_lload_n dX12_two_82 rfl) (z_c (ok_callS zcal_216 zw_914 zw_915 dX12_two_83) (z_c (ok_callS zcal_215 zw_912 zw_913 dX12_two_86) (z_c (ok_lreturn rfl dX12_two_89) (z_c (ok_lload_n dX12_two_90 rfl) (z_c (ok_lconst (v := (0)) dX12_two_91 (by decide)) z_n))))))))))))
noncomputable def tX12_two_2 : List (Nat × zF) := [(92, (zst 1 zcm)), (93, (z_if_ne 100)), (96, (zst 1 (zp (.long (0))))), (97, (zgt 112)), (100, (zll4 1 1)), (101, (zll4 3 1)), (102, (zll4 1 1)), (103, (zll4 3 1)), (104, (zcs 216 2)), (107, (zst 1 z_lmul)), (108, (zst 1 z_lsub)), (109, (zcs 215 1))]
theorem kX12_two_2 : ∀ q ∈ tX12_two_2, zOk zg iX12_two q.1 q.2 := (z_c (ok_lcmp dX12_two_92) (z_c (ok_if_ne dX12_two_93 (by decide)) (z_c (ok_lconst (v := (0)) dX12_two_96 (by decide)) (z_c (ok_goto dX12_two_97 (by decide)) (z_c (ok_lload_n dX12_two_100 rfl) (z_c (ok_lload_n dX12_two_101 rfl) (z_c (ok_lload_n dX12_two_102 rfl) (z_c (ok_lload_n dX12_two_103 rfl) (z_c (ok_callS zcal_216 zw_914 zw_915 dX12_two_104) (z_c (ok_lmul dX12_two_107) (z_c (ok_lsub dX12_two_108) (z_c (ok_callS zcal_215 zw_912 zw_913 dX12_two_109) z_n))))))))))))
noncomputable def tX12_two_3 : List (Nat × zF) := [(112, zrl), (113, (zll4 1 1)), (114, (zll4 3 1)), (115, (zst 1 zcm)), (116, (z_if_ge 123)), (119, (zll4 1 1)), (120, (zgt 124)), (123, (zll4 3 1)), (124, zrl), (125, (zll4 1 1)), (126, (zll4 3 1)), (127, (zst 1 zcm))]
theorem kX12_two_3 : ∀ q ∈ tX12_two_3, zOk zg iX12_two q.1 q.2 := (z_c (ok_lreturn rfl dX12_two_112) (z_c (ok_lload_n dX12_two_113 rfl) (z_c (ok_lload_n dX12_two_114 rfl) (z_c (ok_lcmp dX12_two_115) (z_c (ok_if_ge dX12_two_116 (by decide)) (z_c (ok_lload_n dX12_two_119 rfl) (z_c (ok_goto dX12_two_120 (by decide)) (z_c (ok_lload_n dX12_two_123 rfl) (z_c (ok_lreturn rfl dX12_two_124) (z_c (ok_lload_n dX12_two_125 rfl) (z_c (ok_lload_n dX12_two_126 rfl) (z_c (ok_lcmp dX12_two_127) z_n))))))))))))
noncomputable def tX12_two_4 : List (Nat × zF) := [(128, (z_if_le 135)), (131, (zll4 1 1)), (132, (zgt 136)), (135, (zll4 3 1)), (136, zrl), (137, (zll4 1 1)), (138, (zll4 3 1)), (139, (zst 1 zcm)), (140, (z_if_ge 147)), (143, (zst 1 (zp (.long (1))))), (144, (zgt 148)), (147, (zst 1 (zp (.long (0)))))]
theorem kX12_two_4 : ∀ q ∈ tX12_two_4, zOk zg iX12_two q.1 q.2 := (z_c (ok_if_le dX12_two_128 (by decide)) (z_c (ok_lload_n dX12_two_131 rfl) (z_c (ok_goto dX12_two_132 (by decide)) (z_c (ok_lload_n dX12_two_135 rfl) (z_c (ok_lreturn rfl dX12_two_136) (z_c (ok_lload_n dX12_two_137 rfl) (z_c (ok_lload_n dX12_two_138 rfl) (z_c (ok_lcmp dX12_two_139) (z_c (ok_if_ge dX12_two_140 (by decide)) (z_c (ok_lconst (v := (1)) dX12_two_143 (by decide)) (z_c (ok_goto dX12_two_144 (by decide)) (z_c (ok_lconst (v := (0)) dX12_two_147 (by decide)) z_n))))))))))))
noncomputable def tX12_two_5 : List (Nat × zF) := [(148, zrl), (149, (zll4 1 1)), (150, (zll4 3 1)), (151, (zst 1 zcm)), (152, (z_if_le 159)), (155, (zst 1 (zp (.long (1))))), (156, (zgt 160)), (159, (zst 1 (zp (.long (0))))), (160, zrl), (161, (zll4 1 1)), (162, (zll4 3 1)), (163, (zst 1 zcm))]
theorem kX12_two_5 : ∀ q ∈ tX12_two_5, zOk zg iX12_two q.1 q.2 := (z_c (ok_lreturn rfl dX12_two_148) (z_c (ok_lload_n dX12_two_149 rfl) (z_c (ok_lload_n dX12_two_150 rfl) (z_c (ok_lcmp dX12_two_151) (z_c (ok_if_le dX12_two_152 (by decide)) (z_c (ok_lconst (v := (1)) dX12_two_155 (by decide)) (z_c (ok_goto dX12_two_156 (by decide)) (z_c (ok_lconst (v := (0)) dX12_two_159 (by decide)) (z_c (ok_lreturn rfl dX12_two_160) (z_c (ok_lload_n dX12_two_161 rfl) (z_c (ok_lload_n dX12_two_162 rfl) (z_c (ok_lcmp dX12_two_163) z_n))))))))))))
noncomputable def tX12_two_6 : List (Nat × zF) := [(164, (z_if_ne 171)), (167, (zst 1 (zp (.long (1))))), (168, (zgt 172)), (171, (zst 1 (zp (.long (0))))), (172, zrl), (173, (zll4 1 1)), (174, (zll4 3 1)), (175, (zst 1 z_land)), (176, zrl), (177, (zll4 1 1)), (178, (zll4 3 1)), (179, (zst 1 z_lor))]
theorem kX12_two_6 : ∀ q ∈ tX12_two_6, zOk zg iX12_two q.1 q.2 := (z_c (ok_if_ne dX12_two_164 (by decide)) (z_c (ok_lconst (v := (1)) dX12_two_167 (by decide)) (z_c (ok_goto dX12_two_168 (by decide)) (z_c (ok_lconst (v := (0)) dX12_two_171 (by decide)) (z_c (ok_lreturn rfl dX12_two_172) (z_c (ok_lload_n dX12_two_173 rfl) (z_c (ok_lload_n dX12_two_174 rfl) (z_c (ok_land dX12_two_175) (z_c (ok_lreturn rfl dX12_two_176) (z_c (ok_lload_n dX12_two_177 rfl) (z_c (ok_lload_n dX12_two_178 rfl) (z_c (ok_lor dX12_two_179) z_n))))))))))))
noncomputable def tX12_two_7 : List (Nat × zF) := [(180, zrl)]
theorem kX12_two_7 : ∀ q ∈ tX12_two_7, zOk zg iX12_two q.1 q.2 := (z_c (ok_lreturn rfl dX12_two_180) z_n)
noncomputable def tX12_two : zT := [(74, tX12_two_0), (92, tX12_two_1), (112, tX12_two_2), (128, tX12_two_3), (148, tX12_two_4), (164, tX12_two_5), (180, tX12_two_6), (100000, tX12_two_7)]
theorem kX12_two : zTok zg iX12_two tX12_two := (z_t kX12_two_0 (z_t kX12_two_1 (z_t kX12_two_2 (z_t kX12_two_3 (z_t kX12_two_4 (z_t kX12_two_5 (z_t kX12_two_6 (z_t kX12_two_7 z_tn))))))))
theorem dX12_reckons_0 : decode cX12_reckons 0 = .ok (.iconst 0, 1) := by decide +kernel
theorem dX12_reckons_1 : decode cX12_reckons 1 = .ok (.istore_n 2, 1) := by decide +kernel
theorem dX12_reckons_2 : decode cX12_reckons 2 = .ok (.sipush 1600, 3) := by decide +kernel
theorem dX12_reckons_5 : decode cX12_reckons 5 = .ok (.aload_n 0, 1) := by decide +kernel
theorem dX12_reckons_6 : decode cX12_reckons 6 = .ok (.getfield 51, 3) := by decide +kernel
theorem dX12_reckons_9 : decode cX12_reckons 9 = .ok (.imul, 1) := by decide +kernel
theorem dX12_reckons_10 : decode cX12_reckons 10 = .ok (.aload_n 0, 1) := by decide +kernel
theorem dX12_reckons_11 : decode cX12_reckons 11 = .ok (.getfield 93, 3) := by decide +kernel
theorem dX12_reckons_14 : decode cX12_reckons 14 = .ok (.iconst 3, 1) := by decide +kernel
theorem dX12_reckons_15 : decode cX12_reckons 15 = .ok (.aload_n 0, 1) := by decide +kernel
theorem dX12_reckons_16 : decode cX12_reckons 16 = .ok (.getfield 51, 3) := by decide +kernel
theorem dX12_reckons_19 : decode cX12_reckons 19 = .ok (.imul, 1) := by decide +kernel
theorem dX12_reckons_20 : decode cX12_reckons 20 = .ok (.iload_n 1, 1) := by decide +kernel
theorem dX12_reckons_21 : decode cX12_reckons 21 = .ok (.iadd, 1) := by decide +kernel
theorem dX12_reckons_22 : decode cX12_reckons 22 = .ok (.iaload, 1) := by decide +kernel
theorem dX12_reckons_23 : decode cX12_reckons 23 = .ok (.iadd, 1) := by decide +kernel
theorem dX12_reckons_24 : decode cX12_reckons 24 = .ok (.istore_n 3, 1) := by decide +kernel
theorem dX12_reckons_25 : decode cX12_reckons 25 = .ok (.iload_n 3, 1) := by decide +kernel
theorem dX12_reckons_26 : decode cX12_reckons 26 = .ok (.sipush 1600, 3) := by decide +kernel
theorem dX12_reckons_29 : decode cX12_reckons 29 = .ok (.aload_n 0, 1) := by decide +kernel
theorem dX12_reckons_30 : decode cX12_reckons 30 = .ok (.getfield 51, 3) := by decide +kernel
theorem dX12_reckons_33 : decode cX12_reckons 33 = .ok (.imul, 1) := by decide +kernel
theorem dX12_reckons_34 : decode cX12_reckons 34 = .ok (.aload_n 0, 1) := by decide +kernel
theorem dX12_reckons_35 : decode cX12_reckons 35 = .ok (.getfield 96, 3) := by decide +kernel
theorem dX12_reckons_38 : decode cX12_reckons 38 = .ok (.iconst 3, 1) := by decide +kernel
theorem dX12_reckons_39 : decode cX12_reckons 39 = .ok (.aload_n 0, 1) := by decide +kernel
theorem dX12_reckons_40 : decode cX12_reckons 40 = .ok (.getfield 51, 3) := by decide +kernel
theorem dX12_reckons_43 : decode cX12_reckons 43 = .ok (.imul, 1) := by decide +kernel
theorem dX12_reckons_44 : decode cX12_reckons 44 = .ok (.iload_n 1, 1) := by decide +kernel
theorem dX12_reckons_45 : decode cX12_reckons 45 = .ok (.iadd, 1) := by decide +kernel
theorem dX12_reckons_46 : decode cX12_reckons 46 = .ok (.iaload, 1) := by decide +kernel
theorem dX12_reckons_47 : decode cX12_reckons 47 = .ok (.iadd, 1) := by decide +kernel
theorem dX12_reckons_48 : decode cX12_reckons 48 = .ok (.if_icmp .ge 179, 3) := by decide +kernel
theorem dX12_reckons_51 : decode cX12_reckons 51 = .ok (.aload_n 0, 1) := by decide +kernel
theorem dX12_reckons_52 : decode cX12_reckons 52 = .ok (.getfield 99, 3) := by decide +kernel
theorem dX12_reckons_55 : decode cX12_reckons 55 = .ok (.iload_n 3, 1) := by decide +kernel
theorem dX12_reckons_56 : decode cX12_reckons 56 = .ok (.iaload, 1) := by decide +kernel
theorem dX12_reckons_57 : decode cX12_reckons 57 = .ok (.istore 4, 2) := by decide +kernel
theorem dX12_reckons_59 : decode cX12_reckons 59 = .ok (.iload 4, 2) := by decide +kernel
theorem dX12_reckons_61 : decode cX12_reckons 61 = .ok (.bipush 30, 2) := by decide +kernel
theorem dX12_reckons_63 : decode cX12_reckons 63 = .ok (.if_icmp .gt 49, 3) := by decide +kernel
theorem dX12_reckons_66 : decode cX12_reckons 66 = .ok (.aload_n 0, 1) := by decide +kernel
theorem dX12_reckons_67 : decode cX12_reckons 67 = .ok (.getfield 189, 3) := by decide +kernel
theorem dX12_reckons_70 : decode cX12_reckons 70 = .ok (.iload_n 2, 1) := by decide +kernel
theorem dX12_reckons_71 : decode cX12_reckons 71 = .ok (.iload 4, 2) := by decide +kernel
theorem dX12_reckons_73 : decode cX12_reckons 73 = .ok (.ifCond .ne 13, 3) := by decide +kernel
theorem dX12_reckons_76 : decode cX12_reckons 76 = .ok (.aload_n 0, 1) := by decide +kernel
theorem dX12_reckons_77 : decode cX12_reckons 77 = .ok (.getfield 102, 3) := by decide +kernel
theorem dX12_reckons_80 : decode cX12_reckons 80 = .ok (.iload_n 3, 1) := by decide +kernel
theorem dX12_reckons_81 : decode cX12_reckons 81 = .ok (.iaload, 1) := by decide +kernel
theorem dX12_reckons_82 : decode cX12_reckons 82 = .ok (.i2l, 1) := by decide +kernel
theorem dX12_reckons_83 : decode cX12_reckons 83 = .ok (.goto 22, 3) := by decide +kernel
theorem dX12_reckons_86 : decode cX12_reckons 86 = .ok (.iload 4, 2) := by decide +kernel
theorem dX12_reckons_88 : decode cX12_reckons 88 = .ok (.bipush 30, 2) := by decide +kernel
theorem dX12_reckons_90 : decode cX12_reckons 90 = .ok (.if_icmp .ne 7, 3) := by decide +kernel
theorem dX12_reckons_93 : decode cX12_reckons 93 = .ok (.lconst 1, 1) := by decide +kernel
theorem dX12_reckons_94 : decode cX12_reckons 94 = .ok (.goto 11, 3) := by decide +kernel
theorem dX12_reckons_97 : decode cX12_reckons 97 = .ok (.aload_n 0, 1) := by decide +kernel
theorem dX12_reckons_98 : decode cX12_reckons 98 = .ok (.getfield 192, 3) := by decide +kernel
theorem dX12_reckons_101 : decode cX12_reckons 101 = .ok (.iload 4, 2) := by decide +kernel
theorem dX12_reckons_103 : decode cX12_reckons 103 = .ok (.iaload, 1) := by decide +kernel
theorem dX12_reckons_104 : decode cX12_reckons 104 = .ok (.i2l, 1) := by decide +kernel
theorem dX12_reckons_105 : decode cX12_reckons 105 = .ok (.lastore, 1) := by decide +kernel
theorem dX12_reckons_106 : decode cX12_reckons 106 = .ok (.iinc 2 1, 3) := by decide +kernel
theorem dX12_reckons_109 : decode cX12_reckons 109 = .ok (.goto 112, 3) := by decide +kernel
theorem dX12_reckons_112 : decode cX12_reckons 112 = .ok (.iload 4, 2) := by decide +kernel
theorem dX12_reckons_114 : decode cX12_reckons 114 = .ok (.bipush 43, 2) := by decide +kernel
theorem dX12_reckons_116 : decode cX12_reckons 116 = .ok (.if_icmp .ne 24, 3) := by decide +kernel
theorem dX12_reckons_119 : decode cX12_reckons 119 = .ok (.aload_n 0, 1) := by decide +kernel
theorem dX12_reckons_120 : decode cX12_reckons 120 = .ok (.getfield 189, 3) := by decide +kernel
theorem dX12_reckons_123 : decode cX12_reckons 123 = .ok (.iload_n 2, 1) := by decide +kernel
theorem dX12_reckons_124 : decode cX12_reckons 124 = .ok (.iconst 1, 1) := by decide +kernel
theorem dX12_reckons_125 : decode cX12_reckons 125 = .ok (.isub, 1) := by decide +kernel
theorem dX12_reckons_126 : decode cX12_reckons 126 = .ok (.lconst 1, 1) := by decide +kernel
theorem dX12_reckons_127 : decode cX12_reckons 127 = .ok (.aload_n 0, 1) := by decide +kernel
theorem dX12_reckons_128 : decode cX12_reckons 128 = .ok (.getfield 189, 3) := by decide +kernel
theorem dX12_reckons_131 : decode cX12_reckons 131 = .ok (.iload_n 2, 1) := by decide +kernel
theorem dX12_reckons_132 : decode cX12_reckons 132 = .ok (.iconst 1, 1) := by decide +kernel
theorem dX12_reckons_133 : decode cX12_reckons 133 = .ok (.isub, 1) := by decide +kernel
theorem dX12_reckons_134 : decode cX12_reckons 134 = .ok (.laload, 1) := by decide +kernel
theorem dX12_reckons_135 : decode cX12_reckons 135 = .ok (.lsub, 1) := by decide +kernel
theorem dX12_reckons_136 : decode cX12_reckons 136 = .ok (.lastore, 1) := by decide +kernel
theorem dX12_reckons_137 : decode cX12_reckons 137 = .ok (.goto 84, 3) := by decide +kernel
theorem dX12_reckons_140 : decode cX12_reckons 140 = .ok (.iload 4, 2) := by decide +kernel
theorem dX12_reckons_142 : decode cX12_reckons 142 = .ok (.bipush 44, 2) := by decide +kernel
theorem dX12_reckons_144 : decode cX12_reckons 144 = .ok (.if_icmp .ne 47, 3) := by decide +kernel
theorem dX12_reckons_147 : decode cX12_reckons 147 = .ok (.iinc 2 (-2), 3) := by decide +kernel
theorem dX12_reckons_150 : decode cX12_reckons 150 = .ok (.aload_n 0, 1) := by decide +kernel
theorem dX12_reckons_151 : decode cX12_reckons 151 = .ok (.getfield 189, 3) := by decide +kernel
theorem dX12_reckons_154 : decode cX12_reckons 154 = .ok (.iload_n 2, 1) := by decide +kernel
theorem dX12_reckons_155 : decode cX12_reckons 155 = .ok (.iconst 1, 1) := by decide +kernel
theorem dX12_reckons_156 : decode cX12_reckons 156 = .ok (.isub, 1) := by decide +kernel
theorem dX12_reckons_157 : decode cX12_reckons 157 = .ok (.aload_n 0, 1) := by decide +kernel
theorem dX12_reckons_158 : decode cX12_reckons 158 = .ok (.getfield 189, 3) := by decide +kernel
theorem dX12_reckons_161 : decode cX12_reckons 161 = .ok (.iload_n 2, 1) := by decide +kernel
theorem dX12_reckons_162 : decode cX12_reckons 162 = .ok (.iconst 1, 1) := by decide +kernel
theorem dX12_reckons_163 : decode cX12_reckons 163 = .ok (.isub, 1) := by decide +kernel
theorem dX12_reckons_164 : decode cX12_reckons 164 = .ok (.laload, 1) := by decide +kernel
theorem dX12_reckons_165 : decode cX12_reckons 165 = .ok (.lconst 1, 1) := by decide +kernel
theorem dX12_reckons_166 : decode cX12_reckons 166 = .ok (.lcmp, 1) := by decide +kernel
theorem dX12_reckons_167 : decode cX12_reckons 167 = .ok (.ifCond .ne 12, 3) := by decide +kernel
theorem dX12_reckons_170 : decode cX12_reckons 170 = .ok (.aload_n 0, 1) := by decide +kernel
theorem dX12_reckons_171 : decode cX12_reckons 171 = .ok (.getfield 189, 3) := by decide +kernel
theorem dX12_reckons_174 : decode cX12_reckons 174 = .ok (.iload_n 2, 1) := by decide +kernel
theorem dX12_reckons_175 : decode cX12_reckons 175 = .ok (.laload, 1) := by decide +kernel
theorem dX12_reckons_176 : decode cX12_reckons 176 = .ok (.goto 11, 3) := by decide +kernel
theorem dX12_reckons_179 : decode cX12_reckons 179 = .ok (.aload_n 0, 1) := by decide +kernel
theorem dX12_reckons_180 : decode cX12_reckons 180 = .ok (.getfield 189, 3) := by decide +kernel
theorem dX12_reckons_183 : decode cX12_reckons 183 = .ok (.iload_n 2, 1) := by decide +kernel
theorem dX12_reckons_184 : decode cX12_reckons 184 = .ok (.iconst 1, 1) := by decide +kernel
theorem dX12_reckons_185 : decode cX12_reckons 185 = .ok (.iadd, 1) := by decide +kernel
theorem dX12_reckons_186 : decode cX12_reckons 186 = .ok (.laload, 1) := by decide +kernel
theorem dX12_reckons_187 : decode cX12_reckons 187 = .ok (.lastore, 1) := by decide +kernel
theorem dX12_reckons_188 : decode cX12_reckons 188 = .ok (.goto 33, 3) := by decide +kernel
theorem dX12_reckons_191 : decode cX12_reckons 191 = .ok (.iinc 2 (-1), 3) := by decide +kernel
theorem dX12_reckons_194 : decode cX12_reckons 194 = .ok (.aload_n 0, 1) := by decide +kernel
theorem dX12_reckons_195 : decode cX12_reckons 195 = .ok (.getfield 189, 3) := by decide +kernel
theorem dX12_reckons_198 : decode cX12_reckons 198 = .ok (.iload_n 2, 1) := by decide +kernel
theorem dX12_reckons_199 : decode cX12_reckons 199 = .ok (.iconst 1, 1) := by decide +kernel
theorem dX12_reckons_200 : decode cX12_reckons 200 = .ok (.isub, 1) := by decide +kernel
theorem dX12_reckons_201 : decode cX12_reckons 201 = .ok (.iload 4, 2) := by decide +kernel
theorem dX12_reckons_203 : decode cX12_reckons 203 = .ok (.aload_n 0, 1) := by decide +kernel
theorem dX12_reckons_204 : decode cX12_reckons 204 = .ok (.getfield 189, 3) := by decide +kernel
theorem dX12_reckons_207 : decode cX12_reckons 207 = .ok (.iload_n 2, 1) := by decide +kernel
theorem dX12_reckons_208 : decode cX12_reckons 208 = .ok (.iconst 1, 1) := by decide +kernel
theorem dX12_reckons_209 : decode cX12_reckons 209 = .ok (.isub, 1) := by decide +kernel
theorem dX12_reckons_210 : decode cX12_reckons 210 = .ok (.laload, 1) := by decide +kernel
theorem dX12_reckons_211 : decode cX12_reckons 211 = .ok (.aload_n 0, 1) := by decide +kernel
theorem dX12_reckons_212 : decode cX12_reckons 212 = .ok (.getfield 189, 3) := by decide +kernel
theorem dX12_reckons_215 : decode cX12_reckons 215 = .ok (.iload_n 2, 1) := by decide +kernel
theorem dX12_reckons_216 : decode cX12_reckons 216 = .ok (.laload, 1) := by decide +kernel
theorem dX12_reckons_217 : decode cX12_reckons 217 = .ok (.invokestatic 440, 3) := by decide +kernel
theorem dX12_reckons_220 : decode cX12_reckons 220 = .ok (.lastore, 1) := by decide +kernel
theorem dX12_reckons_221 : decode cX12_reckons 221 = .ok (.iinc 3 1, 3) := by decide +kernel
theorem dX12_reckons_224 : decode cX12_reckons 224 = .ok (.goto (-199), 3) := by decide +kernel
theorem dX12_reckons_227 : decode cX12_reckons 227 = .ok (.aload_n 0, 1) := by decide +kernel
theorem dX12_reckons_228 : decode cX12_reckons 228 = .ok (.getfield 189, 3) := by decide +kernel
theorem dX12_reckons_231 : decode cX12_reckons 231 = .ok (.iconst 0, 1) := by decide +kernel
theorem dX12_reckons_232 : decode cX12_reckons 232 = .ok (.laload, 1) := by decide +kernel
theorem dX12_reckons_233 : decode cX12_reckons 233 = .ok (.lreturn, 1) := by decide +kernel
noncomputable def tX12_reckons_0 : List (Nat × zF) := [(0, (zst 1 (zp (.int (0))))), (1, (zsi4 5 2 1)), (2, (zst 3 (zp (.int (1600))))), (5, (zla4 0 1)), (6, (zgf 12 13)), (9, (zst 1 z_imul)), (10, (zla4 0 1)), (11, (zgf 12 27)), (14, (zst 1 (zp (.int (3))))), (15, (zla4 0 1)), (16, (zgf 12 13)), (19, (zst 1 z_imul))]
theorem kX12_reckons_0 : ∀ q ∈ tX12_reckons_0, zOk zg iX12_reckons q.1 q.2 := (z_c (ok_iconst (v := (0)) dX12_reckons_0 (by decide)) (z_c (ok_istore_n dX12_reckons_1 rfl) (z_c (ok_sipush (v := (1600)) dX12_reckons_2 (by decide)) (z_c (ok_aload_n dX12_reckons_5 rfl) (z_c (ok_getf (C := RX12) (T := TX12) (N := 73) rfl (by decide) zinX12 rfl zw_700 dX12_reckons_6) (z_c (ok_imul dX12_reckons_9) (z_c (ok_aload_n dX12_reckons_10 rfl) (z_c (ok_getf (C := RX12) (T := TX12) (N := 73) rfl (by decide) zinX12 rfl zw_714 dX12_reckons_11) (z_c (ok_iconst (v := (3)) dX12_reckons_14 (by decide)) (z_c (ok_aload_n dX12_reckons_15 rfl) (z_c (ok_getf (C := RX12) (T := TX12) (N := 73) rfl (by decide) zinX12 rfl zw_700 dX12_reckons_16) (z_c (ok_imul dX12_reckons_19) z_n))))))))))))
noncomputable def tX12_reckons_1 : List (Nat × zF) := [(20, (zli4 1 1)), (21, (zst 1 z_iadd)), (22, (zal 0)), (23, (zst 1 z_iadd)), (24, (zsi4 5 3 1)), (25, (zli4 3 1)), (26, (zst 3 (zp (.int (1600))))), (29, (zla4 0 1)), (30, (zgf 12 13)), (33, (zst 1 z_imul)), (34, (zla4 0 1)), (35, (zgf 12 28))]
theorem kX12_reckons_1 : ∀ q ∈ tX12_reckons_1, zOk zg iX12_reckons q.1 q.2 := (z_c (ok_iload_n dX12_reckons_20 rfl) (z_c (ok_iadd dX12_reckons_21) (z_c (ok_iaload rfl dX12_reckons_22) (z_c (ok_iadd dX12_reckons_23) (z_c (ok_istore_n dX12_reckons_24 rfl) (z_c (ok_iload_n dX12_reckons_25 rfl) (z_c (ok_sipush (v := (1600)) dX12_reckons_26 (by decide)) (z_c (ok_aload_n dX12_reckons_29 rfl) (z_c (ok_getf (C := RX12) (T := TX12) (N := 73) rfl (by decide) zinX12 rfl zw_700 dX12_reckons_30) (z_c (ok_imul dX12_reckons_33) (z_c (ok_aload_n dX12_reckons_34 rfl) (z_c (ok_getf (C := RX12) (T := TX12) (N := 73) rfl (by decide) zinX12 rfl zw_715 dX12_reckons_35) z_n))))))))))))
noncomputable def tX12_reckons_2 : List (Nat × zF) := [(38, (zst 1 (zp (.int (3))))), (39, (zla4 0 1)), (40, (zgf 12 13)), (43, (zst 1 z_imul)), (44, (zli4 1 1)), (45, (zst 1 z_iadd)), (46, (zal 0)), (47, (zst 1 z_iadd)), (48, (z_ic_ge 227)), (51, (zla4 0 1)), (52, (zgf 12 29)), (55, (zli4 3 1))]
theorem kX12_reckons_2 : ∀ q ∈ tX12_reckons_2, zOk zg iX12_reckons q.1 q.2 := (z_c (ok_iconst (v := (3)) dX12_reckons_38 (by decide)) (z_c (ok_aload_n dX12_reckons_39 rfl) (z_c (ok_getf (C := RX12) (T := TX12) (N := 73) rfl (by decide) zinX12 rfl zw_700 dX12_reckons_40) (z_c (ok_imul dX12_reckons_43) (z_c (ok_iload_n dX12_reckons_44 rfl) (z_c (ok_iadd dX12_reckons_45) (z_c (ok_iaload rfl dX12_reckons_46) (z_c (ok_iadd dX12_reckons_47) (z_c (ok_icmp_ge dX12_reckons_48 (by decide)) (z_c (ok_aload_n dX12_reckons_51 rfl) (z_c (ok_getf (C := RX12) (T := TX12) (N := 73) rfl (by decide) zinX12 rfl zw_716 dX12_reckons_52) (z_c (ok_iload_n dX12_reckons_55 rfl) z_n))))))))))))
noncomputable def tX12_reckons_3 : List (Nat × zF) := [(56, (zal 0)), (57, (zsi4 5 4 2)), (59, (zli4 4 2)), (61, (zst 2 (zp (.int (30))))), (63, (z_ic_gt 112)), (66, (zla4 0 1)), (67, (zgf 12 58)), (70, (zli4 2 1)), (71, (zli4 4 2)), (73, (z_if_ne 86)), (76, (zla4 0 1)), (77, (zgf 12 30))]
theorem kX12_reckons_3 : ∀ q ∈ tX12_reckons_3, zOk zg iX12_reckons q.1 q.2 := (z_c (ok_iaload rfl dX12_reckons_56) (z_c (ok_istore dX12_reckons_57) (z_c (ok_iload dX12_reckons_59) (z_c (ok_bipush (v := (30)) dX12_reckons_61 (by decide)) (z_c (ok_icmp_gt dX12_reckons_63 (by decide)) (z_c (ok_aload_n dX12_reckons_66 rfl) (z_c (ok_getf (C := RX12) (T := TX12) (N := 73) rfl (by decide) zinX12 rfl zw_746 dX12_reckons_67) (z_c (ok_iload_n dX12_reckons_70 rfl) (z_c (ok_iload dX12_reckons_71) (z_c (ok_if_ne dX12_reckons_73 (by decide)) (z_c (ok_aload_n dX12_reckons_76 rfl) (z_c (ok_getf (C := RX12) (T := TX12) (N := 73) rfl (by decide) zinX12 rfl zw_717 dX12_reckons_77) z_n))))))))))))
noncomputable def tX12_reckons_4 : List (Nat × zF) := [(80, (zli4 3 1)), (81, (zal 0)), (82, (zst 1 zil)), (83, (zgt 105)), (86, (zli4 4 2)), (88, (zst 2 (zp (.int (30))))), (90, (z_ic_ne 97)), (93, (zst 1 (zp (.long (1))))), (94, (zgt 105)), (97, (zla4 0 1)), (98, (zgf 12 59)), (101, (zli4 4 2))]
theorem kX12_reckons_4 : ∀ q ∈ tX12_reckons_4, zOk zg iX12_reckons q.1 q.2 := (z_c (ok_iload_n dX12_reckons_80 rfl) (z_c (ok_iaload rfl dX12_reckons_81) (z_c (ok_i2l dX12_reckons_82) (z_c (ok_goto dX12_reckons_83 (by decide)) (z_c (ok_iload dX12_reckons_86) (z_c (ok_bipush (v := (30)) dX12_reckons_88 (by decide)) (z_c (ok_icmp_ne dX12_reckons_90 (by decide)) (z_c (ok_lconst (v := (1)) dX12_reckons_93 (by decide)) (z_c (ok_goto dX12_reckons_94 (by decide)) (z_c (ok_aload_n dX12_reckons_97 rfl) (z_c (ok_getf (C := RX12) (T := TX12) (N := 73) rfl (by decide) zinX12 rfl zw_747 dX12_reckons_98) (z_c (ok_iload dX12_reckons_101) z_n))))))))))))
noncomputable def tX12_reckons_5 : List (Nat × zF) := [(103, (zal 0)), (104, (zst 1 zil)), (105, (zla 1)), (106, (zin4 5 2 (1))), (109, (zgt 221)), (112, (zli4 4 2)), (114, (zst 2 (zp (.int (43))))), (116, (z_ic_ne 140)), (119, (zla4 0 1)), (120, (zgf 12 58)), (123, (zli4 2 1)), (124, (zst 1 (zp (.int (1)))))]
theorem kX12_reckons_5 : ∀ q ∈ tX12_reckons_5, zOk zg iX12_reckons q.1 q.2 := (z_c (ok_iaload rfl dX12_reckons_103) (z_c (ok_i2l dX12_reckons_104) (z_c (ok_lastore rfl dX12_reckons_105) (z_c (ok_iinc (v := (1)) dX12_reckons_106 (by decide)) (z_c (ok_goto dX12_reckons_109 (by decide)) (z_c (ok_iload dX12_reckons_112) (z_c (ok_bipush (v := (43)) dX12_reckons_114 (by decide)) (z_c (ok_icmp_ne dX12_reckons_116 (by decide)) (z_c (ok_aload_n dX12_reckons_119 rfl) (z_c (ok_getf (C := RX12) (T := TX12) (N := 73) rfl (by decide) zinX12 rfl zw_746 dX12_reckons_120) (z_c (ok_iload_n dX12_reckons_123 rfl) (z_c (ok_iconst (v := (1)) dX12_reckons_124 (by decide)) z_n))))))))))))
noncomputable def tX12_reckons_6 : List (Nat × zF) := [(125, (zst 1 z_isub)), (126, (zst 1 (zp (.long (1))))), (127, (zla4 0 1)), (128, (zgf 12 58)), (131, (zli4 2 1)), (132, (zst 1 (zp (.int (1))))), (133, (zst 1 z_isub)), (134, (zll 1)), (135, (zst 1 z_lsub)), (136, (zla 1)), (137, (zgt 221)), (140, (zli4 4 2))]
theorem kX12_reckons_6 : ∀ q ∈ tX12_reckons_6, zOk zg iX12_reckons q.1 q.2 := (z_c (ok_isub dX12_reckons_125) (z_c (ok_lconst (v := (1)) dX12_reckons_126 (by decide)) (z_c (ok_aload_n dX12_reckons_127 rfl) (z_c (ok_getf (C := RX12) (T := TX12) (N := 73) rfl (by decide) zinX12 rfl zw_746 dX12_reckons_128) (z_c (ok_iload_n dX12_reckons_131 rfl) (z_c (ok_iconst (v := (1)) dX12_reckons_132 (by decide)) (z_c (ok_isub dX12_reckons_133) (z_c (ok_laload rfl dX12_reckons_134) (z_c (ok_lsub dX12_reckons_135) (z_c (ok_lastore rfl dX12_reckons_136) (z_c (ok_goto dX12_reckons_137 (by decide)) (z_c (ok_iload dX12_reckons_140) z_n))))))))))))
noncomputable def tX12_reckons_7 : List (Nat × zF) := [(142, (zst 2 (zp (.int (44))))), (144, (z_ic_ne 191)), (147, (zin4 5 2 (-2))), (150, (zla4 0 1)), (151, (zgf 12 58)), (154, (zli4 2 1)), (155, (zst 1 (zp (.int (1))))), (156, (zst 1 z_isub)), (157, (zla4 0 1)), (158, (zgf 12 58)), (161, (zli4 2 1)), (162, (zst 1 (zp (.int (1)))))]
theorem kX12_reckons_7 : ∀ q ∈ tX12_reckons_7, zOk zg iX12_reckons q.1 q.2 := (z_c (ok_bipush (v := (44)) dX12_reckons_142 (by decide)) (z_c (ok_icmp_ne dX12_reckons_144 (by decide)) (z_c (ok_iinc (v := (-2)) dX12_reckons_147 (by decide)) (z_c (ok_aload_n dX12_reckons_150 rfl) (z_c (ok_getf (C := RX12) (T := TX12) (N := 73) rfl (by decide) zinX12 rfl zw_746 dX12_reckons_151) (z_c (ok_iload_n dX12_reckons_154 rfl) (z_c (ok_iconst (v := (1)) dX12_reckons_155 (by decide)) (z_c (ok_isub dX12_reckons_156) (z_c (ok_aload_n dX12_reckons_157 rfl) (z_c (ok_getf (C := RX12) (T := TX12) (N := 73) rfl (by decide) zinX12 rfl zw_746 dX12_reckons_158) (z_c (ok_iload_n dX12_reckons_161 rfl) (z_c (ok_iconst (v := (1)) dX12_reckons_162 (by decide)) z_n))))))))))))
noncomputable def tX12_reckons_8 : List (Nat × zF) := [(163, (zst 1 z_isub)), (164, (zll 1)), (165, (zst 1 (zp (.long (1))))), (166, (zst 1 zcm)), (167, (z_if_ne 179)), (170, (zla4 0 1)), (171, (zgf 12 58)), (174, (zli4 2 1)), (175, (zll 1)), (176, (zgt 187)), (179, (zla4 0 1)), (180, (zgf 12 58))]
theorem kX12_reckons_8 : ∀ q ∈ tX12_reckons_8, zOk zg iX12_reckons q.1 q.2 := (z_c (ok_isub dX12_reckons_163) (z_c (ok_laload rfl dX12_reckons_164) (z_c (ok_lconst (v := (1)) dX12_reckons_165 (by decide)) (z_c (ok_lcmp dX12_reckons_166) (z_c (ok_if_ne dX12_reckons_167 (by decide)) (z_c (ok_aload_n dX12_reckons_170 rfl) (z_c (ok_getf (C := RX12) (T := TX12) (N := 73) rfl (by decide) zinX12 rfl zw_746 dX12_reckons_171) (z_c (ok_iload_n dX12_reckons_174 rfl) (z_c (ok_laload rfl dX12_reckons_175) (z_c (ok_goto dX12_reckons_176 (by decide)) (z_c (ok_aload_n dX12_reckons_179 rfl) (z_c (ok_getf (C := RX12) (T := TX12) (N := 73) rfl (by decide) zinX12 rfl zw_746 dX12_reckons_180) z_n))))))))))))
noncomputable def tX12_reckons_9 : List (Nat × zF) := [(183, (zli4 2 1)), (184, (zst 1 (zp (.int (1))))), (185, (zst 1 z_iadd)), (186, (zll 1)), (187, (zla 1)), (188, (zgt 221)), (191, (zin4 5 2 (-1))), (194, (zla4 0 1)), (195, (zgf 12 58)), (198, (zli4 2 1)), (199, (zst 1 (zp (.int (1))))), (200, (zst 1 z_isub))]
theorem kX12_reckons_9 : ∀ q ∈ tX12_reckons_9, zOk zg iX12_reckons q.1 q.2 := (z_c (ok_iload_n dX12_reckons_183 rfl) (z_c (ok_iconst (v := (1)) dX12_reckons_184 (by decide)) (z_c (ok_iadd dX12_reckons_185) (z_c (ok_laload rfl dX12_reckons_186) (z_c (ok_lastore rfl dX12_reckons_187) (z_c (ok_goto dX12_reckons_188 (by decide)) (z_c (ok_iinc (v := (-1)) dX12_reckons_191 (by decide)) (z_c (ok_aload_n dX12_reckons_194 rfl) (z_c (ok_getf (C := RX12) (T := TX12) (N := 73) rfl (by decide) zinX12 rfl zw_746 dX12_reckons_195) (z_c (ok_iload_n dX12_reckons_198 rfl) (z_c (ok_iconst (v := (1)) dX12_reckons_199 (by decide)) (z_c (ok_isub dX12_reckons_200) z_n))))))))))))
noncomputable def tX12_reckons_10 : List (Nat × zF) := [(201, (zli4 4 2)), (203, (zla4 0 1)), (204, (zgf 12 58)), (207, (zli4 2 1)), (208, (zst 1 (zp (.int (1))))), (209, (zst 1 z_isub)), (210, (zll 1)), (211, (zla4 0 1)), (212, (zgf 12 58)), (215, (zli4 2 1)), (216, (zll 1)), (217, (zcs 217 3))]
theorem kX12_reckons_10 : ∀ q ∈ tX12_reckons_10, zOk zg iX12_reckons q.1 q.2 := (z_c (ok_iload dX12_reckons_201) (z_c (ok_aload_n dX12_reckons_203 rfl) (z_c (ok_getf (C := RX12) (T := TX12) (N := 73) rfl (by decide) zinX12 rfl zw_746 dX12_reckons_204) (z_c (ok_iload_n dX12_reckons_207 rfl) (z_c (ok_iconst (v := (1)) dX12_reckons_208 (by decide)) (z_c (ok_isub dX12_reckons_209) (z_c (ok_laload rfl dX12_reckons_210) (z_c (ok_aload_n dX12_reckons_211 rfl) (z_c (ok_getf (C := RX12) (T := TX12) (N := 73) rfl (by decide) zinX12 rfl zw_746 dX12_reckons_212) (z_c (ok_iload_n dX12_reckons_215 rfl) (z_c (ok_laload rfl dX12_reckons_216) (z_c (ok_callS zcal_217 zw_916 zw_917 dX12_reckons_217) z_n))))))))))))
noncomputable def tX12_reckons_11 : List (Nat × zF) := [(220, (zla 1)), (221, (zin4 5 3 (1))), (224, (zgt 25)), (227, (zla4 0 1)), (228, (zgf 12 58)), (231, (zst 1 (zp (.int (0))))), (232, (zll 1)), (233, zrl)]
theorem kX12_reckons_11 : ∀ q ∈ tX12_reckons_11, zOk zg iX12_reckons q.1 q.2 := (z_c (ok_lastore rfl dX12_reckons_220) (z_c (ok_iinc (v := (1)) dX12_reckons_221 (by decide)) (z_c (ok_goto dX12_reckons_224 (by decide)) (z_c (ok_aload_n dX12_reckons_227 rfl) (z_c (ok_getf (C := RX12) (T := TX12) (N := 73) rfl (by decide) zinX12 rfl zw_746 dX12_reckons_228) (z_c (ok_iconst (v := (0)) dX12_reckons_231 (by decide)) (z_c (ok_laload rfl dX12_reckons_232) (z_c (ok_lreturn rfl dX12_reckons_233) z_n))))))))
noncomputable def tX12_reckons : zT := [(20, tX12_reckons_0), (38, tX12_reckons_1), (56, tX12_reckons_2), (80, tX12_reckons_3), (103, tX12_reckons_4), (125, tX12_reckons_5), (142, tX12_reckons_6), (163, tX12_reckons_7), (183, tX12_reckons_8), (201, tX12_reckons_9), (220, tX12_reckons_10), (100000, tX12_reckons_11)]
theorem kX12_reckons : zTok zg iX12_reckons tX12_reckons := (z_t kX12_reckons_0 (z_t kX12_reckons_1 (z_t kX12_reckons_2 (z_t kX12_reckons_3 (z_t kX12_reckons_4 (z_t kX12_reckons_5 (z_t kX12_reckons_6 (z_t kX12_reckons_7 (z_t kX12_reckons_8 (z_t kX12_reckons_9 (z_t kX12_reckons_10 (z_t kX12_reckons_11 z_tn))))))))))))
theorem dX12_isTold_0 : decode cX12_isTold 0 = .ok (.aload_n 0, 1) := by decide +kernel
theorem dX12_isTold_1 : decode cX12_isTold 1 = .ok (.getfield 93, 3) := by decide +kernel
theorem dX12_isTold_4 : decode cX12_isTold 4 = .ok (.iconst 3, 1) := by decide +kernel
theorem dX12_isTold_5 : decode cX12_isTold 5 = .ok (.aload_n 0, 1) := by decide +kernel
theorem dX12_isTold_6 : decode cX12_isTold 6 = .ok (.getfield 51, 3) := by decide +kernel
theorem dX12_isTold_9 : decode cX12_isTold 9 = .ok (.imul, 1) := by decide +kernel
theorem dX12_isTold_10 : decode cX12_isTold 10 = .ok (.iload_n 1, 1) := by decide +kernel
theorem dX12_isTold_11 : decode cX12_isTold 11 = .ok (.iadd, 1) := by decide +kernel
theorem dX12_isTold_12 : decode cX12_isTold 12 = .ok (.iaload, 1) := by decide +kernel
theorem dX12_isTold_13 : decode cX12_isTold 13 = .ok (.iconst (-1), 1) := by decide +kernel
theorem dX12_isTold_14 : decode cX12_isTold 14 = .ok (.if_icmp .eq 7, 3) := by decide +kernel
theorem dX12_isTold_17 : decode cX12_isTold 17 = .ok (.iconst 1, 1) := by decide +kernel
theorem dX12_isTold_18 : decode cX12_isTold 18 = .ok (.goto 4, 3) := by decide +kernel
theorem dX12_isTold_21 : decode cX12_isTold 21 = .ok (.iconst 0, 1) := by decide +kernel
theorem dX12_isTold_22 : decode cX12_isTold 22 = .ok (.ireturn, 1) := by decide +kernel
noncomputable def tX12_isTold_0 : List (Nat × zF) := [(0, (zla4 0 1)), (1, (zgf 12 27)), (4, (zst 1 (zp (.int (3))))), (5, (zla4 0 1)), (6, (zgf 12 13)), (9, (zst 1 z_imul)), (10, (zli4 1 1)), (11, (zst 1 z_iadd)), (12, (zal 0)), (13, (zst 1 (zp (.int ((-1)))))), (14, (z_ic_eq 21)), (17, (zst 1 (zp (.int (1)))))]
theorem kX12_isTold_0 : ∀ q ∈ tX12_isTold_0, zOk zg iX12_isTold q.1 q.2 := (z_c (ok_aload_n dX12_isTold_0 rfl) (z_c (ok_getf (C := RX12) (T := TX12) (N := 73) rfl (by decide) zinX12 rfl zw_714 dX12_isTold_1) (z_c (ok_iconst (v := (3)) dX12_isTold_4 (by decide)) (z_c (ok_aload_n dX12_isTold_5 rfl) (z_c (ok_getf (C := RX12) (T := TX12) (N := 73) rfl (by decide) zinX12 rfl zw_700 dX12_isTold_6) (z_c (ok_imul dX12_isTold_9) (z_c (ok_iload_n dX12_isTold_10 rfl) (z_c (ok_iadd dX12_isTold_11) (z_c (ok_iaload rfl dX12_isTold_12) (z_c (ok_iconst (v := (-1)) dX12_isTold_13 (by decide)) (z_c (ok_icmp_eq dX12_isTold_14 (by decide)) (z_c (ok_iconst (v := (1)) dX12_isTold_17 (by decide)) z_n))))))))))))
noncomputable def tX12_isTold_1 : List (Nat × zF) := [(18, (zgt 22)), (21, (zst 1 (zp (.int (0))))), (22, (zri true))]
theorem kX12_isTold_1 : ∀ q ∈ tX12_isTold_1, zOk zg iX12_isTold q.1 q.2 := (z_c (ok_goto dX12_isTold_18 (by decide)) (z_c (ok_iconst (v := (0)) dX12_isTold_21 (by decide)) (z_c (ok_zreturn rfl dX12_isTold_22) z_n)))
noncomputable def tX12_isTold : zT := [(18, tX12_isTold_0), (100000, tX12_isTold_1)]
theorem kX12_isTold : zTok zg iX12_isTold tX12_isTold := (z_t kX12_isTold_0 (z_t kX12_isTold_1 z_tn))
theorem dX12_bits_0 : decode cX12_bits 0 = .ok (.iconst 0, 1) := by decide +kernel
theorem dX12_bits_1 : decode cX12_bits 1 = .ok (.istore_n 1, 1) := by decide +kernel
theorem dX12_bits_2 : decode cX12_bits 2 = .ok (.iload_n 0, 1) := by decide +kernel
theorem dX12_bits_3 : decode cX12_bits 3 = .ok (.istore_n 2, 1) := by decide +kernel
theorem dX12_bits_4 : decode cX12_bits 4 = .ok (.iload_n 2, 1) := by decide +kernel
theorem dX12_bits_5 : decode cX12_bits 5 = .ok (.ifCond .eq 15, 3) := by decide +kernel
theorem dX12_bits_8 : decode cX12_bits 8 = .ok (.iinc 1 1, 3) := by decide +kernel
theorem dX12_bits_11 : decode cX12_bits 11 = .ok (.iload_n 2, 1) := by decide +kernel
theorem dX12_bits_12 : decode cX12_bits 12 = .ok (.iload_n 2, 1) := by decide +kernel
theorem dX12_bits_13 : decode cX12_bits 13 = .ok (.iconst 1, 1) := by decide +kernel
theorem dX12_bits_14 : decode cX12_bits 14 = .ok (.isub, 1) := by decide +kernel
theorem dX12_bits_15 : decode cX12_bits 15 = .ok (.iand, 1) := by decide +kernel
theorem dX12_bits_16 : decode cX12_bits 16 = .ok (.istore_n 2, 1) := by decide +kernel
theorem dX12_bits_17 : decode cX12_bits 17 = .ok (.goto (-13), 3) := by decide +kernel
theorem dX12_bits_20 : decode cX12_bits 20 = .ok (.iload_n 1, 1) := by decide +kernel
theorem dX12_bits_21 : decode cX12_bits 21 = .ok (.ireturn, 1) := by decide +kernel
noncomputable def tX12_bits_0 : List (Nat × zF) := [(0, (zst 1 (zp (.int (0))))), (1, (zsi4 3 1 1)), (2, (zli4 0 1)), (3, (zsi4 3 2 1)), (4, (zli4 2 1)), (5, (z_if_eq 20)), (8, (zin4 3 1 (1))), (11, (zli4 2 1)), (12, (zli4 2 1)), (13, (zst 1 (zp (.int (1))))), (14, (zst 1 z_isub)), (15, (zst 1 z_iand))]
theorem kX12_bits_0 : ∀ q ∈ tX12_bits_0, zOk zg iX12_bits q.1 q.2 := (z_c (ok_iconst (v := (0)) dX12_bits_0 (by decide)) (z_c (ok_istore_n dX12_bits_1 rfl) (z_c (ok_iload_n dX12_bits_2 rfl) (z_c (ok_istore_n dX12_bits_3 rfl) (z_c (ok_iload_n dX12_bits_4 rfl) (z_c (ok_if_eq dX12_bits_5 (by decide)) (z_c (ok_iinc (v := (1)) dX12_bits_8 (by decide)) (z_c (ok_iload_n dX12_bits_11 rfl) (z_c (ok_iload_n dX12_bits_12 rfl) (z_c (ok_iconst (v := (1)) dX12_bits_13 (by decide)) (z_c (ok_isub dX12_bits_14) (z_c (ok_iand dX12_bits_15) z_n))))))))))))
noncomputable def tX12_bits_1 : List (Nat × zF) := [(16, (zsi4 3 2 1)), (17, (zgt 4)), (20, (zli4 1 1)), (21, (zri false))]
theorem kX12_bits_1 : ∀ q ∈ tX12_bits_1, zOk zg iX12_bits q.1 q.2 := (z_c (ok_istore_n dX12_bits_16 rfl) (z_c (ok_goto dX12_bits_17 (by decide)) (z_c (ok_iload_n dX12_bits_20 rfl) (z_c (ok_ireturn rfl dX12_bits_21) z_n))))
noncomputable def tX12_bits : zT := [(16, tX12_bits_0), (100000, tX12_bits_1)]
theorem kX12_bits : zTok zg iX12_bits tX12_bits := (z_t kX12_bits_0 (z_t kX12_bits_1 z_tn))
theorem dX12_isCell_0 : decode cX12_isCell 0 = .ok (.aload_n 0, 1) := by decide +kernel
theorem dX12_isCell_1 : decode cX12_isCell 1 = .ok (.getfield 153, 3) := by decide +kernel
theorem dX12_isCell_4 : decode cX12_isCell 4 = .ok (.ifCond .eq 45, 3) := by decide +kernel
theorem dX12_isCell_7 : decode cX12_isCell 7 = .ok (.iload_n 1, 1) := by decide +kernel
theorem dX12_isCell_8 : decode cX12_isCell 8 = .ok (.iconst 0, 1) := by decide +kernel
theorem dX12_isCell_9 : decode cX12_isCell 9 = .ok (.aload_n 0, 1) := by decide +kernel
theorem dX12_isCell_10 : decode cX12_isCell 10 = .ok (.getfield 54, 3) := by decide +kernel
theorem dX12_isCell_13 : decode cX12_isCell 13 = .ok (.aload_n 0, 1) := by decide +kernel
theorem dX12_isCell_14 : decode cX12_isCell 14 = .ok (.getfield 51, 3) := by decide +kernel
theorem dX12_isCell_17 : decode cX12_isCell 17 = .ok (.iaload, 1) := by decide +kernel
theorem dX12_isCell_18 : decode cX12_isCell 18 = .ok (.iconst 1, 1) := by decide +kernel
theorem dX12_isCell_19 : decode cX12_isCell 19 = .ok (.isub, 1) := by decide +kernel
theorem dX12_isCell_20 : decode cX12_isCell 20 = .ok (.invokestatic 318, 3) := by decide +kernel
theorem dX12_isCell_23 : decode cX12_isCell 23 = .ok (.ifCond .eq 26, 3) := by decide +kernel
theorem dX12_isCell_26 : decode cX12_isCell 26 = .ok (.iload_n 2, 1) := by decide +kernel
theorem dX12_isCell_27 : decode cX12_isCell 27 = .ok (.iconst 0, 1) := by decide +kernel
theorem dX12_isCell_28 : decode cX12_isCell 28 = .ok (.aload_n 0, 1) := by decide +kernel
theorem dX12_isCell_29 : decode cX12_isCell 29 = .ok (.getfield 57, 3) := by decide +kernel
theorem dX12_isCell_32 : decode cX12_isCell 32 = .ok (.aload_n 0, 1) := by decide +kernel
theorem dX12_isCell_33 : decode cX12_isCell 33 = .ok (.getfield 51, 3) := by decide +kernel
theorem dX12_isCell_36 : decode cX12_isCell 36 = .ok (.iaload, 1) := by decide +kernel
theorem dX12_isCell_37 : decode cX12_isCell 37 = .ok (.iconst 1, 1) := by decide +kernel
theorem dX12_isCell_38 : decode cX12_isCell 38 = .ok (.isub, 1) := by decide +kernel
theorem dX12_isCell_39 : decode cX12_isCell 39 = .ok (.invokestatic 318, 3) := by decide +kernel
theorem dX12_isCell_42 : decode cX12_isCell 42 = .ok (.ifCond .eq 7, 3) := by decide +kernel
theorem dX12_isCell_45 : decode cX12_isCell 45 = .ok (.iconst 1, 1) := by decide +kernel
theorem dX12_isCell_46 : decode cX12_isCell 46 = .ok (.goto 4, 3) := by decide +kernel
theorem dX12_isCell_49 : decode cX12_isCell 49 = .ok (.iconst 0, 1) := by decide +kernel
theorem dX12_isCell_50 : decode cX12_isCell 50 = .ok (.ireturn, 1) := by decide +kernel
noncomputable def tX12_isCell_0 : List (Nat × zF) := [(0, (zla4 0 1)), (1, (zgf 12 46)), (4, (z_if_eq 49)), (7, (zli4 1 1)), (8, (zst 1 (zp (.int (0))))), (9, (zla4 0 1)), (10, (zgf 12 14)), (13, (zla4 0 1)), (14, (zgf 12 13)), (17, (zal 0)), (18, (zst 1 (zp (.int (1))))), (19, (zst 1 z_isub))]
theorem kX12_isCell_0 : ∀ q ∈ tX12_isCell_0, zOk zg iX12_isCell q.1 q.2 := (z_c (ok_aload_n dX12_isCell_0 rfl) (z_c (ok_getf (C := RX12) (T := TX12) (N := 73) rfl (by decide) zinX12 rfl zw_734 dX12_isCell_1) (z_c (ok_if_eq dX12_isCell_4 (by decide)) (z_c (ok_iload_n dX12_isCell_7 rfl) (z_c (ok_iconst (v := (0)) dX12_isCell_8 (by decide)) (z_c (ok_aload_n dX12_isCell_9 rfl) (z_c (ok_getf (C := RX12) (T := TX12) (N := 73) rfl (by decide) zinX12 rfl zw_701 dX12_isCell_10) (z_c (ok_aload_n dX12_isCell_13 rfl) (z_c (ok_getf (C := RX12) (T := TX12) (N := 73) rfl (by decide) zinX12 rfl zw_700 dX12_isCell_14) (z_c (ok_iaload rfl dX12_isCell_17) (z_c (ok_iconst (v := (1)) dX12_isCell_18 (by decide)) (z_c (ok_isub dX12_isCell_19) z_n))))))))))))
noncomputable def tX12_isCell_1 : List (Nat × zF) := [(20, (zcs 165 3)), (23, (z_if_eq 49)), (26, (zli4 2 1)), (27, (zst 1 (zp (.int (0))))), (28, (zla4 0 1)), (29, (zgf 12 15)), (32, (zla4 0 1)), (33, (zgf 12 13)), (36, (zal 0)), (37, (zst 1 (zp (.int (1))))), (38, (zst 1 z_isub)), (39, (zcs 165 3))]
theorem kX12_isCell_1 : ∀ q ∈ tX12_isCell_1, zOk zg iX12_isCell q.1 q.2 := (z_c (ok_callS zcal_165 zw_812 zw_813 dX12_isCell_20) (z_c (ok_if_eq dX12_isCell_23 (by decide)) (z_c (ok_iload_n dX12_isCell_26 rfl) (z_c (ok_iconst (v := (0)) dX12_isCell_27 (by decide)) (z_c (ok_aload_n dX12_isCell_28 rfl) (z_c (ok_getf (C := RX12) (T := TX12) (N := 73) rfl (by decide) zinX12 rfl zw_702 dX12_isCell_29) (z_c (ok_aload_n dX12_isCell_32 rfl) (z_c (ok_getf (C := RX12) (T := TX12) (N := 73) rfl (by decide) zinX12 rfl zw_700 dX12_isCell_33) (z_c (ok_iaload rfl dX12_isCell_36) (z_c (ok_iconst (v := (1)) dX12_isCell_37 (by decide)) (z_c (ok_isub dX12_isCell_38) (z_c (ok_callS zcal_165 zw_812 zw_813 dX12_isCell_39) z_n))))))))))))
noncomputable def tX12_isCell_2 : List (Nat × zF) := [(42, (z_if_eq 49)), (45, (zst 1 (zp (.int (1))))), (46, (zgt 50)), (49, (zst 1 (zp (.int (0))))), (50, (zri true))]
theorem kX12_isCell_2 : ∀ q ∈ tX12_isCell_2, zOk zg iX12_isCell q.1 q.2 := (z_c (ok_if_eq dX12_isCell_42 (by decide)) (z_c (ok_iconst (v := (1)) dX12_isCell_45 (by decide)) (z_c (ok_goto dX12_isCell_46 (by decide)) (z_c (ok_iconst (v := (0)) dX12_isCell_49 (by decide)) (z_c (ok_zreturn rfl dX12_isCell_50) z_n)))))
noncomputable def tX12_isCell : zT := [(20, tX12_isCell_0), (42, tX12_isCell_1), (100000, tX12_isCell_2)]
theorem kX12_isCell : zTok zg iX12_isCell tX12_isCell := (z_t kX12_isCell_0 (z_t kX12_isCell_1 (z_t kX12_isCell_2 z_tn)))
theorem dX12_isCellOf_0 : decode cX12_isCellOf 0 = .ok (.iload_n 1, 1) := by decide +kernel
theorem dX12_isCellOf_1 : decode cX12_isCellOf 1 = .ok (.ifCond .lt 22, 3) := by decide +kernel
theorem dX12_isCellOf_4 : decode cX12_isCellOf 4 = .ok (.aload_n 0, 1) := by decide +kernel
theorem dX12_isCellOf_5 : decode cX12_isCellOf 5 = .ok (.iload_n 1, 1) := by decide +kernel
theorem dX12_isCellOf_6 : decode cX12_isCellOf 6 = .ok (.bipush 8, 2) := by decide +kernel
theorem dX12_isCellOf_8 : decode cX12_isCellOf 8 = .ok (.irem, 1) := by decide +kernel
theorem dX12_isCellOf_9 : decode cX12_isCellOf 9 = .ok (.iload_n 1, 1) := by decide +kernel
theorem dX12_isCellOf_10 : decode cX12_isCellOf 10 = .ok (.bipush 8, 2) := by decide +kernel
theorem dX12_isCellOf_12 : decode cX12_isCellOf 12 = .ok (.idiv, 1) := by decide +kernel
theorem dX12_isCellOf_13 : decode cX12_isCellOf 13 = .ok (.invokevirtual 444, 3) := by decide +kernel
theorem dX12_isCellOf_16 : decode cX12_isCellOf 16 = .ok (.ifCond .eq 7, 3) := by decide +kernel
theorem dX12_isCellOf_19 : decode cX12_isCellOf 19 = .ok (.iconst 1, 1) := by decide +kernel
theorem dX12_isCellOf_20 : decode cX12_isCellOf 20 = .ok (.goto 4, 3) := by decide +kernel
theorem dX12_isCellOf_23 : decode cX12_isCellOf 23 = .ok (.iconst 0, 1) := by decide +kernel
theorem dX12_isCellOf_24 : decode cX12_isCellOf 24 = .ok (.ireturn, 1) := by decide +kernel
noncomputable def tX12_isCellOf_0 : List (Nat × zF) := [(0, (zli4 1 1)), (1, (z_if_lt 23)), (4, (zla4 0 1)), (5, (zli4 1 1)), (6, (zst 2 (zp (.int (8))))), (8, (zst 1 z_irem)), (9, (zli4 1 1)), (10, (zst 2 (zp (.int (8))))), (12, (zst 1 z_idiv)), (13, (zcv 221 2 12)), (16, (z_if_eq 23)), (19, (zst 1 (zp (.int (1)))))]
theorem kX12_isCellOf_0 : ∀ q ∈ tX12_isCellOf_0, zOk zg iX12_isCellOf q.1 q.2 := (z_c (ok_iload_n dX12_isCellOf_0 rfl) (z_c (ok_if_lt dX12_isCellOf_1 (by decide)) (z_c (ok_aload_n dX12_isCellOf_4 rfl) (z_c (ok_iload_n dX12_isCellOf_5 rfl) (z_c (ok_bipush (v := (8)) dX12_isCellOf_6 (by decide)) (z_c (ok_irem dX12_isCellOf_8) (z_c (ok_iload_n dX12_isCellOf_9 rfl) (z_c (ok_bipush (v := (8)) dX12_isCellOf_10 (by decide)) (z_c (ok_idiv dX12_isCellOf_12) (z_c (ok_callV zcal_221 (q := (RX12, TX12, 73)) rfl zw_918 zw_919 zw_920 dX12_isCellOf_13) (z_c (ok_if_eq dX12_isCellOf_16 (by decide)) (z_c (ok_iconst (v := (1)) dX12_isCellOf_19 (by decide)) z_n))))))))))))
noncomputable def tX12_isCellOf_1 : List (Nat × zF) := [(20, (zgt 24)), (23, (zst 1 (zp (.int (0))))), (24, (zri true))]
theorem kX12_isCellOf_1 : ∀ q ∈ tX12_isCellOf_1, zOk zg iX12_isCellOf q.1 q.2 := (z_c (ok_goto dX12_isCellOf_20 (by decide)) (z_c (ok_iconst (v := (0)) dX12_isCellOf_23 (by decide)) (z_c (ok_zreturn rfl dX12_isCellOf_24) z_n)))
noncomputable def tX12_isCellOf : zT := [(20, tX12_isCellOf_0), (100000, tX12_isCellOf_1)]
theorem kX12_isCellOf : zTok zg iX12_isCellOf tX12_isCellOf := (z_t kX12_isCellOf_0 (z_t kX12_isCellOf_1 z_tn))
theorem dX12_isWall_0 : decode cX12_isWall 0 = .ok (.aload_n 0, 1) := by decide +kernel
theorem dX12_isWall_1 : decode cX12_isWall 1 = .ok (.getfield 66, 3) := by decide +kernel
theorem dX12_isWall_4 : decode cX12_isWall 4 = .ok (.bipush 64, 2) := by decide +kernel
theorem dX12_isWall_6 : decode cX12_isWall 6 = .ok (.aload_n 0, 1) := by decide +kernel
theorem dX12_isWall_7 : decode cX12_isWall 7 = .ok (.getfield 51, 3) := by decide +kernel
theorem dX12_isWall_10 : decode cX12_isWall 10 = .ok (.imul, 1) := by decide +kernel
theorem dX12_isWall_11 : decode cX12_isWall 11 = .ok (.iload_n 1, 1) := by decide +kernel
theorem dX12_isWall_12 : decode cX12_isWall 12 = .ok (.iadd, 1) := by decide +kernel
theorem dX12_isWall_13 : decode cX12_isWall 13 = .ok (.iaload, 1) := by decide +kernel
theorem dX12_isWall_14 : decode cX12_isWall 14 = .ok (.iconst 1, 1) := by decide +kernel
theorem dX12_isWall_15 : decode cX12_isWall 15 = .ok (.if_icmp .ne 7, 3) := by decide +kernel
theorem dX12_isWall_18 : decode cX12_isWall 18 = .ok (.iconst 1, 1) := by decide +kernel
theorem dX12_isWall_19 : decode cX12_isWall 19 = .ok (.goto 4, 3) := by decide +kernel
theorem dX12_isWall_22 : decode cX12_isWall 22 = .ok (.iconst 0, 1) := by decide +kernel
theorem dX12_isWall_23 : decode cX12_isWall 23 = .ok (.ireturn, 1) := by decide +kernel
noncomputable def tX12_isWall_0 : List (Nat × zF) := [(0, (zla4 0 1)), (1, (zgf 12 18)), (4, (zst 2 (zp (.int (64))))), (6, (zla4 0 1)), (7, (zgf 12 13)), (10, (zst 1 z_imul)), (11, (zli4 1 1)), (12, (zst 1 z_iadd)), (13, (zal 0)), (14, (zst 1 (zp (.int (1))))), (15, (z_ic_ne 22)), (18, (zst 1 (zp (.int (1)))))]
theorem kX12_isWall_0 : ∀ q ∈ tX12_isWall_0, zOk zg iX12_isWall q.1 q.2 := (z_c (ok_aload_n dX12_isWall_0 rfl) (z_c (ok_getf (C := RX12) (T := TX12) (N := 73) rfl (by decide) zinX12 rfl zw_705 dX12_isWall_1) (z_c (ok_bipush (v := (64)) dX12_isWall_4 (by decide)) (z_c (ok_aload_n dX12_isWall_6 rfl) (z_c (ok_getf (C := RX12) (T := TX12) (N := 73) rfl (by decide) zinX12 rfl zw_700 dX12_isWall_7) (z_c (ok_imul dX12_isWall_10) (z_c (ok_iload_n dX12_isWall_11 rfl) (z_c (ok_iadd dX12_isWall_12) (z_c (ok_iaload rfl dX12_isWall_13) (z_c (ok_iconst (v := (1)) dX12_isWall_14 (by decide)) (z_c (ok_icmp_ne dX12_isWall_15 (by decide)) (z_c (ok_iconst (v := (1)) dX12_isWall_18 (by decide)) z_n))))))))))))
noncomputable def tX12_isWall_1 : List (Nat × zF) := [(19, (zgt 23)), (22, (zst 1 (zp (.int (0))))), (23, (zri true))]
theorem kX12_isWall_1 : ∀ q ∈ tX12_isWall_1, zOk zg iX12_isWall q.1 q.2 := (z_c (ok_goto dX12_isWall_19 (by decide)) (z_c (ok_iconst (v := (0)) dX12_isWall_22 (by decide)) (z_c (ok_zreturn rfl dX12_isWall_23) z_n)))
noncomputable def tX12_isWall : zT := [(19, tX12_isWall_0), (100000, tX12_isWall_1)]
theorem kX12_isWall : zTok zg iX12_isWall tX12_isWall := (z_t kX12_isWall_0 (z_t kX12_isWall_1 z_tn))
theorem dX12_besideOf_0 : decode cX12_besideOf 0 = .ok (.iload_n 1, 1) := by decide +kernel
theorem dX12_besideOf_1 : decode cX12_besideOf 1 = .ok (.bipush 8, 2) := by decide +kernel
theorem dX12_besideOf_3 : decode cX12_besideOf 3 = .ok (.irem, 1) := by decide +kernel
theorem dX12_besideOf_4 : decode cX12_besideOf 4 = .ok (.iload_n 2, 1) := by decide +kernel
theorem dX12_besideOf_5 : decode cX12_besideOf 5 = .ok (.iconst 1, 1) := by decide +kernel
theorem dX12_besideOf_6 : decode cX12_besideOf 6 = .ok (.if_icmp .ne 7, 3) := by decide +kernel
theorem dX12_besideOf_9 : decode cX12_besideOf 9 = .ok (.iconst 1, 1) := by decide +kernel
theorem dX12_besideOf_10 : decode cX12_besideOf 10 = .ok (.goto 13, 3) := by decide +kernel
theorem dX12_besideOf_13 : decode cX12_besideOf 13 = .ok (.iload_n 2, 1) := by decide +kernel
theorem dX12_besideOf_14 : decode cX12_besideOf 14 = .ok (.iconst 3, 1) := by decide +kernel
theorem dX12_besideOf_15 : decode cX12_besideOf 15 = .ok (.if_icmp .ne 7, 3) := by decide +kernel
theorem dX12_besideOf_18 : decode cX12_besideOf 18 = .ok (.iconst (-1), 1) := by decide +kernel
theorem dX12_besideOf_19 : decode cX12_besideOf 19 = .ok (.goto 4, 3) := by decide +kernel
theorem dX12_besideOf_22 : decode cX12_besideOf 22 = .ok (.iconst 0, 1) := by decide +kernel
theorem dX12_besideOf_23 : decode cX12_besideOf 23 = .ok (.iadd, 1) := by decide +kernel
theorem dX12_besideOf_24 : decode cX12_besideOf 24 = .ok (.istore_n 3, 1) := by decide +kernel
theorem dX12_besideOf_25 : decode cX12_besideOf 25 = .ok (.iload_n 1, 1) := by decide +kernel
theorem dX12_besideOf_26 : decode cX12_besideOf 26 = .ok (.bipush 8, 2) := by decide +kernel
theorem dX12_besideOf_28 : decode cX12_besideOf 28 = .ok (.idiv, 1) := by decide +kernel
theorem dX12_besideOf_29 : decode cX12_besideOf 29 = .ok (.iload_n 2, 1) := by decide +kernel
theorem dX12_besideOf_30 : decode cX12_besideOf 30 = .ok (.iconst 2, 1) := by decide +kernel
theorem dX12_besideOf_31 : decode cX12_besideOf 31 = .ok (.if_icmp .ne 7, 3) := by decide +kernel
theorem dX12_besideOf_34 : decode cX12_besideOf 34 = .ok (.iconst 1, 1) := by decide +kernel
theorem dX12_besideOf_35 : decode cX12_besideOf 35 = .ok (.goto 12, 3) := by decide +kernel
theorem dX12_besideOf_38 : decode cX12_besideOf 38 = .ok (.iload_n 2, 1) := by decide +kernel
theorem dX12_besideOf_39 : decode cX12_besideOf 39 = .ok (.ifCond .ne 7, 3) := by decide +kernel
theorem dX12_besideOf_42 : decode cX12_besideOf 42 = .ok (.iconst (-1), 1) := by decide +kernel
theorem dX12_besideOf_43 : decode cX12_besideOf 43 = .ok (.goto 4, 3) := by decide +kernel
theorem dX12_besideOf_46 : decode cX12_besideOf 46 = .ok (.iconst 0, 1) := by decide +kernel
theorem dX12_besideOf_47 : decode cX12_besideOf 47 = .ok (.iadd, 1) := by decide +kernel
theorem dX12_besideOf_48 : decode cX12_besideOf 48 = .ok (.istore 4, 2) := by decide +kernel
theorem dX12_besideOf_50 : decode cX12_besideOf 50 = .ok (.aload_n 0, 1) := by decide +kernel
theorem dX12_besideOf_51 : decode cX12_besideOf 51 = .ok (.iload_n 3, 1) := by decide +kernel
theorem dX12_besideOf_52 : decode cX12_besideOf 52 = .ok (.iload 4, 2) := by decide +kernel
theorem dX12_besideOf_54 : decode cX12_besideOf 54 = .ok (.invokevirtual 444, 3) := by decide +kernel
theorem dX12_besideOf_57 : decode cX12_besideOf 57 = .ok (.ifCond .eq 27, 3) := by decide +kernel
theorem dX12_besideOf_60 : decode cX12_besideOf 60 = .ok (.aload_n 0, 1) := by decide +kernel
theorem dX12_besideOf_61 : decode cX12_besideOf 61 = .ok (.bipush 8, 2) := by decide +kernel
theorem dX12_besideOf_63 : decode cX12_besideOf 63 = .ok (.iload 4, 2) := by decide +kernel
theorem dX12_besideOf_65 : decode cX12_besideOf 65 = .ok (.imul, 1) := by decide +kernel
theorem dX12_besideOf_66 : decode cX12_besideOf 66 = .ok (.iload_n 3, 1) := by decide +kernel
theorem dX12_besideOf_67 : decode cX12_besideOf 67 = .ok (.iadd, 1) := by decide +kernel
theorem dX12_besideOf_68 : decode cX12_besideOf 68 = .ok (.invokevirtual 447, 3) := by decide +kernel
theorem dX12_besideOf_71 : decode cX12_besideOf 71 = .ok (.ifCond .ne 13, 3) := by decide +kernel
theorem dX12_besideOf_74 : decode cX12_besideOf 74 = .ok (.bipush 8, 2) := by decide +kernel
theorem dX12_besideOf_76 : decode cX12_besideOf 76 = .ok (.iload 4, 2) := by decide +kernel
theorem dX12_besideOf_78 : decode cX12_besideOf 78 = .ok (.imul, 1) := by decide +kernel
theorem dX12_besideOf_79 : decode cX12_besideOf 79 = .ok (.iload_n 3, 1) := by decide +kernel
theorem dX12_besideOf_80 : decode cX12_besideOf 80 = .ok (.iadd, 1) := by decide +kernel
theorem dX12_besideOf_81 : decode cX12_besideOf 81 = .ok (.goto 4, 3) := by decide +kernel
theorem dX12_besideOf_84 : decode cX12_besideOf 84 = .ok (.iconst (-1), 1) := by decide +kernel
theorem dX12_besideOf_85 : decode cX12_besideOf 85 = .ok (.ireturn, 1) := by decide +kernel
noncomputable def tX12_besideOf_0 : List (Nat × zF) := [(0, (zli4 1 1)), (1, (zst 2 (zp (.int (8))))), (3, (zst 1 z_irem)), (4, (zli4 2 1)), (5, (zst 1 (zp (.int (1))))), (6, (z_ic_ne 13)), (9, (zst 1 (zp (.int (1))))), (10, (zgt 23)), (13, (zli4 2 1)), (14, (zst 1 (zp (.int (3))))), (15, (z_ic_ne 22)), (18, (zst 1 (zp (.int ((-1))))))]
theorem kX12_besideOf_0 : ∀ q ∈ tX12_besideOf_0, zOk zg iX12_besideOf q.1 q.2 := (z_c (ok_iload_n dX12_besideOf_0 rfl) (z_c (ok_bipush (v := (8)) dX12_besideOf_1 (by decide)) (z_c (ok_irem dX12_besideOf_3) (z_c (ok_iload_n dX12_besideOf_4 rfl) (z_c (ok_iconst (v := (1)) dX12_besideOf_5 (by decide)) (z_c (ok_icmp_ne dX12_besideOf_6 (by decide)) (z_c (ok_iconst (v := (1)) dX12_besideOf_9 (by decide)) (z_c (ok_goto dX12_besideOf_10 (by decide)) (z_c (ok_iload_n dX12_besideOf_13 rfl) (z_c (ok_iconst (v := (3)) dX12_besideOf_14 (by decide)) (z_c (ok_icmp_ne dX12_besideOf_15 (by decide)) (z_c (ok_iconst (v := (-1)) dX12_besideOf_18 (by decide)) z_n))))))))))))
noncomputable def tX12_besideOf_1 : List (Nat × zF) := [(19, (zgt 23)), (22, (zst 1 (zp (.int (0))))), (23, (zst 1 z_iadd)), (24, (zsi4 5 3 1)), (25, (zli4 1 1)), (26, (zst 2 (zp (.int (8))))), (28, (zst 1 z_idiv)), (29, (zli4 2 1)), (30, (zst 1 (zp (.int (2))))), (31, (z_ic_ne 38)), (34, (zst 1 (zp (.int (1))))), (35, (zgt 47))]
theorem kX12_besideOf_1 : ∀ q ∈ tX12_besideOf_1, zOk zg iX12_besideOf q.1 q.2 := (z_c (ok_goto dX12_besideOf_19 (by decide)) (z_c (ok_iconst (v := (0)) dX12_besideOf_22 (by decide)) (z_c (ok_iadd dX12_besideOf_23) (z_c (ok_istore_n dX12_besideOf_24 rfl) (z_c (ok_iload_n dX12_besideOf_25 rfl) (z_c (ok_bipush (v := (8)) dX12_besideOf_26 (by decide)) (z_c (ok_idiv dX12_besideOf_28) (z_c (ok_iload_n dX12_besideOf_29 rfl) (z_c (ok_iconst (v := (2)) dX12_besideOf_30 (by decide)) (z_c (ok_icmp_ne dX12_besideOf_31 (by decide)) (z_c (ok_iconst (v := (1)) dX12_besideOf_34 (by decide)) (z_c (ok_goto dX12_besideOf_35 (by decide)) z_n))))))))))))
noncomputable def tX12_besideOf_2 : List (Nat × zF) := [(38, (zli4 2 1)), (39, (z_if_ne 46)), (42, (zst 1 (zp (.int ((-1)))))), (43, (zgt 47)), (46, (zst 1 (zp (.int (0))))), (47, (zst 1 z_iadd)), (48, (zsi4 5 4 2)), (50, (zla4 0 1)), (51, (zli4 3 1)), (52, (zli4 4 2)), (54, (zcv 221 2 12)), (57, (z_if_eq 84))]
theorem kX12_besideOf_2 : ∀ q ∈ tX12_besideOf_2, zOk zg iX12_besideOf q.1 q.2 := (z_c (ok_iload_n dX12_besideOf_38 rfl) (z_c (ok_if_ne dX12_besideOf_39 (by decide)) (z_c (ok_iconst (v := (-1)) dX12_besideOf_42 (by decide)) (z_c (ok_goto dX12_besideOf_43 (by decide)) (z_c (ok_iconst (v := (0)) dX12_besideOf_46 (by decide)) (z_c (ok_iadd dX12_besideOf_47) (z_c (ok_istore dX12_besideOf_48) (z_c (ok_aload_n dX12_besideOf_50 rfl) (z_c (ok_iload_n dX12_besideOf_51 rfl) (z_c (ok_iload dX12_besideOf_52) (z_c (ok_callV zcal_221 (q := (RX12, TX12, 73)) rfl zw_918 zw_919 zw_920 dX12_besideOf_54) (z_c (ok_if_eq dX12_besideOf_57 (by decide)) z_n))))))))))))
noncomputable def tX12_besideOf_3 : List (Nat × zF) := [(60, (zla4 0 1)), (61, (zst 2 (zp (.int (8))))), (63, (zli4 4 2)), (65, (zst 1 z_imul)), (66, (zli4 3 1)), (67, (zst 1 z_iadd)), (68, (zcv 223 1 12)), (71, (z_if_ne 84)), (74, (zst 2 (zp (.int (8))))), (76, (zli4 4 2)), (78, (zst 1 z_imul)), (79, (zli4 3 1))]
theorem kX12_besideOf_3 : ∀ q ∈ tX12_besideOf_3, zOk zg iX12_besideOf q.1 q.2 := (z_c (ok_aload_n dX12_besideOf_60 rfl) (z_c (ok_bipush (v := (8)) dX12_besideOf_61 (by decide)) (z_c (ok_iload dX12_besideOf_63) (z_c (ok_imul dX12_besideOf_65) (z_c (ok_iload_n dX12_besideOf_66 rfl) (z_c (ok_iadd dX12_besideOf_67) (z_c (ok_callV zcal_223 (q := (RX12, TX12, 73)) rfl zw_921 zw_922 zw_923 dX12_besideOf_68) (z_c (ok_if_ne dX12_besideOf_71 (by decide)) (z_c (ok_bipush (v := (8)) dX12_besideOf_74 (by decide)) (z_c (ok_iload dX12_besideOf_76) (z_c (ok_imul dX12_besideOf_78) (z_c (ok_iload_n dX12_besideOf_79 rfl) z_n))))))))))))
noncomputable def tX12_besideOf_4 : List (Nat × zF) := [(80, (zst 1 z_iadd)), (81, (zgt 85)), (84, (zst 1 (zp (.int ((-1)))))), (85, (zri false))]
theorem kX12_besideOf_4 : ∀ q ∈ tX12_besideOf_4, zOk zg iX12_besideOf q.1 q.2 := (z_c (ok_iadd dX12_besideOf_80) (z_c (ok_goto dX12_besideOf_81 (by decide)) (z_c (ok_iconst (v := (-1)) dX12_besideOf_84 (by decide)) (z_c (ok_ireturn rfl dX12_besideOf_85) z_n))))
noncomputable def tX12_besideOf : zT := [(19, tX12_besideOf_0), (38, tX12_besideOf_1), (60, tX12_besideOf_2), (80, tX12_besideOf_3), (100000, tX12_besideOf_4)]
theorem kX12_besideOf : zTok zg iX12_besideOf tX12_besideOf := (z_t kX12_besideOf_0 (z_t kX12_besideOf_1 (z_t kX12_besideOf_2 (z_t kX12_besideOf_3 (z_t kX12_besideOf_4 z_tn)))))
theorem dX12_lays_0 : decode cX12_lays 0 = .ok (.aload_n 0, 1) := by decide +kernel
theorem dX12_lays_1 : decode cX12_lays 1 = .ok (.getfield 192, 3) := by decide +kernel
theorem dX12_lays_4 : decode cX12_lays 4 = .ok (.iconst 1, 1) := by decide +kernel
theorem dX12_lays_5 : decode cX12_lays 5 = .ok (.aload_n 0, 1) := by decide +kernel
theorem dX12_lays_6 : decode cX12_lays 6 = .ok (.getfield 159, 3) := by decide +kernel
theorem dX12_lays_9 : decode cX12_lays 9 = .ok (.iload_n 1, 1) := by decide +kernel
theorem dX12_lays_10 : decode cX12_lays 10 = .ok (.iaload, 1) := by decide +kernel
theorem dX12_lays_11 : decode cX12_lays 11 = .ok (.iastore, 1) := by decide +kernel
theorem dX12_lays_12 : decode cX12_lays 12 = .ok (.aload_n 0, 1) := by decide +kernel
theorem dX12_lays_13 : decode cX12_lays 13 = .ok (.getfield 192, 3) := by decide +kernel
theorem dX12_lays_16 : decode cX12_lays 16 = .ok (.iconst 2, 1) := by decide +kernel
theorem dX12_lays_17 : decode cX12_lays 17 = .ok (.aload_n 0, 1) := by decide +kernel
theorem dX12_lays_18 : decode cX12_lays 18 = .ok (.getfield 186, 3) := by decide +kernel
theorem dX12_lays_21 : decode cX12_lays 21 = .ok (.iload_n 2, 1) := by decide +kernel
theorem dX12_lays_22 : decode cX12_lays 22 = .ok (.iaload, 1) := by decide +kernel
theorem dX12_lays_23 : decode cX12_lays 23 = .ok (.iastore, 1) := by decide +kernel
theorem dX12_lays_24 : decode cX12_lays 24 = .ok (.aload_n 0, 1) := by decide +kernel
theorem dX12_lays_25 : decode cX12_lays 25 = .ok (.getfield 192, 3) := by decide +kernel
theorem dX12_lays_28 : decode cX12_lays 28 = .ok (.iconst 3, 1) := by decide +kernel
theorem dX12_lays_29 : decode cX12_lays 29 = .ok (.aload_n 0, 1) := by decide +kernel
theorem dX12_lays_30 : decode cX12_lays 30 = .ok (.getfield 78, 3) := by decide +kernel
theorem dX12_lays_33 : decode cX12_lays 33 = .ok (.bipush 9, 2) := by decide +kernel
theorem dX12_lays_35 : decode cX12_lays 35 = .ok (.aload_n 0, 1) := by decide +kernel
theorem dX12_lays_36 : decode cX12_lays 36 = .ok (.getfield 51, 3) := by decide +kernel
theorem dX12_lays_39 : decode cX12_lays 39 = .ok (.imul, 1) := by decide +kernel
theorem dX12_lays_40 : decode cX12_lays 40 = .ok (.iload_n 2, 1) := by decide +kernel
theorem dX12_lays_41 : decode cX12_lays 41 = .ok (.iadd, 1) := by decide +kernel
theorem dX12_lays_42 : decode cX12_lays 42 = .ok (.iaload, 1) := by decide +kernel
theorem dX12_lays_43 : decode cX12_lays 43 = .ok (.iastore, 1) := by decide +kernel
theorem dX12_lays_44 : decode cX12_lays 44 = .ok (.aload_n 0, 1) := by decide +kernel
theorem dX12_lays_45 : decode cX12_lays 45 = .ok (.getfield 192, 3) := by decide +kernel
theorem dX12_lays_48 : decode cX12_lays 48 = .ok (.iconst 4, 1) := by decide +kernel
theorem dX12_lays_49 : decode cX12_lays 49 = .ok (.aload_n 0, 1) := by decide +kernel
theorem dX12_lays_50 : decode cX12_lays 50 = .ok (.getfield 165, 3) := by decide +kernel
theorem dX12_lays_53 : decode cX12_lays 53 = .ok (.bipush 9, 2) := by decide +kernel
theorem dX12_lays_55 : decode cX12_lays 55 = .ok (.iload_n 1, 1) := by decide +kernel
theorem dX12_lays_56 : decode cX12_lays 56 = .ok (.imul, 1) := by decide +kernel
theorem dX12_lays_57 : decode cX12_lays 57 = .ok (.iload_n 2, 1) := by decide +kernel
theorem dX12_lays_58 : decode cX12_lays 58 = .ok (.iadd, 1) := by decide +kernel
theorem dX12_lays_59 : decode cX12_lays 59 = .ok (.iaload, 1) := by decide +kernel
theorem dX12_lays_60 : decode cX12_lays 60 = .ok (.iastore, 1) := by decide +kernel
theorem dX12_lays_61 : decode cX12_lays 61 = .ok (.aload_n 0, 1) := by decide +kernel
theorem dX12_lays_62 : decode cX12_lays 62 = .ok (.getfield 192, 3) := by decide +kernel
theorem dX12_lays_65 : decode cX12_lays 65 = .ok (.iconst 5, 1) := by decide +kernel
theorem dX12_lays_66 : decode cX12_lays 66 = .ok (.aload_n 0, 1) := by decide +kernel
theorem dX12_lays_67 : decode cX12_lays 67 = .ok (.getfield 162, 3) := by decide +kernel
theorem dX12_lays_70 : decode cX12_lays 70 = .ok (.iload_n 1, 1) := by decide +kernel
theorem dX12_lays_71 : decode cX12_lays 71 = .ok (.iaload, 1) := by decide +kernel
theorem dX12_lays_72 : decode cX12_lays 72 = .ok (.invokestatic 450, 3) := by decide +kernel
theorem dX12_lays_75 : decode cX12_lays 75 = .ok (.iastore, 1) := by decide +kernel
theorem dX12_lays_76 : decode cX12_lays 76 = .ok (.return_, 1) := by decide +kernel
noncomputable def tX12_lays_0 : List (Nat × zF) := [(0, (zla4 0 1)), (1, (zgf 12 59)), (4, (zst 1 (zp (.int (1))))), (5, (zla4 0 1)), (6, (zgf 12 48)), (9, (zli4 1 1)), (10, (zal 0)), (11, (zas 0)), (12, (zla4 0 1)), (13, (zgf 12 59)), (16, (zst 1 (zp (.int (2))))), (17, (zla4 0 1))]
theorem kX12_lays_0 : ∀ q ∈ tX12_lays_0, zOk zg iX12_lays q.1 q.2 := (z_c (ok_aload_n dX12_lays_0 rfl) (z_c (ok_getf (C := RX12) (T := TX12) (N := 73) rfl (by decide) zinX12 rfl zw_747 dX12_lays_1) (z_c (ok_iconst (v := (1)) dX12_lays_4 (by decide)) (z_c (ok_aload_n dX12_lays_5 rfl) (z_c (ok_getf (C := RX12) (T := TX12) (N := 73) rfl (by decide) zinX12 rfl zw_736 dX12_lays_6) (z_c (ok_iload_n dX12_lays_9 rfl) (z_c (ok_iaload rfl dX12_lays_10) (z_c (ok_iastore rfl dX12_lays_11) (z_c (ok_aload_n dX12_lays_12 rfl) (z_c (ok_getf (C := RX12) (T := TX12) (N := 73) rfl (by decide) zinX12 rfl zw_747 dX12_lays_13) (z_c (ok_iconst (v := (2)) dX12_lays_16 (by decide)) (z_c (ok_aload_n dX12_lays_17 rfl) z_n))))))))))))
noncomputable def tX12_lays_1 : List (Nat × zF) := [(18, (zgf 12 57)), (21, (zli4 2 1)), (22, (zal 0)), (23, (zas 0)), (24, (zla4 0 1)), (25, (zgf 12 59)), (28, (zst 1 (zp (.int (3))))), (29, (zla4 0 1)), (30, (zgf 12 22)), (33, (zst 2 (zp (.int (9))))), (35, (zla4 0 1)), (36, (zgf 12 13))]
theorem kX12_lays_1 : ∀ q ∈ tX12_lays_1, zOk zg iX12_lays q.1 q.2 := (z_c (ok_getf (C := RX12) (T := TX12) (N := 73) rfl (by decide) zinX12 rfl zw_745 dX12_lays_18) (z_c (ok_iload_n dX12_lays_21 rfl) (z_c (ok_iaload rfl dX12_lays_22) (z_c (ok_iastore rfl dX12_lays_23) (z_c (ok_aload_n dX12_lays_24 rfl) (z_c (ok_getf (C := RX12) (T := TX12) (N := 73) rfl (by decide) zinX12 rfl zw_747 dX12_lays_25) (z_c (ok_iconst (v := (3)) dX12_lays_28 (by decide)) (z_c (ok_aload_n dX12_lays_29 rfl) (z_c (ok_getf (C := RX12) (T := TX12) (N := 73) rfl (by decide) zinX12 rfl zw_709 dX12_lays_30) (z_c (ok_bipush (v := (9)) dX12_lays_33 (by decide)) (z_c (ok_aload_n dX12_lays_35 rfl) (z_c (ok_getf (C := RX12) (T := TX12) (N := 73) rfl (by decide) zinX12 rfl zw_700 dX12_lays_36) z_n))))))))))))
noncomputable def tX12_lays_2 : List (Nat × zF) := [(39, (zst 1 z_imul)), (40, (zli4 2 1)), (41, (zst 1 z_iadd)), (42, (zal 0)), (43, (zas 0)), (44, (zla4 0 1)), (45, (zgf 12 59)), (48, (zst 1 (zp (.int (4))))), (49, (zla4 0 1)), (50, (zgf 12 50)), (53, (zst 2 (zp (.int (9))))), (55, (zli4 1 1))]
theorem kX12_lays_2 : ∀ q ∈ tX12_lays_2, zOk zg iX12_lays q.1 q.2 := (z_c (ok_imul dX12_lays_39) (z_c (ok_iload_n dX12_lays_40 rfl) (z_c (ok_iadd dX12_lays_41) (z_c (ok_iaload rfl dX12_lays_42) (z_c (ok_iastore rfl dX12_lays_43) (z_c (ok_aload_n dX12_lays_44 rfl) (z_c (ok_getf (C := RX12) (T := TX12) (N := 73) rfl (by decide) zinX12 rfl zw_747 dX12_lays_45) (z_c (ok_iconst (v := (4)) dX12_lays_48 (by decide)) (z_c (ok_aload_n dX12_lays_49 rfl) (z_c (ok_getf (C := RX12) (T := TX12) (N := 73) rfl (by decide) zinX12 rfl zw_738 dX12_lays_50) (z_c (ok_bipush (v := (9)) dX12_lays_53 (by decide)) (z_c (ok_iload_n dX12_lays_55 rfl) z_n))))))))))))
noncomputable def tX12_lays_3 : List (Nat × zF) := [(56, (zst 1 z_imul)), (57, (zli4 2 1)), (58, (zst 1 z_iadd)), (59, (zal 0)), (60, (zas 0)), (61, (zla4 0 1)), (62, (zgf 12 59)), (65, (zst 1 (zp (.int (5))))), (66, (zla4 0 1)), (67, (zgf 12 49)), (70, (zli4 1 1)), (71, (zal 0))]
theorem kX12_lays_3 : ∀ q ∈ tX12_lays_3, zOk zg iX12_lays q.1 q.2 := (z_c (ok_imul dX12_lays_56) (z_c (ok_iload_n dX12_lays_57 rfl) (z_c (ok_iadd dX12_lays_58) (z_c (ok_iaload rfl dX12_lays_59) (z_c (ok_iastore rfl dX12_lays_60) (z_c (ok_aload_n dX12_lays_61 rfl) (z_c (ok_getf (C := RX12) (T := TX12) (N := 73) rfl (by decide) zinX12 rfl zw_747 dX12_lays_62) (z_c (ok_iconst (v := (5)) dX12_lays_65 (by decide)) (z_c (ok_aload_n dX12_lays_66 rfl) (z_c (ok_getf (C := RX12) (T := TX12) (N := 73) rfl (by decide) zinX12 rfl zw_737 dX12_lays_67) (z_c (ok_iload_n dX12_lays_70 rfl) (z_c (ok_iaload rfl dX12_lays_71) z_n))))))))))))
noncomputable def tX12_lays_4 : List (Nat × zF) := [(72, (zcs 220 1)), (75, (zas 0)), (76, zrv)]
theorem kX12_lays_4 : ∀ q ∈ tX12_lays_4, zOk zg iX12_lays q.1 q.2 := (z_c (ok_callS zcal_220 zw_924 zw_925 dX12_lays_72) (z_c (ok_iastore rfl dX12_lays_75) (z_c (ok_return rfl dX12_lays_76) z_n)))
noncomputable def tX12_lays : zT := [(18, tX12_lays_0), (39, tX12_lays_1), (56, tX12_lays_2), (72, tX12_lays_3), (100000, tX12_lays_4)]
theorem kX12_lays : zTok zg iX12_lays tX12_lays := (z_t kX12_lays_0 (z_t kX12_lays_1 (z_t kX12_lays_2 (z_t kX12_lays_3 (z_t kX12_lays_4 z_tn)))))
theorem dX12_glowOf_0 : decode cX12_glowOf 0 = .ok (.aload_n 0, 1) := by decide +kernel
theorem dX12_glowOf_1 : decode cX12_glowOf 1 = .ok (.iconst 0, 1) := by decide +kernel
theorem dX12_glowOf_2 : decode cX12_glowOf 2 = .ok (.invokevirtual 453, 3) := by decide +kernel
theorem dX12_glowOf_5 : decode cX12_glowOf 5 = .ok (.ifCond .ne 10, 3) := by decide +kernel
theorem dX12_glowOf_8 : decode cX12_glowOf 8 = .ok (.aload_n 0, 1) := by decide +kernel
theorem dX12_glowOf_9 : decode cX12_glowOf 9 = .ok (.getfield 186, 3) := by decide +kernel
theorem dX12_glowOf_12 : decode cX12_glowOf 12 = .ok (.iload_n 2, 1) := by decide +kernel
theorem dX12_glowOf_13 : decode cX12_glowOf 13 = .ok (.iaload, 1) := by decide +kernel
theorem dX12_glowOf_14 : decode cX12_glowOf 14 = .ok (.ireturn, 1) := by decide +kernel
theorem dX12_glowOf_15 : decode cX12_glowOf 15 = .ok (.aload_n 0, 1) := by decide +kernel
theorem dX12_glowOf_16 : decode cX12_glowOf 16 = .ok (.iload_n 1, 1) := by decide +kernel
theorem dX12_glowOf_17 : decode cX12_glowOf 17 = .ok (.iload_n 2, 1) := by decide +kernel
theorem dX12_glowOf_18 : decode cX12_glowOf 18 = .ok (.invokevirtual 456, 3) := by decide +kernel
theorem dX12_glowOf_21 : decode cX12_glowOf 21 = .ok (.aload_n 0, 1) := by decide +kernel
theorem dX12_glowOf_22 : decode cX12_glowOf 22 = .ok (.iconst 0, 1) := by decide +kernel
theorem dX12_glowOf_23 : decode cX12_glowOf 23 = .ok (.invokevirtual 459, 3) := by decide +kernel
theorem dX12_glowOf_26 : decode cX12_glowOf 26 = .ok (.lstore_n 3, 1) := by decide +kernel
theorem dX12_glowOf_27 : decode cX12_glowOf 27 = .ok (.lload_n 3, 1) := by decide +kernel
theorem dX12_glowOf_28 : decode cX12_glowOf 28 = .ok (.lconst 0, 1) := by decide +kernel
theorem dX12_glowOf_29 : decode cX12_glowOf 29 = .ok (.lcmp, 1) := by decide +kernel
theorem dX12_glowOf_30 : decode cX12_glowOf 30 = .ok (.ifCond .ge 7, 3) := by decide +kernel
theorem dX12_glowOf_33 : decode cX12_glowOf 33 = .ok (.iconst 0, 1) := by decide +kernel
theorem dX12_glowOf_34 : decode cX12_glowOf 34 = .ok (.goto 18, 3) := by decide +kernel
theorem dX12_glowOf_37 : decode cX12_glowOf 37 = .ok (.lload_n 3, 1) := by decide +kernel
theorem dX12_glowOf_38 : decode cX12_glowOf 38 = .ok (.ldc2_w 463, 3) := by decide +kernel
theorem dX12_glowOf_41 : decode cX12_glowOf 41 = .ok (.lcmp, 1) := by decide +kernel
theorem dX12_glowOf_42 : decode cX12_glowOf 42 = .ok (.ifCond .le 8, 3) := by decide +kernel
theorem dX12_glowOf_45 : decode cX12_glowOf 45 = .ok (.bipush 9, 2) := by decide +kernel
theorem dX12_glowOf_47 : decode cX12_glowOf 47 = .ok (.goto 5, 3) := by decide +kernel
theorem dX12_glowOf_50 : decode cX12_glowOf 50 = .ok (.lload_n 3, 1) := by decide +kernel
theorem dX12_glowOf_51 : decode cX12_glowOf 51 = .ok (.l2i, 1) := by decide +kernel
theorem dX12_glowOf_52 : decode cX12_glowOf 52 = .ok (.ireturn, 1) := by decide +kernel
noncomputable def tX12_glowOf_0 : List (Nat × zF) := [(0, (zla4 0 1)), (1, (zst 1 (zp (.int (0))))), (2, (zcv 219 1 12)), (5, (z_if_ne 15)), (8, (zla4 0 1)), (9, (zgf 12 57)), (12, (zli4 2 1)), (13, (zal 0)), (14, (zri false)), (15, (zla4 0 1)), (16, (zli4 1 1)), (17, (zli4 2 1))]
theorem kX12_glowOf_0 : ∀ q ∈ tX12_glowOf_0, zOk zg iX12_glowOf q.1 q.2 := (z_c (ok_aload_n dX12_glowOf_0 rfl) (z_c (ok_iconst (v := (0)) dX12_glowOf_1 (by decide)) (z_c (ok_callV zcal_219 (q := (RX12, TX12, 73)) rfl zw_926 zw_927 zw_928 dX12_glowOf_2) (z_c (ok_if_ne dX12_glowOf_5 (by decide)) (z_c (ok_aload_n dX12_glowOf_8 rfl) (z_c (ok_getf (C := RX12) (T := TX12) (N := 73) rfl (by decide) zinX12 rfl zw_745 dX12_glowOf_9) (z_c (ok_iload_n dX12_glowOf_12 rfl) (z_c (ok_iaload rfl dX12_glowOf_13) (z_c (ok_ireturn rfl dX12_glowOf_14) (z_c (ok_aload_n dX12_glowOf_15 rfl) (z_c (ok_iload_n dX12_glowOf_16 rfl) (z_c (ok_iload_n dX12_glowOf_17 rfl) z_n))))))))))))
noncomputable def tX12_glowOf_1 : List (Nat × zF) := [(18, (zcv 225 2 12)), (21, (zla4 0 1)), (22, (zst 1 (zp (.int (0))))), (23, (zcv 218 1 12)), (26, (zsl4 5 3 1)), (27, (zll4 3 1)), (28, (zst 1 (zp (.long (0))))), (29, (zst 1 zcm)), (30, (z_if_ge 37)), (33, (zst 1 (zp (.int (0))))), (34, (zgt 52)), (37, (zll4 3 1))]
theorem kX12_glowOf_1 : ∀ q ∈ tX12_glowOf_1, zOk zg iX12_glowOf q.1 q.2 := (z_c (ok_callV zcal_225 (q := (RX12, TX12, 73)) rfl zw_929 zw_930 zw_931 dX12_glowOf_18) (z_c (ok_aload_n dX12_glowOf_21 rfl) (z_c (ok_iconst (v := (0)) dX12_glowOf_22 (by decide)) (z_c (ok_callV zcal_218 (q := (RX12, TX12, 73)) rfl zw_932 zw_933 zw_934 dX12_glowOf_23) (z_c (ok_lstore_n dX12_glowOf_26 rfl) (z_c (ok_lload_n dX12_glowOf_27 rfl) (z_c (ok_lconst (v := (0)) dX12_glowOf_28 (by decide)) (z_c (ok_lcmp dX12_glowOf_29) (z_c (ok_if_ge dX12_glowOf_30 (by decide)) (z_c (ok_iconst (v := (0)) dX12_glowOf_33 (by decide)) (z_c (ok_goto dX12_glowOf_34 (by decide)) (z_c (ok_lload_n dX12_glowOf_37 rfl) z_n))))))))))))
noncomputable def tX12_glowOf_2 : List (Nat × zF) := [(38, (zst 3 (zp (.long (9))))), (41, (zst 1 zcm)), (42, (z_if_le 50)), (45, (zst 2 (zp (.int (9))))), (47, (zgt 52)), (50, (zll4 3 1)), (51, (zst 1 zli)), (52, (zri false))]
theorem kX12_glowOf_2 : ∀ q ∈ tX12_glowOf_2, zOk zg iX12_glowOf q.1 q.2 := (z_c (ok_ldc2 (v := (9)) zw_935 dX12_glowOf_38) (z_c (ok_lcmp dX12_glowOf_41) (z_c (ok_if_le dX12_glowOf_42 (by decide)) (z_c (ok_bipush (v := (9)) dX12_glowOf_45 (by decide)) (z_c (ok_goto dX12_glowOf_47 (by decide)) (z_c (ok_lload_n dX12_glowOf_50 rfl) (z_c (ok_l2i dX12_glowOf_51) (z_c (ok_ireturn rfl dX12_glowOf_52) z_n))))))))
noncomputable def tX12_glowOf : zT := [(18, tX12_glowOf_0), (38, tX12_glowOf_1), (100000, tX12_glowOf_2)]
theorem kX12_glowOf : zTok zg iX12_glowOf tX12_glowOf := (z_t kX12_glowOf_0 (z_t kX12_glowOf_1 (z_t kX12_glowOf_2 z_tn)))
theorem dX12_gap_0 : decode cX12_gap 0 = .ok (.iload_n 0, 1) := by decide +kernel
theorem dX12_gap_1 : decode cX12_gap 1 = .ok (.iload_n 1, 1) := by decide +kernel
theorem dX12_gap_2 : decode cX12_gap 2 = .ok (.if_icmp .le 9, 3) := by decide +kernel
theorem dX12_gap_5 : decode cX12_gap 5 = .ok (.iload_n 0, 1) := by decide +kernel
theorem dX12_gap_6 : decode cX12_gap 6 = .ok (.iload_n 1, 1) := by decide +kernel
theorem dX12_gap_7 : decode cX12_gap 7 = .ok (.isub, 1) := by decide +kernel
theorem dX12_gap_8 : decode cX12_gap 8 = .ok (.goto 6, 3) := by decide +kernel
theorem dX12_gap_11 : decode cX12_gap 11 = .ok (.iload_n 1, 1) := by decide +kernel
theorem dX12_gap_12 : decode cX12_gap 12 = .ok (.iload_n 0, 1) := by decide +kernel
theorem dX12_gap_13 : decode cX12_gap 13 = .ok (.isub, 1) := by decide +kernel
theorem dX12_gap_14 : decode cX12_gap 14 = .ok (.ireturn, 1) := by decide +kernel
noncomputable def tX12_gap_0 : List (Nat × zF) := [(0, (zli4 0 1)), (1, (zli4 1 1)), (2, (z_ic_le 11)), (5, (zli4 0 1)), (6, (zli4 1 1)), (7, (zst 1 z_isub)), (8, (zgt 14)), (11, (zli4 1 1)), (12, (zli4 0 1)), (13, (zst 1 z_isub)), (14, (zri false))]
theorem kX12_gap_0 : ∀ q ∈ tX12_gap_0, zOk zg iX12_gap q.1 q.2 := (z_c (ok_iload_n dX12_gap_0 rfl) (z_c (ok_iload_n dX12_gap_1 rfl) (z_c (ok_icmp_le dX12_gap_2 (by decide)) (z_c (ok_iload_n dX12_gap_5 rfl) (z_c (ok_iload_n dX12_gap_6 rfl) (z_c (ok_isub dX12_gap_7) (z_c (ok_goto dX12_gap_8 (by decide)) (z_c (ok_iload_n dX12_gap_11 rfl) (z_c (ok_iload_n dX12_gap_12 rfl) (z_c (ok_isub dX12_gap_13) (z_c (ok_ireturn rfl dX12_gap_14) z_n)))))))))))
noncomputable def tX12_gap : zT := [(100000, tX12_gap_0)]
theorem kX12_gap : zTok zg iX12_gap tX12_gap := (z_t kX12_gap_0 z_tn)
theorem dX12_lights_0 : decode cX12_lights 0 = .ok (.iconst 0, 1) := by decide +kernel
theorem dX12_lights_1 : decode cX12_lights 1 = .ok (.istore_n 3, 1) := by decide +kernel
theorem dX12_lights_2 : decode cX12_lights 2 = .ok (.iload_n 3, 1) := by decide +kernel
theorem dX12_lights_3 : decode cX12_lights 3 = .ok (.bipush 64, 2) := by decide +kernel
theorem dX12_lights_5 : decode cX12_lights 5 = .ok (.if_icmp .ge 16, 3) := by decide +kernel
theorem dX12_lights_8 : decode cX12_lights 8 = .ok (.aload_n 0, 1) := by decide +kernel
theorem dX12_lights_9 : decode cX12_lights 9 = .ok (.getfield 195, 3) := by decide +kernel
theorem dX12_lights_12 : decode cX12_lights 12 = .ok (.iload_n 3, 1) := by decide +kernel
theorem dX12_lights_13 : decode cX12_lights 13 = .ok (.iconst 0, 1) := by decide +kernel
theorem dX12_lights_14 : decode cX12_lights 14 = .ok (.iastore, 1) := by decide +kernel
theorem dX12_lights_15 : decode cX12_lights 15 = .ok (.iinc 3 1, 3) := by decide +kernel
theorem dX12_lights_18 : decode cX12_lights 18 = .ok (.goto (-16), 3) := by decide +kernel
theorem dX12_lights_21 : decode cX12_lights 21 = .ok (.iconst 0, 1) := by decide +kernel
theorem dX12_lights_22 : decode cX12_lights 22 = .ok (.istore_n 3, 1) := by decide +kernel
theorem dX12_lights_23 : decode cX12_lights 23 = .ok (.iload_n 3, 1) := by decide +kernel
theorem dX12_lights_24 : decode cX12_lights 24 = .ok (.aload_n 0, 1) := by decide +kernel
theorem dX12_lights_25 : decode cX12_lights 25 = .ok (.getfield 69, 3) := by decide +kernel
theorem dX12_lights_28 : decode cX12_lights 28 = .ok (.aload_n 0, 1) := by decide +kernel
theorem dX12_lights_29 : decode cX12_lights 29 = .ok (.getfield 51, 3) := by decide +kernel
theorem dX12_lights_32 : decode cX12_lights 32 = .ok (.iaload, 1) := by decide +kernel
theorem dX12_lights_33 : decode cX12_lights 33 = .ok (.if_icmp .ge 131, 3) := by decide +kernel
theorem dX12_lights_36 : decode cX12_lights 36 = .ok (.aload_n 0, 1) := by decide +kernel
theorem dX12_lights_37 : decode cX12_lights 37 = .ok (.getfield 162, 3) := by decide +kernel
theorem dX12_lights_40 : decode cX12_lights 40 = .ok (.iload_n 1, 1) := by decide +kernel
theorem dX12_lights_41 : decode cX12_lights 41 = .ok (.iaload, 1) := by decide +kernel
theorem dX12_lights_42 : decode cX12_lights 42 = .ok (.iload_n 3, 1) := by decide +kernel
theorem dX12_lights_43 : decode cX12_lights 43 = .ok (.invokestatic 382, 3) := by decide +kernel
theorem dX12_lights_46 : decode cX12_lights 46 = .ok (.ifCond .eq 112, 3) := by decide +kernel
theorem dX12_lights_49 : decode cX12_lights 49 = .ok (.iload_n 3, 1) := by decide +kernel
theorem dX12_lights_50 : decode cX12_lights 50 = .ok (.iload_n 2, 1) := by decide +kernel
theorem dX12_lights_51 : decode cX12_lights 51 = .ok (.if_icmp .ne 6, 3) := by decide +kernel
theorem dX12_lights_54 : decode cX12_lights 54 = .ok (.goto 104, 3) := by decide +kernel
theorem dX12_lights_57 : decode cX12_lights 57 = .ok (.aload_n 0, 1) := by decide +kernel
theorem dX12_lights_58 : decode cX12_lights 58 = .ok (.iload_n 1, 1) := by decide +kernel
theorem dX12_lights_59 : decode cX12_lights 59 = .ok (.iload_n 3, 1) := by decide +kernel
theorem dX12_lights_60 : decode cX12_lights 60 = .ok (.invokevirtual 465, 3) := by decide +kernel
theorem dX12_lights_63 : decode cX12_lights 63 = .ok (.istore 4, 2) := by decide +kernel
theorem dX12_lights_65 : decode cX12_lights 65 = .ok (.aload_n 0, 1) := by decide +kernel
theorem dX12_lights_66 : decode cX12_lights 66 = .ok (.getfield 72, 3) := by decide +kernel
theorem dX12_lights_69 : decode cX12_lights 69 = .ok (.bipush 9, 2) := by decide +kernel
theorem dX12_lights_71 : decode cX12_lights 71 = .ok (.aload_n 0, 1) := by decide +kernel
theorem dX12_lights_72 : decode cX12_lights 72 = .ok (.getfield 51, 3) := by decide +kernel
theorem dX12_lights_75 : decode cX12_lights 75 = .ok (.imul, 1) := by decide +kernel
theorem dX12_lights_76 : decode cX12_lights 76 = .ok (.iload_n 3, 1) := by decide +kernel
theorem dX12_lights_77 : decode cX12_lights 77 = .ok (.iadd, 1) := by decide +kernel
theorem dX12_lights_78 : decode cX12_lights 78 = .ok (.iaload, 1) := by decide +kernel
theorem dX12_lights_79 : decode cX12_lights 79 = .ok (.istore 5, 2) := by decide +kernel
theorem dX12_lights_81 : decode cX12_lights 81 = .ok (.iconst 0, 1) := by decide +kernel
theorem dX12_lights_82 : decode cX12_lights 82 = .ok (.istore 6, 2) := by decide +kernel
theorem dX12_lights_84 : decode cX12_lights 84 = .ok (.iload 6, 2) := by decide +kernel
theorem dX12_lights_86 : decode cX12_lights 86 = .ok (.bipush 64, 2) := by decide +kernel
theorem dX12_lights_88 : decode cX12_lights 88 = .ok (.if_icmp .ge 70, 3) := by decide +kernel
theorem dX12_lights_91 : decode cX12_lights 91 = .ok (.aload_n 0, 1) := by decide +kernel
theorem dX12_lights_92 : decode cX12_lights 92 = .ok (.iload 6, 2) := by decide +kernel
theorem dX12_lights_94 : decode cX12_lights 94 = .ok (.invokevirtual 468, 3) := by decide +kernel
theorem dX12_lights_97 : decode cX12_lights 97 = .ok (.ifCond .eq 55, 3) := by decide +kernel
theorem dX12_lights_100 : decode cX12_lights 100 = .ok (.aload_n 0, 1) := by decide +kernel
theorem dX12_lights_101 : decode cX12_lights 101 = .ok (.iload 6, 2) := by decide +kernel
theorem dX12_lights_103 : decode cX12_lights 103 = .ok (.invokevirtual 447, 3) := by decide +kernel
theorem dX12_lights_106 : decode cX12_lights 106 = .ok (.ifCond .ne 46, 3) := by decide +kernel
theorem dX12_lights_109 : decode cX12_lights 109 = .ok (.iload 6, 2) := by decide +kernel
theorem dX12_lights_111 : decode cX12_lights 111 = .ok (.bipush 8, 2) := by decide +kernel
theorem dX12_lights_113 : decode cX12_lights 113 = .ok (.irem, 1) := by decide +kernel
theorem dX12_lights_114 : decode cX12_lights 114 = .ok (.iload 5, 2) := by decide +kernel
theorem dX12_lights_116 : decode cX12_lights 116 = .ok (.bipush 8, 2) := by decide +kernel
theorem dX12_lights_118 : decode cX12_lights 118 = .ok (.irem, 1) := by decide +kernel
theorem dX12_lights_119 : decode cX12_lights 119 = .ok (.invokestatic 471, 3) := by decide +kernel
theorem dX12_lights_122 : decode cX12_lights 122 = .ok (.iload 6, 2) := by decide +kernel
theorem dX12_lights_124 : decode cX12_lights 124 = .ok (.bipush 8, 2) := by decide +kernel
theorem dX12_lights_126 : decode cX12_lights 126 = .ok (.idiv, 1) := by decide +kernel
theorem dX12_lights_127 : decode cX12_lights 127 = .ok (.iload 5, 2) := by decide +kernel
theorem dX12_lights_129 : decode cX12_lights 129 = .ok (.bipush 8, 2) := by decide +kernel
theorem dX12_lights_131 : decode cX12_lights 131 = .ok (.idiv, 1) := by decide +kernel
theorem dX12_lights_132 : decode cX12_lights 132 = .ok (.invokestatic 471, 3) := by decide +kernel
theorem dX12_lights_135 : decode cX12_lights 135 = .ok (.iadd, 1) := by decide +kernel
theorem dX12_lights_136 : decode cX12_lights 136 = .ok (.iload 4, 2) := by decide +kernel
theorem dX12_lights_138 : decode cX12_lights 138 = .ok (.if_icmp .gt 14, 3) := by decide +kernel
theorem dX12_lights_141 : decode cX12_lights 141 = .ok (.aload_n 0, 1) := by decide +kernel
theorem dX12_lights_142 : decode cX12_lights 142 = .ok (.getfield 195, 3) := by decide +kernel
theorem dX12_lights_145 : decode cX12_lights 145 = .ok (.iload 6, 2) := by decide +kernel
theorem dX12_lights_147 : decode cX12_lights 147 = .ok (.dup2, 1) := by decide +kernel
theorem dX12_lights_148 : decode cX12_lights 148 = .ok (.iaload, 1) := by decide +kernel
theorem dX12_lights_149 : decode cX12_lights 149 = .ok (.iconst 1, 1) := by decide +kernel
theorem dX12_lights_150 : decode cX12_lights 150 = .ok (.iadd, 1) := by decide +kernel
theorem dX12_lights_151 : decode cX12_lights 151 = .ok (.iastore, 1) := by decide +kernel
theorem dX12_lights_152 : decode cX12_lights 152 = .ok (.iinc 6 1, 3) := by decide +kernel
theorem dX12_lights_155 : decode cX12_lights 155 = .ok (.goto (-71), 3) := by decide +kernel
theorem dX12_lights_158 : decode cX12_lights 158 = .ok (.iinc 3 1, 3) := by decide +kernel
theorem dX12_lights_161 : decode cX12_lights 161 = .ok (.goto (-138), 3) := by decide +kernel
theorem dX12_lights_164 : decode cX12_lights 164 = .ok (.return_, 1) := by decide +kernel
noncomputable def tX12_lights_0 : List (Nat × zF) := [(0, (zst 1 (zp (.int (0))))), (1, (zsi4 7 3 1)), (2, (zli4 3 1)), (3, (zst 2 (zp (.int (64))))), (5, (z_ic_ge 21)), (8, (zla4 0 1)), (9, (zgf 12 60)), (12, (zli4 3 1)), (13, (zst 1 (zp (.int (0))))), (14, (zas 0)), (15, (zin4 7 3 (1))), (18, (zgt 2))]
theorem kX12_lights_0 : ∀ q ∈ tX12_lights_0, zOk zg iX12_lights q.1 q.2 := (z_c (ok_iconst (v := (0)) dX12_lights_0 (by decide)) (z_c (ok_istore_n dX12_lights_1 rfl) (z_c (ok_iload_n dX12_lights_2 rfl) (z_c (ok_bipush (v := (64)) dX12_lights_3 (by decide)) (z_c (ok_icmp_ge dX12_lights_5 (by decide)) (z_c (ok_aload_n dX12_lights_8 rfl) (z_c (ok_getf (C := RX12) (T := TX12) (N := 73) rfl (by decide) zinX12 rfl zw_748 dX12_lights_9) (z_c (ok_iload_n dX12_lights_12 rfl) (z_c (ok_iconst (v := (0)) dX12_lights_13 (by decide)) (z_c (ok_iastore rfl dX12_lights_14) (z_c (ok_iinc (v := (1)) dX12_lights_15 (by decide)) (z_c (ok_goto dX12_lights_18 (by decide)) z_n))))))))))))
noncomputable def tX12_lights_1 : List (Nat × zF) := [(21, (zst 1 (zp (.int (0))))), (22, (zsi4 7 3 1)), (23, (zli4 3 1)), (24, (zla4 0 1)), (25, (zgf 12 19)), (28, (zla4 0 1)), (29, (zgf 12 13)), (32, (zal 0)), (33, (z_ic_ge 164)), (36, (zla4 0 1)), (37, (zgf 12 49)), (40, (zli4 1 1))]
theorem kX12_lights_1 : ∀ q ∈ tX12_lights_1, zOk zg iX12_lights q.1 q.2 := (z_c (ok_iconst (v := (0)) dX12_lights_21 (by decide)) (z_c (ok_istore_n dX12_lights_22 rfl) (z_c (ok_iload_n dX12_lights_23 rfl) (z_c (ok_aload_n dX12_lights_24 rfl) (z_c (ok_getf (C := RX12) (T := TX12) (N := 73) rfl (by decide) zinX12 rfl zw_706 dX12_lights_25) (z_c (ok_aload_n dX12_lights_28 rfl) (z_c (ok_getf (C := RX12) (T := TX12) (N := 73) rfl (by decide) zinX12 rfl zw_700 dX12_lights_29) (z_c (ok_iaload rfl dX12_lights_32) (z_c (ok_icmp_ge dX12_lights_33 (by decide)) (z_c (ok_aload_n dX12_lights_36 rfl) (z_c (ok_getf (C := RX12) (T := TX12) (N := 73) rfl (by decide) zinX12 rfl zw_737 dX12_lights_37) (z_c (ok_iload_n dX12_lights_40 rfl) z_n))))))))))))
noncomputable def tX12_lights_2 : List (Nat × zF) := [(41, (zal 0)), (42, (zli4 3 1)), (43, (zcs 193 2)), (46, (z_if_eq 158)), (49, (zli4 3 1)), (50, (zli4 2 1)), (51, (z_ic_ne 57)), (54, (zgt 158)), (57, (zla4 0 1)), (58, (zli4 1 1)), (59, (zli4 3 1)), (60, (zcv 226 2 12))]
theorem kX12_lights_2 : ∀ q ∈ tX12_lights_2, zOk zg iX12_lights q.1 q.2 := (z_c (ok_iaload rfl dX12_lights_41) (z_c (ok_iload_n dX12_lights_42 rfl) (z_c (ok_callS zcal_193 zw_866 zw_867 dX12_lights_43) (z_c (ok_if_eq dX12_lights_46 (by decide)) (z_c (ok_iload_n dX12_lights_49 rfl) (z_c (ok_iload_n dX12_lights_50 rfl) (z_c (ok_icmp_ne dX12_lights_51 (by decide)) (z_c (ok_goto dX12_lights_54 (by decide)) (z_c (ok_aload_n dX12_lights_57 rfl) (z_c (ok_iload_n dX12_lights_58 rfl) (z_c (ok_iload_n dX12_lights_59 rfl) (z_c (ok_callV zcal_226 (q := (RX12, TX12, 73)) rfl zw_936 zw_937 zw_938 dX12_lights_60) z_n))))))))))))
noncomputable def tX12_lights_3 : List (Nat × zF) := [(63, (zsi4 7 4 2)), (65, (zla4 0 1)), (66, (zgf 12 20)), (69, (zst 2 (zp (.int (9))))), (71, (zla4 0 1)), (72, (zgf 12 13)), (75, (zst 1 z_imul)), (76, (zli4 3 1)), (77, (zst 1 z_iadd)), (78, (zal 0)), (79, (zsi4 7 5 2)), (81, (zst 1 (zp (.int (0)))))]
theorem kX12_lights_3 : ∀ q ∈ tX12_lights_3, zOk zg iX12_lights q.1 q.2 := (z_c (ok_istore dX12_lights_63) (z_c (ok_aload_n dX12_lights_65 rfl) (z_c (ok_getf (C := RX12) (T := TX12) (N := 73) rfl (by decide) zinX12 rfl zw_707 dX12_lights_66) (z_c (ok_bipush (v := (9)) dX12_lights_69 (by decide)) (z_c (ok_aload_n dX12_lights_71 rfl) (z_c (ok_getf (C := RX12) (T := TX12) (N := 73) rfl (by decide) zinX12 rfl zw_700 dX12_lights_72) (z_c (ok_imul dX12_lights_75) (z_c (ok_iload_n dX12_lights_76 rfl) (z_c (ok_iadd dX12_lights_77) (z_c (ok_iaload rfl dX12_lights_78) (z_c (ok_istore dX12_lights_79) (z_c (ok_iconst (v := (0)) dX12_lights_81 (by decide)) z_n))))))))))))
noncomputable def tX12_lights_4 : List (Nat × zF) := [(82, (zsi4 7 6 2)), (84, (zli4 6 2)), (86, (zst 2 (zp (.int (64))))), (88, (z_ic_ge 158)), (91, (zla4 0 1)), (92, (zli4 6 2)), (94, (zcv 222 1 12)), (97, (z_if_eq 152)), (100, (zla4 0 1)), (101, (zli4 6 2)), (103, (zcv 223 1 12)), (106, (z_if_ne 152))]
theorem kX12_lights_4 : ∀ q ∈ tX12_lights_4, zOk zg iX12_lights q.1 q.2 := (z_c (ok_istore dX12_lights_82) (z_c (ok_iload dX12_lights_84) (z_c (ok_bipush (v := (64)) dX12_lights_86 (by decide)) (z_c (ok_icmp_ge dX12_lights_88 (by decide)) (z_c (ok_aload_n dX12_lights_91 rfl) (z_c (ok_iload dX12_lights_92) (z_c (ok_callV zcal_222 (q := (RX12, TX12, 73)) rfl zw_939 zw_940 zw_941 dX12_lights_94) (z_c (ok_if_eq dX12_lights_97 (by decide)) (z_c (ok_aload_n dX12_lights_100 rfl) (z_c (ok_iload dX12_lights_101) (z_c (ok_callV zcal_223 (q := (RX12, TX12, 73)) rfl zw_921 zw_922 zw_923 dX12_lights_103) (z_c (ok_if_ne dX12_lights_106 (by decide)) z_n))))))))))))
noncomputable def tX12_lights_5 : List (Nat × zF) := [(109, (zli4 6 2)), (111, (zst 2 (zp (.int (8))))), (113, (zst 1 z_irem)), (114, (zli4 5 2)), (116, (zst 2 (zp (.int (8))))), (118, (zst 1 z_irem)), (119, (zcs 227 2)), (122, (zli4 6 2)), (124, (zst 2 (zp (.int (8))))), (126, (zst 1 z_idiv)), (127, (zli4 5 2)), (129, (zst 2 (zp (.int (8)))))]
theorem kX12_lights_5 : ∀ q ∈ tX12_lights_5, zOk zg iX12_lights q.1 q.2 := (z_c (ok_iload dX12_lights_109) (z_c (ok_bipush (v := (8)) dX12_lights_111 (by decide)) (z_c (ok_irem dX12_lights_113) (z_c (ok_iload dX12_lights_114) (z_c (ok_bipush (v := (8)) dX12_lights_116 (by decide)) (z_c (ok_irem dX12_lights_118) (z_c (ok_callS zcal_227 zw_942 zw_943 dX12_lights_119) (z_c (ok_iload dX12_lights_122) (z_c (ok_bipush (v := (8)) dX12_lights_124 (by decide)) (z_c (ok_idiv dX12_lights_126) (z_c (ok_iload dX12_lights_127) (z_c (ok_bipush (v := (8)) dX12_lights_129 (by decide)) z_n))))))))))))
noncomputable def tX12_lights_6 : List (Nat × zF) := [(131, (zst 1 z_idiv)), (132, (zcs 227 2)), (135, (zst 1 z_iadd)), (136, (zli4 4 2)), (138, (z_ic_gt 152)), (141, (zla4 0 1)), (142, (zgf 12 60)), (145, (zli4 6 2)), (147, (zst 1 zd2)), (148, (zal 0)), (149, (zst 1 (zp (.int (1))))), (150, (zst 1 z_iadd))]
theorem kX12_lights_6 : ∀ q ∈ tX12_lights_6, zOk zg iX12_lights q.1 q.2 := (z_c (ok_idiv dX12_lights_131) (z_c (ok_callS zcal_227 zw_942 zw_943 dX12_lights_132) (z_c (ok_iadd dX12_lights_135) (z_c (ok_iload dX12_lights_136) (z_c (ok_icmp_gt dX12_lights_138 (by decide)) (z_c (ok_aload_n dX12_lights_141 rfl) (z_c (ok_getf (C := RX12) (T := TX12) (N := 73) rfl (by decide) zinX12 rfl zw_748 dX12_lights_142) (z_c (ok_iload dX12_lights_145) (z_c (ok_dup2 dX12_lights_147) (z_c (ok_iaload rfl dX12_lights_148) (z_c (ok_iconst (v := (1)) dX12_lights_149 (by decide)) (z_c (ok_iadd dX12_lights_150) z_n))))))))))))
noncomputable def tX12_lights_7 : List (Nat × zF) := [(151, (zas 0)), (152, (zin4 7 6 (1))), (155, (zgt 84)), (158, (zin4 7 3 (1))), (161, (zgt 23)), (164, zrv)]
theorem kX12_lights_7 : ∀ q ∈ tX12_lights_7, zOk zg iX12_lights q.1 q.2 := (z_c (ok_iastore rfl dX12_lights_151) (z_c (ok_iinc (v := (1)) dX12_lights_152 (by decide)) (z_c (ok_goto dX12_lights_155 (by decide)) (z_c (ok_iinc (v := (1)) dX12_lights_158 (by decide)) (z_c (ok_goto dX12_lights_161 (by decide)) (z_c (ok_return rfl dX12_lights_164) z_n))))))
noncomputable def tX12_lights : zT := [(21, tX12_lights_0), (41, tX12_lights_1), (63, tX12_lights_2), (82, tX12_lights_3), (109, tX12_lights_4), (131, tX12_lights_5), (151, tX12_lights_6), (100000, tX12_lights_7)]
theorem kX12_lights : zTok zg iX12_lights tX12_lights := (z_t kX12_lights_0 (z_t kX12_lights_1 (z_t kX12_lights_2 (z_t kX12_lights_3 (z_t kX12_lights_4 (z_t kX12_lights_5 (z_t kX12_lights_6 (z_t kX12_lights_7 z_tn))))))))
theorem dX12_leads_0 : decode cX12_leads 0 = .ok (.iconst 0, 1) := by decide +kernel
theorem dX12_leads_1 : decode cX12_leads 1 = .ok (.istore_n 3, 1) := by decide +kernel
theorem dX12_leads_2 : decode cX12_leads 2 = .ok (.iload_n 3, 1) := by decide +kernel
theorem dX12_leads_3 : decode cX12_leads 3 = .ok (.bipush 64, 2) := by decide +kernel
theorem dX12_leads_5 : decode cX12_leads 5 = .ok (.if_icmp .ge 27, 3) := by decide +kernel
theorem dX12_leads_8 : decode cX12_leads 8 = .ok (.aload_n 0, 1) := by decide +kernel
theorem dX12_leads_9 : decode cX12_leads 9 = .ok (.getfield 198, 3) := by decide +kernel
theorem dX12_leads_12 : decode cX12_leads 12 = .ok (.iload_n 3, 1) := by decide +kernel
theorem dX12_leads_13 : decode cX12_leads 13 = .ok (.iload_n 3, 1) := by decide +kernel
theorem dX12_leads_14 : decode cX12_leads 14 = .ok (.iload_n 1, 1) := by decide +kernel
theorem dX12_leads_15 : decode cX12_leads 15 = .ok (.if_icmp .ne 7, 3) := by decide +kernel
theorem dX12_leads_18 : decode cX12_leads 18 = .ok (.iconst 0, 1) := by decide +kernel
theorem dX12_leads_19 : decode cX12_leads 19 = .ok (.goto 6, 3) := by decide +kernel
theorem dX12_leads_22 : decode cX12_leads 22 = .ok (.ldc_w 474, 3) := by decide +kernel
theorem dX12_leads_25 : decode cX12_leads 25 = .ok (.iastore, 1) := by decide +kernel
theorem dX12_leads_26 : decode cX12_leads 26 = .ok (.iinc 3 1, 3) := by decide +kernel
theorem dX12_leads_29 : decode cX12_leads 29 = .ok (.goto (-27), 3) := by decide +kernel
theorem dX12_leads_32 : decode cX12_leads 32 = .ok (.aload_n 0, 1) := by decide +kernel
theorem dX12_leads_33 : decode cX12_leads 33 = .ok (.getfield 201, 3) := by decide +kernel
theorem dX12_leads_36 : decode cX12_leads 36 = .ok (.iconst 0, 1) := by decide +kernel
theorem dX12_leads_37 : decode cX12_leads 37 = .ok (.iload_n 1, 1) := by decide +kernel
theorem dX12_leads_38 : decode cX12_leads 38 = .ok (.iastore, 1) := by decide +kernel
theorem dX12_leads_39 : decode cX12_leads 39 = .ok (.iconst 1, 1) := by decide +kernel
theorem dX12_leads_40 : decode cX12_leads 40 = .ok (.istore_n 3, 1) := by decide +kernel
theorem dX12_leads_41 : decode cX12_leads 41 = .ok (.iconst 0, 1) := by decide +kernel
theorem dX12_leads_42 : decode cX12_leads 42 = .ok (.istore 4, 2) := by decide +kernel
theorem dX12_leads_44 : decode cX12_leads 44 = .ok (.iload 4, 2) := by decide +kernel
theorem dX12_leads_46 : decode cX12_leads 46 = .ok (.iload_n 3, 1) := by decide +kernel
theorem dX12_leads_47 : decode cX12_leads 47 = .ok (.if_icmp .ge 109, 3) := by decide +kernel
theorem dX12_leads_50 : decode cX12_leads 50 = .ok (.aload_n 0, 1) := by decide +kernel
theorem dX12_leads_51 : decode cX12_leads 51 = .ok (.getfield 201, 3) := by decide +kernel
theorem dX12_leads_54 : decode cX12_leads 54 = .ok (.iload 4, 2) := by decide +kernel
theorem dX12_leads_56 : decode cX12_leads 56 = .ok (.iaload, 1) := by decide +kernel
theorem dX12_leads_57 : decode cX12_leads 57 = .ok (.istore 5, 2) := by decide +kernel
theorem dX12_leads_59 : decode cX12_leads 59 = .ok (.iload_n 2, 1) := by decide +kernel
theorem dX12_leads_60 : decode cX12_leads 60 = .ok (.ifCond .eq 16, 3) := by decide +kernel
theorem dX12_leads_63 : decode cX12_leads 63 = .ok (.aload_n 0, 1) := by decide +kernel
theorem dX12_leads_64 : decode cX12_leads 64 = .ok (.getfield 195, 3) := by decide +kernel
theorem dX12_leads_67 : decode cX12_leads 67 = .ok (.iload 5, 2) := by decide +kernel
theorem dX12_leads_69 : decode cX12_leads 69 = .ok (.iaload, 1) := by decide +kernel
theorem dX12_leads_70 : decode cX12_leads 70 = .ok (.ifCond .ne 6, 3) := by decide +kernel
theorem dX12_leads_73 : decode cX12_leads 73 = .ok (.goto 77, 3) := by decide +kernel
theorem dX12_leads_76 : decode cX12_leads 76 = .ok (.iconst 0, 1) := by decide +kernel
theorem dX12_leads_77 : decode cX12_leads 77 = .ok (.istore 6, 2) := by decide +kernel
theorem dX12_leads_79 : decode cX12_leads 79 = .ok (.iload 6, 2) := by decide +kernel
theorem dX12_leads_81 : decode cX12_leads 81 = .ok (.iconst 4, 1) := by decide +kernel
theorem dX12_leads_82 : decode cX12_leads 82 = .ok (.if_icmp .ge 68, 3) := by decide +kernel
theorem dX12_leads_85 : decode cX12_leads 85 = .ok (.aload_n 0, 1) := by decide +kernel
theorem dX12_leads_86 : decode cX12_leads 86 = .ok (.iload 5, 2) := by decide +kernel
theorem dX12_leads_88 : decode cX12_leads 88 = .ok (.iload 6, 2) := by decide +kernel
theorem dX12_leads_90 : decode cX12_leads 90 = .ok (.invokevirtual 475, 3) := by decide +kernel
theorem dX12_leads_93 : decode cX12_leads 93 = .ok (.istore 7, 2) := by decide +kernel
theorem dX12_leads_95 : decode cX12_leads 95 = .ok (.iload 7, 2) := by decide +kernel
theorem dX12_leads_97 : decode cX12_leads 97 = .ok (.iconst (-1), 1) := by decide +kernel
theorem dX12_leads_98 : decode cX12_leads 98 = .ok (.if_icmp .eq 46, 3) := by decide +kernel
theorem dX12_leads_101 : decode cX12_leads 101 = .ok (.aload_n 0, 1) := by decide +kernel
theorem dX12_leads_102 : decode cX12_leads 102 = .ok (.getfield 198, 3) := by decide +kernel
theorem dX12_leads_105 : decode cX12_leads 105 = .ok (.iload 7, 2) := by decide +kernel
theorem dX12_leads_107 : decode cX12_leads 107 = .ok (.iaload, 1) := by decide +kernel
theorem dX12_leads_108 : decode cX12_leads 108 = .ok (.ldc_w 474, 3) := by decide +kernel
theorem dX12_leads_111 : decode cX12_leads 111 = .ok (.if_icmp .ge 6, 3) := by decide +kernel
theorem dX12_leads_114 : decode cX12_leads 114 = .ok (.goto 30, 3) := by decide +kernel
theorem dX12_leads_117 : decode cX12_leads 117 = .ok (.aload_n 0, 1) := by decide +kernel
theorem dX12_leads_118 : decode cX12_leads 118 = .ok (.getfield 198, 3) := by decide +kernel
theorem dX12_leads_121 : decode cX12_leads 121 = .ok (.iload 7, 2) := by decide +kernel
theorem dX12_leads_123 : decode cX12_leads 123 = .ok (.aload_n 0, 1) := by decide +kernel
theorem dX12_leads_124 : decode cX12_leads 124 = .ok (.getfield 198, 3) := by decide +kernel
theorem dX12_leads_127 : decode cX12_leads 127 = .ok (.iload 5, 2) := by decide +kernel
theorem dX12_leads_129 : decode cX12_leads 129 = .ok (.iaload, 1) := by decide +kernel
theorem dX12_leads_130 : decode cX12_leads 130 = .ok (.iconst 1, 1) := by decide +kernel
theorem dX12_leads_131 : decode cX12_leads 131 = .ok (.iadd, 1) := by decide +kernel
theorem dX12_leads_132 : decode cX12_leads 132 = .ok (.iastore, 1) := by decide +kernel
theorem dX12_leads_133 : decode cX12_leads 133 = .ok (.aload_n 0, 1) := by decide +kernel
theorem dX12_leads_134 : decode cX12_leads 134 = .ok (.getfield 201, 3) := by decide +kernel
theorem dX12_leads_137 : decode cX12_leads 137 = .ok (.iload_n 3, 1) := by decide +kernel
theorem dX12_leads_138 : decode cX12_leads 138 = .ok (.iload 7, 2) := by decide +kernel
theorem dX12_leads_140 : decode cX12_leads 140 = .ok (.iastore, 1) := by decide +kernel
theorem dX12_leads_141 : decode cX12_leads 141 = .ok (.iinc 3 1, 3) := by decide +kernel
theorem dX12_leads_144 : decode cX12_leads 144 = .ok (.iinc 6 1, 3) := by decide +kernel
theorem dX12_leads_147 : decode cX12_leads 147 = .ok (.goto (-68), 3) := by decide +kernel
theorem dX12_leads_150 : decode cX12_leads 150 = .ok (.iinc 4 1, 3) := by decide +kernel
theorem dX12_leads_153 : decode cX12_leads 153 = .ok (.goto (-109), 3) := by decide +kernel
theorem dX12_leads_156 : decode cX12_leads 156 = .ok (.return_, 1) := by decide +kernel
noncomputable def tX12_leads_0 : List (Nat × zF) := [(0, (zst 1 (zp (.int (0))))), (1, (zsi4 8 3 1)), (2, (zli4 3 1)), (3, (zst 2 (zp (.int (64))))), (5, (z_ic_ge 32)), (8, (zla4 0 1)), (9, (zgf 12 61)), (12, (zli4 3 1)), (13, (zli4 3 1)), (14, (zli4 1 1)), (15, (z_ic_ne 22)), (18, (zst 1 (zp (.int (0)))))]
theorem kX12_leads_0 : ∀ q ∈ tX12_leads_0, zOk zg iX12_leads q.1 q.2 := (z_c (ok_iconst (v := (0)) dX12_leads_0 (by decide)) (z_c (ok_istore_n dX12_leads_1 rfl) (z_c (ok_iload_n dX12_leads_2 rfl) (z_c (ok_bipush (v := (64)) dX12_leads_3 (by decide)) (z_c (ok_icmp_ge dX12_leads_5 (by decide)) (z_c (ok_aload_n dX12_leads_8 rfl) (z_c (ok_getf (C := RX12) (T := TX12) (N := 73) rfl (by decide) zinX12 rfl zw_749 dX12_leads_9) (z_c (ok_iload_n dX12_leads_12 rfl) (z_c (ok_iload_n dX12_leads_13 rfl) (z_c (ok_iload_n dX12_leads_14 rfl) (z_c (ok_icmp_ne dX12_leads_15 (by decide)) (z_c (ok_iconst (v := (0)) dX12_leads_18 (by decide)) z_n))))))))))))
noncomputable def tX12_leads_1 : List (Nat × zF) := [(19, (zgt 25)), (22, (zst 3 (zp (.int (100000000))))), (25, (zas 0)), (26, (zin4 8 3 (1))), (29, (zgt 2)), (32, (zla4 0 1)), (33, (zgf 12 62)), (36, (zst 1 (zp (.int (0))))), (37, (zli4 1 1)), (38, (zas 0)), (39, (zst 1 (zp (.int (1))))), (40, (zsi4 8 3 1))]
theorem kX12_leads_1 : ∀ q ∈ tX12_leads_1, zOk zg iX12_leads q.1 q.2 := (z_c (ok_goto dX12_leads_19 (by decide)) (z_c (ok_ldcw (v := (100000000)) zw_944 dX12_leads_22) (z_c (ok_iastore rfl dX12_leads_25) (z_c (ok_iinc (v := (1)) dX12_leads_26 (by decide)) (z_c (ok_goto dX12_leads_29 (by decide)) (z_c (ok_aload_n dX12_leads_32 rfl) (z_c (ok_getf (C := RX12) (T := TX12) (N := 73) rfl (by decide) zinX12 rfl zw_750 dX12_leads_33) (z_c (ok_iconst (v := (0)) dX12_leads_36 (by decide)) (z_c (ok_iload_n dX12_leads_37 rfl) (z_c (ok_iastore rfl dX12_leads_38) (z_c (ok_iconst (v := (1)) dX12_leads_39 (by decide)) (z_c (ok_istore_n dX12_leads_40 rfl) z_n))))))))))))
noncomputable def tX12_leads_2 : List (Nat × zF) := [(41, (zst 1 (zp (.int (0))))), (42, (zsi4 8 4 2)), (44, (zli4 4 2)), (46, (zli4 3 1)), (47, (z_ic_ge 156)), (50, (zla4 0 1)), (51, (zgf 12 62)), (54, (zli4 4 2)), (56, (zal 0)), (57, (zsi4 8 5 2)), (59, (zli4 2 1)), (60, (z_if_eq 76))]
theorem kX12_leads_2 : ∀ q ∈ tX12_leads_2, zOk zg iX12_leads q.1 q.2 := (z_c (ok_iconst (v := (0)) dX12_leads_41 (by decide)) (z_c (ok_istore dX12_leads_42) (z_c (ok_iload dX12_leads_44) (z_c (ok_iload_n dX12_leads_46 rfl) (z_c (ok_icmp_ge dX12_leads_47 (by decide)) (z_c (ok_aload_n dX12_leads_50 rfl) (z_c (ok_getf (C := RX12) (T := TX12) (N := 73) rfl (by decide) zinX12 rfl zw_750 dX12_leads_51) (z_c (ok_iload dX12_leads_54) (z_c (ok_iaload rfl dX12_leads_56) (z_c (ok_istore dX12_leads_57) (z_c (ok_iload_n dX12_leads_59 rfl) (z_c (ok_if_eq dX12_leads_60 (by decide)) z_n))))))))))))
noncomputable def tX12_leads_3 : List (Nat × zF) := [(63, (zla4 0 1)), (64, (zgf 12 60)), (67, (zli4 5 2)), (69, (zal 0)), (70, (z_if_ne 76)), (73, (zgt 150)), (76, (zst 1 (zp (.int (0))))), (77, (zsi4 8 6 2)), (79, (zli4 6 2)), (81, (zst 1 (zp (.int (4))))), (82, (z_ic_ge 150)), (85, (zla4 0 1))]
theorem kX12_leads_3 : ∀ q ∈ tX12_leads_3, zOk zg iX12_leads q.1 q.2 := (z_c (ok_aload_n dX12_leads_63 rfl) (z_c (ok_getf (C := RX12) (T := TX12) (N := 73) rfl (by decide) zinX12 rfl zw_748 dX12_leads_64) (z_c (ok_iload dX12_leads_67) (z_c (ok_iaload rfl dX12_leads_69) (z_c (ok_if_ne dX12_leads_70 (by decide)) (z_c (ok_goto dX12_leads_73 (by decide)) (z_c (ok_iconst (v := (0)) dX12_leads_76 (by decide)) (z_c (ok_istore dX12_leads_77) (z_c (ok_iload dX12_leads_79) (z_c (ok_iconst (v := (4)) dX12_leads_81 (by decide)) (z_c (ok_icmp_ge dX12_leads_82 (by decide)) (z_c (ok_aload_n dX12_leads_85 rfl) z_n))))))))))))
noncomputable def tX12_leads_4 : List (Nat × zF) := [(86, (zli4 5 2)), (88, (zli4 6 2)), (90, (zcv 224 2 12)), (93, (zsi4 8 7 2)), (95, (zli4 7 2)), (97, (zst 1 (zp (.int ((-1)))))), (98, (z_ic_eq 144)), (101, (zla4 0 1)), (102, (zgf 12 61)), (105, (zli4 7 2)), (107, (zal 0)), (108, (zst 3 (zp (.int (100000000)))))]
theorem kX12_leads_4 : ∀ q ∈ tX12_leads_4, zOk zg iX12_leads q.1 q.2 := (z_c (ok_iload dX12_leads_86) (z_c (ok_iload dX12_leads_88) (z_c (ok_callV zcal_224 (q := (RX12, TX12, 73)) rfl zw_945 zw_946 zw_947 dX12_leads_90) (z_c (ok_istore dX12_leads_93) (z_c (ok_iload dX12_leads_95) (z_c (ok_iconst (v := (-1)) dX12_leads_97 (by decide)) (z_c (ok_icmp_eq dX12_leads_98 (by decide)) (z_c (ok_aload_n dX12_leads_101 rfl) (z_c (ok_getf (C := RX12) (T := TX12) (N := 73) rfl (by decide) zinX12 rfl zw_749 dX12_leads_102) (z_c (ok_iload dX12_leads_105) (z_c (ok_iaload rfl dX12_leads_107) (z_c (ok_ldcw (v := (100000000)) zw_944 dX12_leads_108) z_n))))))))))))
noncomputable def tX12_leads_5 : List (Nat × zF) := [(111, (z_ic_ge 117)), (114, (zgt 144)), (117, (zla4 0 1)), (118, (zgf 12 61)), (121, (zli4 7 2)), (123, (zla4 0 1)), (124, (zgf 12 61)), (127, (zli4 5 2)), (129, (zal 0)), (130, (zst 1 (zp (.int (1))))), (131, (zst 1 z_iadd)), (132, (zas 0))]
theorem kX12_leads_5 : ∀ q ∈ tX12_leads_5, zOk zg iX12_leads q.1 q.2 := (z_c (ok_icmp_ge dX12_leads_111 (by decide)) (z_c (ok_goto dX12_leads_114 (by decide)) (z_c (ok_aload_n dX12_leads_117 rfl) (z_c (ok_getf (C := RX12) (T := TX12) (N := 73) rfl (by decide) zinX12 rfl zw_749 dX12_leads_118) (z_c (ok_iload dX12_leads_121) (z_c (ok_aload_n dX12_leads_123 rfl) (z_c (ok_getf (C := RX12) (T := TX12) (N := 73) rfl (by decide) zinX12 rfl zw_749 dX12_leads_124) (z_c (ok_iload dX12_leads_127) (z_c (ok_iaload rfl dX12_leads_129) (z_c (ok_iconst (v := (1)) dX12_leads_130 (by decide)) (z_c (ok_iadd dX12_leads_131) (z_c (ok_iastore rfl dX12_leads_132) z_n))))))))))))
noncomputable def tX12_leads_6 : List (Nat × zF) := [(133, (zla4 0 1)), (134, (zgf 12 62)), (137, (zli4 3 1)), (138, (zli4 7 2)), (140, (zas 0)), (141, (zin4 8 3 (1))), (144, (zin4 8 6 (1))), (147, (zgt 79)), (150, (zin4 8 4 (1))), (153, (zgt 44)), (156, zrv)]
theorem kX12_leads_6 : ∀ q ∈ tX12_leads_6, zOk zg iX12_leads q.1 q.2 := (z_c (ok_aload_n dX12_leads_133 rfl) (z_c (ok_getf (C := RX12) (T := TX12) (N := 73) rfl (by decide) zinX12 rfl zw_750 dX12_leads_134) (z_c (ok_iload_n dX12_leads_137 rfl) (z_c (ok_iload dX12_leads_138) (z_c (ok_iastore rfl dX12_leads_140) (z_c (ok_iinc (v := (1)) dX12_leads_141 (by decide)) (z_c (ok_iinc (v := (1)) dX12_leads_144 (by decide)) (z_c (ok_goto dX12_leads_147 (by decide)) (z_c (ok_iinc (v := (1)) dX12_leads_150 (by decide)) (z_c (ok_goto dX12_leads_153 (by decide)) (z_c (ok_return rfl dX12_leads_156) z_n)))))))))))
noncomputable def tX12_leads : zT := [(19, tX12_leads_0), (41, tX12_leads_1), (63, tX12_leads_2), (86, tX12_leads_3), (111, tX12_leads_4), (133, tX12_leads_5), (100000, tX12_leads_6)]
theorem kX12_leads : zTok zg iX12_leads tX12_leads := (z_t kX12_leads_0 (z_t kX12_leads_1 (z_t kX12_leads_2 (z_t kX12_leads_3 (z_t kX12_leads_4 (z_t kX12_leads_5 (z_t kX12_leads_6 z_tn)))))))
